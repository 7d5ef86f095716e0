/-! the class: Reader (X7) at x + 38; the text at tx -/
def yB (b : Nat) : Int32 := (nI b).toInt8.toInt32
theorem yB_all : ∀ k : Fin 256, yB k.val &&& 255 = nI k.val ∧ (yB k.val < 65 ↔ k.val < 65 ∨ 128 ≤ k.val) ∧ (90 < yB k.val ↔ 90 < k.val ∧ k.val < 128) ∧ (65 ≤ k.val → k.val ≤ 90 → (yB k.val + 32).toInt8.toInt32 = yB (k.val + 32)) ∧ vp_nar .byte (yB k.val) = yB k.val := by decide +kernel
theorem yB_and {b : Nat} (h : b < 256) : yB b &&& 255 = nI b := (yB_all ⟨b, h⟩).1
theorem yB_e {b c : Nat} (h : b < 256) (hc : c < 128) : yB b = nI c ↔ b = c := by
  have h9 : ∀ c : Fin 128, yB c.val = nI c.val ∧ nI c.val &&& 255 = nI c.val := by decide +kernel
  constructor
  · intro e
    have a := yB_and h
    rw [e, (h9 ⟨c, hc⟩).2] at a
    exact ((nI_eq (by omega) (by omega)).mp a).symm
  · rintro rfl
    exact (h9 ⟨b, hc⟩).1
abbrev rdC (x tx : Nat) (p g bh : Int32) (fi op : Bool) : xE := .inr (6, [.ref (x + 10), .ref x, .ref tx, .int p, .int g, .int bh, .int (bI fi), .int (bI op)])
abbrev rdO (h : xH) (x tx p g : Nat) (bh : Int) (fi op : Bool) : Prop := h (x + 38) = some (rdC x tx (nI p) (nI g) (iZ bh) fi op)
section RD
variable {h : xH} {x tx p g : Nat} {bh : Int} {fi op : Bool} {k : xK} {lv : List (Nat × Value)} {T : Nat × Nat × Nat} {r : List Value}
theorem rdO.g0 (w : rdO h x tx p g bh fi op) : x_get 6 0 k lv (.ref (x + 38) :: r) (h, T) = k lv (.ref (x + 10) :: r) (h, T) := q_get w rfl
theorem rdO.g1 (w : rdO h x tx p g bh fi op) : x_get 6 1 k lv (.ref (x + 38) :: r) (h, T) = k lv (.ref x :: r) (h, T) := q_get w rfl
theorem rdO.g2 (w : rdO h x tx p g bh fi op) : x_get 6 2 k lv (.ref (x + 38) :: r) (h, T) = k lv (.ref tx :: r) (h, T) := q_get w rfl
theorem rdO.g3 (w : rdO h x tx p g bh fi op) : x_get 6 3 k lv (.ref (x + 38) :: r) (h, T) = k lv (.int (nI p) :: r) (h, T) := q_get w rfl
theorem rdO.g4 (w : rdO h x tx p g bh fi op) : x_get 6 4 k lv (.ref (x + 38) :: r) (h, T) = k lv (.int (nI g) :: r) (h, T) := q_get w rfl
theorem rdO.g5 (w : rdO h x tx p g bh fi op) : x_get 6 5 k lv (.ref (x + 38) :: r) (h, T) = k lv (.int (iZ bh) :: r) (h, T) := q_get w rfl
theorem rdO.g6 (w : rdO h x tx p g bh fi op) : x_get 6 6 k lv (.ref (x + 38) :: r) (h, T) = k lv (.int (bI fi) :: r) (h, T) := q_get w rfl
theorem rdO.g7 (w : rdO h x tx p g bh fi op) : x_get 6 7 k lv (.ref (x + 38) :: r) (h, T) = k lv (.int (bI op) :: r) (h, T) := q_get w rfl
theorem rdO.p3 {v : Int32} (w : rdO h x tx p g bh fi op) : x_put 6 3 .int k lv (.int v :: .ref (x + 38) :: r) (h, T) = k lv r (xup h (x + 38) (rdC x tx v (nI g) (iZ bh) fi op), T) := by
  (simp only [x_put, show h (x + 38) = some (rdC x tx (nI p) (nI g) (iZ bh) fi op) from w, rdC, nr_i, ft_i, List.length_cons, List.length_nil, Nat.reduceAdd, Nat.reduceLT, true_and, and_true, List.set_cons_succ, List.set_cons_zero]) <;> rfl
theorem rdO.p4 {v : Int32} (w : rdO h x tx p g bh fi op) : x_put 6 4 .int k lv (.int v :: .ref (x + 38) :: r) (h, T) = k lv r (xup h (x + 38) (rdC x tx (nI p) v (iZ bh) fi op), T) := by
  (simp only [x_put, show h (x + 38) = some (rdC x tx (nI p) (nI g) (iZ bh) fi op) from w, rdC, nr_i, ft_i, List.length_cons, List.length_nil, Nat.reduceAdd, Nat.reduceLT, true_and, and_true, List.set_cons_succ, List.set_cons_zero]) <;> rfl
theorem rdO.p5 {v : Int32} (w : rdO h x tx p g bh fi op) : x_put 6 5 .int k lv (.int v :: .ref (x + 38) :: r) (h, T) = k lv r (xup h (x + 38) (rdC x tx (nI p) (nI g) v fi op), T) := by
  (simp only [x_put, show h (x + 38) = some (rdC x tx (nI p) (nI g) (iZ bh) fi op) from w, rdC, nr_i, ft_i, List.length_cons, List.length_nil, Nat.reduceAdd, Nat.reduceLT, true_and, and_true, List.set_cons_succ, List.set_cons_zero]) <;> rfl
theorem rdO.p6 {v : Bool} (w : rdO h x tx p g bh fi op) : x_put 6 6 .boolean k lv (.int (bI v) :: .ref (x + 38) :: r) (h, T) = k lv r (xup h (x + 38) (rdC x tx (nI p) (nI g) (iZ bh) v op), T) := by
  (simp only [x_put, show h (x + 38) = some (rdC x tx (nI p) (nI g) (iZ bh) fi op) from w, rdC, nr_z, ft_z, List.length_cons, List.length_nil, Nat.reduceAdd, Nat.reduceLT, true_and, and_true, List.set_cons_succ, List.set_cons_zero]) <;> rfl
theorem rdO.p7 {v : Bool} (w : rdO h x tx p g bh fi op) : x_put 6 7 .boolean k lv (.int (bI v) :: .ref (x + 38) :: r) (h, T) = k lv r (xup h (x + 38) (rdC x tx (nI p) (nI g) (iZ bh) fi v), T) := by
  (simp only [x_put, show h (x + 38) = some (rdC x tx (nI p) (nI g) (iZ bh) fi op) from w, rdC, nr_z, ft_z, List.length_cons, List.length_nil, Nat.reduceAdd, Nat.reduceLT, true_and, and_true, List.set_cons_succ, List.set_cons_zero]) <;> rfl
end RD
def rdT (h : xH) (tx n : Nat) (t : Nat → Nat) : Prop := h tx = some (.inl (1, n, .inl (fun i => yB (t i)))) ∧ n ≤ 400 ∧ ∀ i, t i < 256
/-- the reader reads the text t of n bytes, and stands at p -/
def rdW (h : xH) (x tx p g : Nat) (bh : Int) (fi op : Bool) (n : Nat) (t : Nat → Nat) : Prop := rdO h x tx p g bh fi op ∧ rdT h tx n t ∧ p ≤ n ∧ x + 41 ≤ tx
abbrev fR (h' h : xH) (x : Nat) : Prop := xoff h' h (x + 38) (x + 39)
abbrev rcd (h : xH) (x : Nat) : Prop := ∃ b fs, some (Value.ref (x + 38)) = some (.ref b) ∧ h b = some (.inr (6, fs))
section RW
variable {h h' : xH} {x tx p g p' g' n : Nat} {bh bh' : Int} {fi op fi' op' : Bool} {t : Nat → Nat}
theorem rdW.rc (w : rdW h x tx p g bh fi op n t) : rcd h x := ⟨_, _, rfl, w.1⟩
theorem rdW.off {lo hi : Nat} (w : rdW h x tx p g bh fi op n t) (f : xoff h' h lo hi) (d : hi ≤ x + 38 ∨ x + 39 ≤ lo ∧ hi ≤ x + 41) : rdW h' x tx p g bh fi op n t := by
  obtain ⟨a, b, c, e⟩ := w
  exact ⟨(f _ (by omega)).trans a, ⟨(f _ (by omega)).trans b.1, b.2⟩, c, e⟩
theorem rdW.up (w : rdW h x tx p g bh fi op n t) (hp : p' ≤ n) : rdW (xup h (x + 38) (rdC x tx (nI p') (nI g') (iZ bh') fi' op')) x tx p' g' bh' fi' op' n t := by
  obtain ⟨a, b, c, e⟩ := w
  exact ⟨xup_s, ⟨(xup_n (by omega)).trans b.1, b.2⟩, hp, e⟩
end RW
theorem dX7_peek_0 : decode cX7_peek 0 = .ok (.aload_n 0, 1) := by decide +kernel
theorem dX7_peek_1 : decode cX7_peek 1 = .ok (.getfield 19, 3) := by decide +kernel
theorem dX7_peek_4 : decode cX7_peek 4 = .ok (.ifnull 15, 3) := by decide +kernel
theorem dX7_peek_7 : decode cX7_peek 7 = .ok (.aload_n 0, 1) := by decide +kernel
theorem dX7_peek_8 : decode cX7_peek 8 = .ok (.getfield 23, 3) := by decide +kernel
theorem dX7_peek_11 : decode cX7_peek 11 = .ok (.aload_n 0, 1) := by decide +kernel
theorem dX7_peek_12 : decode cX7_peek 12 = .ok (.getfield 19, 3) := by decide +kernel
theorem dX7_peek_15 : decode cX7_peek 15 = .ok (.arraylength, 1) := by decide +kernel
theorem dX7_peek_16 : decode cX7_peek 16 = .ok (.if_icmp .lt 7, 3) := by decide +kernel
theorem dX7_peek_19 : decode cX7_peek 19 = .ok (.iconst (-1), 1) := by decide +kernel
theorem dX7_peek_20 : decode cX7_peek 20 = .ok (.goto 16, 3) := by decide +kernel
theorem dX7_peek_23 : decode cX7_peek 23 = .ok (.aload_n 0, 1) := by decide +kernel
theorem dX7_peek_24 : decode cX7_peek 24 = .ok (.getfield 19, 3) := by decide +kernel
theorem dX7_peek_27 : decode cX7_peek 27 = .ok (.aload_n 0, 1) := by decide +kernel
theorem dX7_peek_28 : decode cX7_peek 28 = .ok (.getfield 23, 3) := by decide +kernel
theorem dX7_peek_31 : decode cX7_peek 31 = .ok (.baload, 1) := by decide +kernel
theorem dX7_peek_32 : decode cX7_peek 32 = .ok (.sipush 255, 3) := by decide +kernel
theorem dX7_peek_35 : decode cX7_peek 35 = .ok (.iand, 1) := by decide +kernel
theorem dX7_peek_36 : decode cX7_peek 36 = .ok (.ireturn, 1) := by decide +kernel
abbrev r_X7_peek : Room := { frames := 0, cells := 0, slots := 0, locals := 0 }
abbrev m_X7_peek : xMd := (cX7_peek, RX7, 1, (some FieldType.int), false, r_X7_peek)
def b_X7_peek_36 (Q : xQ) : xK := x_iret Q
def b_X7_peek_19 (Q : xQ) : xK := x_c (.int (-1)) <| (b_X7_peek_36 Q)
def b_X7_peek_0 (Q : xQ) : xK := x_aload 0 <| x_get 6 2 <| x_ifnull ((b_X7_peek_19 Q)) <| x_aload 0 <| x_get 6 3 <| x_aload 0 <| x_get 6 2 <| x_alen <| x_icmp_lt (x_aload 0 <| x_get 6 2 <| x_aload 0 <| x_get 6 3 <| x_bald <| x_c (.int 255) <| x_iand <| (b_X7_peek_36 Q)) <| (b_X7_peek_19 Q)
theorem s_X7_peek_36 (G : xG) (l : Launch) (Q : xQ) : xW G l m_X7_peek xX0 (xPm G Q r_X7_peek) 36 (b_X7_peek_36 Q) := xo_iret (pc := 36) rfl dX7_peek_36
theorem s_X7_peek_19 (G : xG) (l : Launch) (Q : xQ) : xW G l m_X7_peek xX0 (xPm G Q r_X7_peek) 19 (b_X7_peek_19 Q) := xo_iconst (pc := 19) dX7_peek_19 (by decide) <| xo_goto (pc := 20) (tgt := 36) dX7_peek_20 (by decide) <| (s_X7_peek_36 G l Q)
theorem s_X7_peek_0 (G : xG) (l : Launch) (Q : xQ) : xW G l m_X7_peek xX0 (xPm G Q r_X7_peek) 0 (b_X7_peek_0 Q) := xo_aload_n (pc := 0) (i := 0) dX7_peek_0 rfl <| xo_get (pc := 1) (ci := 6) (i := 2) rfl ok6 (by decide) dX7_peek_1 kw216 <| xo_ifnull (pc := 4) (tgt := 19) dX7_peek_4 (by decide) ((s_X7_peek_19 G l Q)) <| xo_aload_n (pc := 7) (i := 0) dX7_peek_7 rfl <| xo_get (pc := 8) (ci := 6) (i := 3) rfl ok6 (by decide) dX7_peek_8 kw217 <| xo_aload_n (pc := 11) (i := 0) dX7_peek_11 rfl <| xo_get (pc := 12) (ci := 6) (i := 2) rfl ok6 (by decide) dX7_peek_12 kw216 <| xo_alen (pc := 15) dX7_peek_15 <| xo_icmp_lt (pc := 16) (tgt := 23) dX7_peek_16 (by decide) (xo_aload_n (pc := 23) (i := 0) dX7_peek_23 rfl <| xo_get (pc := 24) (ci := 6) (i := 2) rfl ok6 (by decide) dX7_peek_24 kw216 <| xo_aload_n (pc := 27) (i := 0) dX7_peek_27 rfl <| xo_get (pc := 28) (ci := 6) (i := 3) rfl ok6 (by decide) dX7_peek_28 kw217 <| xo_bald (pc := 31) dX7_peek_31 <| xo_sipush (pc := 32) dX7_peek_32 (by decide) <| xo_iand (pc := 35) dX7_peek_35 <| (s_X7_peek_36 G l Q)) <| (s_X7_peek_19 G l Q)

def pkV (t : Nat → Nat) (n p : Nat) : Int := if p < n then (t p : Int) else -1
def C_X7_peek : xC := fun av S Q => ∃ (x tx p g : Nat) (bh : Int) (fi op : Bool) (n : Nat) (t : Nat → Nat), av = [.ref (x + 38)] ∧ rdW S.1 x tx p g bh fi op n t ∧ Q (some (.int (iZ (pkV t n p)))) S
theorem cM_X7_peek (G : xG) (l : Launch) : xM G l yX7_peek cX7_peek 1 (some FieldType.int) r_X7_peek C_X7_peek := by
  refine xM_of (fun Q => b_X7_peek_0 Q) RX7 false (s_X7_peek_0 G l) (by decide) rfl (by decide) ?_
  rintro av ⟨h, S2⟩ Q ⟨x, tx, p, g, bh, fi, op, n, t, rfl, w, hQ⟩
  dsimp only at *
  refine ⟨Nat.le_of_ble_eq_true rfl, ?_⟩
  obtain ⟨wo, wt, wp, wx⟩ := w
  have nb := wt.2.1
  have q1 : nI p < Int32.ofNat n ↔ p < n := nc_lt (by omega) (by omega)
  have c := m_cl (n := p) (by omega)
  unfold pkV at hQ
  simp only [q_c, x_iload, x_lload, x_aload, q_istore, q_lstore, q_astore, q_astore2, x_iinc, q_iadd, q_isub, q_imul, q_iand, q_ior, q_ixor, q_ladd, q_lsub, q_lmul, q_land, q_lor, q_lxor, q_idiv, q_irem, q_ldiv, q_lrem, q_ineg, q_lneg, q_ishl, q_ishr, q_iushr, q_lshl, q_lshr, q_lushr, q_i2l, q_l2i, q_i2b, q_i2c, q_lcmp, q_if_eq, q_if_ne, q_if_lt, q_if_ge, q_if_gt, q_if_le, q_icmp_eq, q_icmp_ne, q_icmp_lt, q_icmp_ge, q_icmp_gt, q_icmp_le, q_dup, q_pop, q_dup_x1, q_dup2, x_iret, x_zret, x_lret, x_aret, x_vret, x_call, x_callv, x_calli, x_oinit, x_mmax, x_mmin, x_mabs, x_mmaxL, x_mminL, x_mabsL, lg_cmp_ge, lg_cmp_le, lg_cmp_gt, lg_cmp_lt, lg_cmp_eq, xlk, q_xs1, q_xs2, lv_args, Value.category, List.filter_cons, List.filter_nil, Nat.reduceAdd, Nat.reduceBEq, Nat.reduceEqDiff, Nat.reduceSub, Nat.sub_zero, beq_self_eq_true, Bool.not_true, Bool.not_false, Bool.and_true, Bool.and_false, Bool.true_and, Bool.false_and, reduceIte, reduceCtorEq, Bool.false_eq_true, Nat.one_ne_zero, Nat.zero_ne_one, Nat.zero_add, Option.toList_some, Option.toList_none, List.nil_append, List.cons_append, List.take_succ_cons, List.take_zero, List.take_nil, List.drop_succ_cons, List.drop_zero, List.length_cons, List.length_nil, List.reverse_cons, List.reverse_nil, List.head?_cons, List.map_cons, List.map_nil, List.sum_cons, List.sum_nil, true_and, and_true, List.getElem?_cons_zero, List.getElem?_cons_succ, Prod.eta, x_iast, x_bald, x_bast, x_last, x_alen, xup_s, xup_a1, xup_1a, xup_uu, nr_i, nr_l, nr_o, nr_a, ft_i, ft_l, ft_o, ft_a, Nat.reduceLT, i_cl0, i_cl1, i_n1, i_m1, List.set_cons_zero, List.set_cons_succ, Nat.reduceLeDiff, Nat.le_refl, Nat.zero_le, Nat.add_zero, x_no, x_ifnull, x_ifnonnull, x_acmp_eq, x_acmp_ne, x_swl, x_tsw, x_castC, true_or, or_true, nr_z, ft_z, nr_z0, nr_z1, ft_z0, ft_z1, nr_on, nr_an, ft_on, ft_an, b_X7_peek_0, b_X7_peek_19, b_X7_peek_36, wo.g2, wo.g3, wt.1, q1]
  refine ⟨fun y => ?_, fun y => ?_⟩
  · have v : vp_in (nI p) n = True := eq_true (vp_in_nI (by omega) (by omega))
    simp only [q_c, x_iload, x_lload, x_aload, q_istore, q_lstore, q_astore, q_astore2, x_iinc, q_iadd, q_isub, q_imul, q_iand, q_ior, q_ixor, q_ladd, q_lsub, q_lmul, q_land, q_lor, q_lxor, q_idiv, q_irem, q_ldiv, q_lrem, q_ineg, q_lneg, q_ishl, q_ishr, q_iushr, q_lshl, q_lshr, q_lushr, q_i2l, q_l2i, q_i2b, q_i2c, q_lcmp, q_if_eq, q_if_ne, q_if_lt, q_if_ge, q_if_gt, q_if_le, q_icmp_eq, q_icmp_ne, q_icmp_lt, q_icmp_ge, q_icmp_gt, q_icmp_le, q_dup, q_pop, q_dup_x1, q_dup2, x_iret, x_zret, x_lret, x_aret, x_vret, x_call, x_callv, x_calli, x_oinit, x_mmax, x_mmin, x_mabs, x_mmaxL, x_mminL, x_mabsL, lg_cmp_ge, lg_cmp_le, lg_cmp_gt, lg_cmp_lt, lg_cmp_eq, xlk, q_xs1, q_xs2, lv_args, Value.category, List.filter_cons, List.filter_nil, Nat.reduceAdd, Nat.reduceBEq, Nat.reduceEqDiff, Nat.reduceSub, Nat.sub_zero, beq_self_eq_true, Bool.not_true, Bool.not_false, Bool.and_true, Bool.and_false, Bool.true_and, Bool.false_and, reduceIte, reduceCtorEq, Bool.false_eq_true, Nat.one_ne_zero, Nat.zero_ne_one, Nat.zero_add, Option.toList_some, Option.toList_none, List.nil_append, List.cons_append, List.take_succ_cons, List.take_zero, List.take_nil, List.drop_succ_cons, List.drop_zero, List.length_cons, List.length_nil, List.reverse_cons, List.reverse_nil, List.head?_cons, List.map_cons, List.map_nil, List.sum_cons, List.sum_nil, true_and, and_true, List.getElem?_cons_zero, List.getElem?_cons_succ, Prod.eta, x_iast, x_bald, x_bast, x_last, x_alen, xup_s, xup_a1, xup_1a, xup_uu, nr_i, nr_l, nr_o, nr_a, ft_i, ft_l, ft_o, ft_a, Nat.reduceLT, i_cl0, i_cl1, i_n1, i_m1, List.set_cons_zero, List.set_cons_succ, Nat.reduceLeDiff, Nat.le_refl, Nat.zero_le, Nat.add_zero, x_no, x_ifnull, x_ifnonnull, x_acmp_eq, x_acmp_ne, x_swl, x_tsw, x_castC, true_or, or_true, nr_z, ft_z, nr_z0, nr_z1, ft_z0, ft_z1, nr_on, nr_an, ft_on, ft_an, c, v, wt.1, yB_and (wt.2.2 p)]
    rw [if_pos y, iZ_nat] at hQ
    exact hQ
  · rw [if_neg y] at hQ
    exact hQ
theorem dX7_take_0 : decode cX7_take 0 = .ok (.aload_n 0, 1) := by decide +kernel
theorem dX7_take_1 : decode cX7_take 1 = .ok (.getfield 19, 3) := by decide +kernel
theorem dX7_take_4 : decode cX7_take 4 = .ok (.ifnull 28, 3) := by decide +kernel
theorem dX7_take_7 : decode cX7_take 7 = .ok (.aload_n 0, 1) := by decide +kernel
theorem dX7_take_8 : decode cX7_take 8 = .ok (.getfield 23, 3) := by decide +kernel
theorem dX7_take_11 : decode cX7_take 11 = .ok (.aload_n 0, 1) := by decide +kernel
theorem dX7_take_12 : decode cX7_take 12 = .ok (.getfield 19, 3) := by decide +kernel
theorem dX7_take_15 : decode cX7_take 15 = .ok (.arraylength, 1) := by decide +kernel
theorem dX7_take_16 : decode cX7_take 16 = .ok (.if_icmp .ge 16, 3) := by decide +kernel
theorem dX7_take_19 : decode cX7_take 19 = .ok (.aload_n 0, 1) := by decide +kernel
theorem dX7_take_20 : decode cX7_take 20 = .ok (.getfield 19, 3) := by decide +kernel
theorem dX7_take_23 : decode cX7_take 23 = .ok (.aload_n 0, 1) := by decide +kernel
theorem dX7_take_24 : decode cX7_take 24 = .ok (.getfield 23, 3) := by decide +kernel
theorem dX7_take_27 : decode cX7_take 27 = .ok (.baload, 1) := by decide +kernel
theorem dX7_take_28 : decode cX7_take 28 = .ok (.iload_n 1, 1) := by decide +kernel
theorem dX7_take_29 : decode cX7_take 29 = .ok (.if_icmp .eq 5, 3) := by decide +kernel
theorem dX7_take_32 : decode cX7_take 32 = .ok (.iconst 0, 1) := by decide +kernel
theorem dX7_take_33 : decode cX7_take 33 = .ok (.ireturn, 1) := by decide +kernel
theorem dX7_take_34 : decode cX7_take 34 = .ok (.aload_n 0, 1) := by decide +kernel
theorem dX7_take_35 : decode cX7_take 35 = .ok (.dup, 1) := by decide +kernel
theorem dX7_take_36 : decode cX7_take 36 = .ok (.getfield 23, 3) := by decide +kernel
theorem dX7_take_39 : decode cX7_take 39 = .ok (.iconst 1, 1) := by decide +kernel
theorem dX7_take_40 : decode cX7_take 40 = .ok (.iadd, 1) := by decide +kernel
theorem dX7_take_41 : decode cX7_take 41 = .ok (.putfield 23, 3) := by decide +kernel
theorem dX7_take_44 : decode cX7_take 44 = .ok (.iconst 1, 1) := by decide +kernel
theorem dX7_take_45 : decode cX7_take 45 = .ok (.ireturn, 1) := by decide +kernel
abbrev r_X7_take : Room := { frames := 0, cells := 0, slots := 0, locals := 0 }
abbrev m_X7_take : xMd := (cX7_take, RX7, 2, (some FieldType.boolean), false, r_X7_take)
def b_X7_take_32 (Q : xQ) : xK := x_c (.int 0) <| x_zret FieldType.boolean Q
def b_X7_take_0 (Q : xQ) : xK := x_aload 0 <| x_get 6 2 <| x_ifnull ((b_X7_take_32 Q)) <| x_aload 0 <| x_get 6 3 <| x_aload 0 <| x_get 6 2 <| x_alen <| x_icmp_ge ((b_X7_take_32 Q)) <| x_aload 0 <| x_get 6 2 <| x_aload 0 <| x_get 6 3 <| x_bald <| x_iload 1 <| x_icmp_eq (x_aload 0 <| x_dup <| x_get 6 3 <| x_c (.int 1) <| x_iadd <| x_put 6 3 .int <| x_c (.int 1) <| x_zret FieldType.boolean Q) <| (b_X7_take_32 Q)
theorem s_X7_take_32 (G : xG) (l : Launch) (Q : xQ) : xW G l m_X7_take xX0 (xPm G Q r_X7_take) 32 (b_X7_take_32 Q) := xo_iconst (pc := 32) dX7_take_32 (by decide) <| xo_zret (pc := 33) rfl dX7_take_33
theorem s_X7_take_0 (G : xG) (l : Launch) (Q : xQ) : xW G l m_X7_take xX0 (xPm G Q r_X7_take) 0 (b_X7_take_0 Q) := xo_aload_n (pc := 0) (i := 0) dX7_take_0 rfl <| xo_get (pc := 1) (ci := 6) (i := 2) rfl ok6 (by decide) dX7_take_1 kw216 <| xo_ifnull (pc := 4) (tgt := 32) dX7_take_4 (by decide) ((s_X7_take_32 G l Q)) <| xo_aload_n (pc := 7) (i := 0) dX7_take_7 rfl <| xo_get (pc := 8) (ci := 6) (i := 3) rfl ok6 (by decide) dX7_take_8 kw217 <| xo_aload_n (pc := 11) (i := 0) dX7_take_11 rfl <| xo_get (pc := 12) (ci := 6) (i := 2) rfl ok6 (by decide) dX7_take_12 kw216 <| xo_alen (pc := 15) dX7_take_15 <| xo_icmp_ge (pc := 16) (tgt := 32) dX7_take_16 (by decide) ((s_X7_take_32 G l Q)) <| xo_aload_n (pc := 19) (i := 0) dX7_take_19 rfl <| xo_get (pc := 20) (ci := 6) (i := 2) rfl ok6 (by decide) dX7_take_20 kw216 <| xo_aload_n (pc := 23) (i := 0) dX7_take_23 rfl <| xo_get (pc := 24) (ci := 6) (i := 3) rfl ok6 (by decide) dX7_take_24 kw217 <| xo_bald (pc := 27) dX7_take_27 <| xo_iload_n (pc := 28) (i := 1) dX7_take_28 rfl <| xo_icmp_eq (pc := 29) (tgt := 34) dX7_take_29 (by decide) (xo_aload_n (pc := 34) (i := 0) dX7_take_34 rfl <| xo_dup (pc := 35) dX7_take_35 <| xo_get (pc := 36) (ci := 6) (i := 3) rfl ok6 (by decide) dX7_take_36 kw217 <| xo_iconst (pc := 39) dX7_take_39 (by decide) <| xo_iadd (pc := 40) dX7_take_40 <| xo_put (pc := 41) (ci := 6) (i := 3) rfl ok6 (by decide) rfl rfl dX7_take_41 kw217 <| xo_iconst (pc := 44) dX7_take_44 (by decide) <| xo_zret (pc := 45) rfl dX7_take_45) <| (s_X7_take_32 G l Q)

def C_X7_take : xC := fun av S Q => ∃ (x tx p g : Nat) (bh : Int) (fi op : Bool) (n : Nat) (t : Nat → Nat) (c : Nat), av = [.ref (x + 38), .int (nI c)] ∧ c < 128 ∧ rdW S.1 x tx p g bh fi op n t ∧ (p < n ∧ t p = c → ∀ h', fR h' S.1 x → rdW h' x tx (p + 1) g bh fi op n t → Q (some (.int 1)) (h', S.2)) ∧ (¬ (p < n ∧ t p = c) → Q (some (.int 0)) S)
theorem cM_X7_take (G : xG) (l : Launch) : xM G l yX7_take cX7_take 2 (some FieldType.boolean) r_X7_take C_X7_take := by
  refine xM_of (fun Q => b_X7_take_0 Q) RX7 false (s_X7_take_0 G l) (by decide) rfl (by decide) ?_
  rintro av ⟨h, S2⟩ Q ⟨x, tx, p, g, bh, fi, op, n, t, c, rfl, hc, w, hy, hn⟩
  dsimp only at *
  refine ⟨Nat.le_of_ble_eq_true rfl, ?_⟩
  obtain ⟨wo, wt, wp, wx⟩ := id w
  have nb := wt.2.1
  have q1 : Int32.ofNat n ≤ nI p ↔ n ≤ p := nc_le (by omega) (by omega)
  have cl := m_cl (n := p) (by omega)
  simp only [q_c, x_iload, x_lload, x_aload, q_istore, q_lstore, q_astore, q_astore2, x_iinc, q_iadd, q_isub, q_imul, q_iand, q_ior, q_ixor, q_ladd, q_lsub, q_lmul, q_land, q_lor, q_lxor, q_idiv, q_irem, q_ldiv, q_lrem, q_ineg, q_lneg, q_ishl, q_ishr, q_iushr, q_lshl, q_lshr, q_lushr, q_i2l, q_l2i, q_i2b, q_i2c, q_lcmp, q_if_eq, q_if_ne, q_if_lt, q_if_ge, q_if_gt, q_if_le, q_icmp_eq, q_icmp_ne, q_icmp_lt, q_icmp_ge, q_icmp_gt, q_icmp_le, q_dup, q_pop, q_dup_x1, q_dup2, x_iret, x_zret, x_lret, x_aret, x_vret, x_call, x_callv, x_calli, x_oinit, x_mmax, x_mmin, x_mabs, x_mmaxL, x_mminL, x_mabsL, lg_cmp_ge, lg_cmp_le, lg_cmp_gt, lg_cmp_lt, lg_cmp_eq, xlk, q_xs1, q_xs2, lv_args, Value.category, List.filter_cons, List.filter_nil, Nat.reduceAdd, Nat.reduceBEq, Nat.reduceEqDiff, Nat.reduceSub, Nat.sub_zero, beq_self_eq_true, Bool.not_true, Bool.not_false, Bool.and_true, Bool.and_false, Bool.true_and, Bool.false_and, reduceIte, reduceCtorEq, Bool.false_eq_true, Nat.one_ne_zero, Nat.zero_ne_one, Nat.zero_add, Option.toList_some, Option.toList_none, List.nil_append, List.cons_append, List.take_succ_cons, List.take_zero, List.take_nil, List.drop_succ_cons, List.drop_zero, List.length_cons, List.length_nil, List.reverse_cons, List.reverse_nil, List.head?_cons, List.map_cons, List.map_nil, List.sum_cons, List.sum_nil, true_and, and_true, List.getElem?_cons_zero, List.getElem?_cons_succ, Prod.eta, x_iast, x_bald, x_bast, x_last, x_alen, xup_s, xup_a1, xup_1a, xup_uu, nr_i, nr_l, nr_o, nr_a, ft_i, ft_l, ft_o, ft_a, Nat.reduceLT, i_cl0, i_cl1, i_n1, i_m1, List.set_cons_zero, List.set_cons_succ, Nat.reduceLeDiff, Nat.le_refl, Nat.zero_le, Nat.add_zero, x_no, x_ifnull, x_ifnonnull, x_acmp_eq, x_acmp_ne, x_swl, x_tsw, x_castC, true_or, or_true, nr_z, ft_z, nr_z0, nr_z1, ft_z0, ft_z1, nr_on, nr_an, ft_on, ft_an, b_X7_take_0, b_X7_take_32, wo.g2, wo.g3, wt.1, q1]
  refine ⟨fun y => hn (by omega), fun y => ?_⟩
  have v : vp_in (nI p) n = True := eq_true (vp_in_nI (by omega) (by omega))
  have q2 := yB_e (wt.2.2 p) hc
  have e1 : nI p + 1 = nI (p + 1) := nI_1 p
  simp only [q_c, x_iload, x_lload, x_aload, q_istore, q_lstore, q_astore, q_astore2, x_iinc, q_iadd, q_isub, q_imul, q_iand, q_ior, q_ixor, q_ladd, q_lsub, q_lmul, q_land, q_lor, q_lxor, q_idiv, q_irem, q_ldiv, q_lrem, q_ineg, q_lneg, q_ishl, q_ishr, q_iushr, q_lshl, q_lshr, q_lushr, q_i2l, q_l2i, q_i2b, q_i2c, q_lcmp, q_if_eq, q_if_ne, q_if_lt, q_if_ge, q_if_gt, q_if_le, q_icmp_eq, q_icmp_ne, q_icmp_lt, q_icmp_ge, q_icmp_gt, q_icmp_le, q_dup, q_pop, q_dup_x1, q_dup2, x_iret, x_zret, x_lret, x_aret, x_vret, x_call, x_callv, x_calli, x_oinit, x_mmax, x_mmin, x_mabs, x_mmaxL, x_mminL, x_mabsL, lg_cmp_ge, lg_cmp_le, lg_cmp_gt, lg_cmp_lt, lg_cmp_eq, xlk, q_xs1, q_xs2, lv_args, Value.category, List.filter_cons, List.filter_nil, Nat.reduceAdd, Nat.reduceBEq, Nat.reduceEqDiff, Nat.reduceSub, Nat.sub_zero, beq_self_eq_true, Bool.not_true, Bool.not_false, Bool.and_true, Bool.and_false, Bool.true_and, Bool.false_and, reduceIte, reduceCtorEq, Bool.false_eq_true, Nat.one_ne_zero, Nat.zero_ne_one, Nat.zero_add, Option.toList_some, Option.toList_none, List.nil_append, List.cons_append, List.take_succ_cons, List.take_zero, List.take_nil, List.drop_succ_cons, List.drop_zero, List.length_cons, List.length_nil, List.reverse_cons, List.reverse_nil, List.head?_cons, List.map_cons, List.map_nil, List.sum_cons, List.sum_nil, true_and, and_true, List.getElem?_cons_zero, List.getElem?_cons_succ, Prod.eta, x_iast, x_bald, x_bast, x_last, x_alen, xup_s, xup_a1, xup_1a, xup_uu, nr_i, nr_l, nr_o, nr_a, ft_i, ft_l, ft_o, ft_a, Nat.reduceLT, i_cl0, i_cl1, i_n1, i_m1, List.set_cons_zero, List.set_cons_succ, Nat.reduceLeDiff, Nat.le_refl, Nat.zero_le, Nat.add_zero, x_no, x_ifnull, x_ifnonnull, x_acmp_eq, x_acmp_ne, x_swl, x_tsw, x_castC, true_or, or_true, nr_z, ft_z, nr_z0, nr_z1, ft_z0, ft_z1, nr_on, nr_an, ft_on, ft_an, cl, v, wt.1, q2, wo.g3, wo.p3, e1]
  refine ⟨fun z => ?_, fun z => hn (fun u => z u.2)⟩
  exact hy ⟨by omega, z⟩ _ off1 (w.up (by omega))
theorem kr_take {h : xH} {T : Nat × Nat × Nat} {K : xQ} {x tx p g : Nat} {bh : Int} {fi op : Bool} {n : Nat} {t : Nat → Nat} {c : Nat} (w : rdW h x tx p g bh fi op n t) (hc : c < 128) (hy : p < n ∧ t p = c → ∀ h', fR h' h x → rdW h' x tx (p + 1) g bh fi op n t → K (some (.int 1)) (h', T)) (hn : ¬ (p < n ∧ t p = c) → K (some (.int 0)) (h, T)) : rcd h x ∧ C_X7_take [.ref (x + 38), .int (nI c)] (h, T) K := ⟨w.rc, x, tx, p, g, bh, fi, op, n, t, c, rfl, hc, w, hy, hn⟩
theorem dX7_lower_0 : decode cX7_lower 0 = .ok (.aload_n 0, 1) := by decide +kernel
theorem dX7_lower_1 : decode cX7_lower 1 = .ok (.getfield 19, 3) := by decide +kernel
theorem dX7_lower_4 : decode cX7_lower 4 = .ok (.ifnonnull 7, 3) := by decide +kernel
theorem dX7_lower_7 : decode cX7_lower 7 = .ok (.iconst 0, 1) := by decide +kernel
theorem dX7_lower_8 : decode cX7_lower 8 = .ok (.goto 8, 3) := by decide +kernel
theorem dX7_lower_11 : decode cX7_lower 11 = .ok (.aload_n 0, 1) := by decide +kernel
theorem dX7_lower_12 : decode cX7_lower 12 = .ok (.getfield 19, 3) := by decide +kernel
theorem dX7_lower_15 : decode cX7_lower 15 = .ok (.arraylength, 1) := by decide +kernel
theorem dX7_lower_16 : decode cX7_lower 16 = .ok (.istore_n 1, 1) := by decide +kernel
theorem dX7_lower_17 : decode cX7_lower 17 = .ok (.iconst 0, 1) := by decide +kernel
theorem dX7_lower_18 : decode cX7_lower 18 = .ok (.istore_n 2, 1) := by decide +kernel
theorem dX7_lower_19 : decode cX7_lower 19 = .ok (.iload_n 2, 1) := by decide +kernel
theorem dX7_lower_20 : decode cX7_lower 20 = .ok (.iload_n 1, 1) := by decide +kernel
theorem dX7_lower_21 : decode cX7_lower 21 = .ok (.if_icmp .ge 43, 3) := by decide +kernel
theorem dX7_lower_24 : decode cX7_lower 24 = .ok (.aload_n 0, 1) := by decide +kernel
theorem dX7_lower_25 : decode cX7_lower 25 = .ok (.getfield 19, 3) := by decide +kernel
theorem dX7_lower_28 : decode cX7_lower 28 = .ok (.iload_n 2, 1) := by decide +kernel
theorem dX7_lower_29 : decode cX7_lower 29 = .ok (.baload, 1) := by decide +kernel
theorem dX7_lower_30 : decode cX7_lower 30 = .ok (.bipush 65, 2) := by decide +kernel
theorem dX7_lower_32 : decode cX7_lower 32 = .ok (.if_icmp .lt 26, 3) := by decide +kernel
theorem dX7_lower_35 : decode cX7_lower 35 = .ok (.aload_n 0, 1) := by decide +kernel
theorem dX7_lower_36 : decode cX7_lower 36 = .ok (.getfield 19, 3) := by decide +kernel
theorem dX7_lower_39 : decode cX7_lower 39 = .ok (.iload_n 2, 1) := by decide +kernel
theorem dX7_lower_40 : decode cX7_lower 40 = .ok (.baload, 1) := by decide +kernel
theorem dX7_lower_41 : decode cX7_lower 41 = .ok (.bipush 90, 2) := by decide +kernel
theorem dX7_lower_43 : decode cX7_lower 43 = .ok (.if_icmp .gt 15, 3) := by decide +kernel
theorem dX7_lower_46 : decode cX7_lower 46 = .ok (.aload_n 0, 1) := by decide +kernel
theorem dX7_lower_47 : decode cX7_lower 47 = .ok (.getfield 19, 3) := by decide +kernel
theorem dX7_lower_50 : decode cX7_lower 50 = .ok (.iload_n 2, 1) := by decide +kernel
theorem dX7_lower_51 : decode cX7_lower 51 = .ok (.dup2, 1) := by decide +kernel
theorem dX7_lower_52 : decode cX7_lower 52 = .ok (.baload, 1) := by decide +kernel
theorem dX7_lower_53 : decode cX7_lower 53 = .ok (.bipush 32, 2) := by decide +kernel
theorem dX7_lower_55 : decode cX7_lower 55 = .ok (.iadd, 1) := by decide +kernel
theorem dX7_lower_56 : decode cX7_lower 56 = .ok (.i2b, 1) := by decide +kernel
theorem dX7_lower_57 : decode cX7_lower 57 = .ok (.bastore, 1) := by decide +kernel
theorem dX7_lower_58 : decode cX7_lower 58 = .ok (.iinc 2 1, 3) := by decide +kernel
theorem dX7_lower_61 : decode cX7_lower 61 = .ok (.goto (-42), 3) := by decide +kernel
theorem dX7_lower_64 : decode cX7_lower 64 = .ok (.return_, 1) := by decide +kernel
abbrev r_X7_lower : Room := { frames := 0, cells := 0, slots := 0, locals := 0 }
abbrev m_X7_lower : xMd := (cX7_lower, RX7, 3, none, false, r_X7_lower)
def b_X7_lower_16 (Q : xQ) (K19 : xK) : xK := x_istore 1 <| x_c (.int 0) <| x_istore 2 <| K19
def b_X7_lower_58 (Q : xQ) (K19 : xK) : xK := x_iinc 2 1 <| K19
def b_X7_lower_0 (Q : xQ) (K19 : xK) : xK := x_aload 0 <| x_get 6 2 <| x_ifnonnull (x_aload 0 <| x_get 6 2 <| x_alen <| (b_X7_lower_16 Q K19)) <| x_c (.int 0) <| (b_X7_lower_16 Q K19)
def b_X7_lower_19 (Q : xQ) (K19 : xK) : xK := x_iload 2 <| x_iload 1 <| x_icmp_ge (x_vret Q) <| x_aload 0 <| x_get 6 2 <| x_iload 2 <| x_bald <| x_c (.int 65) <| x_icmp_lt ((b_X7_lower_58 Q K19)) <| x_aload 0 <| x_get 6 2 <| x_iload 2 <| x_bald <| x_c (.int 90) <| x_icmp_gt ((b_X7_lower_58 Q K19)) <| x_aload 0 <| x_get 6 2 <| x_iload 2 <| x_dup2 <| x_bald <| x_c (.int 32) <| x_iadd <| x_i2b <| x_bast <| (b_X7_lower_58 Q K19)
theorem s_X7_lower_16 (G : xG) (l : Launch) (Q : xQ) (K19 : xK) (h19 : xW G l m_X7_lower xX0 (xPm G Q r_X7_lower) 19 K19) : xW G l m_X7_lower xX0 (xPm G Q r_X7_lower) 16 (b_X7_lower_16 Q K19) := xo_istore_n (pc := 16) (i := 1) dX7_lower_16 rfl (by decide) <| xo_iconst (pc := 17) dX7_lower_17 (by decide) <| xo_istore_n (pc := 18) (i := 2) dX7_lower_18 rfl (by decide) <| h19
theorem s_X7_lower_58 (G : xG) (l : Launch) (Q : xQ) (K19 : xK) (h19 : xW G l m_X7_lower xX0 (xPm G Q r_X7_lower) 19 K19) : xW G l m_X7_lower xX0 (xPm G Q r_X7_lower) 58 (b_X7_lower_58 Q K19) := xo_iinc (pc := 58) dX7_lower_58 (by decide) <| xo_goto (pc := 61) (tgt := 19) dX7_lower_61 (by decide) <| h19
theorem s_X7_lower_0 (G : xG) (l : Launch) (Q : xQ) (K19 : xK) (h19 : xW G l m_X7_lower xX0 (xPm G Q r_X7_lower) 19 K19) : xW G l m_X7_lower xX0 (xPm G Q r_X7_lower) 0 (b_X7_lower_0 Q K19) := xo_aload_n (pc := 0) (i := 0) dX7_lower_0 rfl <| xo_get (pc := 1) (ci := 6) (i := 2) rfl ok6 (by decide) dX7_lower_1 kw216 <| xo_ifnonnull (pc := 4) (tgt := 11) dX7_lower_4 (by decide) (xo_aload_n (pc := 11) (i := 0) dX7_lower_11 rfl <| xo_get (pc := 12) (ci := 6) (i := 2) rfl ok6 (by decide) dX7_lower_12 kw216 <| xo_alen (pc := 15) dX7_lower_15 <| (s_X7_lower_16 G l Q K19 h19)) <| xo_iconst (pc := 7) dX7_lower_7 (by decide) <| xo_goto (pc := 8) (tgt := 16) dX7_lower_8 (by decide) <| (s_X7_lower_16 G l Q K19 h19)
theorem s_X7_lower_19 (G : xG) (l : Launch) (Q : xQ) (K19 : xK) (h19 : xW G l m_X7_lower xX0 (xPm G Q r_X7_lower) 19 K19) : xW G l m_X7_lower xX0 (xPm G Q r_X7_lower) 19 (b_X7_lower_19 Q K19) := xo_iload_n (pc := 19) (i := 2) dX7_lower_19 rfl <| xo_iload_n (pc := 20) (i := 1) dX7_lower_20 rfl <| xo_icmp_ge (pc := 21) (tgt := 64) dX7_lower_21 (by decide) (xo_vret (pc := 64) rfl dX7_lower_64) <| xo_aload_n (pc := 24) (i := 0) dX7_lower_24 rfl <| xo_get (pc := 25) (ci := 6) (i := 2) rfl ok6 (by decide) dX7_lower_25 kw216 <| xo_iload_n (pc := 28) (i := 2) dX7_lower_28 rfl <| xo_bald (pc := 29) dX7_lower_29 <| xo_bipush (pc := 30) dX7_lower_30 (by decide) <| xo_icmp_lt (pc := 32) (tgt := 58) dX7_lower_32 (by decide) ((s_X7_lower_58 G l Q K19 h19)) <| xo_aload_n (pc := 35) (i := 0) dX7_lower_35 rfl <| xo_get (pc := 36) (ci := 6) (i := 2) rfl ok6 (by decide) dX7_lower_36 kw216 <| xo_iload_n (pc := 39) (i := 2) dX7_lower_39 rfl <| xo_bald (pc := 40) dX7_lower_40 <| xo_bipush (pc := 41) dX7_lower_41 (by decide) <| xo_icmp_gt (pc := 43) (tgt := 58) dX7_lower_43 (by decide) ((s_X7_lower_58 G l Q K19 h19)) <| xo_aload_n (pc := 46) (i := 0) dX7_lower_46 rfl <| xo_get (pc := 47) (ci := 6) (i := 2) rfl ok6 (by decide) dX7_lower_47 kw216 <| xo_iload_n (pc := 50) (i := 2) dX7_lower_50 rfl <| xo_dup2 (pc := 51) dX7_lower_51 <| xo_bald (pc := 52) dX7_lower_52 <| xo_bipush (pc := 53) dX7_lower_53 (by decide) <| xo_iadd (pc := 55) dX7_lower_55 <| xo_i2b (pc := 56) dX7_lower_56 <| xo_bast (pc := 57) dX7_lower_57 <| (s_X7_lower_58 G l Q K19 h19)

def cn_X7_lower : Nat × Nat × Nat → List (Nat × Value) := fun v => [(0, .ref (v.1 + 38)), (1, .int (nI v.2.1)), (2, .int (nI v.2.2))]
def I_X7_lower (Q : xQ) : Nat → Nat × Nat × Nat → xS → Prop := fun m v S => match v with
  | (x, n, k) => ∃ (tx p g : Nat) (bh : Int) (fi op : Bool) (t : Nat → Nat), m = n - k ∧ k ≤ n ∧ (∀ i, t i < 256) ∧ rdW S.1 x tx p g bh fi op n (lwT t k) ∧ ∀ h', (∀ q, q ≠ tx → h' q = S.1 q) → rdW h' x tx p g bh fi op n (lwT t n) → Q none (h', S.2)
def C_X7_lower : xC := fun av S Q => ∃ (x tx p g : Nat) (bh : Int) (fi op : Bool) (n : Nat) (t : Nat → Nat), av = [.ref (x + 38)] ∧ rdW S.1 x tx p g bh fi op n t ∧ ∀ h', (∀ q, q ≠ tx → h' q = S.1 q) → rdW h' x tx p g bh fi op n (lwT t n) → Q none (h', S.2)
theorem lwT_v {t : Nat → Nat} (tl : ∀ i, t i < 256) (k i : Nat) : lwT t k i < 256 := by
  unfold lwT
  split
  · exact lwB_lt (tl i)
  · exact tl i
theorem yB_up (f : Nat → Nat) (k y : Nat) : upd (fun i => yB (f i)) k (yB y) = fun i => yB (va_up f k y i) := by
  funext i
  unfold upd va_up
  split <;> rfl
theorem cM_X7_lower (G : xG) (l : Launch) : xM G l yX7_lower cX7_lower 3 none r_X7_lower C_X7_lower := by
  refine xM_of (fun Q => b_X7_lower_0 Q (xInv cn_X7_lower (I_X7_lower Q))) RX7 false (fun Q => s_X7_lower_0 G l Q _ (xW.lp (b_X7_lower_19 Q) (fun K hK => s_X7_lower_19 G l Q K hK) ?_)) (by decide) rfl (by decide) ?_
  · rintro m ⟨x, n, k⟩ ⟨h, S2⟩ ⟨tx, p, g, bh, fi, op, t, rfl, kn, tl, w, hQ⟩
    dsimp only at *
    have c1 : cn_X7_lower (x, n, k) = [(0, .ref (x + 38)), (1, .int (nI n)), (2, .int (nI k))] := rfl
    rw [c1]
    obtain ⟨wo, wt, wp, wx⟩ := id w
    have nb := wt.2.1
    have q1 : nI n ≤ nI k ↔ n ≤ k := nc_le (by omega) (by omega)
    have cl := m_cl (n := k) (by omega)
    have tk : lwT t k k = t k := if_neg (by omega)
    obtain ⟨-, y1, y2, y3, -⟩ := yB_all ⟨t k, tl k⟩
    dsimp only at y1 y2 y3
    generalize hK : xInvL cn_X7_lower (I_X7_lower Q) (n - k) = K
    have e1 : nI k + 1 = nI (k + 1) := nI_1 k
    have nxt : k < n → lwT t (k + 1) = lwT t k → b_X7_lower_58 Q K [(0, .ref (x + 38)), (1, .int (nI n)), (2, .int (nI k))] [] (h, S2) := by
      intro kl e
      simp only [q_c, x_iload, x_lload, x_aload, q_istore, q_lstore, q_astore, q_astore2, x_iinc, q_iadd, q_isub, q_imul, q_iand, q_ior, q_ixor, q_ladd, q_lsub, q_lmul, q_land, q_lor, q_lxor, q_idiv, q_irem, q_ldiv, q_lrem, q_ineg, q_lneg, q_ishl, q_ishr, q_iushr, q_lshl, q_lshr, q_lushr, q_i2l, q_l2i, q_i2b, q_i2c, q_lcmp, q_if_eq, q_if_ne, q_if_lt, q_if_ge, q_if_gt, q_if_le, q_icmp_eq, q_icmp_ne, q_icmp_lt, q_icmp_ge, q_icmp_gt, q_icmp_le, q_dup, q_pop, q_dup_x1, q_dup2, x_iret, x_zret, x_lret, x_aret, x_vret, x_call, x_callv, x_calli, x_oinit, x_mmax, x_mmin, x_mabs, x_mmaxL, x_mminL, x_mabsL, lg_cmp_ge, lg_cmp_le, lg_cmp_gt, lg_cmp_lt, lg_cmp_eq, xlk, q_xs1, q_xs2, lv_args, Value.category, List.filter_cons, List.filter_nil, Nat.reduceAdd, Nat.reduceBEq, Nat.reduceEqDiff, Nat.reduceSub, Nat.sub_zero, beq_self_eq_true, Bool.not_true, Bool.not_false, Bool.and_true, Bool.and_false, Bool.true_and, Bool.false_and, reduceIte, reduceCtorEq, Bool.false_eq_true, Nat.one_ne_zero, Nat.zero_ne_one, Nat.zero_add, Option.toList_some, Option.toList_none, List.nil_append, List.cons_append, List.take_succ_cons, List.take_zero, List.take_nil, List.drop_succ_cons, List.drop_zero, List.length_cons, List.length_nil, List.reverse_cons, List.reverse_nil, List.head?_cons, List.map_cons, List.map_nil, List.sum_cons, List.sum_nil, true_and, and_true, List.getElem?_cons_zero, List.getElem?_cons_succ, Prod.eta, x_iast, x_bald, x_bast, x_last, x_alen, xup_s, xup_a1, xup_1a, xup_uu, nr_i, nr_l, nr_o, nr_a, ft_i, ft_l, ft_o, ft_a, Nat.reduceLT, i_cl0, i_cl1, i_n1, i_m1, List.set_cons_zero, List.set_cons_succ, Nat.reduceLeDiff, Nat.le_refl, Nat.zero_le, Nat.add_zero, x_no, x_ifnull, x_ifnonnull, x_acmp_eq, x_acmp_ne, x_swl, x_tsw, x_castC, true_or, or_true, nr_z, ft_z, nr_z0, nr_z1, ft_z0, ft_z1, nr_on, nr_an, ft_on, ft_an, b_X7_lower_58, e1]
      rw [← hK]
      exact xInvL.mk (n - (k + 1)) (x, n, k + 1) (by omega) ⟨rfl, rfl, rfl, trivial⟩ ⟨tx, p, g, bh, fi, op, t, rfl, by omega, tl, by rw [e]; exact w, hQ⟩
    have same : ¬ (65 ≤ t k ∧ t k ≤ 90) → lwT t (k + 1) = lwT t k := by
      intro y
      rw [← lwT_u]
      funext i
      unfold va_up
      split
      · rename_i e
        rw [e, tk]
        exact if_neg y
      · rfl
    unfold b_X7_lower_19
    generalize hJ : b_X7_lower_58 Q K = J at *
    simp only [q_c, x_iload, x_lload, x_aload, q_istore, q_lstore, q_astore, q_astore2, x_iinc, q_iadd, q_isub, q_imul, q_iand, q_ior, q_ixor, q_ladd, q_lsub, q_lmul, q_land, q_lor, q_lxor, q_idiv, q_irem, q_ldiv, q_lrem, q_ineg, q_lneg, q_ishl, q_ishr, q_iushr, q_lshl, q_lshr, q_lushr, q_i2l, q_l2i, q_i2b, q_i2c, q_lcmp, q_if_eq, q_if_ne, q_if_lt, q_if_ge, q_if_gt, q_if_le, q_icmp_eq, q_icmp_ne, q_icmp_lt, q_icmp_ge, q_icmp_gt, q_icmp_le, q_dup, q_pop, q_dup_x1, q_dup2, x_iret, x_zret, x_lret, x_aret, x_vret, x_call, x_callv, x_calli, x_oinit, x_mmax, x_mmin, x_mabs, x_mmaxL, x_mminL, x_mabsL, lg_cmp_ge, lg_cmp_le, lg_cmp_gt, lg_cmp_lt, lg_cmp_eq, xlk, q_xs1, q_xs2, lv_args, Value.category, List.filter_cons, List.filter_nil, Nat.reduceAdd, Nat.reduceBEq, Nat.reduceEqDiff, Nat.reduceSub, Nat.sub_zero, beq_self_eq_true, Bool.not_true, Bool.not_false, Bool.and_true, Bool.and_false, Bool.true_and, Bool.false_and, reduceIte, reduceCtorEq, Bool.false_eq_true, Nat.one_ne_zero, Nat.zero_ne_one, Nat.zero_add, Option.toList_some, Option.toList_none, List.nil_append, List.cons_append, List.take_succ_cons, List.take_zero, List.take_nil, List.drop_succ_cons, List.drop_zero, List.length_cons, List.length_nil, List.reverse_cons, List.reverse_nil, List.head?_cons, List.map_cons, List.map_nil, List.sum_cons, List.sum_nil, true_and, and_true, List.getElem?_cons_zero, List.getElem?_cons_succ, Prod.eta, x_iast, x_bald, x_bast, x_last, x_alen, xup_s, xup_a1, xup_1a, xup_uu, nr_i, nr_l, nr_o, nr_a, ft_i, ft_l, ft_o, ft_a, Nat.reduceLT, i_cl0, i_cl1, i_n1, i_m1, List.set_cons_zero, List.set_cons_succ, Nat.reduceLeDiff, Nat.le_refl, Nat.zero_le, Nat.add_zero, x_no, x_ifnull, x_ifnonnull, x_acmp_eq, x_acmp_ne, x_swl, x_tsw, x_castC, true_or, or_true, nr_z, ft_z, nr_z0, nr_z1, ft_z0, ft_z1, nr_on, nr_an, ft_on, ft_an, q1]
    refine ⟨fun y => hQ h (fun _ _ => rfl) (by rw [show n = k by omega] at w ⊢; exact w), fun y => ?_⟩
    have v : vp_in (nI k) n = True := eq_true (vp_in_nI (by omega) (by omega))
    simp only [q_c, x_iload, x_lload, x_aload, q_istore, q_lstore, q_astore, q_astore2, x_iinc, q_iadd, q_isub, q_imul, q_iand, q_ior, q_ixor, q_ladd, q_lsub, q_lmul, q_land, q_lor, q_lxor, q_idiv, q_irem, q_ldiv, q_lrem, q_ineg, q_lneg, q_ishl, q_ishr, q_iushr, q_lshl, q_lshr, q_lushr, q_i2l, q_l2i, q_i2b, q_i2c, q_lcmp, q_if_eq, q_if_ne, q_if_lt, q_if_ge, q_if_gt, q_if_le, q_icmp_eq, q_icmp_ne, q_icmp_lt, q_icmp_ge, q_icmp_gt, q_icmp_le, q_dup, q_pop, q_dup_x1, q_dup2, x_iret, x_zret, x_lret, x_aret, x_vret, x_call, x_callv, x_calli, x_oinit, x_mmax, x_mmin, x_mabs, x_mmaxL, x_mminL, x_mabsL, lg_cmp_ge, lg_cmp_le, lg_cmp_gt, lg_cmp_lt, lg_cmp_eq, xlk, q_xs1, q_xs2, lv_args, Value.category, List.filter_cons, List.filter_nil, Nat.reduceAdd, Nat.reduceBEq, Nat.reduceEqDiff, Nat.reduceSub, Nat.sub_zero, beq_self_eq_true, Bool.not_true, Bool.not_false, Bool.and_true, Bool.and_false, Bool.true_and, Bool.false_and, reduceIte, reduceCtorEq, Bool.false_eq_true, Nat.one_ne_zero, Nat.zero_ne_one, Nat.zero_add, Option.toList_some, Option.toList_none, List.nil_append, List.cons_append, List.take_succ_cons, List.take_zero, List.take_nil, List.drop_succ_cons, List.drop_zero, List.length_cons, List.length_nil, List.reverse_cons, List.reverse_nil, List.head?_cons, List.map_cons, List.map_nil, List.sum_cons, List.sum_nil, true_and, and_true, List.getElem?_cons_zero, List.getElem?_cons_succ, Prod.eta, x_iast, x_bald, x_bast, x_last, x_alen, xup_s, xup_a1, xup_1a, xup_uu, nr_i, nr_l, nr_o, nr_a, ft_i, ft_l, ft_o, ft_a, Nat.reduceLT, i_cl0, i_cl1, i_n1, i_m1, List.set_cons_zero, List.set_cons_succ, Nat.reduceLeDiff, Nat.le_refl, Nat.zero_le, Nat.add_zero, x_no, x_ifnull, x_ifnonnull, x_acmp_eq, x_acmp_ne, x_swl, x_tsw, x_castC, true_or, or_true, nr_z, ft_z, nr_z0, nr_z1, ft_z0, ft_z1, nr_on, nr_an, ft_on, ft_an, wo.g2, cl, v, wt.1, tk, y1]
    refine ⟨fun z => nxt (by omega) (same (by omega)), fun z => ?_⟩
    simp only [q_c, x_iload, x_lload, x_aload, q_istore, q_lstore, q_astore, q_astore2, x_iinc, q_iadd, q_isub, q_imul, q_iand, q_ior, q_ixor, q_ladd, q_lsub, q_lmul, q_land, q_lor, q_lxor, q_idiv, q_irem, q_ldiv, q_lrem, q_ineg, q_lneg, q_ishl, q_ishr, q_iushr, q_lshl, q_lshr, q_lushr, q_i2l, q_l2i, q_i2b, q_i2c, q_lcmp, q_if_eq, q_if_ne, q_if_lt, q_if_ge, q_if_gt, q_if_le, q_icmp_eq, q_icmp_ne, q_icmp_lt, q_icmp_ge, q_icmp_gt, q_icmp_le, q_dup, q_pop, q_dup_x1, q_dup2, x_iret, x_zret, x_lret, x_aret, x_vret, x_call, x_callv, x_calli, x_oinit, x_mmax, x_mmin, x_mabs, x_mmaxL, x_mminL, x_mabsL, lg_cmp_ge, lg_cmp_le, lg_cmp_gt, lg_cmp_lt, lg_cmp_eq, xlk, q_xs1, q_xs2, lv_args, Value.category, List.filter_cons, List.filter_nil, Nat.reduceAdd, Nat.reduceBEq, Nat.reduceEqDiff, Nat.reduceSub, Nat.sub_zero, beq_self_eq_true, Bool.not_true, Bool.not_false, Bool.and_true, Bool.and_false, Bool.true_and, Bool.false_and, reduceIte, reduceCtorEq, Bool.false_eq_true, Nat.one_ne_zero, Nat.zero_ne_one, Nat.zero_add, Option.toList_some, Option.toList_none, List.nil_append, List.cons_append, List.take_succ_cons, List.take_zero, List.take_nil, List.drop_succ_cons, List.drop_zero, List.length_cons, List.length_nil, List.reverse_cons, List.reverse_nil, List.head?_cons, List.map_cons, List.map_nil, List.sum_cons, List.sum_nil, true_and, and_true, List.getElem?_cons_zero, List.getElem?_cons_succ, Prod.eta, x_iast, x_bald, x_bast, x_last, x_alen, xup_s, xup_a1, xup_1a, xup_uu, nr_i, nr_l, nr_o, nr_a, ft_i, ft_l, ft_o, ft_a, Nat.reduceLT, i_cl0, i_cl1, i_n1, i_m1, List.set_cons_zero, List.set_cons_succ, Nat.reduceLeDiff, Nat.le_refl, Nat.zero_le, Nat.add_zero, x_no, x_ifnull, x_ifnonnull, x_acmp_eq, x_acmp_ne, x_swl, x_tsw, x_castC, true_or, or_true, nr_z, ft_z, nr_z0, nr_z1, ft_z0, ft_z1, nr_on, nr_an, ft_on, ft_an, wo.g2, cl, v, wt.1, tk, y2]
    refine ⟨fun u => nxt (by omega) (same (by omega)), fun u => ?_⟩
    have y3' := y3 (by omega) (by omega)
    have y4 := (yB_all ⟨t k + 32, by omega⟩).2.2.2.2
    dsimp only at y4
    have lb : lwB (t k) = t k + 32 := if_pos (by omega)
    have uq := lwT_u t k
    rw [lb] at uq
    simp only [q_c, x_iload, x_lload, x_aload, q_istore, q_lstore, q_astore, q_astore2, x_iinc, q_iadd, q_isub, q_imul, q_iand, q_ior, q_ixor, q_ladd, q_lsub, q_lmul, q_land, q_lor, q_lxor, q_idiv, q_irem, q_ldiv, q_lrem, q_ineg, q_lneg, q_ishl, q_ishr, q_iushr, q_lshl, q_lshr, q_lushr, q_i2l, q_l2i, q_i2b, q_i2c, q_lcmp, q_if_eq, q_if_ne, q_if_lt, q_if_ge, q_if_gt, q_if_le, q_icmp_eq, q_icmp_ne, q_icmp_lt, q_icmp_ge, q_icmp_gt, q_icmp_le, q_dup, q_pop, q_dup_x1, q_dup2, x_iret, x_zret, x_lret, x_aret, x_vret, x_call, x_callv, x_calli, x_oinit, x_mmax, x_mmin, x_mabs, x_mmaxL, x_mminL, x_mabsL, lg_cmp_ge, lg_cmp_le, lg_cmp_gt, lg_cmp_lt, lg_cmp_eq, xlk, q_xs1, q_xs2, lv_args, Value.category, List.filter_cons, List.filter_nil, Nat.reduceAdd, Nat.reduceBEq, Nat.reduceEqDiff, Nat.reduceSub, Nat.sub_zero, beq_self_eq_true, Bool.not_true, Bool.not_false, Bool.and_true, Bool.and_false, Bool.true_and, Bool.false_and, reduceIte, reduceCtorEq, Bool.false_eq_true, Nat.one_ne_zero, Nat.zero_ne_one, Nat.zero_add, Option.toList_some, Option.toList_none, List.nil_append, List.cons_append, List.take_succ_cons, List.take_zero, List.take_nil, List.drop_succ_cons, List.drop_zero, List.length_cons, List.length_nil, List.reverse_cons, List.reverse_nil, List.head?_cons, List.map_cons, List.map_nil, List.sum_cons, List.sum_nil, true_and, and_true, List.getElem?_cons_zero, List.getElem?_cons_succ, Prod.eta, x_iast, x_bald, x_bast, x_last, x_alen, xup_s, xup_a1, xup_1a, xup_uu, nr_i, nr_l, nr_o, nr_a, ft_i, ft_l, ft_o, ft_a, Nat.reduceLT, i_cl0, i_cl1, i_n1, i_m1, List.set_cons_zero, List.set_cons_succ, Nat.reduceLeDiff, Nat.le_refl, Nat.zero_le, Nat.add_zero, x_no, x_ifnull, x_ifnonnull, x_acmp_eq, x_acmp_ne, x_swl, x_tsw, x_castC, true_or, or_true, nr_z, ft_z, nr_z0, nr_z1, ft_z0, ft_z1, nr_on, nr_an, ft_on, ft_an, wo.g2, cl, v, wt.1, tk, y3', y4, yB_up, uq]
    rw [← hJ]
    simp only [q_c, x_iload, x_lload, x_aload, q_istore, q_lstore, q_astore, q_astore2, x_iinc, q_iadd, q_isub, q_imul, q_iand, q_ior, q_ixor, q_ladd, q_lsub, q_lmul, q_land, q_lor, q_lxor, q_idiv, q_irem, q_ldiv, q_lrem, q_ineg, q_lneg, q_ishl, q_ishr, q_iushr, q_lshl, q_lshr, q_lushr, q_i2l, q_l2i, q_i2b, q_i2c, q_lcmp, q_if_eq, q_if_ne, q_if_lt, q_if_ge, q_if_gt, q_if_le, q_icmp_eq, q_icmp_ne, q_icmp_lt, q_icmp_ge, q_icmp_gt, q_icmp_le, q_dup, q_pop, q_dup_x1, q_dup2, x_iret, x_zret, x_lret, x_aret, x_vret, x_call, x_callv, x_calli, x_oinit, x_mmax, x_mmin, x_mabs, x_mmaxL, x_mminL, x_mabsL, lg_cmp_ge, lg_cmp_le, lg_cmp_gt, lg_cmp_lt, lg_cmp_eq, xlk, q_xs1, q_xs2, lv_args, Value.category, List.filter_cons, List.filter_nil, Nat.reduceAdd, Nat.reduceBEq, Nat.reduceEqDiff, Nat.reduceSub, Nat.sub_zero, beq_self_eq_true, Bool.not_true, Bool.not_false, Bool.and_true, Bool.and_false, Bool.true_and, Bool.false_and, reduceIte, reduceCtorEq, Bool.false_eq_true, Nat.one_ne_zero, Nat.zero_ne_one, Nat.zero_add, Option.toList_some, Option.toList_none, List.nil_append, List.cons_append, List.take_succ_cons, List.take_zero, List.take_nil, List.drop_succ_cons, List.drop_zero, List.length_cons, List.length_nil, List.reverse_cons, List.reverse_nil, List.head?_cons, List.map_cons, List.map_nil, List.sum_cons, List.sum_nil, true_and, and_true, List.getElem?_cons_zero, List.getElem?_cons_succ, Prod.eta, x_iast, x_bald, x_bast, x_last, x_alen, xup_s, xup_a1, xup_1a, xup_uu, nr_i, nr_l, nr_o, nr_a, ft_i, ft_l, ft_o, ft_a, Nat.reduceLT, i_cl0, i_cl1, i_n1, i_m1, List.set_cons_zero, List.set_cons_succ, Nat.reduceLeDiff, Nat.le_refl, Nat.zero_le, Nat.add_zero, x_no, x_ifnull, x_ifnonnull, x_acmp_eq, x_acmp_ne, x_swl, x_tsw, x_castC, true_or, or_true, nr_z, ft_z, nr_z0, nr_z1, ft_z0, ft_z1, nr_on, nr_an, ft_on, ft_an, b_X7_lower_58, e1]
    rw [← hK]
    refine xInvL.mk (n - (k + 1)) (x, n, k + 1) (by omega) ⟨rfl, rfl, rfl, trivial⟩ ⟨tx, p, g, bh, fi, op, t, rfl, by omega, tl, ⟨(xup_n (by omega)).trans wo, ⟨xup_s, nb, fun i => lwT_v tl _ i⟩, wp, wx⟩, fun h' o' w' => hQ h' (fun q d => (o' q d).trans (xup_n d)) w'⟩
  · rintro av ⟨h, S2⟩ Q ⟨x, tx, p, g, bh, fi, op, n, t, rfl, w, hQ⟩
    dsimp only at *
    refine ⟨Nat.le_of_ble_eq_true rfl, ?_⟩
    obtain ⟨wo, wt, wp, wx⟩ := id w
    generalize hK : xInv cn_X7_lower (I_X7_lower Q) = K
    simp only [q_c, x_iload, x_lload, x_aload, q_istore, q_lstore, q_astore, q_astore2, x_iinc, q_iadd, q_isub, q_imul, q_iand, q_ior, q_ixor, q_ladd, q_lsub, q_lmul, q_land, q_lor, q_lxor, q_idiv, q_irem, q_ldiv, q_lrem, q_ineg, q_lneg, q_ishl, q_ishr, q_iushr, q_lshl, q_lshr, q_lushr, q_i2l, q_l2i, q_i2b, q_i2c, q_lcmp, q_if_eq, q_if_ne, q_if_lt, q_if_ge, q_if_gt, q_if_le, q_icmp_eq, q_icmp_ne, q_icmp_lt, q_icmp_ge, q_icmp_gt, q_icmp_le, q_dup, q_pop, q_dup_x1, q_dup2, x_iret, x_zret, x_lret, x_aret, x_vret, x_call, x_callv, x_calli, x_oinit, x_mmax, x_mmin, x_mabs, x_mmaxL, x_mminL, x_mabsL, lg_cmp_ge, lg_cmp_le, lg_cmp_gt, lg_cmp_lt, lg_cmp_eq, xlk, q_xs1, q_xs2, lv_args, Value.category, List.filter_cons, List.filter_nil, Nat.reduceAdd, Nat.reduceBEq, Nat.reduceEqDiff, Nat.reduceSub, Nat.sub_zero, beq_self_eq_true, Bool.not_true, Bool.not_false, Bool.and_true, Bool.and_false, Bool.true_and, Bool.false_and, reduceIte, reduceCtorEq, Bool.false_eq_true, Nat.one_ne_zero, Nat.zero_ne_one, Nat.zero_add, Option.toList_some, Option.toList_none, List.nil_append, List.cons_append, List.take_succ_cons, List.take_zero, List.take_nil, List.drop_succ_cons, List.drop_zero, List.length_cons, List.length_nil, List.reverse_cons, List.reverse_nil, List.head?_cons, List.map_cons, List.map_nil, List.sum_cons, List.sum_nil, true_and, and_true, List.getElem?_cons_zero, List.getElem?_cons_succ, Prod.eta, x_iast, x_bald, x_bast, x_last, x_alen, xup_s, xup_a1, xup_1a, xup_uu, nr_i, nr_l, nr_o, nr_a, ft_i, ft_l, ft_o, ft_a, Nat.reduceLT, i_cl0, i_cl1, i_n1, i_m1, List.set_cons_zero, List.set_cons_succ, Nat.reduceLeDiff, Nat.le_refl, Nat.zero_le, Nat.add_zero, x_no, x_ifnull, x_ifnonnull, x_acmp_eq, x_acmp_ne, x_swl, x_tsw, x_castC, true_or, or_true, nr_z, ft_z, nr_z0, nr_z1, ft_z0, ft_z1, nr_on, nr_an, ft_on, ft_an, b_X7_lower_0, b_X7_lower_16, wo.g2, wt.1]
    rw [← hK]
    exact xInv.mk n (x, n, 0) ⟨rfl, rfl, rfl, trivial⟩ ⟨tx, p, g, bh, fi, op, t, rfl, by omega, wt.2.2, by rw [lwT_0]; exact w, hQ⟩
theorem dX7_skipBlanks_0 : decode cX7_skipBlanks 0 = .ok (.aload_n 0, 1) := by decide +kernel
theorem dX7_skipBlanks_1 : decode cX7_skipBlanks 1 = .ok (.getfield 19, 3) := by decide +kernel
theorem dX7_skipBlanks_4 : decode cX7_skipBlanks 4 = .ok (.ifnonnull 7, 3) := by decide +kernel
theorem dX7_skipBlanks_7 : decode cX7_skipBlanks 7 = .ok (.iconst 0, 1) := by decide +kernel
theorem dX7_skipBlanks_8 : decode cX7_skipBlanks 8 = .ok (.goto 8, 3) := by decide +kernel
theorem dX7_skipBlanks_11 : decode cX7_skipBlanks 11 = .ok (.aload_n 0, 1) := by decide +kernel
theorem dX7_skipBlanks_12 : decode cX7_skipBlanks 12 = .ok (.getfield 19, 3) := by decide +kernel
theorem dX7_skipBlanks_15 : decode cX7_skipBlanks 15 = .ok (.arraylength, 1) := by decide +kernel
theorem dX7_skipBlanks_16 : decode cX7_skipBlanks 16 = .ok (.istore_n 1, 1) := by decide +kernel
theorem dX7_skipBlanks_17 : decode cX7_skipBlanks 17 = .ok (.aload_n 0, 1) := by decide +kernel
theorem dX7_skipBlanks_18 : decode cX7_skipBlanks 18 = .ok (.getfield 23, 3) := by decide +kernel
theorem dX7_skipBlanks_21 : decode cX7_skipBlanks 21 = .ok (.iload_n 1, 1) := by decide +kernel
theorem dX7_skipBlanks_22 : decode cX7_skipBlanks 22 = .ok (.if_icmp .ge 44, 3) := by decide +kernel
theorem dX7_skipBlanks_25 : decode cX7_skipBlanks 25 = .ok (.aload_n 0, 1) := by decide +kernel
theorem dX7_skipBlanks_26 : decode cX7_skipBlanks 26 = .ok (.getfield 19, 3) := by decide +kernel
theorem dX7_skipBlanks_29 : decode cX7_skipBlanks 29 = .ok (.aload_n 0, 1) := by decide +kernel
theorem dX7_skipBlanks_30 : decode cX7_skipBlanks 30 = .ok (.getfield 23, 3) := by decide +kernel
theorem dX7_skipBlanks_33 : decode cX7_skipBlanks 33 = .ok (.baload, 1) := by decide +kernel
theorem dX7_skipBlanks_34 : decode cX7_skipBlanks 34 = .ok (.bipush 32, 2) := by decide +kernel
theorem dX7_skipBlanks_36 : decode cX7_skipBlanks 36 = .ok (.if_icmp .eq 17, 3) := by decide +kernel
theorem dX7_skipBlanks_39 : decode cX7_skipBlanks 39 = .ok (.aload_n 0, 1) := by decide +kernel
theorem dX7_skipBlanks_40 : decode cX7_skipBlanks 40 = .ok (.getfield 19, 3) := by decide +kernel
theorem dX7_skipBlanks_43 : decode cX7_skipBlanks 43 = .ok (.aload_n 0, 1) := by decide +kernel
theorem dX7_skipBlanks_44 : decode cX7_skipBlanks 44 = .ok (.getfield 23, 3) := by decide +kernel
theorem dX7_skipBlanks_47 : decode cX7_skipBlanks 47 = .ok (.baload, 1) := by decide +kernel
theorem dX7_skipBlanks_48 : decode cX7_skipBlanks 48 = .ok (.bipush 9, 2) := by decide +kernel
theorem dX7_skipBlanks_50 : decode cX7_skipBlanks 50 = .ok (.if_icmp .ne 16, 3) := by decide +kernel
theorem dX7_skipBlanks_53 : decode cX7_skipBlanks 53 = .ok (.aload_n 0, 1) := by decide +kernel
theorem dX7_skipBlanks_54 : decode cX7_skipBlanks 54 = .ok (.dup, 1) := by decide +kernel
theorem dX7_skipBlanks_55 : decode cX7_skipBlanks 55 = .ok (.getfield 23, 3) := by decide +kernel
theorem dX7_skipBlanks_58 : decode cX7_skipBlanks 58 = .ok (.iconst 1, 1) := by decide +kernel
theorem dX7_skipBlanks_59 : decode cX7_skipBlanks 59 = .ok (.iadd, 1) := by decide +kernel
theorem dX7_skipBlanks_60 : decode cX7_skipBlanks 60 = .ok (.putfield 23, 3) := by decide +kernel
theorem dX7_skipBlanks_63 : decode cX7_skipBlanks 63 = .ok (.goto (-46), 3) := by decide +kernel
theorem dX7_skipBlanks_66 : decode cX7_skipBlanks 66 = .ok (.return_, 1) := by decide +kernel
abbrev r_X7_skipBlanks : Room := { frames := 0, cells := 0, slots := 0, locals := 0 }
abbrev m_X7_skipBlanks : xMd := (cX7_skipBlanks, RX7, 2, none, false, r_X7_skipBlanks)
def b_X7_skipBlanks_16 (Q : xQ) (K17 : xK) : xK := x_istore 1 <| K17
def b_X7_skipBlanks_53 (Q : xQ) (K17 : xK) : xK := x_aload 0 <| x_dup <| x_get 6 3 <| x_c (.int 1) <| x_iadd <| x_put 6 3 .int <| K17
def b_X7_skipBlanks_66 (Q : xQ) (K17 : xK) : xK := x_vret Q
def b_X7_skipBlanks_0 (Q : xQ) (K17 : xK) : xK := x_aload 0 <| x_get 6 2 <| x_ifnonnull (x_aload 0 <| x_get 6 2 <| x_alen <| (b_X7_skipBlanks_16 Q K17)) <| x_c (.int 0) <| (b_X7_skipBlanks_16 Q K17)
def b_X7_skipBlanks_17 (Q : xQ) (K17 : xK) : xK := x_aload 0 <| x_get 6 3 <| x_iload 1 <| x_icmp_ge ((b_X7_skipBlanks_66 Q K17)) <| x_aload 0 <| x_get 6 2 <| x_aload 0 <| x_get 6 3 <| x_bald <| x_c (.int 32) <| x_icmp_eq ((b_X7_skipBlanks_53 Q K17)) <| x_aload 0 <| x_get 6 2 <| x_aload 0 <| x_get 6 3 <| x_bald <| x_c (.int 9) <| x_icmp_ne ((b_X7_skipBlanks_66 Q K17)) <| (b_X7_skipBlanks_53 Q K17)
theorem s_X7_skipBlanks_16 (G : xG) (l : Launch) (Q : xQ) (K17 : xK) (h17 : xW G l m_X7_skipBlanks xX0 (xPm G Q r_X7_skipBlanks) 17 K17) : xW G l m_X7_skipBlanks xX0 (xPm G Q r_X7_skipBlanks) 16 (b_X7_skipBlanks_16 Q K17) := xo_istore_n (pc := 16) (i := 1) dX7_skipBlanks_16 rfl (by decide) <| h17
theorem s_X7_skipBlanks_53 (G : xG) (l : Launch) (Q : xQ) (K17 : xK) (h17 : xW G l m_X7_skipBlanks xX0 (xPm G Q r_X7_skipBlanks) 17 K17) : xW G l m_X7_skipBlanks xX0 (xPm G Q r_X7_skipBlanks) 53 (b_X7_skipBlanks_53 Q K17) := xo_aload_n (pc := 53) (i := 0) dX7_skipBlanks_53 rfl <| xo_dup (pc := 54) dX7_skipBlanks_54 <| xo_get (pc := 55) (ci := 6) (i := 3) rfl ok6 (by decide) dX7_skipBlanks_55 kw217 <| xo_iconst (pc := 58) dX7_skipBlanks_58 (by decide) <| xo_iadd (pc := 59) dX7_skipBlanks_59 <| xo_put (pc := 60) (ci := 6) (i := 3) rfl ok6 (by decide) rfl rfl dX7_skipBlanks_60 kw217 <| xo_goto (pc := 63) (tgt := 17) dX7_skipBlanks_63 (by decide) <| h17
theorem s_X7_skipBlanks_66 (G : xG) (l : Launch) (Q : xQ) (K17 : xK) (h17 : xW G l m_X7_skipBlanks xX0 (xPm G Q r_X7_skipBlanks) 17 K17) : xW G l m_X7_skipBlanks xX0 (xPm G Q r_X7_skipBlanks) 66 (b_X7_skipBlanks_66 Q K17) := xo_vret (pc := 66) rfl dX7_skipBlanks_66
theorem s_X7_skipBlanks_0 (G : xG) (l : Launch) (Q : xQ) (K17 : xK) (h17 : xW G l m_X7_skipBlanks xX0 (xPm G Q r_X7_skipBlanks) 17 K17) : xW G l m_X7_skipBlanks xX0 (xPm G Q r_X7_skipBlanks) 0 (b_X7_skipBlanks_0 Q K17) := xo_aload_n (pc := 0) (i := 0) dX7_skipBlanks_0 rfl <| xo_get (pc := 1) (ci := 6) (i := 2) rfl ok6 (by decide) dX7_skipBlanks_1 kw216 <| xo_ifnonnull (pc := 4) (tgt := 11) dX7_skipBlanks_4 (by decide) (xo_aload_n (pc := 11) (i := 0) dX7_skipBlanks_11 rfl <| xo_get (pc := 12) (ci := 6) (i := 2) rfl ok6 (by decide) dX7_skipBlanks_12 kw216 <| xo_alen (pc := 15) dX7_skipBlanks_15 <| (s_X7_skipBlanks_16 G l Q K17 h17)) <| xo_iconst (pc := 7) dX7_skipBlanks_7 (by decide) <| xo_goto (pc := 8) (tgt := 16) dX7_skipBlanks_8 (by decide) <| (s_X7_skipBlanks_16 G l Q K17 h17)
theorem s_X7_skipBlanks_17 (G : xG) (l : Launch) (Q : xQ) (K17 : xK) (h17 : xW G l m_X7_skipBlanks xX0 (xPm G Q r_X7_skipBlanks) 17 K17) : xW G l m_X7_skipBlanks xX0 (xPm G Q r_X7_skipBlanks) 17 (b_X7_skipBlanks_17 Q K17) := xo_aload_n (pc := 17) (i := 0) dX7_skipBlanks_17 rfl <| xo_get (pc := 18) (ci := 6) (i := 3) rfl ok6 (by decide) dX7_skipBlanks_18 kw217 <| xo_iload_n (pc := 21) (i := 1) dX7_skipBlanks_21 rfl <| xo_icmp_ge (pc := 22) (tgt := 66) dX7_skipBlanks_22 (by decide) ((s_X7_skipBlanks_66 G l Q K17 h17)) <| xo_aload_n (pc := 25) (i := 0) dX7_skipBlanks_25 rfl <| xo_get (pc := 26) (ci := 6) (i := 2) rfl ok6 (by decide) dX7_skipBlanks_26 kw216 <| xo_aload_n (pc := 29) (i := 0) dX7_skipBlanks_29 rfl <| xo_get (pc := 30) (ci := 6) (i := 3) rfl ok6 (by decide) dX7_skipBlanks_30 kw217 <| xo_bald (pc := 33) dX7_skipBlanks_33 <| xo_bipush (pc := 34) dX7_skipBlanks_34 (by decide) <| xo_icmp_eq (pc := 36) (tgt := 53) dX7_skipBlanks_36 (by decide) ((s_X7_skipBlanks_53 G l Q K17 h17)) <| xo_aload_n (pc := 39) (i := 0) dX7_skipBlanks_39 rfl <| xo_get (pc := 40) (ci := 6) (i := 2) rfl ok6 (by decide) dX7_skipBlanks_40 kw216 <| xo_aload_n (pc := 43) (i := 0) dX7_skipBlanks_43 rfl <| xo_get (pc := 44) (ci := 6) (i := 3) rfl ok6 (by decide) dX7_skipBlanks_44 kw217 <| xo_bald (pc := 47) dX7_skipBlanks_47 <| xo_bipush (pc := 48) dX7_skipBlanks_48 (by decide) <| xo_icmp_ne (pc := 50) (tgt := 66) dX7_skipBlanks_50 (by decide) ((s_X7_skipBlanks_66 G l Q K17 h17)) <| (s_X7_skipBlanks_53 G l Q K17 h17)

def cn_X7_skipBlanks : Nat × Nat → List (Nat × Value) := fun v => [(0, .ref (v.1 + 38)), (1, .int (nI v.2))]
def I_X7_skipBlanks (Q : xQ) : Nat → Nat × Nat → xS → Prop := fun m v S => match v with
  | (x, n) => ∃ (tx p g : Nat) (bh : Int) (fi op : Bool) (t : Nat → Nat), m = n - p ∧ rdW S.1 x tx p g bh fi op n t ∧ ∀ h', fR h' S.1 x → rdW h' x tx (lT t n (n - p)) g bh fi op n t → Q none (h', S.2)
def C_X7_skipBlanks : xC := fun av S Q => ∃ (x tx p g : Nat) (bh : Int) (fi op : Bool) (n : Nat) (t : Nat → Nat), av = [.ref (x + 38)] ∧ rdW S.1 x tx p g bh fi op n t ∧ ∀ h', fR h' S.1 x → rdW h' x tx (lT t n (n - p)) g bh fi op n t → Q none (h', S.2)
theorem cM_X7_skipBlanks (G : xG) (l : Launch) : xM G l yX7_skipBlanks cX7_skipBlanks 2 none r_X7_skipBlanks C_X7_skipBlanks := by
  refine xM_of (fun Q => b_X7_skipBlanks_0 Q (xInv cn_X7_skipBlanks (I_X7_skipBlanks Q))) RX7 false (fun Q => s_X7_skipBlanks_0 G l Q _ (xW.lp (b_X7_skipBlanks_17 Q) (fun K hK => s_X7_skipBlanks_17 G l Q K hK) ?_)) (by decide) rfl (by decide) ?_
  · rintro m ⟨x, n⟩ ⟨h, S2⟩ ⟨tx, p, g, bh, fi, op, t, rfl, w, hQ⟩
    dsimp only at *
    have c1 : cn_X7_skipBlanks (x, n) = [(0, .ref (x + 38)), (1, .int (nI n))] := rfl
    rw [c1]
    obtain ⟨wo, wt, wp, wx⟩ := id w
    have nb := wt.2.1
    have q1 : nI n ≤ nI p ↔ n ≤ p := nc_le (by omega) (by omega)
    have cl := m_cl (n := p) (by omega)
    have e1 : nI p + 1 = nI (p + 1) := nI_1 p
    have q32 : yB (t p) = 32 ↔ t p = 32 := yB_e (wt.2.2 p) (by decide : 32 < 128)
    have q9 : yB (t p) = 9 ↔ t p = 9 := yB_e (wt.2.2 p) (by decide : 9 < 128)
    generalize hK : xInvL cn_X7_skipBlanks (I_X7_skipBlanks Q) (n - p) = K
    have lt : p < n → lT t n (n - p) = if blB (t p) = true then lT t n (n - (p + 1)) else p := by
      intro y
      obtain ⟨k, hk⟩ : ∃ k, n - p = k + 1 := ⟨n - p - 1, by omega⟩
      rw [hk, show n - (p + 1) = k by omega, lT, show n - (k + 1) = p by omega]
    have nxt : p < n → blB (t p) = true → b_X7_skipBlanks_53 Q K [(0, .ref (x + 38)), (1, .int (nI n))] [] (h, S2) := by
      intro y z
      rw [lt y, if_pos z] at hQ
      simp only [q_c, x_iload, x_lload, x_aload, q_istore, q_lstore, q_astore, q_astore2, x_iinc, q_iadd, q_isub, q_imul, q_iand, q_ior, q_ixor, q_ladd, q_lsub, q_lmul, q_land, q_lor, q_lxor, q_idiv, q_irem, q_ldiv, q_lrem, q_ineg, q_lneg, q_ishl, q_ishr, q_iushr, q_lshl, q_lshr, q_lushr, q_i2l, q_l2i, q_i2b, q_i2c, q_lcmp, q_if_eq, q_if_ne, q_if_lt, q_if_ge, q_if_gt, q_if_le, q_icmp_eq, q_icmp_ne, q_icmp_lt, q_icmp_ge, q_icmp_gt, q_icmp_le, q_dup, q_pop, q_dup_x1, q_dup2, x_iret, x_zret, x_lret, x_aret, x_vret, x_call, x_callv, x_calli, x_oinit, x_mmax, x_mmin, x_mabs, x_mmaxL, x_mminL, x_mabsL, lg_cmp_ge, lg_cmp_le, lg_cmp_gt, lg_cmp_lt, lg_cmp_eq, xlk, q_xs1, q_xs2, lv_args, Value.category, List.filter_cons, List.filter_nil, Nat.reduceAdd, Nat.reduceBEq, Nat.reduceEqDiff, Nat.reduceSub, Nat.sub_zero, beq_self_eq_true, Bool.not_true, Bool.not_false, Bool.and_true, Bool.and_false, Bool.true_and, Bool.false_and, reduceIte, reduceCtorEq, Bool.false_eq_true, Nat.one_ne_zero, Nat.zero_ne_one, Nat.zero_add, Option.toList_some, Option.toList_none, List.nil_append, List.cons_append, List.take_succ_cons, List.take_zero, List.take_nil, List.drop_succ_cons, List.drop_zero, List.length_cons, List.length_nil, List.reverse_cons, List.reverse_nil, List.head?_cons, List.map_cons, List.map_nil, List.sum_cons, List.sum_nil, true_and, and_true, List.getElem?_cons_zero, List.getElem?_cons_succ, Prod.eta, x_iast, x_bald, x_bast, x_last, x_alen, xup_s, xup_a1, xup_1a, xup_uu, nr_i, nr_l, nr_o, nr_a, ft_i, ft_l, ft_o, ft_a, Nat.reduceLT, i_cl0, i_cl1, i_n1, i_m1, List.set_cons_zero, List.set_cons_succ, Nat.reduceLeDiff, Nat.le_refl, Nat.zero_le, Nat.add_zero, x_no, x_ifnull, x_ifnonnull, x_acmp_eq, x_acmp_ne, x_swl, x_tsw, x_castC, true_or, or_true, nr_z, ft_z, nr_z0, nr_z1, ft_z0, ft_z1, nr_on, nr_an, ft_on, ft_an, b_X7_skipBlanks_53, wo.g3, wo.p3, e1]
      rw [← hK]
      exact xInvL.mk (n - (p + 1)) (x, n) (by omega) ⟨rfl, rfl, trivial⟩ ⟨tx, p + 1, g, bh, fi, op, t, rfl, w.up (by omega), fun h' f' w' => hQ h' (xoff_tr f' off1) w'⟩
    unfold b_X7_skipBlanks_17 b_X7_skipBlanks_66
    generalize b_X7_skipBlanks_53 Q K = J at *
    simp only [q_c, x_iload, x_lload, x_aload, q_istore, q_lstore, q_astore, q_astore2, x_iinc, q_iadd, q_isub, q_imul, q_iand, q_ior, q_ixor, q_ladd, q_lsub, q_lmul, q_land, q_lor, q_lxor, q_idiv, q_irem, q_ldiv, q_lrem, q_ineg, q_lneg, q_ishl, q_ishr, q_iushr, q_lshl, q_lshr, q_lushr, q_i2l, q_l2i, q_i2b, q_i2c, q_lcmp, q_if_eq, q_if_ne, q_if_lt, q_if_ge, q_if_gt, q_if_le, q_icmp_eq, q_icmp_ne, q_icmp_lt, q_icmp_ge, q_icmp_gt, q_icmp_le, q_dup, q_pop, q_dup_x1, q_dup2, x_iret, x_zret, x_lret, x_aret, x_vret, x_call, x_callv, x_calli, x_oinit, x_mmax, x_mmin, x_mabs, x_mmaxL, x_mminL, x_mabsL, lg_cmp_ge, lg_cmp_le, lg_cmp_gt, lg_cmp_lt, lg_cmp_eq, xlk, q_xs1, q_xs2, lv_args, Value.category, List.filter_cons, List.filter_nil, Nat.reduceAdd, Nat.reduceBEq, Nat.reduceEqDiff, Nat.reduceSub, Nat.sub_zero, beq_self_eq_true, Bool.not_true, Bool.not_false, Bool.and_true, Bool.and_false, Bool.true_and, Bool.false_and, reduceIte, reduceCtorEq, Bool.false_eq_true, Nat.one_ne_zero, Nat.zero_ne_one, Nat.zero_add, Option.toList_some, Option.toList_none, List.nil_append, List.cons_append, List.take_succ_cons, List.take_zero, List.take_nil, List.drop_succ_cons, List.drop_zero, List.length_cons, List.length_nil, List.reverse_cons, List.reverse_nil, List.head?_cons, List.map_cons, List.map_nil, List.sum_cons, List.sum_nil, true_and, and_true, List.getElem?_cons_zero, List.getElem?_cons_succ, Prod.eta, x_iast, x_bald, x_bast, x_last, x_alen, xup_s, xup_a1, xup_1a, xup_uu, nr_i, nr_l, nr_o, nr_a, ft_i, ft_l, ft_o, ft_a, Nat.reduceLT, i_cl0, i_cl1, i_n1, i_m1, List.set_cons_zero, List.set_cons_succ, Nat.reduceLeDiff, Nat.le_refl, Nat.zero_le, Nat.add_zero, x_no, x_ifnull, x_ifnonnull, x_acmp_eq, x_acmp_ne, x_swl, x_tsw, x_castC, true_or, or_true, nr_z, ft_z, nr_z0, nr_z1, ft_z0, ft_z1, nr_on, nr_an, ft_on, ft_an, wo.g3, q1]
    refine ⟨fun y => hQ h xoff_rf (by rw [show n - p = 0 by omega]; show rdW h x tx n g bh fi op n t; rw [show n = p by omega] at w ⊢; exact w), fun y => ?_⟩
    have v : vp_in (nI p) n = True := eq_true (vp_in_nI (by omega) (by omega))
    simp only [q_c, x_iload, x_lload, x_aload, q_istore, q_lstore, q_astore, q_astore2, x_iinc, q_iadd, q_isub, q_imul, q_iand, q_ior, q_ixor, q_ladd, q_lsub, q_lmul, q_land, q_lor, q_lxor, q_idiv, q_irem, q_ldiv, q_lrem, q_ineg, q_lneg, q_ishl, q_ishr, q_iushr, q_lshl, q_lshr, q_lushr, q_i2l, q_l2i, q_i2b, q_i2c, q_lcmp, q_if_eq, q_if_ne, q_if_lt, q_if_ge, q_if_gt, q_if_le, q_icmp_eq, q_icmp_ne, q_icmp_lt, q_icmp_ge, q_icmp_gt, q_icmp_le, q_dup, q_pop, q_dup_x1, q_dup2, x_iret, x_zret, x_lret, x_aret, x_vret, x_call, x_callv, x_calli, x_oinit, x_mmax, x_mmin, x_mabs, x_mmaxL, x_mminL, x_mabsL, lg_cmp_ge, lg_cmp_le, lg_cmp_gt, lg_cmp_lt, lg_cmp_eq, xlk, q_xs1, q_xs2, lv_args, Value.category, List.filter_cons, List.filter_nil, Nat.reduceAdd, Nat.reduceBEq, Nat.reduceEqDiff, Nat.reduceSub, Nat.sub_zero, beq_self_eq_true, Bool.not_true, Bool.not_false, Bool.and_true, Bool.and_false, Bool.true_and, Bool.false_and, reduceIte, reduceCtorEq, Bool.false_eq_true, Nat.one_ne_zero, Nat.zero_ne_one, Nat.zero_add, Option.toList_some, Option.toList_none, List.nil_append, List.cons_append, List.take_succ_cons, List.take_zero, List.take_nil, List.drop_succ_cons, List.drop_zero, List.length_cons, List.length_nil, List.reverse_cons, List.reverse_nil, List.head?_cons, List.map_cons, List.map_nil, List.sum_cons, List.sum_nil, true_and, and_true, List.getElem?_cons_zero, List.getElem?_cons_succ, Prod.eta, x_iast, x_bald, x_bast, x_last, x_alen, xup_s, xup_a1, xup_1a, xup_uu, nr_i, nr_l, nr_o, nr_a, ft_i, ft_l, ft_o, ft_a, Nat.reduceLT, i_cl0, i_cl1, i_n1, i_m1, List.set_cons_zero, List.set_cons_succ, Nat.reduceLeDiff, Nat.le_refl, Nat.zero_le, Nat.add_zero, x_no, x_ifnull, x_ifnonnull, x_acmp_eq, x_acmp_ne, x_swl, x_tsw, x_castC, true_or, or_true, nr_z, ft_z, nr_z0, nr_z1, ft_z0, ft_z1, nr_on, nr_an, ft_on, ft_an, wo.g2, wo.g3, cl, v, wt.1, q32]
    refine ⟨fun z => nxt (by omega) (decide_eq_true (Or.inl z)), fun z => ?_⟩
    simp only [q_c, x_iload, x_lload, x_aload, q_istore, q_lstore, q_astore, q_astore2, x_iinc, q_iadd, q_isub, q_imul, q_iand, q_ior, q_ixor, q_ladd, q_lsub, q_lmul, q_land, q_lor, q_lxor, q_idiv, q_irem, q_ldiv, q_lrem, q_ineg, q_lneg, q_ishl, q_ishr, q_iushr, q_lshl, q_lshr, q_lushr, q_i2l, q_l2i, q_i2b, q_i2c, q_lcmp, q_if_eq, q_if_ne, q_if_lt, q_if_ge, q_if_gt, q_if_le, q_icmp_eq, q_icmp_ne, q_icmp_lt, q_icmp_ge, q_icmp_gt, q_icmp_le, q_dup, q_pop, q_dup_x1, q_dup2, x_iret, x_zret, x_lret, x_aret, x_vret, x_call, x_callv, x_calli, x_oinit, x_mmax, x_mmin, x_mabs, x_mmaxL, x_mminL, x_mabsL, lg_cmp_ge, lg_cmp_le, lg_cmp_gt, lg_cmp_lt, lg_cmp_eq, xlk, q_xs1, q_xs2, lv_args, Value.category, List.filter_cons, List.filter_nil, Nat.reduceAdd, Nat.reduceBEq, Nat.reduceEqDiff, Nat.reduceSub, Nat.sub_zero, beq_self_eq_true, Bool.not_true, Bool.not_false, Bool.and_true, Bool.and_false, Bool.true_and, Bool.false_and, reduceIte, reduceCtorEq, Bool.false_eq_true, Nat.one_ne_zero, Nat.zero_ne_one, Nat.zero_add, Option.toList_some, Option.toList_none, List.nil_append, List.cons_append, List.take_succ_cons, List.take_zero, List.take_nil, List.drop_succ_cons, List.drop_zero, List.length_cons, List.length_nil, List.reverse_cons, List.reverse_nil, List.head?_cons, List.map_cons, List.map_nil, List.sum_cons, List.sum_nil, true_and, and_true, List.getElem?_cons_zero, List.getElem?_cons_succ, Prod.eta, x_iast, x_bald, x_bast, x_last, x_alen, xup_s, xup_a1, xup_1a, xup_uu, nr_i, nr_l, nr_o, nr_a, ft_i, ft_l, ft_o, ft_a, Nat.reduceLT, i_cl0, i_cl1, i_n1, i_m1, List.set_cons_zero, List.set_cons_succ, Nat.reduceLeDiff, Nat.le_refl, Nat.zero_le, Nat.add_zero, x_no, x_ifnull, x_ifnonnull, x_acmp_eq, x_acmp_ne, x_swl, x_tsw, x_castC, true_or, or_true, nr_z, ft_z, nr_z0, nr_z1, ft_z0, ft_z1, nr_on, nr_an, ft_on, ft_an, wo.g2, wo.g3, cl, v, wt.1, q9]
    refine ⟨fun u => ?_, fun u => nxt (by omega) (decide_eq_true (Or.inr u))⟩
    rw [lt (by omega), if_neg (by rw [show blB (t p) = false from decide_eq_false (by omega)]; decide)] at hQ
    exact hQ h xoff_rf w
  · rintro av ⟨h, S2⟩ Q ⟨x, tx, p, g, bh, fi, op, n, t, rfl, w, hQ⟩
    dsimp only at *
    refine ⟨Nat.le_of_ble_eq_true rfl, ?_⟩
    obtain ⟨wo, wt, wp, wx⟩ := id w
    generalize hK : xInv cn_X7_skipBlanks (I_X7_skipBlanks Q) = K
    simp only [q_c, x_iload, x_lload, x_aload, q_istore, q_lstore, q_astore, q_astore2, x_iinc, q_iadd, q_isub, q_imul, q_iand, q_ior, q_ixor, q_ladd, q_lsub, q_lmul, q_land, q_lor, q_lxor, q_idiv, q_irem, q_ldiv, q_lrem, q_ineg, q_lneg, q_ishl, q_ishr, q_iushr, q_lshl, q_lshr, q_lushr, q_i2l, q_l2i, q_i2b, q_i2c, q_lcmp, q_if_eq, q_if_ne, q_if_lt, q_if_ge, q_if_gt, q_if_le, q_icmp_eq, q_icmp_ne, q_icmp_lt, q_icmp_ge, q_icmp_gt, q_icmp_le, q_dup, q_pop, q_dup_x1, q_dup2, x_iret, x_zret, x_lret, x_aret, x_vret, x_call, x_callv, x_calli, x_oinit, x_mmax, x_mmin, x_mabs, x_mmaxL, x_mminL, x_mabsL, lg_cmp_ge, lg_cmp_le, lg_cmp_gt, lg_cmp_lt, lg_cmp_eq, xlk, q_xs1, q_xs2, lv_args, Value.category, List.filter_cons, List.filter_nil, Nat.reduceAdd, Nat.reduceBEq, Nat.reduceEqDiff, Nat.reduceSub, Nat.sub_zero, beq_self_eq_true, Bool.not_true, Bool.not_false, Bool.and_true, Bool.and_false, Bool.true_and, Bool.false_and, reduceIte, reduceCtorEq, Bool.false_eq_true, Nat.one_ne_zero, Nat.zero_ne_one, Nat.zero_add, Option.toList_some, Option.toList_none, List.nil_append, List.cons_append, List.take_succ_cons, List.take_zero, List.take_nil, List.drop_succ_cons, List.drop_zero, List.length_cons, List.length_nil, List.reverse_cons, List.reverse_nil, List.head?_cons, List.map_cons, List.map_nil, List.sum_cons, List.sum_nil, true_and, and_true, List.getElem?_cons_zero, List.getElem?_cons_succ, Prod.eta, x_iast, x_bald, x_bast, x_last, x_alen, xup_s, xup_a1, xup_1a, xup_uu, nr_i, nr_l, nr_o, nr_a, ft_i, ft_l, ft_o, ft_a, Nat.reduceLT, i_cl0, i_cl1, i_n1, i_m1, List.set_cons_zero, List.set_cons_succ, Nat.reduceLeDiff, Nat.le_refl, Nat.zero_le, Nat.add_zero, x_no, x_ifnull, x_ifnonnull, x_acmp_eq, x_acmp_ne, x_swl, x_tsw, x_castC, true_or, or_true, nr_z, ft_z, nr_z0, nr_z1, ft_z0, ft_z1, nr_on, nr_an, ft_on, ft_an, b_X7_skipBlanks_0, b_X7_skipBlanks_16, wo.g2, wt.1]
    rw [← hK]
    exact xInv.mk (n - p) (x, n) ⟨rfl, rfl, trivial⟩ ⟨tx, p, g, bh, fi, op, t, rfl, w, hQ⟩
