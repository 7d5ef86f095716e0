/-! the class: Writer (X10) at x + 39, its out at x + 40 -/
abbrev wtO (h : xH) (x n : Nat) : Prop := h (x + 39) = some (.inr (9, [.ref (x + 40), .ref (x + 11), .ref x, .int (nI n)]))
section WW
variable {h : xH} {x n : Nat} {k : xK} {lv : List (Nat × Value)} {T : Nat × Nat × Nat} {r : List Value}
theorem wtO.g0 (w : wtO h x n) : x_get 9 0 k lv (.ref (x + 39) :: r) (h, T) = k lv (.ref (x + 40) :: r) (h, T) := q_get w rfl
theorem wtO.g1 (w : wtO h x n) : x_get 9 1 k lv (.ref (x + 39) :: r) (h, T) = k lv (.ref (x + 11) :: r) (h, T) := q_get w rfl
theorem wtO.g2 (w : wtO h x n) : x_get 9 2 k lv (.ref (x + 39) :: r) (h, T) = k lv (.ref x :: r) (h, T) := q_get w rfl
theorem wtO.g3 (w : wtO h x n) : x_get 9 3 k lv (.ref (x + 39) :: r) (h, T) = k lv (.int (nI n) :: r) (h, T) := q_get w rfl
abbrev wtC (x : Nat) (v : Int32) : xE := .inr (9, [.ref (x + 40), .ref (x + 11), .ref x, .int v])
theorem wtO.p3 {v : Int32} (w : wtO h x n) : x_put 9 3 .int k lv (.int v :: .ref (x + 39) :: r) (h, T) = k lv r (xup h (x + 39) (wtC x v), T) := by
  (simp only [x_put, show h (x + 39) = some (wtC x (nI n)) from w, wtC, nr_i, ft_i, List.length_cons, List.length_nil, Nat.reduceAdd, Nat.reduceLT, true_and, and_true, List.set_cons_succ, List.set_cons_zero]) <;> rfl
end WW
/-- the bytes of the out -/
def wtA (h : xH) (x : Nat) (o : Nat → Nat) : Prop := h (x + 40) = some (.inl (1, 64, .inl (fun i => nI (o i)))) ∧ ∀ i, o i < 128
/-- the list L has been written -/
def wW (h : xH) (x : Nat) (L : List Nat) : Prop := wtO h x L.length ∧ ∃ o, wtA h x o ∧ otL o L
abbrev fW (h' h : xH) (x : Nat) : Prop := xoff h' h (x + 39) (x + 41)
abbrev rcw (h : xH) (x : Nat) : Prop := ∃ b fs, some (Value.ref (x + 39)) = some (.ref b) ∧ h b = some (.inr (9, fs))
theorem wW.rc {h : xH} {x : Nat} {L : List Nat} (w : wW h x L) : rcw h x := ⟨_, _, rfl, w.1⟩
theorem wW.off {h h' : xH} {x lo hi : Nat} {L : List Nat} (w : wW h x L) (f : xoff h' h lo hi) (d : x + 41 ≤ lo ∨ hi ≤ x + 39) : wW h' x L := by
  obtain ⟨a, o, b, c⟩ := w
  exact ⟨(f _ (by omega)).trans a, o, ⟨(f _ (by omega)).trans b.1, b.2⟩, c⟩
theorem bt_i {b : Nat} (h : b < 128) : (nI b).toInt8.toInt32 = nI b := by
  have h9 : ∀ k : Fin 128, (nI k.val).toInt8.toInt32 = nI k.val := by decide +kernel
  exact h9 ⟨b, h⟩
theorem bt_n {b : Nat} (h : b < 128) : vp_nar .byte (nI b) = nI b := by
  have h9 : ∀ k : Fin 128, vp_nar .byte (nI k.val) = nI k.val := by decide +kernel
  exact h9 ⟨b, h⟩
theorem dX10_put_0 : decode cX10_put 0 = .ok (.aload_n 0, 1) := by decide +kernel
theorem dX10_put_1 : decode cX10_put 1 = .ok (.getfield 23, 3) := by decide +kernel
theorem dX10_put_4 : decode cX10_put 4 = .ok (.aload_n 0, 1) := by decide +kernel
theorem dX10_put_5 : decode cX10_put 5 = .ok (.getfield 9, 3) := by decide +kernel
theorem dX10_put_8 : decode cX10_put 8 = .ok (.arraylength, 1) := by decide +kernel
theorem dX10_put_9 : decode cX10_put 9 = .ok (.if_icmp .ge 21, 3) := by decide +kernel
theorem dX10_put_12 : decode cX10_put 12 = .ok (.aload_n 0, 1) := by decide +kernel
theorem dX10_put_13 : decode cX10_put 13 = .ok (.getfield 9, 3) := by decide +kernel
theorem dX10_put_16 : decode cX10_put 16 = .ok (.aload_n 0, 1) := by decide +kernel
theorem dX10_put_17 : decode cX10_put 17 = .ok (.dup, 1) := by decide +kernel
theorem dX10_put_18 : decode cX10_put 18 = .ok (.getfield 23, 3) := by decide +kernel
theorem dX10_put_21 : decode cX10_put 21 = .ok (.dup_x1, 1) := by decide +kernel
theorem dX10_put_22 : decode cX10_put 22 = .ok (.iconst 1, 1) := by decide +kernel
theorem dX10_put_23 : decode cX10_put 23 = .ok (.iadd, 1) := by decide +kernel
theorem dX10_put_24 : decode cX10_put 24 = .ok (.putfield 23, 3) := by decide +kernel
theorem dX10_put_27 : decode cX10_put 27 = .ok (.iload_n 1, 1) := by decide +kernel
theorem dX10_put_28 : decode cX10_put 28 = .ok (.i2b, 1) := by decide +kernel
theorem dX10_put_29 : decode cX10_put 29 = .ok (.bastore, 1) := by decide +kernel
theorem dX10_put_30 : decode cX10_put 30 = .ok (.return_, 1) := by decide +kernel
abbrev r_X10_put : Room := { frames := 0, cells := 0, slots := 0, locals := 0 }
abbrev m_X10_put : xMd := (cX10_put, RX10, 2, none, false, r_X10_put)
def b_X10_put_30 (Q : xQ) : xK := x_vret Q
def b_X10_put_0 (Q : xQ) : xK := x_aload 0 <| x_get 9 3 <| x_aload 0 <| x_get 9 0 <| x_alen <| x_icmp_ge ((b_X10_put_30 Q)) <| x_aload 0 <| x_get 9 0 <| x_aload 0 <| x_dup <| x_get 9 3 <| x_dup_x1 <| x_c (.int 1) <| x_iadd <| x_put 9 3 .int <| x_iload 1 <| x_i2b <| x_bast <| (b_X10_put_30 Q)
theorem s_X10_put_30 (G : xG) (l : Launch) (Q : xQ) : xW G l m_X10_put xX0 (xPm G Q r_X10_put) 30 (b_X10_put_30 Q) := xo_vret (pc := 30) rfl dX10_put_30
theorem s_X10_put_0 (G : xG) (l : Launch) (Q : xQ) : xW G l m_X10_put xX0 (xPm G Q r_X10_put) 0 (b_X10_put_0 Q) := xo_aload_n (pc := 0) (i := 0) dX10_put_0 rfl <| xo_get (pc := 1) (ci := 9) (i := 3) rfl ok9 (by decide) dX10_put_1 kw249 <| xo_aload_n (pc := 4) (i := 0) dX10_put_4 rfl <| xo_get (pc := 5) (ci := 9) (i := 0) rfl ok9 (by decide) dX10_put_5 kw246 <| xo_alen (pc := 8) dX10_put_8 <| xo_icmp_ge (pc := 9) (tgt := 30) dX10_put_9 (by decide) ((s_X10_put_30 G l Q)) <| xo_aload_n (pc := 12) (i := 0) dX10_put_12 rfl <| xo_get (pc := 13) (ci := 9) (i := 0) rfl ok9 (by decide) dX10_put_13 kw246 <| xo_aload_n (pc := 16) (i := 0) dX10_put_16 rfl <| xo_dup (pc := 17) dX10_put_17 <| xo_get (pc := 18) (ci := 9) (i := 3) rfl ok9 (by decide) dX10_put_18 kw249 <| xo_dup_x1 (pc := 21) dX10_put_21 <| xo_iconst (pc := 22) dX10_put_22 (by decide) <| xo_iadd (pc := 23) dX10_put_23 <| xo_put (pc := 24) (ci := 9) (i := 3) rfl ok9 (by decide) rfl rfl dX10_put_24 kw249 <| xo_iload_n (pc := 27) (i := 1) dX10_put_27 rfl <| xo_i2b (pc := 28) dX10_put_28 <| xo_bast (pc := 29) dX10_put_29 <| (s_X10_put_30 G l Q)

def C_X10_put : xC := fun av S Q => ∃ (x b : Nat) (L : List Nat), av = [.ref (x + 39), .int (nI b)] ∧ b < 128 ∧ L.length < 64 ∧ wW S.1 x L ∧ ∀ h', fW h' S.1 x → wW h' x (L ++ [b]) → Q none (h', S.2)
theorem otL_snoc {o : Nat → Nat} {L : List Nat} {b : Nat} (h : otL o L) : otL (va_up o L.length b) (L ++ [b]) := by
  intro i hi
  rw [List.length_append, List.length_singleton] at hi
  unfold va_up
  rcases Nat.lt_or_ge i L.length with c | c
  · rw [if_neg (by omega), h i c, getD_appL c]
  · rw [if_pos (by omega)]
    have := getD_appR (l := L) (r := [b]) (j := 0)
    rw [Nat.add_zero] at this
    rw [show i = L.length by omega, this]
    rfl
theorem cM_X10_put (G : xG) (l : Launch) : xM G l yX10_put cX10_put 2 none r_X10_put C_X10_put := by
  refine xM_of (fun Q => b_X10_put_0 Q) RX10 false (s_X10_put_0 G l) (by decide) rfl (by decide) ?_
  rintro av ⟨h, S2⟩ Q ⟨x, b, L, rfl, hb, hl, w, hQ⟩
  dsimp only at *
  refine ⟨Nat.le_of_ble_eq_true rfl, ?_⟩
  obtain ⟨wo, o, wa, ol⟩ := w
  have q1 : Int32.ofNat 64 ≤ nI L.length ↔ 64 ≤ L.length := nc_le (a := 64) (by decide) (by omega)
  have e1 : nI L.length + 1 = nI (L.length + 1) := (Int32.ofNat_add _ _).symm
  have off1' : xoff (xup h (x + 39) (wtC x (nI (L.length + 1)))) h (x + 39) (x + 40) := off1
  have wo1 : wtO (xup h (x + 39) (wtC x (nI (L.length + 1)))) x (L.length + 1) := xup_s
  have c := m_cl (n := L.length) (by omega)
  have v : vp_in (nI L.length) 64 = True := eq_true (vp_in_nI (by omega) (by decide))
  have w40 : h (x + 39 + 1) = some (.inl (1, 64, .inl (fun i => nI (o i)))) := wa.1
  simp only [q_c, x_iload, x_lload, x_aload, q_istore, q_lstore, q_astore, q_astore2, x_iinc, q_iadd, q_isub, q_imul, q_iand, q_ior, q_ixor, q_ladd, q_lsub, q_lmul, q_land, q_lor, q_lxor, q_idiv, q_irem, q_ldiv, q_lrem, q_ineg, q_lneg, q_ishl, q_ishr, q_iushr, q_lshl, q_lshr, q_lushr, q_i2l, q_l2i, q_i2b, q_i2c, q_lcmp, q_if_eq, q_if_ne, q_if_lt, q_if_ge, q_if_gt, q_if_le, q_icmp_eq, q_icmp_ne, q_icmp_lt, q_icmp_ge, q_icmp_gt, q_icmp_le, q_dup, q_pop, q_dup_x1, q_dup2, x_iret, x_zret, x_lret, x_aret, x_vret, x_call, x_callv, x_calli, x_oinit, x_mmax, x_mmin, x_mabs, x_mmaxL, x_mminL, x_mabsL, lg_cmp_ge, lg_cmp_le, lg_cmp_gt, lg_cmp_lt, lg_cmp_eq, xlk, q_xs1, q_xs2, lv_args, Value.category, List.filter_cons, List.filter_nil, Nat.reduceAdd, Nat.reduceBEq, Nat.reduceEqDiff, Nat.reduceSub, Nat.sub_zero, beq_self_eq_true, Bool.not_true, Bool.not_false, Bool.and_true, Bool.and_false, Bool.true_and, Bool.false_and, reduceIte, reduceCtorEq, Bool.false_eq_true, Nat.one_ne_zero, Nat.zero_ne_one, Nat.zero_add, Option.toList_some, Option.toList_none, List.nil_append, List.cons_append, List.take_succ_cons, List.take_zero, List.take_nil, List.drop_succ_cons, List.drop_zero, List.length_cons, List.length_nil, List.reverse_cons, List.reverse_nil, List.head?_cons, List.map_cons, List.map_nil, List.sum_cons, List.sum_nil, true_and, and_true, List.getElem?_cons_zero, List.getElem?_cons_succ, Prod.eta, x_iast, x_bald, x_bast, x_last, x_alen, xup_s, xup_a1, xup_1a, xup_uu, nr_i, nr_l, nr_o, nr_a, ft_i, ft_l, ft_o, ft_a, Nat.reduceLT, i_cl0, i_cl1, i_n1, i_m1, List.set_cons_zero, List.set_cons_succ, Nat.reduceLeDiff, Nat.le_refl, Nat.zero_le, Nat.add_zero, x_no, x_ifnull, x_ifnonnull, x_acmp_eq, x_acmp_ne, x_swl, x_tsw, x_castC, true_or, or_true, nr_z, ft_z, nr_z0, nr_z1, ft_z0, ft_z1, nr_on, nr_an, ft_on, ft_an, b_X10_put_0, b_X10_put_30, wo.g0, wo.g3, wo.p3, wa.1, w40, q1, e1, bt_i hb, bt_n hb, c, v]
  refine ⟨fun y => by omega, fun y => ?_⟩
  generalize xup h (x + 39) (wtC x (nI (L.length + 1))) = h1 at *
  refine hQ _ (fun q d => (xup_n (by omega)).trans (off1' q (by omega))) ⟨?_, va_up o L.length b, ⟨?_, ?_⟩, otL_snoc ol⟩
  · rw [List.length_append, List.length_singleton]
    exact (xup_n (by omega)).trans wo1
  · refine xup_s.trans ?_
    congr 5
    funext i
    unfold upd va_up
    split <;> rfl
  · intro i
    unfold va_up
    split
    · exact hb
    · exact wa.2 i
theorem kw_put {h : xH} {T : Nat × Nat × Nat} {K : xQ} {x b : Nat} {L : List Nat} (w : wW h x L) (hb : b < 128) (hl : L.length < 64) (c : ∀ h2, fW h2 h x → wW h2 x (L ++ [b]) → K none (h2, T)) : rcw h x ∧ C_X10_put [.ref (x + 39), .int (nI b)] (h, T) K := ⟨w.rc, x, b, L, rfl, hb, hl, w, c⟩
theorem dX10_putText_0 : decode cX10_putText 0 = .ok (.iload_n 2, 1) := by decide +kernel
theorem dX10_putText_1 : decode cX10_putText 1 = .ok (.istore 4, 2) := by decide +kernel
theorem dX10_putText_3 : decode cX10_putText 3 = .ok (.iload 4, 2) := by decide +kernel
theorem dX10_putText_5 : decode cX10_putText 5 = .ok (.iload_n 3, 1) := by decide +kernel
theorem dX10_putText_6 : decode cX10_putText 6 = .ok (.if_icmp .ge 19, 3) := by decide +kernel
theorem dX10_putText_9 : decode cX10_putText 9 = .ok (.aload_n 0, 1) := by decide +kernel
theorem dX10_putText_10 : decode cX10_putText 10 = .ok (.aload_n 1, 1) := by decide +kernel
theorem dX10_putText_11 : decode cX10_putText 11 = .ok (.iload 4, 2) := by decide +kernel
theorem dX10_putText_13 : decode cX10_putText 13 = .ok (.invokevirtual 70, 3) := by decide +kernel
theorem dX10_putText_16 : decode cX10_putText 16 = .ok (.invokevirtual 50, 3) := by decide +kernel
theorem dX10_putText_19 : decode cX10_putText 19 = .ok (.iinc 4 1, 3) := by decide +kernel
theorem dX10_putText_22 : decode cX10_putText 22 = .ok (.goto (-19), 3) := by decide +kernel
theorem dX10_putText_25 : decode cX10_putText 25 = .ok (.return_, 1) := by decide +kernel
abbrev r_X10_putText : Room := { frames := 4, cells := 0, slots := 0, locals := 85 }
abbrev m_X10_putText : xMd := (cX10_putText, RX10, 5, none, false, r_X10_putText)
def b_X10_putText_0 (Q : xQ) (K3 : xK) : xK := x_iload 2 <| x_istore 4 <| K3
def b_X10_putText_3 (Q : xQ) (K3 : xK) : xK := x_iload 4 <| x_iload 3 <| x_icmp_ge (x_vret Q) <| x_aload 0 <| x_aload 1 <| x_iload 4 <| x_callt C_J0_charAt_5068e 2 0 0 <| x_callv 9 C_X10_put 2 0 0 <| x_iinc 4 1 <| K3
theorem s_X10_putText_0 (G : xG) (l : Launch) (Q : xQ) (K3 : xK) (h3 : xW G l m_X10_putText xX0 (xPm G Q r_X10_putText) 3 K3) : xW G l m_X10_putText xX0 (xPm G Q r_X10_putText) 0 (b_X10_putText_0 Q K3) := xo_iload_n (pc := 0) (i := 2) dX10_putText_0 rfl <| xo_istore (pc := 1) (i := 4) dX10_putText_1 (by decide) <| h3
theorem s_X10_putText_3 (G : xG) (l : Launch) (Q : xQ) (K3 : xK) (h3 : xW G l m_X10_putText xX0 (xPm G Q r_X10_putText) 3 K3) : xW G l m_X10_putText xX0 (xPm G Q r_X10_putText) 3 (b_X10_putText_3 Q K3) := xo_iload (pc := 3) (i := 4) dX10_putText_3 <| xo_iload_n (pc := 5) (i := 3) dX10_putText_5 rfl <| xo_icmp_ge (pc := 6) (tgt := 25) dX10_putText_6 (by decide) (xo_vret (pc := 25) rfl dX10_putText_25) <| xo_aload_n (pc := 9) (i := 0) dX10_putText_9 rfl <| xo_aload_n (pc := 10) (i := 1) dX10_putText_10 rfl <| xo_iload (pc := 11) (i := 4) dX10_putText_11 <| xo_callT (pc := 13) (np := 1) (cM_J0_charAt_5068e G l) dX10_putText_13 kw427 kw1081 kw425 kw426 kw20 (by decide +kernel) (by decide) <| xo_callV (pc := 16) (np := 1) (ci := 9) rfl (cM_X10_put G l) dX10_putText_16 kw1085 kw1082 kw1084 ks39 kw12 (by decide +kernel) (by decide) <| xo_iinc (pc := 19) dX10_putText_19 (by decide) <| xo_goto (pc := 22) (tgt := 3) dX10_putText_22 (by decide) <| h3

def cn_X10_putText : Nat × Nat × Nat × Nat → List (Nat × Value) := fun v => [(0, .ref (v.1 + 39)), (1, .ref v.2.1), (3, .int (nI v.2.2.1)), (4, .int (nI v.2.2.2))]
def I_X10_putText (Q : xQ) : Nat → Nat × Nat × Nat × Nat → xS → Prop := fun k v S => match v with
  | (x, a, t, j) => k + j = t ∧ ∃ (m : Nat) (g : Nat → Nat) (cur fin : List Nat), t ≤ m ∧ sS S.1 a m g ∧ wW S.1 x cur ∧ cur ++ (List.range k).map (fun i => g (j + i)) = fin ∧ fin.length ≤ 64 ∧ ∀ h', fW h' S.1 x → wW h' x fin → Q none (h', S.2)
def C_X10_putText : xC := fun av S Q => ∃ (x a f t m : Nat) (g : Nat → Nat) (L : List Nat), av = [.ref (x + 39), .ref a, .int (nI f), .int (nI t)] ∧ f ≤ t ∧ t ≤ m ∧ sS S.1 a m g ∧ wW S.1 x L ∧ L.length + (t - f) ≤ 64 ∧ ∀ h', fW h' S.1 x → wW h' x (L ++ (List.range (t - f)).map (fun i => g (f + i))) → Q none (h', S.2)
theorem sS_ne {h : xH} {x a m : Nat} {g : Nat → Nat} {L : List Nat} (s : sS h a m g) (w : wW h x L) : a ≠ x + 39 ∧ a ≠ x + 40 := by
  obtain ⟨wo, o, wa, -⟩ := w
  constructor
  · intro q
    have := s.1
    rw [q, wo] at this
    simp at this
  · intro q
    have := s.1
    rw [q, wa.1] at this
    simp at this
theorem cM_X10_putText (G : xG) (l : Launch) : xM G l yX10_putText cX10_putText 5 none r_X10_putText C_X10_putText := by
  refine xM_of (fun Q => b_X10_putText_0 Q (xInv cn_X10_putText (I_X10_putText Q))) RX10 false (fun Q => s_X10_putText_0 G l Q _ (xW.lp (b_X10_putText_3 Q) (fun K hK => s_X10_putText_3 G l Q K hK) ?_)) (by decide) rfl (by decide) ?_
  · rintro c ⟨x, a, t, j⟩ ⟨h, S2⟩ ⟨hc, m, g, cur, fin, ht, ss, w, hfin, hr, hQ⟩
    dsimp only at *
    have c1 : cn_X10_putText (x, a, t, j) = [(0, .ref (x + 39)), (1, .ref a), (3, .int (nI t)), (4, .int (nI j))] := rfl
    rw [c1]
    have m1 := ss.2.1
    have q1 : nI t ≤ nI j ↔ t ≤ j := nc_le (by omega) (by omega)
    have gb := ss.2.2 j
    obtain ⟨n1, n2⟩ := sS_ne ss w
    generalize hK : xInvL cn_X10_putText (I_X10_putText Q) c = K
    rcases Nat.eq_zero_or_pos c with c0 | c0
    · subst c0
      rw [List.range_zero, List.map_nil, List.append_nil] at hfin
      simp only [q_c, x_iload, x_lload, x_aload, q_istore, q_lstore, q_astore, q_astore2, x_iinc, q_iadd, q_isub, q_imul, q_iand, q_ior, q_ixor, q_ladd, q_lsub, q_lmul, q_land, q_lor, q_lxor, q_idiv, q_irem, q_ldiv, q_lrem, q_ineg, q_lneg, q_ishl, q_ishr, q_iushr, q_lshl, q_lshr, q_lushr, q_i2l, q_l2i, q_i2b, q_i2c, q_lcmp, q_if_eq, q_if_ne, q_if_lt, q_if_ge, q_if_gt, q_if_le, q_icmp_eq, q_icmp_ne, q_icmp_lt, q_icmp_ge, q_icmp_gt, q_icmp_le, q_dup, q_pop, q_dup_x1, q_dup2, x_iret, x_zret, x_lret, x_aret, x_vret, x_call, x_callv, x_calli, x_oinit, x_mmax, x_mmin, x_mabs, x_mmaxL, x_mminL, x_mabsL, lg_cmp_ge, lg_cmp_le, lg_cmp_gt, lg_cmp_lt, lg_cmp_eq, xlk, q_xs1, q_xs2, lv_args, Value.category, List.filter_cons, List.filter_nil, Nat.reduceAdd, Nat.reduceBEq, Nat.reduceEqDiff, Nat.reduceSub, Nat.sub_zero, beq_self_eq_true, Bool.not_true, Bool.not_false, Bool.and_true, Bool.and_false, Bool.true_and, Bool.false_and, reduceIte, reduceCtorEq, Bool.false_eq_true, Nat.one_ne_zero, Nat.zero_ne_one, Nat.zero_add, Option.toList_some, Option.toList_none, List.nil_append, List.cons_append, List.take_succ_cons, List.take_zero, List.take_nil, List.drop_succ_cons, List.drop_zero, List.length_cons, List.length_nil, List.reverse_cons, List.reverse_nil, List.head?_cons, List.map_cons, List.map_nil, List.sum_cons, List.sum_nil, true_and, and_true, List.getElem?_cons_zero, List.getElem?_cons_succ, Prod.eta, x_iast, x_bald, x_bast, x_last, x_alen, xup_s, xup_a1, xup_1a, xup_uu, nr_i, nr_l, nr_o, nr_a, ft_i, ft_l, ft_o, ft_a, Nat.reduceLT, i_cl0, i_cl1, i_n1, i_m1, List.set_cons_zero, List.set_cons_succ, Nat.reduceLeDiff, Nat.le_refl, Nat.zero_le, Nat.add_zero, x_no, x_ifnull, x_ifnonnull, x_acmp_eq, x_acmp_ne, x_swl, x_tsw, x_castC, true_or, or_true, nr_z, ft_z, nr_z0, nr_z1, ft_z0, ft_z1, nr_on, nr_an, ft_on, ft_an, b_X10_putText_3, q1]
      refine ⟨fun _ => hQ h xoff_rf (by rw [← hfin]; exact w), fun y => by omega⟩
    · obtain ⟨k, rfl⟩ : ∃ k, c = k + 1 := ⟨c - 1, by omega⟩
      have e9 : (List.range (k + 1)).map (fun i => g (j + i)) = g j :: (List.range k).map (fun i => g (j + 1 + i)) := by
        rw [List.range_succ_eq_map, List.map_cons, List.map_map, Nat.add_zero]
        congr 1
        apply List.map_congr_left
        intro i _
        show g (j + (i + 1)) = _
        congr 1
        omega
      rw [e9] at hfin
      have ll : cur.length < 64 := by
        have := congrArg List.length hfin
        rw [List.length_append, List.length_cons] at this
        omega
      simp only [q_c, x_iload, x_lload, x_aload, q_istore, q_lstore, q_astore, q_astore2, x_iinc, q_iadd, q_isub, q_imul, q_iand, q_ior, q_ixor, q_ladd, q_lsub, q_lmul, q_land, q_lor, q_lxor, q_idiv, q_irem, q_ldiv, q_lrem, q_ineg, q_lneg, q_ishl, q_ishr, q_iushr, q_lshl, q_lshr, q_lushr, q_i2l, q_l2i, q_i2b, q_i2c, q_lcmp, q_if_eq, q_if_ne, q_if_lt, q_if_ge, q_if_gt, q_if_le, q_icmp_eq, q_icmp_ne, q_icmp_lt, q_icmp_ge, q_icmp_gt, q_icmp_le, q_dup, q_pop, q_dup_x1, q_dup2, x_iret, x_zret, x_lret, x_aret, x_vret, x_call, x_callv, x_calli, x_oinit, x_mmax, x_mmin, x_mabs, x_mmaxL, x_mminL, x_mabsL, lg_cmp_ge, lg_cmp_le, lg_cmp_gt, lg_cmp_lt, lg_cmp_eq, xlk, q_xs1, q_xs2, lv_args, Value.category, List.filter_cons, List.filter_nil, Nat.reduceAdd, Nat.reduceBEq, Nat.reduceEqDiff, Nat.reduceSub, Nat.sub_zero, beq_self_eq_true, Bool.not_true, Bool.not_false, Bool.and_true, Bool.and_false, Bool.true_and, Bool.false_and, reduceIte, reduceCtorEq, Bool.false_eq_true, Nat.one_ne_zero, Nat.zero_ne_one, Nat.zero_add, Option.toList_some, Option.toList_none, List.nil_append, List.cons_append, List.take_succ_cons, List.take_zero, List.take_nil, List.drop_succ_cons, List.drop_zero, List.length_cons, List.length_nil, List.reverse_cons, List.reverse_nil, List.head?_cons, List.map_cons, List.map_nil, List.sum_cons, List.sum_nil, true_and, and_true, List.getElem?_cons_zero, List.getElem?_cons_succ, Prod.eta, x_iast, x_bald, x_bast, x_last, x_alen, xup_s, xup_a1, xup_1a, xup_uu, nr_i, nr_l, nr_o, nr_a, ft_i, ft_l, ft_o, ft_a, Nat.reduceLT, i_cl0, i_cl1, i_n1, i_m1, List.set_cons_zero, List.set_cons_succ, Nat.reduceLeDiff, Nat.le_refl, Nat.zero_le, Nat.add_zero, x_no, x_ifnull, x_ifnonnull, x_acmp_eq, x_acmp_ne, x_swl, x_tsw, x_castC, true_or, or_true, nr_z, ft_z, nr_z0, nr_z1, ft_z0, ft_z1, nr_on, nr_an, ft_on, ft_an, b_X10_putText_3, q1]
      refine ⟨fun y => by omega, fun _ => ?_⟩
      simp only [q_c, x_iload, x_lload, x_aload, q_istore, q_lstore, q_astore, q_astore2, x_iinc, q_iadd, q_isub, q_imul, q_iand, q_ior, q_ixor, q_ladd, q_lsub, q_lmul, q_land, q_lor, q_lxor, q_idiv, q_irem, q_ldiv, q_lrem, q_ineg, q_lneg, q_ishl, q_ishr, q_iushr, q_lshl, q_lshr, q_lushr, q_i2l, q_l2i, q_i2b, q_i2c, q_lcmp, q_if_eq, q_if_ne, q_if_lt, q_if_ge, q_if_gt, q_if_le, q_icmp_eq, q_icmp_ne, q_icmp_lt, q_icmp_ge, q_icmp_gt, q_icmp_le, q_dup, q_pop, q_dup_x1, q_dup2, x_iret, x_zret, x_lret, x_aret, x_vret, x_call, x_callv, x_calli, x_oinit, x_mmax, x_mmin, x_mabs, x_mmaxL, x_mminL, x_mabsL, lg_cmp_ge, lg_cmp_le, lg_cmp_gt, lg_cmp_lt, lg_cmp_eq, xlk, q_xs1, q_xs2, lv_args, Value.category, List.filter_cons, List.filter_nil, Nat.reduceAdd, Nat.reduceBEq, Nat.reduceEqDiff, Nat.reduceSub, Nat.sub_zero, beq_self_eq_true, Bool.not_true, Bool.not_false, Bool.and_true, Bool.and_false, Bool.true_and, Bool.false_and, reduceIte, reduceCtorEq, Bool.false_eq_true, Nat.one_ne_zero, Nat.zero_ne_one, Nat.zero_add, Option.toList_some, Option.toList_none, List.nil_append, List.cons_append, List.take_succ_cons, List.take_zero, List.take_nil, List.drop_succ_cons, List.drop_zero, List.length_cons, List.length_nil, List.reverse_cons, List.reverse_nil, List.head?_cons, List.map_cons, List.map_nil, List.sum_cons, List.sum_nil, true_and, and_true, List.getElem?_cons_zero, List.getElem?_cons_succ, Prod.eta, x_iast, x_bald, x_bast, x_last, x_alen, xup_s, xup_a1, xup_1a, xup_uu, nr_i, nr_l, nr_o, nr_a, ft_i, ft_l, ft_o, ft_a, Nat.reduceLT, i_cl0, i_cl1, i_n1, i_m1, List.set_cons_zero, List.set_cons_succ, Nat.reduceLeDiff, Nat.le_refl, Nat.zero_le, Nat.add_zero, x_no, x_ifnull, x_ifnonnull, x_acmp_eq, x_acmp_ne, x_swl, x_tsw, x_castC, true_or, or_true, nr_z, ft_z, nr_z0, nr_z1, ft_z0, ft_z1, nr_on, nr_an, ft_on, ft_an, x_callt]
      refine kk_chr ss (by omega) ?_
      try simp only [q_c, x_iload, x_lload, x_aload, q_istore, q_lstore, q_astore, q_astore2, x_iinc, q_iadd, q_isub, q_imul, q_iand, q_ior, q_ixor, q_ladd, q_lsub, q_lmul, q_land, q_lor, q_lxor, q_idiv, q_irem, q_ldiv, q_lrem, q_ineg, q_lneg, q_ishl, q_ishr, q_iushr, q_lshl, q_lshr, q_lushr, q_i2l, q_l2i, q_i2b, q_i2c, q_lcmp, q_if_eq, q_if_ne, q_if_lt, q_if_ge, q_if_gt, q_if_le, q_icmp_eq, q_icmp_ne, q_icmp_lt, q_icmp_ge, q_icmp_gt, q_icmp_le, q_dup, q_pop, q_dup_x1, q_dup2, x_iret, x_zret, x_lret, x_aret, x_vret, x_call, x_callv, x_calli, x_oinit, x_mmax, x_mmin, x_mabs, x_mmaxL, x_mminL, x_mabsL, lg_cmp_ge, lg_cmp_le, lg_cmp_gt, lg_cmp_lt, lg_cmp_eq, xlk, q_xs1, q_xs2, lv_args, Value.category, List.filter_cons, List.filter_nil, Nat.reduceAdd, Nat.reduceBEq, Nat.reduceEqDiff, Nat.reduceSub, Nat.sub_zero, beq_self_eq_true, Bool.not_true, Bool.not_false, Bool.and_true, Bool.and_false, Bool.true_and, Bool.false_and, reduceIte, reduceCtorEq, Bool.false_eq_true, Nat.one_ne_zero, Nat.zero_ne_one, Nat.zero_add, Option.toList_some, Option.toList_none, List.nil_append, List.cons_append, List.take_succ_cons, List.take_zero, List.take_nil, List.drop_succ_cons, List.drop_zero, List.length_cons, List.length_nil, List.reverse_cons, List.reverse_nil, List.head?_cons, List.map_cons, List.map_nil, List.sum_cons, List.sum_nil, true_and, and_true, List.getElem?_cons_zero, List.getElem?_cons_succ, Prod.eta, x_iast, x_bald, x_bast, x_last, x_alen, xup_s, xup_a1, xup_1a, xup_uu, nr_i, nr_l, nr_o, nr_a, ft_i, ft_l, ft_o, ft_a, Nat.reduceLT, i_cl0, i_cl1, i_n1, i_m1, List.set_cons_zero, List.set_cons_succ, Nat.reduceLeDiff, Nat.le_refl, Nat.zero_le, Nat.add_zero, x_no, x_ifnull, x_ifnonnull, x_acmp_eq, x_acmp_ne, x_swl, x_tsw, x_castC, true_or, or_true, nr_z, ft_z, nr_z0, nr_z1, ft_z0, ft_z1, nr_on, nr_an, ft_on, ft_an]
      refine kw_put w gb ll fun h2 f2 w2 => ?_
      try simp only [q_c, x_iload, x_lload, x_aload, q_istore, q_lstore, q_astore, q_astore2, x_iinc, q_iadd, q_isub, q_imul, q_iand, q_ior, q_ixor, q_ladd, q_lsub, q_lmul, q_land, q_lor, q_lxor, q_idiv, q_irem, q_ldiv, q_lrem, q_ineg, q_lneg, q_ishl, q_ishr, q_iushr, q_lshl, q_lshr, q_lushr, q_i2l, q_l2i, q_i2b, q_i2c, q_lcmp, q_if_eq, q_if_ne, q_if_lt, q_if_ge, q_if_gt, q_if_le, q_icmp_eq, q_icmp_ne, q_icmp_lt, q_icmp_ge, q_icmp_gt, q_icmp_le, q_dup, q_pop, q_dup_x1, q_dup2, x_iret, x_zret, x_lret, x_aret, x_vret, x_call, x_callv, x_calli, x_oinit, x_mmax, x_mmin, x_mabs, x_mmaxL, x_mminL, x_mabsL, lg_cmp_ge, lg_cmp_le, lg_cmp_gt, lg_cmp_lt, lg_cmp_eq, xlk, q_xs1, q_xs2, lv_args, Value.category, List.filter_cons, List.filter_nil, Nat.reduceAdd, Nat.reduceBEq, Nat.reduceEqDiff, Nat.reduceSub, Nat.sub_zero, beq_self_eq_true, Bool.not_true, Bool.not_false, Bool.and_true, Bool.and_false, Bool.true_and, Bool.false_and, reduceIte, reduceCtorEq, Bool.false_eq_true, Nat.one_ne_zero, Nat.zero_ne_one, Nat.zero_add, Option.toList_some, Option.toList_none, List.nil_append, List.cons_append, List.take_succ_cons, List.take_zero, List.take_nil, List.drop_succ_cons, List.drop_zero, List.length_cons, List.length_nil, List.reverse_cons, List.reverse_nil, List.head?_cons, List.map_cons, List.map_nil, List.sum_cons, List.sum_nil, true_and, and_true, List.getElem?_cons_zero, List.getElem?_cons_succ, Prod.eta, x_iast, x_bald, x_bast, x_last, x_alen, xup_s, xup_a1, xup_1a, xup_uu, nr_i, nr_l, nr_o, nr_a, ft_i, ft_l, ft_o, ft_a, Nat.reduceLT, i_cl0, i_cl1, i_n1, i_m1, List.set_cons_zero, List.set_cons_succ, Nat.reduceLeDiff, Nat.le_refl, Nat.zero_le, Nat.add_zero, x_no, x_ifnull, x_ifnonnull, x_acmp_eq, x_acmp_ne, x_swl, x_tsw, x_castC, true_or, or_true, nr_z, ft_z, nr_z0, nr_z1, ft_z0, ft_z1, nr_on, nr_an, ft_on, ft_an]
      rw [← hK]
      refine xInvL.mk k (x, a, t, j + 1) (by omega) ⟨rfl, rfl, rfl, rfl, trivial⟩ ⟨by omega, m, g, cur ++ [g j], fin, ht, ⟨(f2 a (by omega)).trans ss.1, ss.2⟩, w2, ?_, hr, fun h3 f3 w3 => hQ h3 (xoff_tr f3 f2) w3⟩
      rw [List.append_assoc]
      exact hfin
  · rintro av ⟨h, S2⟩ Q ⟨x, a, f, t, m, g, L, rfl, hf, ht, ss, w, hr, hQ⟩
    dsimp only at *
    refine ⟨Nat.le_of_ble_eq_true rfl, ?_⟩
    generalize hK : xInv cn_X10_putText (I_X10_putText Q) = K
    simp only [q_c, x_iload, x_lload, x_aload, q_istore, q_lstore, q_astore, q_astore2, x_iinc, q_iadd, q_isub, q_imul, q_iand, q_ior, q_ixor, q_ladd, q_lsub, q_lmul, q_land, q_lor, q_lxor, q_idiv, q_irem, q_ldiv, q_lrem, q_ineg, q_lneg, q_ishl, q_ishr, q_iushr, q_lshl, q_lshr, q_lushr, q_i2l, q_l2i, q_i2b, q_i2c, q_lcmp, q_if_eq, q_if_ne, q_if_lt, q_if_ge, q_if_gt, q_if_le, q_icmp_eq, q_icmp_ne, q_icmp_lt, q_icmp_ge, q_icmp_gt, q_icmp_le, q_dup, q_pop, q_dup_x1, q_dup2, x_iret, x_zret, x_lret, x_aret, x_vret, x_call, x_callv, x_calli, x_oinit, x_mmax, x_mmin, x_mabs, x_mmaxL, x_mminL, x_mabsL, lg_cmp_ge, lg_cmp_le, lg_cmp_gt, lg_cmp_lt, lg_cmp_eq, xlk, q_xs1, q_xs2, lv_args, Value.category, List.filter_cons, List.filter_nil, Nat.reduceAdd, Nat.reduceBEq, Nat.reduceEqDiff, Nat.reduceSub, Nat.sub_zero, beq_self_eq_true, Bool.not_true, Bool.not_false, Bool.and_true, Bool.and_false, Bool.true_and, Bool.false_and, reduceIte, reduceCtorEq, Bool.false_eq_true, Nat.one_ne_zero, Nat.zero_ne_one, Nat.zero_add, Option.toList_some, Option.toList_none, List.nil_append, List.cons_append, List.take_succ_cons, List.take_zero, List.take_nil, List.drop_succ_cons, List.drop_zero, List.length_cons, List.length_nil, List.reverse_cons, List.reverse_nil, List.head?_cons, List.map_cons, List.map_nil, List.sum_cons, List.sum_nil, true_and, and_true, List.getElem?_cons_zero, List.getElem?_cons_succ, Prod.eta, x_iast, x_bald, x_bast, x_last, x_alen, xup_s, xup_a1, xup_1a, xup_uu, nr_i, nr_l, nr_o, nr_a, ft_i, ft_l, ft_o, ft_a, Nat.reduceLT, i_cl0, i_cl1, i_n1, i_m1, List.set_cons_zero, List.set_cons_succ, Nat.reduceLeDiff, Nat.le_refl, Nat.zero_le, Nat.add_zero, x_no, x_ifnull, x_ifnonnull, x_acmp_eq, x_acmp_ne, x_swl, x_tsw, x_castC, true_or, or_true, nr_z, ft_z, nr_z0, nr_z1, ft_z0, ft_z1, nr_on, nr_an, ft_on, ft_an, b_X10_putText_0]
    rw [← hK]
    exact xInv.mk (t - f) (x, a, t, f) ⟨rfl, rfl, rfl, rfl, trivial⟩ ⟨by omega, m, g, L, _, ht, ss, w, rfl, by rw [List.length_append, List.length_map, List.length_range]; exact hr, hQ⟩
theorem dX10_isTwice_0 : decode cX10_isTwice 0 = .ok (.aload_n 0, 1) := by decide +kernel
theorem dX10_isTwice_1 : decode cX10_isTwice 1 = .ok (.getfield 23, 3) := by decide +kernel
theorem dX10_isTwice_4 : decode cX10_isTwice 4 = .ok (.iload_n 1, 1) := by decide +kernel
theorem dX10_isTwice_5 : decode cX10_isTwice 5 = .ok (.isub, 1) := by decide +kernel
theorem dX10_isTwice_6 : decode cX10_isTwice 6 = .ok (.iload_n 1, 1) := by decide +kernel
theorem dX10_isTwice_7 : decode cX10_isTwice 7 = .ok (.if_icmp .eq 5, 3) := by decide +kernel
theorem dX10_isTwice_10 : decode cX10_isTwice 10 = .ok (.iconst 0, 1) := by decide +kernel
theorem dX10_isTwice_11 : decode cX10_isTwice 11 = .ok (.ireturn, 1) := by decide +kernel
theorem dX10_isTwice_12 : decode cX10_isTwice 12 = .ok (.iconst 1, 1) := by decide +kernel
theorem dX10_isTwice_13 : decode cX10_isTwice 13 = .ok (.istore_n 2, 1) := by decide +kernel
theorem dX10_isTwice_14 : decode cX10_isTwice 14 = .ok (.iload_n 2, 1) := by decide +kernel
theorem dX10_isTwice_15 : decode cX10_isTwice 15 = .ok (.iload_n 1, 1) := by decide +kernel
theorem dX10_isTwice_16 : decode cX10_isTwice 16 = .ok (.if_icmp .ge 28, 3) := by decide +kernel
theorem dX10_isTwice_19 : decode cX10_isTwice 19 = .ok (.aload_n 0, 1) := by decide +kernel
theorem dX10_isTwice_20 : decode cX10_isTwice 20 = .ok (.getfield 9, 3) := by decide +kernel
theorem dX10_isTwice_23 : decode cX10_isTwice 23 = .ok (.iload_n 2, 1) := by decide +kernel
theorem dX10_isTwice_24 : decode cX10_isTwice 24 = .ok (.baload, 1) := by decide +kernel
theorem dX10_isTwice_25 : decode cX10_isTwice 25 = .ok (.aload_n 0, 1) := by decide +kernel
theorem dX10_isTwice_26 : decode cX10_isTwice 26 = .ok (.getfield 9, 3) := by decide +kernel
theorem dX10_isTwice_29 : decode cX10_isTwice 29 = .ok (.iload_n 1, 1) := by decide +kernel
theorem dX10_isTwice_30 : decode cX10_isTwice 30 = .ok (.iload_n 2, 1) := by decide +kernel
theorem dX10_isTwice_31 : decode cX10_isTwice 31 = .ok (.iadd, 1) := by decide +kernel
theorem dX10_isTwice_32 : decode cX10_isTwice 32 = .ok (.baload, 1) := by decide +kernel
theorem dX10_isTwice_33 : decode cX10_isTwice 33 = .ok (.if_icmp .eq 5, 3) := by decide +kernel
theorem dX10_isTwice_36 : decode cX10_isTwice 36 = .ok (.iconst 0, 1) := by decide +kernel
theorem dX10_isTwice_37 : decode cX10_isTwice 37 = .ok (.ireturn, 1) := by decide +kernel
theorem dX10_isTwice_38 : decode cX10_isTwice 38 = .ok (.iinc 2 1, 3) := by decide +kernel
theorem dX10_isTwice_41 : decode cX10_isTwice 41 = .ok (.goto (-27), 3) := by decide +kernel
theorem dX10_isTwice_44 : decode cX10_isTwice 44 = .ok (.iconst 1, 1) := by decide +kernel
theorem dX10_isTwice_45 : decode cX10_isTwice 45 = .ok (.ireturn, 1) := by decide +kernel
abbrev r_X10_isTwice : Room := { frames := 0, cells := 0, slots := 0, locals := 0 }
abbrev m_X10_isTwice : xMd := (cX10_isTwice, RX10, 3, (some FieldType.boolean), false, r_X10_isTwice)
def b_X10_isTwice_0 (Q : xQ) (K14 : xK) : xK := x_aload 0 <| x_get 9 3 <| x_iload 1 <| x_isub <| x_iload 1 <| x_icmp_eq (x_c (.int 1) <| x_istore 2 <| K14) <| x_c (.int 0) <| x_zret FieldType.boolean Q
def b_X10_isTwice_14 (Q : xQ) (K14 : xK) : xK := x_iload 2 <| x_iload 1 <| x_icmp_ge (x_c (.int 1) <| x_zret FieldType.boolean Q) <| x_aload 0 <| x_get 9 0 <| x_iload 2 <| x_bald <| x_aload 0 <| x_get 9 0 <| x_iload 1 <| x_iload 2 <| x_iadd <| x_bald <| x_icmp_eq (x_iinc 2 1 <| K14) <| x_c (.int 0) <| x_zret FieldType.boolean Q
theorem s_X10_isTwice_0 (G : xG) (l : Launch) (Q : xQ) (K14 : xK) (h14 : xW G l m_X10_isTwice xX0 (xPm G Q r_X10_isTwice) 14 K14) : xW G l m_X10_isTwice xX0 (xPm G Q r_X10_isTwice) 0 (b_X10_isTwice_0 Q K14) := xo_aload_n (pc := 0) (i := 0) dX10_isTwice_0 rfl <| xo_get (pc := 1) (ci := 9) (i := 3) rfl ok9 (by decide) dX10_isTwice_1 kw249 <| xo_iload_n (pc := 4) (i := 1) dX10_isTwice_4 rfl <| xo_isub (pc := 5) dX10_isTwice_5 <| xo_iload_n (pc := 6) (i := 1) dX10_isTwice_6 rfl <| xo_icmp_eq (pc := 7) (tgt := 12) dX10_isTwice_7 (by decide) (xo_iconst (pc := 12) dX10_isTwice_12 (by decide) <| xo_istore_n (pc := 13) (i := 2) dX10_isTwice_13 rfl (by decide) <| h14) <| xo_iconst (pc := 10) dX10_isTwice_10 (by decide) <| xo_zret (pc := 11) rfl dX10_isTwice_11
theorem s_X10_isTwice_14 (G : xG) (l : Launch) (Q : xQ) (K14 : xK) (h14 : xW G l m_X10_isTwice xX0 (xPm G Q r_X10_isTwice) 14 K14) : xW G l m_X10_isTwice xX0 (xPm G Q r_X10_isTwice) 14 (b_X10_isTwice_14 Q K14) := xo_iload_n (pc := 14) (i := 2) dX10_isTwice_14 rfl <| xo_iload_n (pc := 15) (i := 1) dX10_isTwice_15 rfl <| xo_icmp_ge (pc := 16) (tgt := 44) dX10_isTwice_16 (by decide) (xo_iconst (pc := 44) dX10_isTwice_44 (by decide) <| xo_zret (pc := 45) rfl dX10_isTwice_45) <| xo_aload_n (pc := 19) (i := 0) dX10_isTwice_19 rfl <| xo_get (pc := 20) (ci := 9) (i := 0) rfl ok9 (by decide) dX10_isTwice_20 kw246 <| xo_iload_n (pc := 23) (i := 2) dX10_isTwice_23 rfl <| xo_bald (pc := 24) dX10_isTwice_24 <| xo_aload_n (pc := 25) (i := 0) dX10_isTwice_25 rfl <| xo_get (pc := 26) (ci := 9) (i := 0) rfl ok9 (by decide) dX10_isTwice_26 kw246 <| xo_iload_n (pc := 29) (i := 1) dX10_isTwice_29 rfl <| xo_iload_n (pc := 30) (i := 2) dX10_isTwice_30 rfl <| xo_iadd (pc := 31) dX10_isTwice_31 <| xo_bald (pc := 32) dX10_isTwice_32 <| xo_icmp_eq (pc := 33) (tgt := 38) dX10_isTwice_33 (by decide) (xo_iinc (pc := 38) dX10_isTwice_38 (by decide) <| xo_goto (pc := 41) (tgt := 14) dX10_isTwice_41 (by decide) <| h14) <| xo_iconst (pc := 36) dX10_isTwice_36 (by decide) <| xo_zret (pc := 37) rfl dX10_isTwice_37

def cn_X10_isTwice : Nat × Nat × Nat → List (Nat × Value) := fun v => [(0, .ref (v.1 + 39)), (1, .int (nI v.2.1)), (2, .int (nI v.2.2))]
def I_X10_isTwice (Q : xQ) : Nat → Nat × Nat × Nat → xS → Prop := fun k v S => match v with
  | (x, c, j) => k + j = c + 1 ∧ 1 ≤ j ∧ ∃ (L : List Nat), wW S.1 x L ∧ L.length = 2 * c ∧ L.length ≤ 64 ∧ (∀ i, 1 ≤ i → i < j → i < c → L.getD i 0 = L.getD (c + i) 0) ∧ ∀ t, (t = true ↔ ∀ i, 1 ≤ i → i < c → L.getD i 0 = L.getD (c + i) 0) → Q (some (.int (bI t))) S
def C_X10_isTwice : xC := fun av S Q => ∃ (x c : Nat) (L : List Nat), av = [.ref (x + 39), .int (nI c)] ∧ 1 ≤ c ∧ c ≤ L.length ∧ L.length ≤ 64 ∧ wW S.1 x L ∧ ∀ t, (t = true ↔ L.length = 2 * c ∧ ∀ i, 1 ≤ i → i < c → L.getD i 0 = L.getD (c + i) 0) → Q (some (.int (bI t))) S
theorem cM_X10_isTwice (G : xG) (l : Launch) : xM G l yX10_isTwice cX10_isTwice 3 (some FieldType.boolean) r_X10_isTwice C_X10_isTwice := by
  refine xM_of (fun Q => b_X10_isTwice_0 Q (xInv cn_X10_isTwice (I_X10_isTwice Q))) RX10 false (fun Q => s_X10_isTwice_0 G l Q _ (xW.lp (b_X10_isTwice_14 Q) (fun K hK => s_X10_isTwice_14 G l Q K hK) ?_)) (by decide) rfl (by decide) ?_
  · rintro k ⟨x, c, j⟩ ⟨h, S2⟩ ⟨hk, hj, L, w, hL, hl, he, hQ⟩
    dsimp only at *
    have c1 : cn_X10_isTwice (x, c, j) = [(0, .ref (x + 39)), (1, .int (nI c)), (2, .int (nI j))] := rfl
    rw [c1]
    obtain ⟨wo, o, wa, ol⟩ := id w
    have q1 : nI c ≤ nI j ↔ c ≤ j := nc_le (by omega) (by omega)
    have e1 : nI c + nI j = nI (c + j) := (Int32.ofNat_add _ _).symm
    generalize hK : xInvL cn_X10_isTwice (I_X10_isTwice Q) k = K
    rcases Nat.lt_or_ge j c with jc | jc
    · have q5 : nI (o j) = nI (o (c + j)) ↔ o j = o (c + j) := nI_eq (by have := wa.2 j; omega) (by have := wa.2 (c + j); omega)
      have v1 : vp_in (nI j) 64 = True := eq_true (vp_in_nI (by omega) (by decide))
      have v2 : vp_in (nI (c + j)) 64 = True := eq_true (vp_in_nI (by omega) (by decide))
      have m1 := m_cl (n := j) (by omega)
      have m2 := m_cl (n := c + j) (by omega)
      simp only [q_c, x_iload, x_lload, x_aload, q_istore, q_lstore, q_astore, q_astore2, x_iinc, q_iadd, q_isub, q_imul, q_iand, q_ior, q_ixor, q_ladd, q_lsub, q_lmul, q_land, q_lor, q_lxor, q_idiv, q_irem, q_ldiv, q_lrem, q_ineg, q_lneg, q_ishl, q_ishr, q_iushr, q_lshl, q_lshr, q_lushr, q_i2l, q_l2i, q_i2b, q_i2c, q_lcmp, q_if_eq, q_if_ne, q_if_lt, q_if_ge, q_if_gt, q_if_le, q_icmp_eq, q_icmp_ne, q_icmp_lt, q_icmp_ge, q_icmp_gt, q_icmp_le, q_dup, q_pop, q_dup_x1, q_dup2, x_iret, x_zret, x_lret, x_aret, x_vret, x_call, x_callv, x_calli, x_oinit, x_mmax, x_mmin, x_mabs, x_mmaxL, x_mminL, x_mabsL, lg_cmp_ge, lg_cmp_le, lg_cmp_gt, lg_cmp_lt, lg_cmp_eq, xlk, q_xs1, q_xs2, lv_args, Value.category, List.filter_cons, List.filter_nil, Nat.reduceAdd, Nat.reduceBEq, Nat.reduceEqDiff, Nat.reduceSub, Nat.sub_zero, beq_self_eq_true, Bool.not_true, Bool.not_false, Bool.and_true, Bool.and_false, Bool.true_and, Bool.false_and, reduceIte, reduceCtorEq, Bool.false_eq_true, Nat.one_ne_zero, Nat.zero_ne_one, Nat.zero_add, Option.toList_some, Option.toList_none, List.nil_append, List.cons_append, List.take_succ_cons, List.take_zero, List.take_nil, List.drop_succ_cons, List.drop_zero, List.length_cons, List.length_nil, List.reverse_cons, List.reverse_nil, List.head?_cons, List.map_cons, List.map_nil, List.sum_cons, List.sum_nil, true_and, and_true, List.getElem?_cons_zero, List.getElem?_cons_succ, Prod.eta, x_iast, x_bald, x_bast, x_last, x_alen, xup_s, xup_a1, xup_1a, xup_uu, nr_i, nr_l, nr_o, nr_a, ft_i, ft_l, ft_o, ft_a, Nat.reduceLT, i_cl0, i_cl1, i_n1, i_m1, List.set_cons_zero, List.set_cons_succ, Nat.reduceLeDiff, Nat.le_refl, Nat.zero_le, Nat.add_zero, x_no, x_ifnull, x_ifnonnull, x_acmp_eq, x_acmp_ne, x_swl, x_tsw, x_castC, true_or, or_true, nr_z, ft_z, nr_z0, nr_z1, ft_z0, ft_z1, nr_on, nr_an, ft_on, ft_an, b_X10_isTwice_14, q1, wo.g0, wa.1, v1, v2, m1, m2, e1, q5]
      rw [ol j (by omega), ol (c + j) (by omega)]
      refine ⟨fun y => by omega, fun _ => ⟨fun y => ?_, fun y => ?_⟩⟩
      · rw [← hK]
        refine xInvL.mk (k - 1) (x, c, j + 1) (by omega) ⟨rfl, rfl, rfl, trivial⟩ ⟨by omega, by omega, L, w, hL, hl, fun i i1 i2 i3 => ?_, hQ⟩
        rcases (show i < j ∨ i = j by omega) with q | q
        · exact he i i1 q i3
        · rw [q]; exact y
      · exact hQ false ⟨fun z => absurd z (by decide), fun z => absurd (z j hj jc) y⟩
    · simp only [q_c, x_iload, x_lload, x_aload, q_istore, q_lstore, q_astore, q_astore2, x_iinc, q_iadd, q_isub, q_imul, q_iand, q_ior, q_ixor, q_ladd, q_lsub, q_lmul, q_land, q_lor, q_lxor, q_idiv, q_irem, q_ldiv, q_lrem, q_ineg, q_lneg, q_ishl, q_ishr, q_iushr, q_lshl, q_lshr, q_lushr, q_i2l, q_l2i, q_i2b, q_i2c, q_lcmp, q_if_eq, q_if_ne, q_if_lt, q_if_ge, q_if_gt, q_if_le, q_icmp_eq, q_icmp_ne, q_icmp_lt, q_icmp_ge, q_icmp_gt, q_icmp_le, q_dup, q_pop, q_dup_x1, q_dup2, x_iret, x_zret, x_lret, x_aret, x_vret, x_call, x_callv, x_calli, x_oinit, x_mmax, x_mmin, x_mabs, x_mmaxL, x_mminL, x_mabsL, lg_cmp_ge, lg_cmp_le, lg_cmp_gt, lg_cmp_lt, lg_cmp_eq, xlk, q_xs1, q_xs2, lv_args, Value.category, List.filter_cons, List.filter_nil, Nat.reduceAdd, Nat.reduceBEq, Nat.reduceEqDiff, Nat.reduceSub, Nat.sub_zero, beq_self_eq_true, Bool.not_true, Bool.not_false, Bool.and_true, Bool.and_false, Bool.true_and, Bool.false_and, reduceIte, reduceCtorEq, Bool.false_eq_true, Nat.one_ne_zero, Nat.zero_ne_one, Nat.zero_add, Option.toList_some, Option.toList_none, List.nil_append, List.cons_append, List.take_succ_cons, List.take_zero, List.take_nil, List.drop_succ_cons, List.drop_zero, List.length_cons, List.length_nil, List.reverse_cons, List.reverse_nil, List.head?_cons, List.map_cons, List.map_nil, List.sum_cons, List.sum_nil, true_and, and_true, List.getElem?_cons_zero, List.getElem?_cons_succ, Prod.eta, x_iast, x_bald, x_bast, x_last, x_alen, xup_s, xup_a1, xup_1a, xup_uu, nr_i, nr_l, nr_o, nr_a, ft_i, ft_l, ft_o, ft_a, Nat.reduceLT, i_cl0, i_cl1, i_n1, i_m1, List.set_cons_zero, List.set_cons_succ, Nat.reduceLeDiff, Nat.le_refl, Nat.zero_le, Nat.add_zero, x_no, x_ifnull, x_ifnonnull, x_acmp_eq, x_acmp_ne, x_swl, x_tsw, x_castC, true_or, or_true, nr_z, ft_z, nr_z0, nr_z1, ft_z0, ft_z1, nr_on, nr_an, ft_on, ft_an, b_X10_isTwice_14, q1]
      exact ⟨fun _ => hQ true ⟨fun _ i i1 i2 => he i i1 (by omega) i2, fun _ => rfl⟩, fun y => by omega⟩
  · rintro av ⟨h, S2⟩ Q ⟨x, c, L, rfl, hc, hcl, hl, w, hQ⟩
    dsimp only at *
    refine ⟨Nat.le_of_ble_eq_true rfl, ?_⟩
    have e1 : nI L.length - nI c = nI (L.length - c) := by rw [← iZ_nat, ← iZ_nat, ← iZ_nat, iZ_sub]; congr 1; omega
    have q1 : nI (L.length - c) = nI c ↔ L.length - c = c := nI_eq (by omega) (by omega)
    have goal : L.length = 2 * c → (xInv cn_X10_isTwice (I_X10_isTwice Q)) [(2, .int 1), (0, .ref (x + 39)), (1, .int (nI c))] [] (h, S2) := fun e => xInv.mk c (x, c, 1) ⟨rfl, rfl, rfl, trivial⟩ ⟨by omega, by omega, L, w, e, hl, fun i i1 i2 => by omega, fun t ht => hQ t (by rw [ht]; exact ⟨fun z => ⟨e, z⟩, fun z => z.2⟩)⟩
    generalize hK : xInv cn_X10_isTwice (I_X10_isTwice Q) = K at *
    simp only [q_c, x_iload, x_lload, x_aload, q_istore, q_lstore, q_astore, q_astore2, x_iinc, q_iadd, q_isub, q_imul, q_iand, q_ior, q_ixor, q_ladd, q_lsub, q_lmul, q_land, q_lor, q_lxor, q_idiv, q_irem, q_ldiv, q_lrem, q_ineg, q_lneg, q_ishl, q_ishr, q_iushr, q_lshl, q_lshr, q_lushr, q_i2l, q_l2i, q_i2b, q_i2c, q_lcmp, q_if_eq, q_if_ne, q_if_lt, q_if_ge, q_if_gt, q_if_le, q_icmp_eq, q_icmp_ne, q_icmp_lt, q_icmp_ge, q_icmp_gt, q_icmp_le, q_dup, q_pop, q_dup_x1, q_dup2, x_iret, x_zret, x_lret, x_aret, x_vret, x_call, x_callv, x_calli, x_oinit, x_mmax, x_mmin, x_mabs, x_mmaxL, x_mminL, x_mabsL, lg_cmp_ge, lg_cmp_le, lg_cmp_gt, lg_cmp_lt, lg_cmp_eq, xlk, q_xs1, q_xs2, lv_args, Value.category, List.filter_cons, List.filter_nil, Nat.reduceAdd, Nat.reduceBEq, Nat.reduceEqDiff, Nat.reduceSub, Nat.sub_zero, beq_self_eq_true, Bool.not_true, Bool.not_false, Bool.and_true, Bool.and_false, Bool.true_and, Bool.false_and, reduceIte, reduceCtorEq, Bool.false_eq_true, Nat.one_ne_zero, Nat.zero_ne_one, Nat.zero_add, Option.toList_some, Option.toList_none, List.nil_append, List.cons_append, List.take_succ_cons, List.take_zero, List.take_nil, List.drop_succ_cons, List.drop_zero, List.length_cons, List.length_nil, List.reverse_cons, List.reverse_nil, List.head?_cons, List.map_cons, List.map_nil, List.sum_cons, List.sum_nil, true_and, and_true, List.getElem?_cons_zero, List.getElem?_cons_succ, Prod.eta, x_iast, x_bald, x_bast, x_last, x_alen, xup_s, xup_a1, xup_1a, xup_uu, nr_i, nr_l, nr_o, nr_a, ft_i, ft_l, ft_o, ft_a, Nat.reduceLT, i_cl0, i_cl1, i_n1, i_m1, List.set_cons_zero, List.set_cons_succ, Nat.reduceLeDiff, Nat.le_refl, Nat.zero_le, Nat.add_zero, x_no, x_ifnull, x_ifnonnull, x_acmp_eq, x_acmp_ne, x_swl, x_tsw, x_castC, true_or, or_true, nr_z, ft_z, nr_z0, nr_z1, ft_z0, ft_z1, nr_on, nr_an, ft_on, ft_an, b_X10_isTwice_0, w.1.g3, e1, q1]
    exact ⟨fun y => goal (by omega), fun y => hQ false ⟨fun z => absurd z (by decide), fun z => by omega⟩⟩
theorem dX10_putWhole_0 : decode cX10_putWhole 0 = .ok (.iload_n 1, 1) := by decide +kernel
theorem dX10_putWhole_1 : decode cX10_putWhole 1 = .ok (.ifCond .ge 9, 3) := by decide +kernel
theorem dX10_putWhole_4 : decode cX10_putWhole 4 = .ok (.aload_n 0, 1) := by decide +kernel
theorem dX10_putWhole_5 : decode cX10_putWhole 5 = .ok (.bipush 45, 2) := by decide +kernel
theorem dX10_putWhole_7 : decode cX10_putWhole 7 = .ok (.invokevirtual 50, 3) := by decide +kernel
theorem dX10_putWhole_10 : decode cX10_putWhole 10 = .ok (.iload_n 1, 1) := by decide +kernel
theorem dX10_putWhole_11 : decode cX10_putWhole 11 = .ok (.invokestatic 146, 3) := by decide +kernel
theorem dX10_putWhole_14 : decode cX10_putWhole 14 = .ok (.istore_n 2, 1) := by decide +kernel
theorem dX10_putWhole_15 : decode cX10_putWhole 15 = .ok (.sipush 1000, 3) := by decide +kernel
theorem dX10_putWhole_18 : decode cX10_putWhole 18 = .ok (.istore_n 3, 1) := by decide +kernel
theorem dX10_putWhole_19 : decode cX10_putWhole 19 = .ok (.iconst 0, 1) := by decide +kernel
theorem dX10_putWhole_20 : decode cX10_putWhole 20 = .ok (.istore 4, 2) := by decide +kernel
theorem dX10_putWhole_22 : decode cX10_putWhole 22 = .ok (.iload 4, 2) := by decide +kernel
theorem dX10_putWhole_24 : decode cX10_putWhole 24 = .ok (.iconst 3, 1) := by decide +kernel
theorem dX10_putWhole_25 : decode cX10_putWhole 25 = .ok (.if_icmp .ge 19, 3) := by decide +kernel
theorem dX10_putWhole_28 : decode cX10_putWhole 28 = .ok (.iload_n 3, 1) := by decide +kernel
theorem dX10_putWhole_29 : decode cX10_putWhole 29 = .ok (.iload_n 2, 1) := by decide +kernel
theorem dX10_putWhole_30 : decode cX10_putWhole 30 = .ok (.if_icmp .le 14, 3) := by decide +kernel
theorem dX10_putWhole_33 : decode cX10_putWhole 33 = .ok (.iload_n 3, 1) := by decide +kernel
theorem dX10_putWhole_34 : decode cX10_putWhole 34 = .ok (.bipush 10, 2) := by decide +kernel
theorem dX10_putWhole_36 : decode cX10_putWhole 36 = .ok (.idiv, 1) := by decide +kernel
theorem dX10_putWhole_37 : decode cX10_putWhole 37 = .ok (.istore_n 3, 1) := by decide +kernel
theorem dX10_putWhole_38 : decode cX10_putWhole 38 = .ok (.iinc 4 1, 3) := by decide +kernel
theorem dX10_putWhole_41 : decode cX10_putWhole 41 = .ok (.goto (-19), 3) := by decide +kernel
theorem dX10_putWhole_44 : decode cX10_putWhole 44 = .ok (.iconst 0, 1) := by decide +kernel
theorem dX10_putWhole_45 : decode cX10_putWhole 45 = .ok (.istore 4, 2) := by decide +kernel
theorem dX10_putWhole_47 : decode cX10_putWhole 47 = .ok (.iload 4, 2) := by decide +kernel
theorem dX10_putWhole_49 : decode cX10_putWhole 49 = .ok (.iconst 4, 1) := by decide +kernel
theorem dX10_putWhole_50 : decode cX10_putWhole 50 = .ok (.if_icmp .ge 31, 3) := by decide +kernel
theorem dX10_putWhole_53 : decode cX10_putWhole 53 = .ok (.iload_n 3, 1) := by decide +kernel
theorem dX10_putWhole_54 : decode cX10_putWhole 54 = .ok (.ifCond .le 27, 3) := by decide +kernel
theorem dX10_putWhole_57 : decode cX10_putWhole 57 = .ok (.aload_n 0, 1) := by decide +kernel
theorem dX10_putWhole_58 : decode cX10_putWhole 58 = .ok (.bipush 48, 2) := by decide +kernel
theorem dX10_putWhole_60 : decode cX10_putWhole 60 = .ok (.iload_n 2, 1) := by decide +kernel
theorem dX10_putWhole_61 : decode cX10_putWhole 61 = .ok (.iload_n 3, 1) := by decide +kernel
theorem dX10_putWhole_62 : decode cX10_putWhole 62 = .ok (.idiv, 1) := by decide +kernel
theorem dX10_putWhole_63 : decode cX10_putWhole 63 = .ok (.bipush 10, 2) := by decide +kernel
theorem dX10_putWhole_65 : decode cX10_putWhole 65 = .ok (.irem, 1) := by decide +kernel
theorem dX10_putWhole_66 : decode cX10_putWhole 66 = .ok (.iadd, 1) := by decide +kernel
theorem dX10_putWhole_67 : decode cX10_putWhole 67 = .ok (.invokevirtual 50, 3) := by decide +kernel
theorem dX10_putWhole_70 : decode cX10_putWhole 70 = .ok (.iload_n 3, 1) := by decide +kernel
theorem dX10_putWhole_71 : decode cX10_putWhole 71 = .ok (.bipush 10, 2) := by decide +kernel
theorem dX10_putWhole_73 : decode cX10_putWhole 73 = .ok (.idiv, 1) := by decide +kernel
theorem dX10_putWhole_74 : decode cX10_putWhole 74 = .ok (.istore_n 3, 1) := by decide +kernel
theorem dX10_putWhole_75 : decode cX10_putWhole 75 = .ok (.iinc 4 1, 3) := by decide +kernel
theorem dX10_putWhole_78 : decode cX10_putWhole 78 = .ok (.goto (-31), 3) := by decide +kernel
theorem dX10_putWhole_81 : decode cX10_putWhole 81 = .ok (.return_, 1) := by decide +kernel
abbrev r_X10_putWhole : Room := { frames := 1, cells := 0, slots := 0, locals := 21 }
abbrev m_X10_putWhole : xMd := (cX10_putWhole, RX10, 5, none, false, r_X10_putWhole)
def b_X10_putWhole_10 (Q : xQ) (K22 : xK) (K47 : xK) : xK := x_iload 1 <| x_mabs <| x_istore 2 <| x_c (.int 1000) <| x_istore 3 <| x_c (.int 0) <| x_istore 4 <| K22
def b_X10_putWhole_44 (Q : xQ) (K22 : xK) (K47 : xK) : xK := x_c (.int 0) <| x_istore 4 <| K47
def b_X10_putWhole_81 (Q : xQ) (K22 : xK) (K47 : xK) : xK := x_vret Q
def b_X10_putWhole_0 (Q : xQ) (K22 : xK) (K47 : xK) : xK := x_iload 1 <| x_if_ge ((b_X10_putWhole_10 Q K22 K47)) <| x_aload 0 <| x_c (.int 45) <| x_callv 9 C_X10_put 2 0 0 <| (b_X10_putWhole_10 Q K22 K47)
def b_X10_putWhole_22 (Q : xQ) (K22 : xK) (K47 : xK) : xK := x_iload 4 <| x_c (.int 3) <| x_icmp_ge ((b_X10_putWhole_44 Q K22 K47)) <| x_iload 3 <| x_iload 2 <| x_icmp_le ((b_X10_putWhole_44 Q K22 K47)) <| x_iload 3 <| x_c (.int 10) <| x_idiv <| x_istore 3 <| x_iinc 4 1 <| K22
def b_X10_putWhole_47 (Q : xQ) (K22 : xK) (K47 : xK) : xK := x_iload 4 <| x_c (.int 4) <| x_icmp_ge ((b_X10_putWhole_81 Q K22 K47)) <| x_iload 3 <| x_if_le ((b_X10_putWhole_81 Q K22 K47)) <| x_aload 0 <| x_c (.int 48) <| x_iload 2 <| x_iload 3 <| x_idiv <| x_c (.int 10) <| x_irem <| x_iadd <| x_callv 9 C_X10_put 2 0 0 <| x_iload 3 <| x_c (.int 10) <| x_idiv <| x_istore 3 <| x_iinc 4 1 <| K47
theorem s_X10_putWhole_10 (G : xG) (l : Launch) (Q : xQ) (K22 : xK) (K47 : xK) (h22 : xW G l m_X10_putWhole xX0 (xPm G Q r_X10_putWhole) 22 K22) (h47 : xW G l m_X10_putWhole xX0 (xPm G Q r_X10_putWhole) 47 K47) : xW G l m_X10_putWhole xX0 (xPm G Q r_X10_putWhole) 10 (b_X10_putWhole_10 Q K22 K47) := xo_iload_n (pc := 10) (i := 1) dX10_putWhole_10 rfl <| xo_mabs (pc := 11) dX10_putWhole_11 kw1109 kw552 kw17 kw553 (by decide) <| xo_istore_n (pc := 14) (i := 2) dX10_putWhole_14 rfl (by decide) <| xo_sipush (pc := 15) dX10_putWhole_15 (by decide) <| xo_istore_n (pc := 18) (i := 3) dX10_putWhole_18 rfl (by decide) <| xo_iconst (pc := 19) dX10_putWhole_19 (by decide) <| xo_istore (pc := 20) (i := 4) dX10_putWhole_20 (by decide) <| h22
theorem s_X10_putWhole_44 (G : xG) (l : Launch) (Q : xQ) (K22 : xK) (K47 : xK) (h22 : xW G l m_X10_putWhole xX0 (xPm G Q r_X10_putWhole) 22 K22) (h47 : xW G l m_X10_putWhole xX0 (xPm G Q r_X10_putWhole) 47 K47) : xW G l m_X10_putWhole xX0 (xPm G Q r_X10_putWhole) 44 (b_X10_putWhole_44 Q K22 K47) := xo_iconst (pc := 44) dX10_putWhole_44 (by decide) <| xo_istore (pc := 45) (i := 4) dX10_putWhole_45 (by decide) <| h47
theorem s_X10_putWhole_81 (G : xG) (l : Launch) (Q : xQ) (K22 : xK) (K47 : xK) (h22 : xW G l m_X10_putWhole xX0 (xPm G Q r_X10_putWhole) 22 K22) (h47 : xW G l m_X10_putWhole xX0 (xPm G Q r_X10_putWhole) 47 K47) : xW G l m_X10_putWhole xX0 (xPm G Q r_X10_putWhole) 81 (b_X10_putWhole_81 Q K22 K47) := xo_vret (pc := 81) rfl dX10_putWhole_81
theorem s_X10_putWhole_0 (G : xG) (l : Launch) (Q : xQ) (K22 : xK) (K47 : xK) (h22 : xW G l m_X10_putWhole xX0 (xPm G Q r_X10_putWhole) 22 K22) (h47 : xW G l m_X10_putWhole xX0 (xPm G Q r_X10_putWhole) 47 K47) : xW G l m_X10_putWhole xX0 (xPm G Q r_X10_putWhole) 0 (b_X10_putWhole_0 Q K22 K47) := xo_iload_n (pc := 0) (i := 1) dX10_putWhole_0 rfl <| xo_if_ge (pc := 1) (tgt := 10) dX10_putWhole_1 (by decide) ((s_X10_putWhole_10 G l Q K22 K47 h22 h47)) <| xo_aload_n (pc := 4) (i := 0) dX10_putWhole_4 rfl <| xo_bipush (pc := 5) dX10_putWhole_5 (by decide) <| xo_callV (pc := 7) (np := 1) (ci := 9) rfl (cM_X10_put G l) dX10_putWhole_7 kw1085 kw1082 kw1084 ks39 kw12 (by decide +kernel) (by decide) <| (s_X10_putWhole_10 G l Q K22 K47 h22 h47)
theorem s_X10_putWhole_22 (G : xG) (l : Launch) (Q : xQ) (K22 : xK) (K47 : xK) (h22 : xW G l m_X10_putWhole xX0 (xPm G Q r_X10_putWhole) 22 K22) (h47 : xW G l m_X10_putWhole xX0 (xPm G Q r_X10_putWhole) 47 K47) : xW G l m_X10_putWhole xX0 (xPm G Q r_X10_putWhole) 22 (b_X10_putWhole_22 Q K22 K47) := xo_iload (pc := 22) (i := 4) dX10_putWhole_22 <| xo_iconst (pc := 24) dX10_putWhole_24 (by decide) <| xo_icmp_ge (pc := 25) (tgt := 44) dX10_putWhole_25 (by decide) ((s_X10_putWhole_44 G l Q K22 K47 h22 h47)) <| xo_iload_n (pc := 28) (i := 3) dX10_putWhole_28 rfl <| xo_iload_n (pc := 29) (i := 2) dX10_putWhole_29 rfl <| xo_icmp_le (pc := 30) (tgt := 44) dX10_putWhole_30 (by decide) ((s_X10_putWhole_44 G l Q K22 K47 h22 h47)) <| xo_iload_n (pc := 33) (i := 3) dX10_putWhole_33 rfl <| xo_bipush (pc := 34) dX10_putWhole_34 (by decide) <| xo_idiv (pc := 36) dX10_putWhole_36 <| xo_istore_n (pc := 37) (i := 3) dX10_putWhole_37 rfl (by decide) <| xo_iinc (pc := 38) dX10_putWhole_38 (by decide) <| xo_goto (pc := 41) (tgt := 22) dX10_putWhole_41 (by decide) <| h22
theorem s_X10_putWhole_47 (G : xG) (l : Launch) (Q : xQ) (K22 : xK) (K47 : xK) (h22 : xW G l m_X10_putWhole xX0 (xPm G Q r_X10_putWhole) 22 K22) (h47 : xW G l m_X10_putWhole xX0 (xPm G Q r_X10_putWhole) 47 K47) : xW G l m_X10_putWhole xX0 (xPm G Q r_X10_putWhole) 47 (b_X10_putWhole_47 Q K22 K47) := xo_iload (pc := 47) (i := 4) dX10_putWhole_47 <| xo_iconst (pc := 49) dX10_putWhole_49 (by decide) <| xo_icmp_ge (pc := 50) (tgt := 81) dX10_putWhole_50 (by decide) ((s_X10_putWhole_81 G l Q K22 K47 h22 h47)) <| xo_iload_n (pc := 53) (i := 3) dX10_putWhole_53 rfl <| xo_if_le (pc := 54) (tgt := 81) dX10_putWhole_54 (by decide) ((s_X10_putWhole_81 G l Q K22 K47 h22 h47)) <| xo_aload_n (pc := 57) (i := 0) dX10_putWhole_57 rfl <| xo_bipush (pc := 58) dX10_putWhole_58 (by decide) <| xo_iload_n (pc := 60) (i := 2) dX10_putWhole_60 rfl <| xo_iload_n (pc := 61) (i := 3) dX10_putWhole_61 rfl <| xo_idiv (pc := 62) dX10_putWhole_62 <| xo_bipush (pc := 63) dX10_putWhole_63 (by decide) <| xo_irem (pc := 65) dX10_putWhole_65 <| xo_iadd (pc := 66) dX10_putWhole_66 <| xo_callV (pc := 67) (np := 1) (ci := 9) rfl (cM_X10_put G l) dX10_putWhole_67 kw1085 kw1082 kw1084 ks39 kw12 (by decide +kernel) (by decide) <| xo_iload_n (pc := 70) (i := 3) dX10_putWhole_70 rfl <| xo_bipush (pc := 71) dX10_putWhole_71 (by decide) <| xo_idiv (pc := 73) dX10_putWhole_73 <| xo_istore_n (pc := 74) (i := 3) dX10_putWhole_74 rfl (by decide) <| xo_iinc (pc := 75) dX10_putWhole_75 (by decide) <| xo_goto (pc := 78) (tgt := 47) dX10_putWhole_78 (by decide) <| h47

theorem dgL_U (v k : Nat) : dgL v k = dgU v (k + 1) := by
  induction k with
  | zero => show [48 + v % 10] = [48 + v / 10 ^ 0 % 10]; rw [Nat.pow_zero, Nat.div_one]
  | succ k ih => show _ :: dgL v k = _ :: dgU v (k + 1); rw [ih]
theorem n_div {a b : Nat} (ha : a < 2 ^ 31) (hb : 0 < b) (hb2 : b < 2 ^ 31) : nI a / nI b = nI (a / b) := by
  apply Int32.toInt_inj.mp
  have q : nI b ≠ 0 := fun e => by
    have := (nI_eq (b := 0) (by omega) (by decide)).mp e
    omega
  have l := Nat.div_le_self a b
  obtain ⟨c, hc⟩ : ∃ c, c = a / b := ⟨_, rfl⟩
  rw [← hc] at l ⊢
  rw [Int32.toInt_div_of_ne_right _ _ (by
    intro e
    have := congrArg Int32.toInt e
    rw [← iZ_nat, iZ_toInt (by omega) (by omega)] at this
    have m : (-1 : Int32).toInt = -1 := by decide
    omega), ← iZ_nat, ← iZ_nat, ← iZ_nat, iZ_toInt (by omega) (by omega), iZ_toInt (by omega) (by omega), iZ_toInt (by omega) (by omega)]
  rw [hc]
  exact (Int.ofNat_tdiv a b).symm
theorem n_rem {a b : Nat} (ha : a < 2 ^ 31) (hb : 0 < b) (hb2 : b < 2 ^ 31) : nI a - nI a / nI b * nI b = nI (a % b) := by
  rw [n_div ha hb hb2, ← iZ_nat, ← iZ_nat, ← iZ_nat, iZ_mul, iZ_sub, ← iZ_nat]
  congr 1
  have := Nat.div_add_mod a b
  rw [Nat.mul_comm] at this
  omega
def cn_X10_putWhole22 : Nat × Nat × Nat × Nat → List (Nat × Value) := fun v => [(0, .ref (v.1 + 39)), (2, .int (nI v.2.1)), (3, .int (nI v.2.2.1)), (4, .int (nI v.2.2.2))]
def I_X10_putWhole22 (Q : xQ) : Nat → Nat × Nat × Nat × Nat → xS → Prop := fun k v S => match v with
  | (x, a, p, j) => k + j = 3 ∧ p = 10 ^ (3 - j) ∧ a ≤ 9999 ∧ (0 < j → a < 10 ^ (4 - j)) ∧ ∃ (cur fin : List Nat), wW S.1 x cur ∧ cur ++ dgL a (kD a) = fin ∧ fin.length ≤ 64 ∧ ∀ h', fW h' S.1 x → wW h' x fin → Q none (h', S.2)
def I_X10_putWhole47 (Q : xQ) : Nat → Nat × Nat × Nat × Nat → xS → Prop := fun k v S => match v with
  | (x, a, p, j) => k + j ≤ 4 ∧ ((k = 0 ∧ p = 0) ∨ (0 < k ∧ p = 10 ^ (k - 1))) ∧ a ≤ 9999 ∧ ∃ (cur fin : List Nat), wW S.1 x cur ∧ cur ++ dgU a k = fin ∧ fin.length ≤ 64 ∧ ∀ h', fW h' S.1 x → wW h' x fin → Q none (h', S.2)
def C_X10_putWhole : xC := fun av S Q => ∃ (x : Nat) (z : Int) (L : List Nat), av = [.ref (x + 39), .int (iZ z)] ∧ (-9999 ≤ z ∧ z ≤ 9999) ∧ wW S.1 x L ∧ L.length + 5 ≤ 64 ∧ ∀ h', fW h' S.1 x → wW h' x (L ++ nD z) → Q none (h', S.2)
theorem cM_X10_putWhole (G : xG) (l : Launch) : xM G l yX10_putWhole cX10_putWhole 5 none r_X10_putWhole C_X10_putWhole := by
  have L47 : ∀ Q, xW G l m_X10_putWhole xX0 (xPm G Q r_X10_putWhole) 47 (xInv cn_X10_putWhole22 (I_X10_putWhole47 Q)) := by
    intro Q
    refine xW.lp (fun K => b_X10_putWhole_47 Q x_no K) (fun K hK => s_X10_putWhole_47 G l Q x_no K xW_no hK) ?_
    rintro c ⟨x, a, p, j⟩ ⟨h, S2⟩ ⟨hc, hp, hz, cur, fin, w, hfin, hr, hQ⟩
    dsimp only at *
    have c1 : cn_X10_putWhole22 (x, a, p, j) = [(0, .ref (x + 39)), (2, .int (nI a)), (3, .int (nI p)), (4, .int (nI j))] := rfl
    rw [c1]
    have q1 : (4 : Int32) ≤ nI j ↔ 4 ≤ j := nc_le (a := 4) (by decide) (by omega)
    generalize hK : xInvL cn_X10_putWhole22 (I_X10_putWhole47 Q) c = K
    rcases hp with ⟨rfl, rfl⟩ | ⟨c0, hp⟩
    · have e0 : dgU a 0 = [] := rfl
      rw [e0, List.append_nil] at hfin
      have f := hQ h xoff_rf (by rw [← hfin]; exact w)
      have z0 : nI 0 ≤ (0 : Int32) := by decide
      simp only [q_c, x_iload, x_lload, x_aload, q_istore, q_lstore, q_astore, q_astore2, x_iinc, q_iadd, q_isub, q_imul, q_iand, q_ior, q_ixor, q_ladd, q_lsub, q_lmul, q_land, q_lor, q_lxor, q_idiv, q_irem, q_ldiv, q_lrem, q_ineg, q_lneg, q_ishl, q_ishr, q_iushr, q_lshl, q_lshr, q_lushr, q_i2l, q_l2i, q_i2b, q_i2c, q_lcmp, q_if_eq, q_if_ne, q_if_lt, q_if_ge, q_if_gt, q_if_le, q_icmp_eq, q_icmp_ne, q_icmp_lt, q_icmp_ge, q_icmp_gt, q_icmp_le, q_dup, q_pop, q_dup_x1, q_dup2, x_iret, x_zret, x_lret, x_aret, x_vret, x_call, x_callv, x_calli, x_oinit, x_mmax, x_mmin, x_mabs, x_mmaxL, x_mminL, x_mabsL, lg_cmp_ge, lg_cmp_le, lg_cmp_gt, lg_cmp_lt, lg_cmp_eq, xlk, q_xs1, q_xs2, lv_args, Value.category, List.filter_cons, List.filter_nil, Nat.reduceAdd, Nat.reduceBEq, Nat.reduceEqDiff, Nat.reduceSub, Nat.sub_zero, beq_self_eq_true, Bool.not_true, Bool.not_false, Bool.and_true, Bool.and_false, Bool.true_and, Bool.false_and, reduceIte, reduceCtorEq, Bool.false_eq_true, Nat.one_ne_zero, Nat.zero_ne_one, Nat.zero_add, Option.toList_some, Option.toList_none, List.nil_append, List.cons_append, List.take_succ_cons, List.take_zero, List.take_nil, List.drop_succ_cons, List.drop_zero, List.length_cons, List.length_nil, List.reverse_cons, List.reverse_nil, List.head?_cons, List.map_cons, List.map_nil, List.sum_cons, List.sum_nil, true_and, and_true, List.getElem?_cons_zero, List.getElem?_cons_succ, Prod.eta, x_iast, x_bald, x_bast, x_last, x_alen, xup_s, xup_a1, xup_1a, xup_uu, nr_i, nr_l, nr_o, nr_a, ft_i, ft_l, ft_o, ft_a, Nat.reduceLT, i_cl0, i_cl1, i_n1, i_m1, List.set_cons_zero, List.set_cons_succ, Nat.reduceLeDiff, Nat.le_refl, Nat.zero_le, Nat.add_zero, x_no, x_ifnull, x_ifnonnull, x_acmp_eq, x_acmp_ne, x_swl, x_tsw, x_castC, true_or, or_true, nr_z, ft_z, nr_z0, nr_z1, ft_z0, ft_z1, nr_on, nr_an, ft_on, ft_an, b_X10_putWhole_47, b_X10_putWhole_81, q1]
      exact ⟨fun _ => f, fun _ => ⟨fun _ => f, fun y => absurd z0 y⟩⟩
    · obtain ⟨k, rfl⟩ : ∃ k, c = k + 1 := ⟨c - 1, by omega⟩
      rw [Nat.add_sub_cancel] at hp
      have pp : 0 < p := by rw [hp]; exact Nat.pow_pos (by decide)
      have pl : p ≤ 1000 := by rw [hp]; exact Nat.le_trans (Nat.pow_le_pow_right (n := 10) (by decide) (show k ≤ 3 by omega)) (by decide)
      have q2 : nI p ≤ (0 : Int32) ↔ p ≤ 0 := nc_le (b := 0) (by omega) (by decide)
      have nz : (nI p = 0) = False := eq_false (fun e => by have := (nI_eq (b := 0) (by omega) (by decide)).mp e; omega)
      have nt : ((10 : Int32) = 0) = False := eq_false (by decide)
      have d1 : nI a / nI p = nI (a / p) := n_div (by omega) pp (by omega)
      have al : a / p ≤ a := Nat.div_le_self _ _
      have d2 : nI (a / p) - nI (a / p) / 10 * 10 = nI (a / p % 10) := n_rem (b := 10) (by omega) (by decide) (by decide)
      have d3 : (48 : Int32) + nI (a / p % 10) = nI (48 + a / p % 10) := by rw [← iZ_nat, ← iZ_nat, show (48 : Int32) = iZ 48 from rfl, iZ_add]; congr 1
      have d4 : nI p / 10 = nI (p / 10) := n_div (b := 10) (by omega) (by decide) (by decide)
      have e9 : dgU a (k + 1) = (48 + a / p % 10) :: dgU a k := by rw [hp]; rfl
      rw [e9] at hfin
      have ll : cur.length < 64 := by
        have := congrArg List.length hfin
        rw [List.length_append, List.length_cons] at this
        omega
      simp only [q_c, x_iload, x_lload, x_aload, q_istore, q_lstore, q_astore, q_astore2, x_iinc, q_iadd, q_isub, q_imul, q_iand, q_ior, q_ixor, q_ladd, q_lsub, q_lmul, q_land, q_lor, q_lxor, q_idiv, q_irem, q_ldiv, q_lrem, q_ineg, q_lneg, q_ishl, q_ishr, q_iushr, q_lshl, q_lshr, q_lushr, q_i2l, q_l2i, q_i2b, q_i2c, q_lcmp, q_if_eq, q_if_ne, q_if_lt, q_if_ge, q_if_gt, q_if_le, q_icmp_eq, q_icmp_ne, q_icmp_lt, q_icmp_ge, q_icmp_gt, q_icmp_le, q_dup, q_pop, q_dup_x1, q_dup2, x_iret, x_zret, x_lret, x_aret, x_vret, x_call, x_callv, x_calli, x_oinit, x_mmax, x_mmin, x_mabs, x_mmaxL, x_mminL, x_mabsL, lg_cmp_ge, lg_cmp_le, lg_cmp_gt, lg_cmp_lt, lg_cmp_eq, xlk, q_xs1, q_xs2, lv_args, Value.category, List.filter_cons, List.filter_nil, Nat.reduceAdd, Nat.reduceBEq, Nat.reduceEqDiff, Nat.reduceSub, Nat.sub_zero, beq_self_eq_true, Bool.not_true, Bool.not_false, Bool.and_true, Bool.and_false, Bool.true_and, Bool.false_and, reduceIte, reduceCtorEq, Bool.false_eq_true, Nat.one_ne_zero, Nat.zero_ne_one, Nat.zero_add, Option.toList_some, Option.toList_none, List.nil_append, List.cons_append, List.take_succ_cons, List.take_zero, List.take_nil, List.drop_succ_cons, List.drop_zero, List.length_cons, List.length_nil, List.reverse_cons, List.reverse_nil, List.head?_cons, List.map_cons, List.map_nil, List.sum_cons, List.sum_nil, true_and, and_true, List.getElem?_cons_zero, List.getElem?_cons_succ, Prod.eta, x_iast, x_bald, x_bast, x_last, x_alen, xup_s, xup_a1, xup_1a, xup_uu, nr_i, nr_l, nr_o, nr_a, ft_i, ft_l, ft_o, ft_a, Nat.reduceLT, i_cl0, i_cl1, i_n1, i_m1, List.set_cons_zero, List.set_cons_succ, Nat.reduceLeDiff, Nat.le_refl, Nat.zero_le, Nat.add_zero, x_no, x_ifnull, x_ifnonnull, x_acmp_eq, x_acmp_ne, x_swl, x_tsw, x_castC, true_or, or_true, nr_z, ft_z, nr_z0, nr_z1, ft_z0, ft_z1, nr_on, nr_an, ft_on, ft_an, b_X10_putWhole_47, b_X10_putWhole_81, q1, q2]
      refine ⟨fun y => by omega, fun _ => ⟨fun y => by omega, fun _ => ?_⟩⟩
      simp only [q_c, x_iload, x_lload, x_aload, q_istore, q_lstore, q_astore, q_astore2, x_iinc, q_iadd, q_isub, q_imul, q_iand, q_ior, q_ixor, q_ladd, q_lsub, q_lmul, q_land, q_lor, q_lxor, q_idiv, q_irem, q_ldiv, q_lrem, q_ineg, q_lneg, q_ishl, q_ishr, q_iushr, q_lshl, q_lshr, q_lushr, q_i2l, q_l2i, q_i2b, q_i2c, q_lcmp, q_if_eq, q_if_ne, q_if_lt, q_if_ge, q_if_gt, q_if_le, q_icmp_eq, q_icmp_ne, q_icmp_lt, q_icmp_ge, q_icmp_gt, q_icmp_le, q_dup, q_pop, q_dup_x1, q_dup2, x_iret, x_zret, x_lret, x_aret, x_vret, x_call, x_callv, x_calli, x_oinit, x_mmax, x_mmin, x_mabs, x_mmaxL, x_mminL, x_mabsL, lg_cmp_ge, lg_cmp_le, lg_cmp_gt, lg_cmp_lt, lg_cmp_eq, xlk, q_xs1, q_xs2, lv_args, Value.category, List.filter_cons, List.filter_nil, Nat.reduceAdd, Nat.reduceBEq, Nat.reduceEqDiff, Nat.reduceSub, Nat.sub_zero, beq_self_eq_true, Bool.not_true, Bool.not_false, Bool.and_true, Bool.and_false, Bool.true_and, Bool.false_and, reduceIte, reduceCtorEq, Bool.false_eq_true, Nat.one_ne_zero, Nat.zero_ne_one, Nat.zero_add, Option.toList_some, Option.toList_none, List.nil_append, List.cons_append, List.take_succ_cons, List.take_zero, List.take_nil, List.drop_succ_cons, List.drop_zero, List.length_cons, List.length_nil, List.reverse_cons, List.reverse_nil, List.head?_cons, List.map_cons, List.map_nil, List.sum_cons, List.sum_nil, true_and, and_true, List.getElem?_cons_zero, List.getElem?_cons_succ, Prod.eta, x_iast, x_bald, x_bast, x_last, x_alen, xup_s, xup_a1, xup_1a, xup_uu, nr_i, nr_l, nr_o, nr_a, ft_i, ft_l, ft_o, ft_a, Nat.reduceLT, i_cl0, i_cl1, i_n1, i_m1, List.set_cons_zero, List.set_cons_succ, Nat.reduceLeDiff, Nat.le_refl, Nat.zero_le, Nat.add_zero, x_no, x_ifnull, x_ifnonnull, x_acmp_eq, x_acmp_ne, x_swl, x_tsw, x_castC, true_or, or_true, nr_z, ft_z, nr_z0, nr_z1, ft_z0, ft_z1, nr_on, nr_an, ft_on, ft_an, nz, nt, not_false_eq_true, d1, d2, d3]
      refine kw_put w (by omega) ll fun h2 f2 w2 => ?_
      simp only [q_c, x_iload, x_lload, x_aload, q_istore, q_lstore, q_astore, q_astore2, x_iinc, q_iadd, q_isub, q_imul, q_iand, q_ior, q_ixor, q_ladd, q_lsub, q_lmul, q_land, q_lor, q_lxor, q_idiv, q_irem, q_ldiv, q_lrem, q_ineg, q_lneg, q_ishl, q_ishr, q_iushr, q_lshl, q_lshr, q_lushr, q_i2l, q_l2i, q_i2b, q_i2c, q_lcmp, q_if_eq, q_if_ne, q_if_lt, q_if_ge, q_if_gt, q_if_le, q_icmp_eq, q_icmp_ne, q_icmp_lt, q_icmp_ge, q_icmp_gt, q_icmp_le, q_dup, q_pop, q_dup_x1, q_dup2, x_iret, x_zret, x_lret, x_aret, x_vret, x_call, x_callv, x_calli, x_oinit, x_mmax, x_mmin, x_mabs, x_mmaxL, x_mminL, x_mabsL, lg_cmp_ge, lg_cmp_le, lg_cmp_gt, lg_cmp_lt, lg_cmp_eq, xlk, q_xs1, q_xs2, lv_args, Value.category, List.filter_cons, List.filter_nil, Nat.reduceAdd, Nat.reduceBEq, Nat.reduceEqDiff, Nat.reduceSub, Nat.sub_zero, beq_self_eq_true, Bool.not_true, Bool.not_false, Bool.and_true, Bool.and_false, Bool.true_and, Bool.false_and, reduceIte, reduceCtorEq, Bool.false_eq_true, Nat.one_ne_zero, Nat.zero_ne_one, Nat.zero_add, Option.toList_some, Option.toList_none, List.nil_append, List.cons_append, List.take_succ_cons, List.take_zero, List.take_nil, List.drop_succ_cons, List.drop_zero, List.length_cons, List.length_nil, List.reverse_cons, List.reverse_nil, List.head?_cons, List.map_cons, List.map_nil, List.sum_cons, List.sum_nil, true_and, and_true, List.getElem?_cons_zero, List.getElem?_cons_succ, Prod.eta, x_iast, x_bald, x_bast, x_last, x_alen, xup_s, xup_a1, xup_1a, xup_uu, nr_i, nr_l, nr_o, nr_a, ft_i, ft_l, ft_o, ft_a, Nat.reduceLT, i_cl0, i_cl1, i_n1, i_m1, List.set_cons_zero, List.set_cons_succ, Nat.reduceLeDiff, Nat.le_refl, Nat.zero_le, Nat.add_zero, x_no, x_ifnull, x_ifnonnull, x_acmp_eq, x_acmp_ne, x_swl, x_tsw, x_castC, true_or, or_true, nr_z, ft_z, nr_z0, nr_z1, ft_z0, ft_z1, nr_on, nr_an, ft_on, ft_an, nt, not_false_eq_true, d4]
      rw [← hK]
      refine xInvL.mk k (x, a, p / 10, j + 1) (by omega) ⟨rfl, rfl, rfl, rfl, trivial⟩ ⟨by omega, ?_, hz, cur ++ [48 + a / p % 10], fin, w2, by rw [List.append_assoc]; exact hfin, hr, fun h3 f3 w3 => hQ h3 (xoff_tr f3 f2) w3⟩
      cases k with
      | zero => exact Or.inl ⟨rfl, by rw [hp]⟩
      | succ k => exact Or.inr ⟨by omega, by rw [Nat.add_sub_cancel, hp, Nat.pow_succ]; omega⟩
  have L22 : ∀ Q, xW G l m_X10_putWhole xX0 (xPm G Q r_X10_putWhole) 22 (xInv cn_X10_putWhole22 (I_X10_putWhole22 Q)) := by
    intro Q
    refine xW.lp (fun K => b_X10_putWhole_22 Q K (xInv cn_X10_putWhole22 (I_X10_putWhole47 Q))) (fun K hK => s_X10_putWhole_22 G l Q K _ hK (L47 Q)) ?_
    rintro c ⟨x, a, p, j⟩ ⟨h, S2⟩ ⟨hc, hp, hz, hj, cur, fin, w, hfin, hr, hQ⟩
    dsimp only at *
    have c1 : cn_X10_putWhole22 (x, a, p, j) = [(0, .ref (x + 39)), (2, .int (nI a)), (3, .int (nI p)), (4, .int (nI j))] := rfl
    rw [c1]
    have pp : 0 < p := by rw [hp]; exact Nat.pow_pos (by decide)
    have pl : p ≤ 1000 := by rw [hp]; exact Nat.le_trans (Nat.pow_le_pow_right (n := 10) (by decide) (show 3 - j ≤ 3 by omega)) (by decide)
    have q1 : (3 : Int32) ≤ nI j ↔ 3 ≤ j := nc_le (a := 3) (by decide) (by omega)
    have q2 : nI p ≤ nI a ↔ p ≤ a := nc_le (by omega) (by omega)
    have nt : ((10 : Int32) = 0) = False := eq_false (by decide)
    have d4 : nI p / 10 = nI (p / 10) := n_div (b := 10) (by omega) (by decide) (by decide)
    have g44 : (3 ≤ j ∨ p ≤ a) → ∀ K, b_X10_putWhole_44 Q K (xInv cn_X10_putWhole22 (I_X10_putWhole47 Q)) [(0, .ref (x + 39)), (2, .int (nI a)), (3, .int (nI p)), (4, .int (nI j))] [] (h, S2) := by
      intro hx K
      have kd : kD a = 3 - j := by
        unfold kD
        rcases (show j = 0 ∨ j = 1 ∨ j = 2 ∨ j = 3 by omega) with r | r | r | r <;> subst r
        · have : p = 1000 := hp
          rw [if_neg (by omega), if_neg (by omega), if_neg (by omega)]
        · have : p = 100 := hp
          have : a < 1000 := hj (by decide)
          rw [if_neg (by omega), if_neg (by omega), if_pos (by omega)]
        · have : p = 10 := hp
          have : a < 100 := hj (by decide)
          rw [if_neg (by omega), if_pos (by omega)]
        · have : a < 10 := hj (by decide)
          rw [if_pos (by omega)]
      rw [dgL_U, kd] at hfin
      generalize hK2 : xInv cn_X10_putWhole22 (I_X10_putWhole47 Q) = K2
      simp only [q_c, x_iload, x_lload, x_aload, q_istore, q_lstore, q_astore, q_astore2, x_iinc, q_iadd, q_isub, q_imul, q_iand, q_ior, q_ixor, q_ladd, q_lsub, q_lmul, q_land, q_lor, q_lxor, q_idiv, q_irem, q_ldiv, q_lrem, q_ineg, q_lneg, q_ishl, q_ishr, q_iushr, q_lshl, q_lshr, q_lushr, q_i2l, q_l2i, q_i2b, q_i2c, q_lcmp, q_if_eq, q_if_ne, q_if_lt, q_if_ge, q_if_gt, q_if_le, q_icmp_eq, q_icmp_ne, q_icmp_lt, q_icmp_ge, q_icmp_gt, q_icmp_le, q_dup, q_pop, q_dup_x1, q_dup2, x_iret, x_zret, x_lret, x_aret, x_vret, x_call, x_callv, x_calli, x_oinit, x_mmax, x_mmin, x_mabs, x_mmaxL, x_mminL, x_mabsL, lg_cmp_ge, lg_cmp_le, lg_cmp_gt, lg_cmp_lt, lg_cmp_eq, xlk, q_xs1, q_xs2, lv_args, Value.category, List.filter_cons, List.filter_nil, Nat.reduceAdd, Nat.reduceBEq, Nat.reduceEqDiff, Nat.reduceSub, Nat.sub_zero, beq_self_eq_true, Bool.not_true, Bool.not_false, Bool.and_true, Bool.and_false, Bool.true_and, Bool.false_and, reduceIte, reduceCtorEq, Bool.false_eq_true, Nat.one_ne_zero, Nat.zero_ne_one, Nat.zero_add, Option.toList_some, Option.toList_none, List.nil_append, List.cons_append, List.take_succ_cons, List.take_zero, List.take_nil, List.drop_succ_cons, List.drop_zero, List.length_cons, List.length_nil, List.reverse_cons, List.reverse_nil, List.head?_cons, List.map_cons, List.map_nil, List.sum_cons, List.sum_nil, true_and, and_true, List.getElem?_cons_zero, List.getElem?_cons_succ, Prod.eta, x_iast, x_bald, x_bast, x_last, x_alen, xup_s, xup_a1, xup_1a, xup_uu, nr_i, nr_l, nr_o, nr_a, ft_i, ft_l, ft_o, ft_a, Nat.reduceLT, i_cl0, i_cl1, i_n1, i_m1, List.set_cons_zero, List.set_cons_succ, Nat.reduceLeDiff, Nat.le_refl, Nat.zero_le, Nat.add_zero, x_no, x_ifnull, x_ifnonnull, x_acmp_eq, x_acmp_ne, x_swl, x_tsw, x_castC, true_or, or_true, nr_z, ft_z, nr_z0, nr_z1, ft_z0, ft_z1, nr_on, nr_an, ft_on, ft_an, b_X10_putWhole_44]
      rw [← hK2]
      exact xInv.mk (3 - j + 1) (x, a, p, 0) ⟨rfl, rfl, rfl, rfl, trivial⟩ ⟨by omega, Or.inr ⟨by omega, by rw [Nat.add_sub_cancel]; exact hp⟩, hz, cur, fin, w, hfin, hr, hQ⟩
    generalize hK : xInvL cn_X10_putWhole22 (I_X10_putWhole22 Q) c = K
    have g := fun hx => g44 hx K
    generalize hK2 : xInv cn_X10_putWhole22 (I_X10_putWhole47 Q) = K2 at *
    unfold b_X10_putWhole_22
    generalize b_X10_putWhole_44 Q K K2 = J at *
    simp only [q_c, x_iload, x_lload, x_aload, q_istore, q_lstore, q_astore, q_astore2, x_iinc, q_iadd, q_isub, q_imul, q_iand, q_ior, q_ixor, q_ladd, q_lsub, q_lmul, q_land, q_lor, q_lxor, q_idiv, q_irem, q_ldiv, q_lrem, q_ineg, q_lneg, q_ishl, q_ishr, q_iushr, q_lshl, q_lshr, q_lushr, q_i2l, q_l2i, q_i2b, q_i2c, q_lcmp, q_if_eq, q_if_ne, q_if_lt, q_if_ge, q_if_gt, q_if_le, q_icmp_eq, q_icmp_ne, q_icmp_lt, q_icmp_ge, q_icmp_gt, q_icmp_le, q_dup, q_pop, q_dup_x1, q_dup2, x_iret, x_zret, x_lret, x_aret, x_vret, x_call, x_callv, x_calli, x_oinit, x_mmax, x_mmin, x_mabs, x_mmaxL, x_mminL, x_mabsL, lg_cmp_ge, lg_cmp_le, lg_cmp_gt, lg_cmp_lt, lg_cmp_eq, xlk, q_xs1, q_xs2, lv_args, Value.category, List.filter_cons, List.filter_nil, Nat.reduceAdd, Nat.reduceBEq, Nat.reduceEqDiff, Nat.reduceSub, Nat.sub_zero, beq_self_eq_true, Bool.not_true, Bool.not_false, Bool.and_true, Bool.and_false, Bool.true_and, Bool.false_and, reduceIte, reduceCtorEq, Bool.false_eq_true, Nat.one_ne_zero, Nat.zero_ne_one, Nat.zero_add, Option.toList_some, Option.toList_none, List.nil_append, List.cons_append, List.take_succ_cons, List.take_zero, List.take_nil, List.drop_succ_cons, List.drop_zero, List.length_cons, List.length_nil, List.reverse_cons, List.reverse_nil, List.head?_cons, List.map_cons, List.map_nil, List.sum_cons, List.sum_nil, true_and, and_true, List.getElem?_cons_zero, List.getElem?_cons_succ, Prod.eta, x_iast, x_bald, x_bast, x_last, x_alen, xup_s, xup_a1, xup_1a, xup_uu, nr_i, nr_l, nr_o, nr_a, ft_i, ft_l, ft_o, ft_a, Nat.reduceLT, i_cl0, i_cl1, i_n1, i_m1, List.set_cons_zero, List.set_cons_succ, Nat.reduceLeDiff, Nat.le_refl, Nat.zero_le, Nat.add_zero, x_no, x_ifnull, x_ifnonnull, x_acmp_eq, x_acmp_ne, x_swl, x_tsw, x_castC, true_or, or_true, nr_z, ft_z, nr_z0, nr_z1, ft_z0, ft_z1, nr_on, nr_an, ft_on, ft_an, q1, q2]
    refine ⟨fun y => g (Or.inl y), fun y => ⟨fun u => g (Or.inr u), fun u => ?_⟩⟩
    simp only [q_c, x_iload, x_lload, x_aload, q_istore, q_lstore, q_astore, q_astore2, x_iinc, q_iadd, q_isub, q_imul, q_iand, q_ior, q_ixor, q_ladd, q_lsub, q_lmul, q_land, q_lor, q_lxor, q_idiv, q_irem, q_ldiv, q_lrem, q_ineg, q_lneg, q_ishl, q_ishr, q_iushr, q_lshl, q_lshr, q_lushr, q_i2l, q_l2i, q_i2b, q_i2c, q_lcmp, q_if_eq, q_if_ne, q_if_lt, q_if_ge, q_if_gt, q_if_le, q_icmp_eq, q_icmp_ne, q_icmp_lt, q_icmp_ge, q_icmp_gt, q_icmp_le, q_dup, q_pop, q_dup_x1, q_dup2, x_iret, x_zret, x_lret, x_aret, x_vret, x_call, x_callv, x_calli, x_oinit, x_mmax, x_mmin, x_mabs, x_mmaxL, x_mminL, x_mabsL, lg_cmp_ge, lg_cmp_le, lg_cmp_gt, lg_cmp_lt, lg_cmp_eq, xlk, q_xs1, q_xs2, lv_args, Value.category, List.filter_cons, List.filter_nil, Nat.reduceAdd, Nat.reduceBEq, Nat.reduceEqDiff, Nat.reduceSub, Nat.sub_zero, beq_self_eq_true, Bool.not_true, Bool.not_false, Bool.and_true, Bool.and_false, Bool.true_and, Bool.false_and, reduceIte, reduceCtorEq, Bool.false_eq_true, Nat.one_ne_zero, Nat.zero_ne_one, Nat.zero_add, Option.toList_some, Option.toList_none, List.nil_append, List.cons_append, List.take_succ_cons, List.take_zero, List.take_nil, List.drop_succ_cons, List.drop_zero, List.length_cons, List.length_nil, List.reverse_cons, List.reverse_nil, List.head?_cons, List.map_cons, List.map_nil, List.sum_cons, List.sum_nil, true_and, and_true, List.getElem?_cons_zero, List.getElem?_cons_succ, Prod.eta, x_iast, x_bald, x_bast, x_last, x_alen, xup_s, xup_a1, xup_1a, xup_uu, nr_i, nr_l, nr_o, nr_a, ft_i, ft_l, ft_o, ft_a, Nat.reduceLT, i_cl0, i_cl1, i_n1, i_m1, List.set_cons_zero, List.set_cons_succ, Nat.reduceLeDiff, Nat.le_refl, Nat.zero_le, Nat.add_zero, x_no, x_ifnull, x_ifnonnull, x_acmp_eq, x_acmp_ne, x_swl, x_tsw, x_castC, true_or, or_true, nr_z, ft_z, nr_z0, nr_z1, ft_z0, ft_z1, nr_on, nr_an, ft_on, ft_an, nt, not_false_eq_true, d4]
    rw [← hK]
    have e1 : p / 10 = 10 ^ (3 - (j + 1)) := by
      rcases (show j = 0 ∨ j = 1 ∨ j = 2 by omega) with r | r | r <;> subst r <;> rw [hp] <;> decide
    exact xInvL.mk (c - 1) (x, a, p / 10, j + 1) (by omega) ⟨rfl, rfl, rfl, rfl, trivial⟩ ⟨by omega, e1, hz, fun _ => by rw [show 4 - (j + 1) = 3 - j by omega, ← hp]; omega, cur, fin, w, hfin, hr, hQ⟩
  refine xM_of (fun Q => b_X10_putWhole_0 Q (xInv cn_X10_putWhole22 (I_X10_putWhole22 Q)) (xInv cn_X10_putWhole22 (I_X10_putWhole47 Q))) RX10 false (fun Q => s_X10_putWhole_0 G l Q _ _ (L22 Q) (L47 Q)) (by decide) rfl (by decide) ?_
  rintro av ⟨h, S2⟩ Q ⟨x, z, L, rfl, hz, w, hr, hQ⟩
  dsimp only at *
  refine ⟨Nat.le_of_ble_eq_true rfl, ?_⟩
  have n0 : (0 : Int32) ≤ iZ z ↔ 0 ≤ z := by rw [i_le, iZ_toInt (by omega) (by omega), i_0]
  have na : (if 0 ≤ z then iZ z else 0 - iZ z) = nI z.natAbs := by
    split
    · rw [← iZ_nat]; congr 1; omega
    · rw [show (0 : Int32) = iZ 0 from rfl, iZ_sub, ← iZ_nat]; congr 1; omega
  have nl := nD_len z
  unfold nD at hQ nl
  have g10 : ∀ h2 cur, cur = L ++ (if z < 0 then [45] else []) → fW h2 h x → wW h2 x cur → b_X10_putWhole_10 Q (xInv cn_X10_putWhole22 (I_X10_putWhole22 Q)) (xInv cn_X10_putWhole22 (I_X10_putWhole47 Q)) [(0, .ref (x + 39)), (1, .int (iZ z))] [] (h2, S2) := by
    intro h2 cur hc f2 w2
    generalize hK1 : xInv cn_X10_putWhole22 (I_X10_putWhole22 Q) = K1
    simp only [q_c, x_iload, x_lload, x_aload, q_istore, q_lstore, q_astore, q_astore2, x_iinc, q_iadd, q_isub, q_imul, q_iand, q_ior, q_ixor, q_ladd, q_lsub, q_lmul, q_land, q_lor, q_lxor, q_idiv, q_irem, q_ldiv, q_lrem, q_ineg, q_lneg, q_ishl, q_ishr, q_iushr, q_lshl, q_lshr, q_lushr, q_i2l, q_l2i, q_i2b, q_i2c, q_lcmp, q_if_eq, q_if_ne, q_if_lt, q_if_ge, q_if_gt, q_if_le, q_icmp_eq, q_icmp_ne, q_icmp_lt, q_icmp_ge, q_icmp_gt, q_icmp_le, q_dup, q_pop, q_dup_x1, q_dup2, x_iret, x_zret, x_lret, x_aret, x_vret, x_call, x_callv, x_calli, x_oinit, x_mmax, x_mmin, x_mabs, x_mmaxL, x_mminL, x_mabsL, lg_cmp_ge, lg_cmp_le, lg_cmp_gt, lg_cmp_lt, lg_cmp_eq, xlk, q_xs1, q_xs2, lv_args, Value.category, List.filter_cons, List.filter_nil, Nat.reduceAdd, Nat.reduceBEq, Nat.reduceEqDiff, Nat.reduceSub, Nat.sub_zero, beq_self_eq_true, Bool.not_true, Bool.not_false, Bool.and_true, Bool.and_false, Bool.true_and, Bool.false_and, reduceIte, reduceCtorEq, Bool.false_eq_true, Nat.one_ne_zero, Nat.zero_ne_one, Nat.zero_add, Option.toList_some, Option.toList_none, List.nil_append, List.cons_append, List.take_succ_cons, List.take_zero, List.take_nil, List.drop_succ_cons, List.drop_zero, List.length_cons, List.length_nil, List.reverse_cons, List.reverse_nil, List.head?_cons, List.map_cons, List.map_nil, List.sum_cons, List.sum_nil, true_and, and_true, List.getElem?_cons_zero, List.getElem?_cons_succ, Prod.eta, x_iast, x_bald, x_bast, x_last, x_alen, xup_s, xup_a1, xup_1a, xup_uu, nr_i, nr_l, nr_o, nr_a, ft_i, ft_l, ft_o, ft_a, Nat.reduceLT, i_cl0, i_cl1, i_n1, i_m1, List.set_cons_zero, List.set_cons_succ, Nat.reduceLeDiff, Nat.le_refl, Nat.zero_le, Nat.add_zero, x_no, x_ifnull, x_ifnonnull, x_acmp_eq, x_acmp_ne, x_swl, x_tsw, x_castC, true_or, or_true, nr_z, ft_z, nr_z0, nr_z1, ft_z0, ft_z1, nr_on, nr_an, ft_on, ft_an, b_X10_putWhole_10, n0]
    rw [na, ← hK1]
    refine xInv.mk 3 (x, z.natAbs, 1000, 0) ⟨rfl, rfl, rfl, rfl, trivial⟩ ⟨rfl, by decide, by omega, fun t => absurd t (by decide), cur, _, w2, rfl, ?_, fun h3 f3 w3 => hQ h3 (xoff_tr f3 f2) ?_⟩
    · rw [hc, List.append_assoc, List.length_append]; omega
    · rw [hc, List.append_assoc] at w3; exact w3
  generalize hK1 : xInv cn_X10_putWhole22 (I_X10_putWhole22 Q) = K1 at *
  generalize hK2 : xInv cn_X10_putWhole22 (I_X10_putWhole47 Q) = K2 at *
  unfold b_X10_putWhole_0
  generalize b_X10_putWhole_10 Q K1 K2 = J at *
  simp only [q_c, x_iload, x_lload, x_aload, q_istore, q_lstore, q_astore, q_astore2, x_iinc, q_iadd, q_isub, q_imul, q_iand, q_ior, q_ixor, q_ladd, q_lsub, q_lmul, q_land, q_lor, q_lxor, q_idiv, q_irem, q_ldiv, q_lrem, q_ineg, q_lneg, q_ishl, q_ishr, q_iushr, q_lshl, q_lshr, q_lushr, q_i2l, q_l2i, q_i2b, q_i2c, q_lcmp, q_if_eq, q_if_ne, q_if_lt, q_if_ge, q_if_gt, q_if_le, q_icmp_eq, q_icmp_ne, q_icmp_lt, q_icmp_ge, q_icmp_gt, q_icmp_le, q_dup, q_pop, q_dup_x1, q_dup2, x_iret, x_zret, x_lret, x_aret, x_vret, x_call, x_callv, x_calli, x_oinit, x_mmax, x_mmin, x_mabs, x_mmaxL, x_mminL, x_mabsL, lg_cmp_ge, lg_cmp_le, lg_cmp_gt, lg_cmp_lt, lg_cmp_eq, xlk, q_xs1, q_xs2, lv_args, Value.category, List.filter_cons, List.filter_nil, Nat.reduceAdd, Nat.reduceBEq, Nat.reduceEqDiff, Nat.reduceSub, Nat.sub_zero, beq_self_eq_true, Bool.not_true, Bool.not_false, Bool.and_true, Bool.and_false, Bool.true_and, Bool.false_and, reduceIte, reduceCtorEq, Bool.false_eq_true, Nat.one_ne_zero, Nat.zero_ne_one, Nat.zero_add, Option.toList_some, Option.toList_none, List.nil_append, List.cons_append, List.take_succ_cons, List.take_zero, List.take_nil, List.drop_succ_cons, List.drop_zero, List.length_cons, List.length_nil, List.reverse_cons, List.reverse_nil, List.head?_cons, List.map_cons, List.map_nil, List.sum_cons, List.sum_nil, true_and, and_true, List.getElem?_cons_zero, List.getElem?_cons_succ, Prod.eta, x_iast, x_bald, x_bast, x_last, x_alen, xup_s, xup_a1, xup_1a, xup_uu, nr_i, nr_l, nr_o, nr_a, ft_i, ft_l, ft_o, ft_a, Nat.reduceLT, i_cl0, i_cl1, i_n1, i_m1, List.set_cons_zero, List.set_cons_succ, Nat.reduceLeDiff, Nat.le_refl, Nat.zero_le, Nat.add_zero, x_no, x_ifnull, x_ifnonnull, x_acmp_eq, x_acmp_ne, x_swl, x_tsw, x_castC, true_or, or_true, nr_z, ft_z, nr_z0, nr_z1, ft_z0, ft_z1, nr_on, nr_an, ft_on, ft_an, n0]
  refine ⟨fun y => g10 h L (by rw [if_neg (by omega), List.append_nil]) xoff_rf w, fun y => kw_put (b := 45) w (by decide) (by omega) fun h2 f2 w2 => ?_⟩
  try simp only [q_c, x_iload, x_lload, x_aload, q_istore, q_lstore, q_astore, q_astore2, x_iinc, q_iadd, q_isub, q_imul, q_iand, q_ior, q_ixor, q_ladd, q_lsub, q_lmul, q_land, q_lor, q_lxor, q_idiv, q_irem, q_ldiv, q_lrem, q_ineg, q_lneg, q_ishl, q_ishr, q_iushr, q_lshl, q_lshr, q_lushr, q_i2l, q_l2i, q_i2b, q_i2c, q_lcmp, q_if_eq, q_if_ne, q_if_lt, q_if_ge, q_if_gt, q_if_le, q_icmp_eq, q_icmp_ne, q_icmp_lt, q_icmp_ge, q_icmp_gt, q_icmp_le, q_dup, q_pop, q_dup_x1, q_dup2, x_iret, x_zret, x_lret, x_aret, x_vret, x_call, x_callv, x_calli, x_oinit, x_mmax, x_mmin, x_mabs, x_mmaxL, x_mminL, x_mabsL, lg_cmp_ge, lg_cmp_le, lg_cmp_gt, lg_cmp_lt, lg_cmp_eq, xlk, q_xs1, q_xs2, lv_args, Value.category, List.filter_cons, List.filter_nil, Nat.reduceAdd, Nat.reduceBEq, Nat.reduceEqDiff, Nat.reduceSub, Nat.sub_zero, beq_self_eq_true, Bool.not_true, Bool.not_false, Bool.and_true, Bool.and_false, Bool.true_and, Bool.false_and, reduceIte, reduceCtorEq, Bool.false_eq_true, Nat.one_ne_zero, Nat.zero_ne_one, Nat.zero_add, Option.toList_some, Option.toList_none, List.nil_append, List.cons_append, List.take_succ_cons, List.take_zero, List.take_nil, List.drop_succ_cons, List.drop_zero, List.length_cons, List.length_nil, List.reverse_cons, List.reverse_nil, List.head?_cons, List.map_cons, List.map_nil, List.sum_cons, List.sum_nil, true_and, and_true, List.getElem?_cons_zero, List.getElem?_cons_succ, Prod.eta, x_iast, x_bald, x_bast, x_last, x_alen, xup_s, xup_a1, xup_1a, xup_uu, nr_i, nr_l, nr_o, nr_a, ft_i, ft_l, ft_o, ft_a, Nat.reduceLT, i_cl0, i_cl1, i_n1, i_m1, List.set_cons_zero, List.set_cons_succ, Nat.reduceLeDiff, Nat.le_refl, Nat.zero_le, Nat.add_zero, x_no, x_ifnull, x_ifnonnull, x_acmp_eq, x_acmp_ne, x_swl, x_tsw, x_castC, true_or, or_true, nr_z, ft_z, nr_z0, nr_z1, ft_z0, ft_z1, nr_on, nr_an, ft_on, ft_an]
  exact g10 h2 _ (by rw [if_pos (by omega)]) f2 w2
