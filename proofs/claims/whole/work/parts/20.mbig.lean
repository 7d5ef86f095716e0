/-! IntervalTapeModel$Big (X12): an object at a, its digits (of 16 bits) at a + 1 -/
def mR (h : xH) (a : Nat) (x : Nat → Nat) (n : Nat) : Prop := h a = some (.inr (11, [.ref (a + 1), .int (nI n)])) ∧ h (a + 1) = some (.inl (0, 640, .inl (fun i => nI (x i)))) ∧ n ≤ 640 ∧ ∀ i, x i < 65536
def mV (h : xH) (a v : Nat) : Prop := ∃ x n, mR h a x n ∧ sd 65536 x n = v ∧ (0 < n → x (n - 1) ≠ 0)
theorem mR.off {h h' : xH} {a lo hi n : Nat} {x : Nat → Nat} (b : mR h a x n) (o : xoff h' h lo hi) (d : a + 2 ≤ lo ∨ hi ≤ a) : mR h' a x n := ⟨(o a (by omega)).trans b.1, (o (a + 1) (by omega)).trans b.2.1, b.2.2⟩
theorem mV.off {h h' : xH} {a lo hi v : Nat} (b : mV h a v) (o : xoff h' h lo hi) (d : a + 2 ≤ lo ∨ hi ≤ a) : mV h' a v := by
  obtain ⟨f, n, r, e⟩ := b
  exact ⟨f, n, r.off o d, e⟩
theorem upd_nI (x : Nat → Nat) (k y : Nat) : upd (fun i => nI (x i)) k (nI y) = fun i => nI (va_up x k y i) := by
  funext i
  unfold upd va_up
  split <;> rfl
theorem va_us {x : Nat → Nat} {k y : Nat} : va_up x k y k = y := if_pos rfl
theorem va_un {x : Nat → Nat} {k y j : Nat} (h : j ≠ k) : va_up x k y j = x j := if_neg h
theorem mR.wr {h : xH} {a n k y : Nat} {x : Nat → Nat} (b : mR h a x n) (hy : y < 65536) : mR (xup h (a + 1) (.inl (0, 640, .inl (fun i => nI (va_up x k y i))))) a (va_up x k y) n := ⟨xup_a1.trans b.1, xup_s, b.2.2.1, fun i => by
  unfold va_up
  split
  · exact hy
  · exact b.2.2.2 i⟩
theorem mR.sz {h : xH} {a n : Nat} {x : Nat → Nat} (b : mR h a x n) {m : Nat} (hm : m ≤ 640) : mR (xup h a (.inr (11, [.ref (a + 1), .int (nI m)]))) a x m := ⟨xup_s, xup_1a.trans b.2.1, hm, b.2.2.2⟩
theorem sd_norm {B : Nat} {x : Nat → Nat} {n : Nat} (hd : ∀ i, x i < B) (h : B ^ (n - 1) ≤ sd B x n) : 0 < n → x (n - 1) ≠ 0 := by
  intro hn q
  obtain ⟨m, rfl⟩ : ∃ m, n = m + 1 := ⟨n - 1, by omega⟩
  simp only [Nat.add_sub_cancel] at h q
  rw [sd, q, Nat.zero_mul, Nat.add_zero] at h
  have := sd_lt (B := B) (d := x) (n := m) (fun i _ => hd i)
  omega
theorem sd_size {B : Nat} {x : Nat → Nat} {n k : Nat} (hB : 1 < B) (hz : 0 < n → x (n - 1) ≠ 0) (h : sd B x n < B ^ k) : n ≤ k := by
  rcases Nat.lt_or_ge k n with q | q
  · have h1 := sd_top (B := B) (by omega) (hz (by omega))
    have h2 : B ^ k ≤ B ^ (n - 1) := Nat.pow_le_pow_right (by omega) (by omega)
    omega
  · exact q
theorem sd_up_hi {B : Nat} {x : Nat → Nat} {n k y : Nat} (h : n ≤ k) : sd B (va_up x k y) n = sd B x n := sd_congr fun i hi => va_un (by omega)
theorem sd_up {B : Nat} {x : Nat → Nat} {p m y : Nat} (h : p < m) : sd B (va_up x p y) m + x p * B ^ p = sd B x m + y * B ^ p := by
  induction m with
  | zero => omega
  | succ m ih =>
    rw [sd, sd]
    rcases Nat.lt_or_ge p m with q | q
    · rw [va_un (show m ≠ p by omega)]
      have := ih q
      omega
    · obtain rfl : p = m := by omega
      rw [sd_up_hi (Nat.le_refl p), va_us]
      omega
theorem sd_zero {B : Nat} {x : Nat → Nat} {n : Nat} (h : ∀ i, i < n → x i = 0) : sd B x n = 0 := by
  induction n with
  | zero => rfl
  | succ n ih => rw [sd, ih (fun i hi => h i (by omega)), h n (by omega), Nat.zero_mul]
theorem m_and {m : Nat} (h : m < 2 ^ 64) : lN m &&& 65535 = lN (m % 65536) := wb_mask (k := 16) h (by decide)
theorem m_sar {m : Nat} (h : m < 2 ^ 62) : lN m >>> ((16 : Int32).toInt64 &&& 63) = lN (m / 65536) := pf_shr (d := 16) (by decide) h
theorem m_ush {m : Nat} (h : m < 2 ^ 64) : ((lN m).toUInt64 >>> ((16 : Int32).toInt64.toUInt64 &&& Int64.toUInt64 63)).toInt64 = lN (m / 65536) := wb_shr (k := 16) h (by decide)
theorem m_cl {n : Nat} (h : n < 2 ^ 31) : (nI n).toNatClampNeg = n := nI_clamp h
theorem dX12_init_0 : decode cX12_init 0 = .ok (.aload_n 0, 1) := by decide +kernel
theorem dX12_init_1 : decode cX12_init 1 = .ok (.invokespecial 1, 3) := by decide +kernel
theorem dX12_init_4 : decode cX12_init 4 = .ok (.aload_n 0, 1) := by decide +kernel
theorem dX12_init_5 : decode cX12_init 5 = .ok (.sipush 640, 3) := by decide +kernel
theorem dX12_init_8 : decode cX12_init 8 = .ok (.newarray .int, 2) := by decide +kernel
theorem dX12_init_10 : decode cX12_init 10 = .ok (.putfield 7, 3) := by decide +kernel
theorem dX12_init_13 : decode cX12_init 13 = .ok (.return_, 1) := by decide +kernel
abbrev r_X12_init : Room := { frames := 1, cells := 1, slots := 640, locals := 12 }
abbrev m_X12_init : xMd := (cX12_init, RX12, 1, none, true, r_X12_init)
def b_X12_init_0 (Q : xQ) : xK := x_aload 0 <| x_oinit <| x_aload 0 <| x_c (.int 640) <| x_newi <| x_put 11 0 (.array .int) <| x_vret Q
theorem s_X12_init_0 (G : xG) (l : Launch) (Q : xQ) : xW G l m_X12_init xX0 (xPm G Q r_X12_init) 0 (b_X12_init_0 Q) := xo_aload_n (pc := 0) (i := 0) dX12_init_0 rfl <| xo_oinit (pc := 1) dX12_init_1 kw1166 kw36 kw37 (by decide) <| xo_aload_n (pc := 4) (i := 0) dX12_init_4 rfl <| xo_sipush (pc := 5) dX12_init_5 (by decide) <| xo_newi (pc := 8) kw87 dX12_init_8 <| xo_putF (pc := 10) (ci := 11) (i := 0) rfl ok11 (by decide) rfl rfl rfl rfl dX12_init_10 kw1167 <| xo_vret (pc := 13) rfl dX12_init_13

def C_X12_init : xC := fun av S Q => ∃ t, av = [.ref t] ∧ S.1 t = some (.inr (11, [.null, .int 0])) ∧ S.2.1 = t + 1 ∧ 1 ≤ S.2.2.1 ∧ 640 ≤ S.2.2.2 ∧ ∀ h', xoff h' S.1 t (t + 2) → mV h' t 0 → Q none (h', t + 2, S.2.2.1 - 1, S.2.2.2 - 640)
theorem cM_X12_init (G : xG) (l : Launch) : xM G l yX12_init cX12_init 1 none r_X12_init C_X12_init := by
  refine xM_of (fun Q => b_X12_init_0 Q) RX12 true (s_X12_init_0 G l) (by decide) rfl (by decide) ?_
  rintro av S Q ⟨t, rfl, h1, h2, h3, h4, hQ⟩
  refine ⟨Nat.le_of_ble_eq_true rfl, ?_⟩
  have e640 : (640 : Int32).toNatClampNeg = 640 := by decide
  simp only [x_c, x_iload, x_lload, x_aload, x_istore, x_lstore, x_astore, x_iinc, x_iadd, x_isub, x_imul, x_iand, x_ior, x_ixor, x_ladd, x_lsub, x_lmul, x_land, x_lor, x_lxor, x_idiv, x_irem, x_ldiv, x_lrem, x_ineg, x_lneg, x_ishl, x_ishr, x_iushr, x_lshl, x_lshr, x_lushr, x_i2l, x_l2i, x_i2b, x_i2c, x_lcmp, x_if_eq, x_if_ne, x_if_lt, x_if_ge, x_if_gt, x_if_le, x_icmp_eq, x_icmp_ne, x_icmp_lt, x_icmp_ge, x_icmp_gt, x_icmp_le, x_dup, x_pop, x_dup_x1, x_dup2, x_iret, x_zret, x_lret, x_aret, x_vret, x_call, x_callv, x_calli, x_oinit, x_mmax, x_mmin, x_mabs, x_mmaxL, x_mminL, x_mabsL, lg_cmp_ge, lg_cmp_le, lg_cmp_gt, lg_cmp_lt, lg_cmp_eq, xlk, xs1, xs2, lv_args, Value.category, List.filter_cons, List.filter_nil, Nat.reduceAdd, Nat.reduceBEq, Nat.reduceEqDiff, Nat.reduceSub, Nat.sub_zero, beq_self_eq_true, Bool.not_true, Bool.not_false, Bool.and_true, Bool.and_false, Bool.true_and, Bool.false_and, reduceIte, reduceCtorEq, Bool.false_eq_true, Nat.one_ne_zero, Nat.zero_ne_one, Nat.zero_add, Option.toList_some, Option.toList_none, List.nil_append, List.cons_append, List.take_succ_cons, List.take_zero, List.take_nil, List.drop_succ_cons, List.drop_zero, List.length_cons, List.length_nil, List.reverse_cons, List.reverse_nil, List.head?_cons, List.map_cons, List.map_nil, List.sum_cons, List.sum_nil, true_and, and_true, List.getElem?_cons_zero, List.getElem?_cons_succ, Prod.eta, x_get, x_put, x_iald, x_iast, x_bald, x_bast, x_lald, x_last, x_alen, xup_s, xup_a1, xup_1a, xup_uu, nr_i, nr_l, nr_o, nr_a, ft_i, ft_l, ft_o, ft_a, Nat.reduceLT, i_cl0, i_cl1, i_n1, i_m1, List.set_cons_zero, List.set_cons_succ, Nat.reduceLeDiff, Nat.le_refl, Nat.zero_le, Nat.add_zero, b_X12_init_0, x_newi, e640, h1, h2]
  refine ⟨by decide, h3, h4, ?_⟩
  refine hQ _ (xoff_up (xoff_up xoff_rf (by omega) (by omega)) (by omega) (by omega)) ⟨fun _ => 0, 0, ⟨xup_s, by rw [xup_1a, xup_s]; rfl, by omega, fun _ => (by decide : 0 < 65536)⟩, rfl, by omega⟩
theorem dX12_set_0 : decode cX12_set 0 = .ok (.aload_n 0, 1) := by decide +kernel
theorem dX12_set_1 : decode cX12_set 1 = .ok (.iconst 0, 1) := by decide +kernel
theorem dX12_set_2 : decode cX12_set 2 = .ok (.putfield 13, 3) := by decide +kernel
theorem dX12_set_5 : decode cX12_set 5 = .ok (.lload_n 1, 1) := by decide +kernel
theorem dX12_set_6 : decode cX12_set 6 = .ok (.lstore_n 3, 1) := by decide +kernel
theorem dX12_set_7 : decode cX12_set 7 = .ok (.lload_n 3, 1) := by decide +kernel
theorem dX12_set_8 : decode cX12_set 8 = .ok (.lconst 0, 1) := by decide +kernel
theorem dX12_set_9 : decode cX12_set 9 = .ok (.lcmp, 1) := by decide +kernel
theorem dX12_set_10 : decode cX12_set 10 = .ok (.ifCond .eq 36, 3) := by decide +kernel
theorem dX12_set_13 : decode cX12_set 13 = .ok (.aload_n 0, 1) := by decide +kernel
theorem dX12_set_14 : decode cX12_set 14 = .ok (.getfield 7, 3) := by decide +kernel
theorem dX12_set_17 : decode cX12_set 17 = .ok (.aload_n 0, 1) := by decide +kernel
theorem dX12_set_18 : decode cX12_set 18 = .ok (.getfield 13, 3) := by decide +kernel
theorem dX12_set_21 : decode cX12_set 21 = .ok (.lload_n 3, 1) := by decide +kernel
theorem dX12_set_22 : decode cX12_set 22 = .ok (.ldc2_w 17, 3) := by decide +kernel
theorem dX12_set_25 : decode cX12_set 25 = .ok (.land, 1) := by decide +kernel
theorem dX12_set_26 : decode cX12_set 26 = .ok (.l2i, 1) := by decide +kernel
theorem dX12_set_27 : decode cX12_set 27 = .ok (.iastore, 1) := by decide +kernel
theorem dX12_set_28 : decode cX12_set 28 = .ok (.aload_n 0, 1) := by decide +kernel
theorem dX12_set_29 : decode cX12_set 29 = .ok (.dup, 1) := by decide +kernel
theorem dX12_set_30 : decode cX12_set 30 = .ok (.getfield 13, 3) := by decide +kernel
theorem dX12_set_33 : decode cX12_set 33 = .ok (.iconst 1, 1) := by decide +kernel
theorem dX12_set_34 : decode cX12_set 34 = .ok (.iadd, 1) := by decide +kernel
theorem dX12_set_35 : decode cX12_set 35 = .ok (.putfield 13, 3) := by decide +kernel
theorem dX12_set_38 : decode cX12_set 38 = .ok (.lload_n 3, 1) := by decide +kernel
theorem dX12_set_39 : decode cX12_set 39 = .ok (.bipush 16, 2) := by decide +kernel
theorem dX12_set_41 : decode cX12_set 41 = .ok (.lushr, 1) := by decide +kernel
theorem dX12_set_42 : decode cX12_set 42 = .ok (.lstore_n 3, 1) := by decide +kernel
theorem dX12_set_43 : decode cX12_set 43 = .ok (.goto (-36), 3) := by decide +kernel
theorem dX12_set_46 : decode cX12_set 46 = .ok (.return_, 1) := by decide +kernel
abbrev r_X12_set : Room := { frames := 0, cells := 0, slots := 0, locals := 0 }
abbrev m_X12_set : xMd := (cX12_set, RX12, 5, none, false, r_X12_set)
def b_X12_set_0 (Q : xQ) (K7 : xK) : xK := x_aload 0 <| x_c (.int 0) <| x_put 11 1 .int <| x_lload 1 <| x_lstore 3 <| K7
def b_X12_set_7 (Q : xQ) (K7 : xK) : xK := x_lload 3 <| x_c (.long 0) <| x_lcmp <| x_if_eq (x_vret Q) <| x_aload 0 <| x_get 11 0 <| x_aload 0 <| x_get 11 1 <| x_lload 3 <| x_c (.long 65535) <| x_land <| x_l2i <| x_iast <| x_aload 0 <| x_dup <| x_get 11 1 <| x_c (.int 1) <| x_iadd <| x_put 11 1 .int <| x_lload 3 <| x_c (.int 16) <| x_lushr <| x_lstore 3 <| K7
theorem s_X12_set_0 (G : xG) (l : Launch) (Q : xQ) (K7 : xK) (h7 : xW G l m_X12_set xX0 (xPm G Q r_X12_set) 7 K7) : xW G l m_X12_set xX0 (xPm G Q r_X12_set) 0 (b_X12_set_0 Q K7) := xo_aload_n (pc := 0) (i := 0) dX12_set_0 rfl <| xo_iconst (pc := 1) dX12_set_1 (by decide) <| xo_put (pc := 2) (ci := 11) (i := 1) rfl ok11 (by decide) rfl rfl dX12_set_2 kw1168 <| xo_lload_n (pc := 5) (i := 1) dX12_set_5 rfl <| xo_lstore_n (pc := 6) (i := 3) dX12_set_6 rfl (by decide) <| h7
theorem s_X12_set_7 (G : xG) (l : Launch) (Q : xQ) (K7 : xK) (h7 : xW G l m_X12_set xX0 (xPm G Q r_X12_set) 7 K7) : xW G l m_X12_set xX0 (xPm G Q r_X12_set) 7 (b_X12_set_7 Q K7) := xo_lload_n (pc := 7) (i := 3) dX12_set_7 rfl <| xo_lconst (pc := 8) dX12_set_8 (by decide) <| xo_lcmp (pc := 9) dX12_set_9 <| xo_if_eq (pc := 10) (tgt := 46) dX12_set_10 (by decide) (xo_vret (pc := 46) rfl dX12_set_46) <| xo_aload_n (pc := 13) (i := 0) dX12_set_13 rfl <| xo_get (pc := 14) (ci := 11) (i := 0) rfl ok11 (by decide) dX12_set_14 kw1167 <| xo_aload_n (pc := 17) (i := 0) dX12_set_17 rfl <| xo_get (pc := 18) (ci := 11) (i := 1) rfl ok11 (by decide) dX12_set_18 kw1168 <| xo_lload_n (pc := 21) (i := 3) dX12_set_21 rfl <| xo_ldc2_w (pc := 22) dX12_set_22 kw1394 <| xo_land (pc := 25) dX12_set_25 <| xo_l2i (pc := 26) dX12_set_26 <| xo_iast (pc := 27) dX12_set_27 <| xo_aload_n (pc := 28) (i := 0) dX12_set_28 rfl <| xo_dup (pc := 29) dX12_set_29 <| xo_get (pc := 30) (ci := 11) (i := 1) rfl ok11 (by decide) dX12_set_30 kw1168 <| xo_iconst (pc := 33) dX12_set_33 (by decide) <| xo_iadd (pc := 34) dX12_set_34 <| xo_put (pc := 35) (ci := 11) (i := 1) rfl ok11 (by decide) rfl rfl dX12_set_35 kw1168 <| xo_lload_n (pc := 38) (i := 3) dX12_set_38 rfl <| xo_bipush (pc := 39) dX12_set_39 (by decide) <| xo_lushr (pc := 41) dX12_set_41 <| xo_lstore_n (pc := 42) (i := 3) dX12_set_42 rfl (by decide) <| xo_goto (pc := 43) (tgt := 7) dX12_set_43 (by decide) <| h7

def C_X12_set : xC := fun av S Q => ∃ t x n v, av = [.ref t, .long (lN v)] ∧ v < 2 ^ 64 ∧ mR S.1 t x n ∧ ∀ h', xoff h' S.1 t (t + 2) → mV h' t v → Q none (h', S.2)
def cn_X12_set : Nat × Nat → List (Nat × Value) := fun v => [(0, .ref v.1), (3, .long (lN v.2))]
def I_X12_set (Q : xQ) : Nat → Nat × Nat → xS → Prop := fun k v S => match v with
  | (t, w) => ∃ x n V, mR S.1 t x n ∧ k + n = 4 ∧ w < 65536 ^ k ∧ sd 65536 x n + w * 65536 ^ n = V ∧ (0 < n → 65536 ^ (n - 1) ≤ V) ∧ ∀ h', xoff h' S.1 t (t + 2) → mV h' t V → Q none (h', S.2)
theorem cM_X12_set (G : xG) (l : Launch) : xM G l yX12_set cX12_set 5 none r_X12_set C_X12_set := by
  refine xM_of (fun Q => b_X12_set_0 Q (xInv cn_X12_set (I_X12_set Q))) RX12 false (fun Q => s_X12_set_0 G l Q _ (xW.lp (b_X12_set_7 Q) (fun K hK => s_X12_set_7 G l Q K hK) ?_)) (by decide) rfl (by decide) ?_
  · rintro k ⟨t, w⟩ S ⟨x, n, V, r, hk, hw, hv, hlow, hQ⟩
    have hw64 : w < 2 ^ 64 := Nat.lt_of_lt_of_le hw (by rw [show (2 : Nat) ^ 64 = 65536 ^ 4 by decide]; exact Nat.pow_le_pow_right (by decide) (by omega))
    have e0 : lN w = 0 ↔ w = 0 := ⟨fun e => by have := congrArg uN e; rw [uN_lN hw64] at this; exact this, fun e => by rw [e]; rfl⟩
    have cn := m_cl (n := n) (by omega)
    have g1 : nI n + 1 = nI (n + 1) := nI_1 n
    simp only [x_c, x_iload, x_lload, x_aload, x_istore, x_lstore, x_astore, x_iinc, x_iadd, x_isub, x_imul, x_iand, x_ior, x_ixor, x_ladd, x_lsub, x_lmul, x_land, x_lor, x_lxor, x_idiv, x_irem, x_ldiv, x_lrem, x_ineg, x_lneg, x_ishl, x_ishr, x_iushr, x_lshl, x_lshr, x_lushr, x_i2l, x_l2i, x_i2b, x_i2c, x_lcmp, x_if_eq, x_if_ne, x_if_lt, x_if_ge, x_if_gt, x_if_le, x_icmp_eq, x_icmp_ne, x_icmp_lt, x_icmp_ge, x_icmp_gt, x_icmp_le, x_dup, x_pop, x_dup_x1, x_dup2, x_iret, x_zret, x_lret, x_aret, x_vret, x_call, x_callv, x_calli, x_oinit, x_mmax, x_mmin, x_mabs, x_mmaxL, x_mminL, x_mabsL, lg_cmp_ge, lg_cmp_le, lg_cmp_gt, lg_cmp_lt, lg_cmp_eq, xlk, xs1, xs2, lv_args, Value.category, List.filter_cons, List.filter_nil, Nat.reduceAdd, Nat.reduceBEq, Nat.reduceEqDiff, Nat.reduceSub, Nat.sub_zero, beq_self_eq_true, Bool.not_true, Bool.not_false, Bool.and_true, Bool.and_false, Bool.true_and, Bool.false_and, reduceIte, reduceCtorEq, Bool.false_eq_true, Nat.one_ne_zero, Nat.zero_ne_one, Nat.zero_add, Option.toList_some, Option.toList_none, List.nil_append, List.cons_append, List.take_succ_cons, List.take_zero, List.take_nil, List.drop_succ_cons, List.drop_zero, List.length_cons, List.length_nil, List.reverse_cons, List.reverse_nil, List.head?_cons, List.map_cons, List.map_nil, List.sum_cons, List.sum_nil, true_and, and_true, List.getElem?_cons_zero, List.getElem?_cons_succ, Prod.eta, x_get, x_put, x_iald, x_iast, x_bald, x_bast, x_lald, x_last, x_alen, xup_s, xup_a1, xup_1a, xup_uu, nr_i, nr_l, nr_o, nr_a, ft_i, ft_l, ft_o, ft_a, Nat.reduceLT, i_cl0, i_cl1, i_n1, i_m1, List.set_cons_zero, List.set_cons_succ, Nat.reduceLeDiff, Nat.le_refl, Nat.zero_le, Nat.add_zero, b_X12_set_7, cn_X12_set, r.1, r.2.1, e0, m_and hw64, m_ush hw64, lN_l2i, upd_nI, cn, g1]
    refine ⟨fun z => ?_, fun z => ⟨vp_in_nI (by omega) (by decide), ?_⟩⟩
    · subst z
      rw [Nat.zero_mul, Nat.add_zero] at hv
      exact hQ _ xoff_rf ⟨x, n, r, hv, fun hn => sd_norm r.2.2.2 (by rw [hv]; exact hlow hn) hn⟩
    · cases k with
      | zero => rw [Nat.pow_zero] at hw; omega
      | succ k =>
        have r1 := r.wr (k := n) (y := w % 65536) (Nat.mod_lt _ (by decide))
        refine xInvL.mk k (t, w / 65536) (by omega) ⟨rfl, rfl, trivial⟩ ⟨_, n + 1, V, r1.sz (by omega), by omega, ?_, ?_, fun _ => ?_, fun h' o' r' => hQ h' (xoff_tr o' (xoff_tr off_sz off_wr)) r'⟩
        · rw [Nat.div_lt_iff_lt_mul (by decide), ← Nat.pow_succ]; exact hw
        · rw [sd, sd_up_hi (Nat.le_refl n), va_us, Nat.pow_succ, ← hv]
          generalize 65536 ^ n = E
          have h1 := Nat.div_add_mod w 65536
          have h2 : w * E = (65536 * (w / 65536) + w % 65536) * E := by rw [h1]
          rw [Nat.add_mul] at h2
          have h3 : w / 65536 * (E * 65536) = 65536 * (w / 65536) * E := by ac_rfl
          omega
        · rw [Nat.add_sub_cancel]
          have : 1 * 65536 ^ n ≤ w * 65536 ^ n := Nat.mul_le_mul_right _ (by omega)
          omega
  · rintro av S Q ⟨t, x, n, v, rfl, hv, r, hQ⟩
    refine ⟨Nat.le_of_ble_eq_true rfl, ?_⟩
    simp only [x_c, x_iload, x_lload, x_aload, x_istore, x_lstore, x_astore, x_iinc, x_iadd, x_isub, x_imul, x_iand, x_ior, x_ixor, x_ladd, x_lsub, x_lmul, x_land, x_lor, x_lxor, x_idiv, x_irem, x_ldiv, x_lrem, x_ineg, x_lneg, x_ishl, x_ishr, x_iushr, x_lshl, x_lshr, x_lushr, x_i2l, x_l2i, x_i2b, x_i2c, x_lcmp, x_if_eq, x_if_ne, x_if_lt, x_if_ge, x_if_gt, x_if_le, x_icmp_eq, x_icmp_ne, x_icmp_lt, x_icmp_ge, x_icmp_gt, x_icmp_le, x_dup, x_pop, x_dup_x1, x_dup2, x_iret, x_zret, x_lret, x_aret, x_vret, x_call, x_callv, x_calli, x_oinit, x_mmax, x_mmin, x_mabs, x_mmaxL, x_mminL, x_mabsL, lg_cmp_ge, lg_cmp_le, lg_cmp_gt, lg_cmp_lt, lg_cmp_eq, xlk, xs1, xs2, lv_args, Value.category, List.filter_cons, List.filter_nil, Nat.reduceAdd, Nat.reduceBEq, Nat.reduceEqDiff, Nat.reduceSub, Nat.sub_zero, beq_self_eq_true, Bool.not_true, Bool.not_false, Bool.and_true, Bool.and_false, Bool.true_and, Bool.false_and, reduceIte, reduceCtorEq, Bool.false_eq_true, Nat.one_ne_zero, Nat.zero_ne_one, Nat.zero_add, Option.toList_some, Option.toList_none, List.nil_append, List.cons_append, List.take_succ_cons, List.take_zero, List.take_nil, List.drop_succ_cons, List.drop_zero, List.length_cons, List.length_nil, List.reverse_cons, List.reverse_nil, List.head?_cons, List.map_cons, List.map_nil, List.sum_cons, List.sum_nil, true_and, and_true, List.getElem?_cons_zero, List.getElem?_cons_succ, Prod.eta, x_get, x_put, x_iald, x_iast, x_bald, x_bast, x_lald, x_last, x_alen, xup_s, xup_a1, xup_1a, xup_uu, nr_i, nr_l, nr_o, nr_a, ft_i, ft_l, ft_o, ft_a, Nat.reduceLT, i_cl0, i_cl1, i_n1, i_m1, List.set_cons_zero, List.set_cons_succ, Nat.reduceLeDiff, Nat.le_refl, Nat.zero_le, Nat.add_zero, b_X12_set_0, r.1]
    refine xInv.mk 4 (t, v) ⟨rfl, rfl, trivial⟩ ⟨x, 0, v, r.sz (m := 0) (Nat.zero_le _), rfl, hv, by rw [Nat.pow_zero, Nat.mul_one]; exact Nat.zero_add v, fun h => absurd h (by omega), fun h' o' r' => hQ h' (xoff_tr o' off_sz) r'⟩
theorem dX12_copy_0 : decode cX12_copy 0 = .ok (.aload_n 0, 1) := by decide +kernel
theorem dX12_copy_1 : decode cX12_copy 1 = .ok (.aload_n 1, 1) := by decide +kernel
theorem dX12_copy_2 : decode cX12_copy 2 = .ok (.getfield 13, 3) := by decide +kernel
theorem dX12_copy_5 : decode cX12_copy 5 = .ok (.putfield 13, 3) := by decide +kernel
theorem dX12_copy_8 : decode cX12_copy 8 = .ok (.iconst 0, 1) := by decide +kernel
theorem dX12_copy_9 : decode cX12_copy 9 = .ok (.istore_n 2, 1) := by decide +kernel
theorem dX12_copy_10 : decode cX12_copy 10 = .ok (.iload_n 2, 1) := by decide +kernel
theorem dX12_copy_11 : decode cX12_copy 11 = .ok (.aload_n 0, 1) := by decide +kernel
theorem dX12_copy_12 : decode cX12_copy 12 = .ok (.getfield 13, 3) := by decide +kernel
theorem dX12_copy_15 : decode cX12_copy 15 = .ok (.if_icmp .ge 21, 3) := by decide +kernel
theorem dX12_copy_18 : decode cX12_copy 18 = .ok (.aload_n 0, 1) := by decide +kernel
theorem dX12_copy_19 : decode cX12_copy 19 = .ok (.getfield 7, 3) := by decide +kernel
theorem dX12_copy_22 : decode cX12_copy 22 = .ok (.iload_n 2, 1) := by decide +kernel
theorem dX12_copy_23 : decode cX12_copy 23 = .ok (.aload_n 1, 1) := by decide +kernel
theorem dX12_copy_24 : decode cX12_copy 24 = .ok (.getfield 7, 3) := by decide +kernel
theorem dX12_copy_27 : decode cX12_copy 27 = .ok (.iload_n 2, 1) := by decide +kernel
theorem dX12_copy_28 : decode cX12_copy 28 = .ok (.iaload, 1) := by decide +kernel
theorem dX12_copy_29 : decode cX12_copy 29 = .ok (.iastore, 1) := by decide +kernel
theorem dX12_copy_30 : decode cX12_copy 30 = .ok (.iinc 2 1, 3) := by decide +kernel
theorem dX12_copy_33 : decode cX12_copy 33 = .ok (.goto (-23), 3) := by decide +kernel
theorem dX12_copy_36 : decode cX12_copy 36 = .ok (.return_, 1) := by decide +kernel
abbrev r_X12_copy : Room := { frames := 0, cells := 0, slots := 0, locals := 0 }
abbrev m_X12_copy : xMd := (cX12_copy, RX12, 3, none, false, r_X12_copy)
def b_X12_copy_0 (Q : xQ) (K10 : xK) : xK := x_aload 0 <| x_aload 1 <| x_get 11 1 <| x_put 11 1 .int <| x_c (.int 0) <| x_istore 2 <| K10
def b_X12_copy_10 (Q : xQ) (K10 : xK) : xK := x_iload 2 <| x_aload 0 <| x_get 11 1 <| x_icmp_ge (x_vret Q) <| x_aload 0 <| x_get 11 0 <| x_iload 2 <| x_aload 1 <| x_get 11 0 <| x_iload 2 <| x_iald <| x_iast <| x_iinc 2 1 <| K10
theorem s_X12_copy_0 (G : xG) (l : Launch) (Q : xQ) (K10 : xK) (h10 : xW G l m_X12_copy xX0 (xPm G Q r_X12_copy) 10 K10) : xW G l m_X12_copy xX0 (xPm G Q r_X12_copy) 0 (b_X12_copy_0 Q K10) := xo_aload_n (pc := 0) (i := 0) dX12_copy_0 rfl <| xo_aload_n (pc := 1) (i := 1) dX12_copy_1 rfl <| xo_get (pc := 2) (ci := 11) (i := 1) rfl ok11 (by decide) dX12_copy_2 kw1168 <| xo_put (pc := 5) (ci := 11) (i := 1) rfl ok11 (by decide) rfl rfl dX12_copy_5 kw1168 <| xo_iconst (pc := 8) dX12_copy_8 (by decide) <| xo_istore_n (pc := 9) (i := 2) dX12_copy_9 rfl (by decide) <| h10
theorem s_X12_copy_10 (G : xG) (l : Launch) (Q : xQ) (K10 : xK) (h10 : xW G l m_X12_copy xX0 (xPm G Q r_X12_copy) 10 K10) : xW G l m_X12_copy xX0 (xPm G Q r_X12_copy) 10 (b_X12_copy_10 Q K10) := xo_iload_n (pc := 10) (i := 2) dX12_copy_10 rfl <| xo_aload_n (pc := 11) (i := 0) dX12_copy_11 rfl <| xo_get (pc := 12) (ci := 11) (i := 1) rfl ok11 (by decide) dX12_copy_12 kw1168 <| xo_icmp_ge (pc := 15) (tgt := 36) dX12_copy_15 (by decide) (xo_vret (pc := 36) rfl dX12_copy_36) <| xo_aload_n (pc := 18) (i := 0) dX12_copy_18 rfl <| xo_get (pc := 19) (ci := 11) (i := 0) rfl ok11 (by decide) dX12_copy_19 kw1167 <| xo_iload_n (pc := 22) (i := 2) dX12_copy_22 rfl <| xo_aload_n (pc := 23) (i := 1) dX12_copy_23 rfl <| xo_get (pc := 24) (ci := 11) (i := 0) rfl ok11 (by decide) dX12_copy_24 kw1167 <| xo_iload_n (pc := 27) (i := 2) dX12_copy_27 rfl <| xo_iald (pc := 28) dX12_copy_28 <| xo_iast (pc := 29) dX12_copy_29 <| xo_iinc (pc := 30) dX12_copy_30 (by decide) <| xo_goto (pc := 33) (tgt := 10) dX12_copy_33 (by decide) <| h10

def C_X12_copy : xC := fun av S Q => ∃ (a b v : Nat), av = [.ref a, .ref b] ∧ (a + 2 ≤ b ∨ b + 2 ≤ a) ∧ (∃ f n, mR S.1 a f n) ∧ mV S.1 b v ∧ ∀ h', xoff h' S.1 a (a + 2) → mV h' a v → Q none (h', S.2)
def cn_X12_copy : Nat × Nat × Nat → List (Nat × Value) := fun v => [(0, .ref v.1), (1, .ref v.2.1), (2, .int (nI v.2.2))]
def I_X12_copy (Q : xQ) : Nat → Nat × Nat × Nat → xS → Prop := fun k v S => match v with
  | (a, b, i) => ∃ f g m, mR S.1 a f m ∧ mR S.1 b g m ∧ (a + 2 ≤ b ∨ b + 2 ≤ a) ∧ k + i = m ∧ (∀ j, j < i → f j = g j) ∧ ∀ h', xoff h' S.1 a (a + 2) → (∃ f', mR h' a f' m ∧ ∀ j, j < m → f' j = g j) → Q none (h', S.2)
theorem cM_X12_copy (G : xG) (l : Launch) : xM G l yX12_copy cX12_copy 3 none r_X12_copy C_X12_copy := by
  refine xM_of (fun Q => b_X12_copy_0 Q (xInv cn_X12_copy (I_X12_copy Q))) RX12 false (fun Q => s_X12_copy_0 G l Q _ (xW.lp (b_X12_copy_10 Q) (fun K hK => s_X12_copy_10 G l Q K hK) ?_)) (by decide) rfl (by decide) ?_
  · rintro k ⟨a, b, i⟩ S ⟨f, g, m, ra, rb, hd, hk, hi, hQ⟩
    have m2 := ra.2.2.1
    have en := nI_leI (show m < 2 ^ 31 by omega) (show i < 2 ^ 31 by omega)
    have ci := m_cl (n := i) (by omega)
    simp only [x_c, x_iload, x_lload, x_aload, x_istore, x_lstore, x_astore, x_iinc, x_iadd, x_isub, x_imul, x_iand, x_ior, x_ixor, x_ladd, x_lsub, x_lmul, x_land, x_lor, x_lxor, x_idiv, x_irem, x_ldiv, x_lrem, x_ineg, x_lneg, x_ishl, x_ishr, x_iushr, x_lshl, x_lshr, x_lushr, x_i2l, x_l2i, x_i2b, x_i2c, x_lcmp, x_if_eq, x_if_ne, x_if_lt, x_if_ge, x_if_gt, x_if_le, x_icmp_eq, x_icmp_ne, x_icmp_lt, x_icmp_ge, x_icmp_gt, x_icmp_le, x_dup, x_pop, x_dup_x1, x_dup2, x_iret, x_zret, x_lret, x_aret, x_vret, x_call, x_callv, x_calli, x_oinit, x_mmax, x_mmin, x_mabs, x_mmaxL, x_mminL, x_mabsL, lg_cmp_ge, lg_cmp_le, lg_cmp_gt, lg_cmp_lt, lg_cmp_eq, xlk, xs1, xs2, lv_args, Value.category, List.filter_cons, List.filter_nil, Nat.reduceAdd, Nat.reduceBEq, Nat.reduceEqDiff, Nat.reduceSub, Nat.sub_zero, beq_self_eq_true, Bool.not_true, Bool.not_false, Bool.and_true, Bool.and_false, Bool.true_and, Bool.false_and, reduceIte, reduceCtorEq, Bool.false_eq_true, Nat.one_ne_zero, Nat.zero_ne_one, Nat.zero_add, Option.toList_some, Option.toList_none, List.nil_append, List.cons_append, List.take_succ_cons, List.take_zero, List.take_nil, List.drop_succ_cons, List.drop_zero, List.length_cons, List.length_nil, List.reverse_cons, List.reverse_nil, List.head?_cons, List.map_cons, List.map_nil, List.sum_cons, List.sum_nil, true_and, and_true, List.getElem?_cons_zero, List.getElem?_cons_succ, Prod.eta, x_get, x_put, x_iald, x_iast, x_bald, x_bast, x_lald, x_last, x_alen, xup_s, xup_a1, xup_1a, xup_uu, nr_i, nr_l, nr_o, nr_a, ft_i, ft_l, ft_o, ft_a, Nat.reduceLT, i_cl0, i_cl1, i_n1, i_m1, List.set_cons_zero, List.set_cons_succ, Nat.reduceLeDiff, Nat.le_refl, Nat.zero_le, Nat.add_zero, b_X12_copy_10, cn_X12_copy, ra.1, ra.2.1, rb.1, rb.2.1, en, ci, upd_nI]
    refine ⟨fun q => ?_, fun q => ⟨vp_in_nI (by omega) (by decide), vp_in_nI (by omega) (by decide), ?_⟩⟩
    · obtain rfl : i = m := by omega
      exact hQ _ xoff_rf ⟨f, ra, hi⟩
    · refine xInvL.mk (k - 1) (a, b, i + 1) (by omega) ⟨rfl, rfl, rfl, trivial⟩ ⟨_, g, m, ra.wr (rb.2.2.2 i), rb.off off_wr (by omega), hd, by omega, fun j hj => ?_, fun h' o' r' => hQ h' (xoff_tr o' off_wr) r'⟩
      by_cases e : j = i
      · subst e; exact va_us
      · rw [va_un e]; exact hi j (by omega)
  · rintro av S Q ⟨a, b, v, rfl, hd, ⟨f, n, hf⟩, ⟨g, m, hg, hv, hz⟩, hQ⟩
    refine ⟨Nat.le_of_ble_eq_true rfl, ?_⟩
    simp only [x_c, x_iload, x_lload, x_aload, x_istore, x_lstore, x_astore, x_iinc, x_iadd, x_isub, x_imul, x_iand, x_ior, x_ixor, x_ladd, x_lsub, x_lmul, x_land, x_lor, x_lxor, x_idiv, x_irem, x_ldiv, x_lrem, x_ineg, x_lneg, x_ishl, x_ishr, x_iushr, x_lshl, x_lshr, x_lushr, x_i2l, x_l2i, x_i2b, x_i2c, x_lcmp, x_if_eq, x_if_ne, x_if_lt, x_if_ge, x_if_gt, x_if_le, x_icmp_eq, x_icmp_ne, x_icmp_lt, x_icmp_ge, x_icmp_gt, x_icmp_le, x_dup, x_pop, x_dup_x1, x_dup2, x_iret, x_zret, x_lret, x_aret, x_vret, x_call, x_callv, x_calli, x_oinit, x_mmax, x_mmin, x_mabs, x_mmaxL, x_mminL, x_mabsL, lg_cmp_ge, lg_cmp_le, lg_cmp_gt, lg_cmp_lt, lg_cmp_eq, xlk, xs1, xs2, lv_args, Value.category, List.filter_cons, List.filter_nil, Nat.reduceAdd, Nat.reduceBEq, Nat.reduceEqDiff, Nat.reduceSub, Nat.sub_zero, beq_self_eq_true, Bool.not_true, Bool.not_false, Bool.and_true, Bool.and_false, Bool.true_and, Bool.false_and, reduceIte, reduceCtorEq, Bool.false_eq_true, Nat.one_ne_zero, Nat.zero_ne_one, Nat.zero_add, Option.toList_some, Option.toList_none, List.nil_append, List.cons_append, List.take_succ_cons, List.take_zero, List.take_nil, List.drop_succ_cons, List.drop_zero, List.length_cons, List.length_nil, List.reverse_cons, List.reverse_nil, List.head?_cons, List.map_cons, List.map_nil, List.sum_cons, List.sum_nil, true_and, and_true, List.getElem?_cons_zero, List.getElem?_cons_succ, Prod.eta, x_get, x_put, x_iald, x_iast, x_bald, x_bast, x_lald, x_last, x_alen, xup_s, xup_a1, xup_1a, xup_uu, nr_i, nr_l, nr_o, nr_a, ft_i, ft_l, ft_o, ft_a, Nat.reduceLT, i_cl0, i_cl1, i_n1, i_m1, List.set_cons_zero, List.set_cons_succ, Nat.reduceLeDiff, Nat.le_refl, Nat.zero_le, Nat.add_zero, b_X12_copy_0, hf.1, hg.1]
    refine xInv.mk m (a, b, 0) ⟨rfl, rfl, rfl, trivial⟩ ⟨f, g, m, hf.sz hg.2.2.1, hg.off (lo := a) (hi := a + 2) off_sz (by omega), hd, rfl, fun i hi => absurd hi (Nat.not_lt_zero _), fun h' o' r' => hQ h' (xoff_tr o' off_sz) ?_⟩
    obtain ⟨f', hf', he⟩ := r'
    exact ⟨f', m, hf', by rw [← hv]; exact sd_congr he, fun q => by rw [he _ (by omega)]; exact hz q⟩
theorem dX12_isOne_0 : decode cX12_isOne 0 = .ok (.aload_n 0, 1) := by decide +kernel
theorem dX12_isOne_1 : decode cX12_isOne 1 = .ok (.getfield 13, 3) := by decide +kernel
theorem dX12_isOne_4 : decode cX12_isOne 4 = .ok (.iconst 1, 1) := by decide +kernel
theorem dX12_isOne_5 : decode cX12_isOne 5 = .ok (.if_icmp .ne 17, 3) := by decide +kernel
theorem dX12_isOne_8 : decode cX12_isOne 8 = .ok (.aload_n 0, 1) := by decide +kernel
theorem dX12_isOne_9 : decode cX12_isOne 9 = .ok (.getfield 7, 3) := by decide +kernel
theorem dX12_isOne_12 : decode cX12_isOne 12 = .ok (.iconst 0, 1) := by decide +kernel
theorem dX12_isOne_13 : decode cX12_isOne 13 = .ok (.iaload, 1) := by decide +kernel
theorem dX12_isOne_14 : decode cX12_isOne 14 = .ok (.iconst 1, 1) := by decide +kernel
theorem dX12_isOne_15 : decode cX12_isOne 15 = .ok (.if_icmp .ne 7, 3) := by decide +kernel
theorem dX12_isOne_18 : decode cX12_isOne 18 = .ok (.iconst 1, 1) := by decide +kernel
theorem dX12_isOne_19 : decode cX12_isOne 19 = .ok (.goto 4, 3) := by decide +kernel
theorem dX12_isOne_22 : decode cX12_isOne 22 = .ok (.iconst 0, 1) := by decide +kernel
theorem dX12_isOne_23 : decode cX12_isOne 23 = .ok (.ireturn, 1) := by decide +kernel
abbrev r_X12_isOne : Room := { frames := 0, cells := 0, slots := 0, locals := 0 }
abbrev m_X12_isOne : xMd := (cX12_isOne, RX12, 1, (some FieldType.boolean), false, r_X12_isOne)
def b_X12_isOne_23 (Q : xQ) : xK := x_zret FieldType.boolean Q
def b_X12_isOne_22 (Q : xQ) : xK := x_c (.int 0) <| (b_X12_isOne_23 Q)
def b_X12_isOne_0 (Q : xQ) : xK := x_aload 0 <| x_get 11 1 <| x_c (.int 1) <| x_icmp_ne ((b_X12_isOne_22 Q)) <| x_aload 0 <| x_get 11 0 <| x_c (.int 0) <| x_iald <| x_c (.int 1) <| x_icmp_ne ((b_X12_isOne_22 Q)) <| x_c (.int 1) <| (b_X12_isOne_23 Q)
theorem s_X12_isOne_23 (G : xG) (l : Launch) (Q : xQ) : xW G l m_X12_isOne xX0 (xPm G Q r_X12_isOne) 23 (b_X12_isOne_23 Q) := xo_zret (pc := 23) rfl dX12_isOne_23
theorem s_X12_isOne_22 (G : xG) (l : Launch) (Q : xQ) : xW G l m_X12_isOne xX0 (xPm G Q r_X12_isOne) 22 (b_X12_isOne_22 Q) := xo_iconst (pc := 22) dX12_isOne_22 (by decide) <| (s_X12_isOne_23 G l Q)
theorem s_X12_isOne_0 (G : xG) (l : Launch) (Q : xQ) : xW G l m_X12_isOne xX0 (xPm G Q r_X12_isOne) 0 (b_X12_isOne_0 Q) := xo_aload_n (pc := 0) (i := 0) dX12_isOne_0 rfl <| xo_get (pc := 1) (ci := 11) (i := 1) rfl ok11 (by decide) dX12_isOne_1 kw1168 <| xo_iconst (pc := 4) dX12_isOne_4 (by decide) <| xo_icmp_ne (pc := 5) (tgt := 22) dX12_isOne_5 (by decide) ((s_X12_isOne_22 G l Q)) <| xo_aload_n (pc := 8) (i := 0) dX12_isOne_8 rfl <| xo_get (pc := 9) (ci := 11) (i := 0) rfl ok11 (by decide) dX12_isOne_9 kw1167 <| xo_iconst (pc := 12) dX12_isOne_12 (by decide) <| xo_iald (pc := 13) dX12_isOne_13 <| xo_iconst (pc := 14) dX12_isOne_14 (by decide) <| xo_icmp_ne (pc := 15) (tgt := 22) dX12_isOne_15 (by decide) ((s_X12_isOne_22 G l Q)) <| xo_iconst (pc := 18) dX12_isOne_18 (by decide) <| xo_goto (pc := 19) (tgt := 23) dX12_isOne_19 (by decide) <| (s_X12_isOne_23 G l Q)

def C_X12_isOne : xC := fun av S Q => ∃ a v, av = [.ref a] ∧ mV S.1 a v ∧ Q (some (.int (if v = 1 then 1 else 0))) S
theorem cM_X12_isOne (G : xG) (l : Launch) : xM G l yX12_isOne cX12_isOne 1 (some FieldType.boolean) r_X12_isOne C_X12_isOne := by
  refine xM_of (fun Q => b_X12_isOne_0 Q) RX12 false (s_X12_isOne_0 G l) (by decide) rfl (by decide) ?_
  rintro av S Q ⟨a, v, rfl, ⟨f, n, r, hv, hz⟩, hQ⟩
  refine ⟨Nat.le_of_ble_eq_true rfl, ?_⟩
  have n2 := r.2.2.1
  have f0 := r.2.2.2 0
  have en : nI n = 1 ↔ n = 1 := nI_eq (b := 1) (by omega) (by decide)
  have ew : nI (f 0) = 1 ↔ f 0 = 1 := nI_eq (b := 1) (by omega) (by decide)
  simp only [x_c, x_iload, x_lload, x_aload, x_istore, x_lstore, x_astore, x_iinc, x_iadd, x_isub, x_imul, x_iand, x_ior, x_ixor, x_ladd, x_lsub, x_lmul, x_land, x_lor, x_lxor, x_idiv, x_irem, x_ldiv, x_lrem, x_ineg, x_lneg, x_ishl, x_ishr, x_iushr, x_lshl, x_lshr, x_lushr, x_i2l, x_l2i, x_i2b, x_i2c, x_lcmp, x_if_eq, x_if_ne, x_if_lt, x_if_ge, x_if_gt, x_if_le, x_icmp_eq, x_icmp_ne, x_icmp_lt, x_icmp_ge, x_icmp_gt, x_icmp_le, x_dup, x_pop, x_dup_x1, x_dup2, x_iret, x_zret, x_lret, x_aret, x_vret, x_call, x_callv, x_calli, x_oinit, x_mmax, x_mmin, x_mabs, x_mmaxL, x_mminL, x_mabsL, lg_cmp_ge, lg_cmp_le, lg_cmp_gt, lg_cmp_lt, lg_cmp_eq, xlk, xs1, xs2, lv_args, Value.category, List.filter_cons, List.filter_nil, Nat.reduceAdd, Nat.reduceBEq, Nat.reduceEqDiff, Nat.reduceSub, Nat.sub_zero, beq_self_eq_true, Bool.not_true, Bool.not_false, Bool.and_true, Bool.and_false, Bool.true_and, Bool.false_and, reduceIte, reduceCtorEq, Bool.false_eq_true, Nat.one_ne_zero, Nat.zero_ne_one, Nat.zero_add, Option.toList_some, Option.toList_none, List.nil_append, List.cons_append, List.take_succ_cons, List.take_zero, List.take_nil, List.drop_succ_cons, List.drop_zero, List.length_cons, List.length_nil, List.reverse_cons, List.reverse_nil, List.head?_cons, List.map_cons, List.map_nil, List.sum_cons, List.sum_nil, true_and, and_true, List.getElem?_cons_zero, List.getElem?_cons_succ, Prod.eta, x_get, x_put, x_iald, x_iast, x_bald, x_bast, x_lald, x_last, x_alen, xup_s, xup_a1, xup_1a, xup_uu, nr_i, nr_l, nr_o, nr_a, ft_i, ft_l, ft_o, ft_a, Nat.reduceLT, i_cl0, i_cl1, i_n1, i_m1, List.set_cons_zero, List.set_cons_succ, Nat.reduceLeDiff, Nat.le_refl, Nat.zero_le, Nat.add_zero, b_X12_isOne_0, b_X12_isOne_22, b_X12_isOne_23, r.1, r.2.1, en, ew]
  have e1 : n = 1 → sd 65536 f n = f 0 := fun e => by subst e; simp [sd]
  refine ⟨fun q => ⟨rfl, ?_⟩, fun q => ⟨by unfold vp_in; decide, fun w => ⟨rfl, ?_⟩, fun w => ⟨rfl, ?_⟩⟩⟩
  · rw [if_neg] at hQ
    · exact hQ
    · intro e
      rcases Nat.lt_or_ge n 1 with z | z
      · rw [show n = 0 by omega] at hv; rw [← hv] at e; cases e
      · have := sd_top (B := 65536) (by omega) (hz (by omega))
        rw [hv, e] at this
        have h5 : 65536 ^ 1 ≤ 65536 ^ (n - 1) := Nat.pow_le_pow_right (by decide) (by omega)
        omega
  · rw [if_neg] at hQ
    · exact hQ
    · rw [← hv, e1 q]; exact w
  · rw [if_pos] at hQ
    · exact hQ
    · rw [← hv, e1 q]; exact w
theorem dX12_trim_0 : decode cX12_trim 0 = .ok (.aload_n 0, 1) := by decide +kernel
theorem dX12_trim_1 : decode cX12_trim 1 = .ok (.getfield 13, 3) := by decide +kernel
theorem dX12_trim_4 : decode cX12_trim 4 = .ok (.ifCond .le 30, 3) := by decide +kernel
theorem dX12_trim_7 : decode cX12_trim 7 = .ok (.aload_n 0, 1) := by decide +kernel
theorem dX12_trim_8 : decode cX12_trim 8 = .ok (.getfield 7, 3) := by decide +kernel
theorem dX12_trim_11 : decode cX12_trim 11 = .ok (.aload_n 0, 1) := by decide +kernel
theorem dX12_trim_12 : decode cX12_trim 12 = .ok (.getfield 13, 3) := by decide +kernel
theorem dX12_trim_15 : decode cX12_trim 15 = .ok (.iconst 1, 1) := by decide +kernel
theorem dX12_trim_16 : decode cX12_trim 16 = .ok (.isub, 1) := by decide +kernel
theorem dX12_trim_17 : decode cX12_trim 17 = .ok (.iaload, 1) := by decide +kernel
theorem dX12_trim_18 : decode cX12_trim 18 = .ok (.ifCond .ne 16, 3) := by decide +kernel
theorem dX12_trim_21 : decode cX12_trim 21 = .ok (.aload_n 0, 1) := by decide +kernel
theorem dX12_trim_22 : decode cX12_trim 22 = .ok (.dup, 1) := by decide +kernel
theorem dX12_trim_23 : decode cX12_trim 23 = .ok (.getfield 13, 3) := by decide +kernel
theorem dX12_trim_26 : decode cX12_trim 26 = .ok (.iconst 1, 1) := by decide +kernel
theorem dX12_trim_27 : decode cX12_trim 27 = .ok (.isub, 1) := by decide +kernel
theorem dX12_trim_28 : decode cX12_trim 28 = .ok (.putfield 13, 3) := by decide +kernel
theorem dX12_trim_31 : decode cX12_trim 31 = .ok (.goto (-31), 3) := by decide +kernel
theorem dX12_trim_34 : decode cX12_trim 34 = .ok (.return_, 1) := by decide +kernel
abbrev r_X12_trim : Room := { frames := 0, cells := 0, slots := 0, locals := 0 }
abbrev m_X12_trim : xMd := (cX12_trim, RX12, 1, none, false, r_X12_trim)
def b_X12_trim_34 (Q : xQ) (K0 : xK) : xK := x_vret Q
def b_X12_trim_0 (Q : xQ) (K0 : xK) : xK := x_aload 0 <| x_get 11 1 <| x_if_le ((b_X12_trim_34 Q K0)) <| x_aload 0 <| x_get 11 0 <| x_aload 0 <| x_get 11 1 <| x_c (.int 1) <| x_isub <| x_iald <| x_if_ne ((b_X12_trim_34 Q K0)) <| x_aload 0 <| x_dup <| x_get 11 1 <| x_c (.int 1) <| x_isub <| x_put 11 1 .int <| K0
theorem s_X12_trim_34 (G : xG) (l : Launch) (Q : xQ) (K0 : xK) (h0 : xW G l m_X12_trim xX0 (xPm G Q r_X12_trim) 0 K0) : xW G l m_X12_trim xX0 (xPm G Q r_X12_trim) 34 (b_X12_trim_34 Q K0) := xo_vret (pc := 34) rfl dX12_trim_34
theorem s_X12_trim_0 (G : xG) (l : Launch) (Q : xQ) (K0 : xK) (h0 : xW G l m_X12_trim xX0 (xPm G Q r_X12_trim) 0 K0) : xW G l m_X12_trim xX0 (xPm G Q r_X12_trim) 0 (b_X12_trim_0 Q K0) := xo_aload_n (pc := 0) (i := 0) dX12_trim_0 rfl <| xo_get (pc := 1) (ci := 11) (i := 1) rfl ok11 (by decide) dX12_trim_1 kw1168 <| xo_if_le (pc := 4) (tgt := 34) dX12_trim_4 (by decide) ((s_X12_trim_34 G l Q K0 h0)) <| xo_aload_n (pc := 7) (i := 0) dX12_trim_7 rfl <| xo_get (pc := 8) (ci := 11) (i := 0) rfl ok11 (by decide) dX12_trim_8 kw1167 <| xo_aload_n (pc := 11) (i := 0) dX12_trim_11 rfl <| xo_get (pc := 12) (ci := 11) (i := 1) rfl ok11 (by decide) dX12_trim_12 kw1168 <| xo_iconst (pc := 15) dX12_trim_15 (by decide) <| xo_isub (pc := 16) dX12_trim_16 <| xo_iald (pc := 17) dX12_trim_17 <| xo_if_ne (pc := 18) (tgt := 34) dX12_trim_18 (by decide) ((s_X12_trim_34 G l Q K0 h0)) <| xo_aload_n (pc := 21) (i := 0) dX12_trim_21 rfl <| xo_dup (pc := 22) dX12_trim_22 <| xo_get (pc := 23) (ci := 11) (i := 1) rfl ok11 (by decide) dX12_trim_23 kw1168 <| xo_iconst (pc := 26) dX12_trim_26 (by decide) <| xo_isub (pc := 27) dX12_trim_27 <| xo_put (pc := 28) (ci := 11) (i := 1) rfl ok11 (by decide) rfl rfl dX12_trim_28 kw1168 <| xo_goto (pc := 31) (tgt := 0) dX12_trim_31 (by decide) <| h0

def C_X12_trim : xC := fun av S Q => ∃ a f n, av = [.ref a] ∧ mR S.1 a f n ∧ ∀ h', xoff h' S.1 a (a + 2) → mV h' a (sd 65536 f n) → Q none (h', S.2)
def cn_X12_trim : Nat → List (Nat × Value) := fun v => [(0, .ref v)]
def I_X12_trim (Q : xQ) : Nat → Nat → xS → Prop := fun k a S => ∃ f, mR S.1 a f k ∧ ∀ h', xoff h' S.1 a (a + 2) → mV h' a (sd 65536 f k) → Q none (h', S.2)
theorem cM_X12_trim (G : xG) (l : Launch) : xM G l yX12_trim cX12_trim 1 none r_X12_trim C_X12_trim := by
  refine xM_of (fun Q => xInv cn_X12_trim (I_X12_trim Q)) RX12 false (fun Q => (xW.lp (b_X12_trim_0 Q) (fun K hK => s_X12_trim_0 G l Q K hK) ?_)) (by decide) rfl (by decide) ?_
  · rintro k a S ⟨f, r, hQ⟩
    have n2 := r.2.2.1
    have en : nI k ≤ 0 ↔ k ≤ 0 := nI_leI (b := 0) (by omega) (by decide)
    simp only [x_c, x_iload, x_lload, x_aload, x_istore, x_lstore, x_astore, x_iinc, x_iadd, x_isub, x_imul, x_iand, x_ior, x_ixor, x_ladd, x_lsub, x_lmul, x_land, x_lor, x_lxor, x_idiv, x_irem, x_ldiv, x_lrem, x_ineg, x_lneg, x_ishl, x_ishr, x_iushr, x_lshl, x_lshr, x_lushr, x_i2l, x_l2i, x_i2b, x_i2c, x_lcmp, x_if_eq, x_if_ne, x_if_lt, x_if_ge, x_if_gt, x_if_le, x_icmp_eq, x_icmp_ne, x_icmp_lt, x_icmp_ge, x_icmp_gt, x_icmp_le, x_dup, x_pop, x_dup_x1, x_dup2, x_iret, x_zret, x_lret, x_aret, x_vret, x_call, x_callv, x_calli, x_oinit, x_mmax, x_mmin, x_mabs, x_mmaxL, x_mminL, x_mabsL, lg_cmp_ge, lg_cmp_le, lg_cmp_gt, lg_cmp_lt, lg_cmp_eq, xlk, xs1, xs2, lv_args, Value.category, List.filter_cons, List.filter_nil, Nat.reduceAdd, Nat.reduceBEq, Nat.reduceEqDiff, Nat.reduceSub, Nat.sub_zero, beq_self_eq_true, Bool.not_true, Bool.not_false, Bool.and_true, Bool.and_false, Bool.true_and, Bool.false_and, reduceIte, reduceCtorEq, Bool.false_eq_true, Nat.one_ne_zero, Nat.zero_ne_one, Nat.zero_add, Option.toList_some, Option.toList_none, List.nil_append, List.cons_append, List.take_succ_cons, List.take_zero, List.take_nil, List.drop_succ_cons, List.drop_zero, List.length_cons, List.length_nil, List.reverse_cons, List.reverse_nil, List.head?_cons, List.map_cons, List.map_nil, List.sum_cons, List.sum_nil, true_and, and_true, List.getElem?_cons_zero, List.getElem?_cons_succ, Prod.eta, x_get, x_put, x_iald, x_iast, x_bald, x_bast, x_lald, x_last, x_alen, xup_s, xup_a1, xup_1a, xup_uu, nr_i, nr_l, nr_o, nr_a, ft_i, ft_l, ft_o, ft_a, Nat.reduceLT, i_cl0, i_cl1, i_n1, i_m1, List.set_cons_zero, List.set_cons_succ, Nat.reduceLeDiff, Nat.le_refl, Nat.zero_le, Nat.add_zero, b_X12_trim_0, b_X12_trim_34, cn_X12_trim, r.1, r.2.1, en]
    cases k with
    | zero => exact ⟨fun _ => hQ _ xoff_rf ⟨f, 0, r, rfl, by omega⟩, fun q => absurd (Nat.le_refl 0) q⟩
    | succ k =>
      have fk := r.2.2.2 k
      have ez : nI (f k) = 0 ↔ f k = 0 := nI_eq (b := 0) (by omega) (by decide)
      simp only [nI_pred, m_cl (show k < 2 ^ 31 by omega), ez]
      refine ⟨fun q => by omega, fun _ => ⟨vp_in_nI (by omega) (by decide), fun z => hQ _ xoff_rf ⟨f, k + 1, r, rfl, fun _ => z⟩, fun z => ?_⟩⟩
      refine xInvL.mk k a (by omega) ⟨rfl, trivial⟩ ⟨f, r.sz (by omega), fun h' o' r' => hQ h' (xoff_tr o' off_sz) ?_⟩
      rw [sd, z, Nat.zero_mul, Nat.add_zero]
      exact r'
  · rintro av S Q ⟨a, f, n, rfl, hf, hQ⟩
    exact ⟨Nat.le_of_ble_eq_true rfl, xInv.mk n a ⟨rfl, trivial⟩ ⟨f, hf, hQ⟩⟩
