theorem dX12_subtract_0 : decode cX12_subtract 0 = .ok (.iconst 0, 1) := by decide +kernel
theorem dX12_subtract_1 : decode cX12_subtract 1 = .ok (.istore_n 2, 1) := by decide +kernel
theorem dX12_subtract_2 : decode cX12_subtract 2 = .ok (.iconst 0, 1) := by decide +kernel
theorem dX12_subtract_3 : decode cX12_subtract 3 = .ok (.istore_n 3, 1) := by decide +kernel
theorem dX12_subtract_4 : decode cX12_subtract 4 = .ok (.iload_n 3, 1) := by decide +kernel
theorem dX12_subtract_5 : decode cX12_subtract 5 = .ok (.aload_n 0, 1) := by decide +kernel
theorem dX12_subtract_6 : decode cX12_subtract 6 = .ok (.getfield 13, 3) := by decide +kernel
theorem dX12_subtract_9 : decode cX12_subtract 9 = .ok (.if_icmp .ge 60, 3) := by decide +kernel
theorem dX12_subtract_12 : decode cX12_subtract 12 = .ok (.aload_n 0, 1) := by decide +kernel
theorem dX12_subtract_13 : decode cX12_subtract 13 = .ok (.getfield 7, 3) := by decide +kernel
theorem dX12_subtract_16 : decode cX12_subtract 16 = .ok (.iload_n 3, 1) := by decide +kernel
theorem dX12_subtract_17 : decode cX12_subtract 17 = .ok (.iaload, 1) := by decide +kernel
theorem dX12_subtract_18 : decode cX12_subtract 18 = .ok (.iload_n 3, 1) := by decide +kernel
theorem dX12_subtract_19 : decode cX12_subtract 19 = .ok (.aload_n 1, 1) := by decide +kernel
theorem dX12_subtract_20 : decode cX12_subtract 20 = .ok (.getfield 13, 3) := by decide +kernel
theorem dX12_subtract_23 : decode cX12_subtract 23 = .ok (.if_icmp .ge 12, 3) := by decide +kernel
theorem dX12_subtract_26 : decode cX12_subtract 26 = .ok (.aload_n 1, 1) := by decide +kernel
theorem dX12_subtract_27 : decode cX12_subtract 27 = .ok (.getfield 7, 3) := by decide +kernel
theorem dX12_subtract_30 : decode cX12_subtract 30 = .ok (.iload_n 3, 1) := by decide +kernel
theorem dX12_subtract_31 : decode cX12_subtract 31 = .ok (.iaload, 1) := by decide +kernel
theorem dX12_subtract_32 : decode cX12_subtract 32 = .ok (.goto 4, 3) := by decide +kernel
theorem dX12_subtract_35 : decode cX12_subtract 35 = .ok (.iconst 0, 1) := by decide +kernel
theorem dX12_subtract_36 : decode cX12_subtract 36 = .ok (.isub, 1) := by decide +kernel
theorem dX12_subtract_37 : decode cX12_subtract 37 = .ok (.iload_n 2, 1) := by decide +kernel
theorem dX12_subtract_38 : decode cX12_subtract 38 = .ok (.isub, 1) := by decide +kernel
theorem dX12_subtract_39 : decode cX12_subtract 39 = .ok (.istore 4, 2) := by decide +kernel
theorem dX12_subtract_41 : decode cX12_subtract 41 = .ok (.aload_n 0, 1) := by decide +kernel
theorem dX12_subtract_42 : decode cX12_subtract 42 = .ok (.getfield 7, 3) := by decide +kernel
theorem dX12_subtract_45 : decode cX12_subtract 45 = .ok (.iload_n 3, 1) := by decide +kernel
theorem dX12_subtract_46 : decode cX12_subtract 46 = .ok (.iload 4, 2) := by decide +kernel
theorem dX12_subtract_48 : decode cX12_subtract 48 = .ok (.ldc 26, 2) := by decide +kernel
theorem dX12_subtract_50 : decode cX12_subtract 50 = .ok (.iand, 1) := by decide +kernel
theorem dX12_subtract_51 : decode cX12_subtract 51 = .ok (.iastore, 1) := by decide +kernel
theorem dX12_subtract_52 : decode cX12_subtract 52 = .ok (.iload 4, 2) := by decide +kernel
theorem dX12_subtract_54 : decode cX12_subtract 54 = .ok (.ifCond .ge 7, 3) := by decide +kernel
theorem dX12_subtract_57 : decode cX12_subtract 57 = .ok (.iconst 1, 1) := by decide +kernel
theorem dX12_subtract_58 : decode cX12_subtract 58 = .ok (.goto 4, 3) := by decide +kernel
theorem dX12_subtract_61 : decode cX12_subtract 61 = .ok (.iconst 0, 1) := by decide +kernel
theorem dX12_subtract_62 : decode cX12_subtract 62 = .ok (.istore_n 2, 1) := by decide +kernel
theorem dX12_subtract_63 : decode cX12_subtract 63 = .ok (.iinc 3 1, 3) := by decide +kernel
theorem dX12_subtract_66 : decode cX12_subtract 66 = .ok (.goto (-62), 3) := by decide +kernel
theorem dX12_subtract_69 : decode cX12_subtract 69 = .ok (.aload_n 0, 1) := by decide +kernel
theorem dX12_subtract_70 : decode cX12_subtract 70 = .ok (.invokevirtual 19, 3) := by decide +kernel
theorem dX12_subtract_73 : decode cX12_subtract 73 = .ok (.return_, 1) := by decide +kernel
abbrev r_X12_subtract : Room := { frames := 1, cells := 0, slots := 0, locals := 20 }
abbrev m_X12_subtract : xMd := (cX12_subtract, RX12, 5, none, false, r_X12_subtract)
def b_X12_subtract_0 (Q : xQ) (K4 : xK) : xK := x_c (.int 0) <| x_istore 2 <| x_c (.int 0) <| x_istore 3 <| K4
def b_X12_subtract_62 (Q : xQ) (K4 : xK) : xK := x_istore 2 <| x_iinc 3 1 <| K4
def b_X12_subtract_36 (Q : xQ) (K4 : xK) : xK := x_isub <| x_iload 2 <| x_isub <| x_istore 4 <| x_aload 0 <| x_get 11 0 <| x_iload 3 <| x_iload 4 <| x_c (.int 65535) <| x_iand <| x_iast <| x_iload 4 <| x_if_ge (x_c (.int 0) <| (b_X12_subtract_62 Q K4)) <| x_c (.int 1) <| (b_X12_subtract_62 Q K4)
def b_X12_subtract_4 (Q : xQ) (K4 : xK) : xK := x_iload 3 <| x_aload 0 <| x_get 11 1 <| x_icmp_ge (x_aload 0 <| x_callv 11 C_X12_trim 1 0 0 <| x_vret Q) <| x_aload 0 <| x_get 11 0 <| x_iload 3 <| x_iald <| x_iload 3 <| x_aload 1 <| x_get 11 1 <| x_icmp_ge (x_c (.int 0) <| (b_X12_subtract_36 Q K4)) <| x_aload 1 <| x_get 11 0 <| x_iload 3 <| x_iald <| (b_X12_subtract_36 Q K4)
theorem s_X12_subtract_0 (G : xG) (l : Launch) (Q : xQ) (K4 : xK) (h4 : xW G l m_X12_subtract xX0 (xPm G Q r_X12_subtract) 4 K4) : xW G l m_X12_subtract xX0 (xPm G Q r_X12_subtract) 0 (b_X12_subtract_0 Q K4) := xo_iconst (pc := 0) dX12_subtract_0 (by decide) <| xo_istore_n (pc := 1) (i := 2) dX12_subtract_1 rfl (by decide) <| xo_iconst (pc := 2) dX12_subtract_2 (by decide) <| xo_istore_n (pc := 3) (i := 3) dX12_subtract_3 rfl (by decide) <| h4
theorem s_X12_subtract_62 (G : xG) (l : Launch) (Q : xQ) (K4 : xK) (h4 : xW G l m_X12_subtract xX0 (xPm G Q r_X12_subtract) 4 K4) : xW G l m_X12_subtract xX0 (xPm G Q r_X12_subtract) 62 (b_X12_subtract_62 Q K4) := xo_istore_n (pc := 62) (i := 2) dX12_subtract_62 rfl (by decide) <| xo_iinc (pc := 63) dX12_subtract_63 (by decide) <| xo_goto (pc := 66) (tgt := 4) dX12_subtract_66 (by decide) <| h4
theorem s_X12_subtract_36 (G : xG) (l : Launch) (Q : xQ) (K4 : xK) (h4 : xW G l m_X12_subtract xX0 (xPm G Q r_X12_subtract) 4 K4) : xW G l m_X12_subtract xX0 (xPm G Q r_X12_subtract) 36 (b_X12_subtract_36 Q K4) := xo_isub (pc := 36) dX12_subtract_36 <| xo_iload_n (pc := 37) (i := 2) dX12_subtract_37 rfl <| xo_isub (pc := 38) dX12_subtract_38 <| xo_istore (pc := 39) (i := 4) dX12_subtract_39 (by decide) <| xo_aload_n (pc := 41) (i := 0) dX12_subtract_41 rfl <| xo_get (pc := 42) (ci := 11) (i := 0) rfl ok11 (by decide) dX12_subtract_42 kw1167 <| xo_iload_n (pc := 45) (i := 3) dX12_subtract_45 rfl <| xo_iload (pc := 46) (i := 4) dX12_subtract_46 <| xo_ldc (pc := 48) dX12_subtract_48 kw1558 <| xo_iand (pc := 50) dX12_subtract_50 <| xo_iast (pc := 51) dX12_subtract_51 <| xo_iload (pc := 52) (i := 4) dX12_subtract_52 <| xo_if_ge (pc := 54) (tgt := 61) dX12_subtract_54 (by decide) (xo_iconst (pc := 61) dX12_subtract_61 (by decide) <| (s_X12_subtract_62 G l Q K4 h4)) <| xo_iconst (pc := 57) dX12_subtract_57 (by decide) <| xo_goto (pc := 58) (tgt := 62) dX12_subtract_58 (by decide) <| (s_X12_subtract_62 G l Q K4 h4)
theorem s_X12_subtract_4 (G : xG) (l : Launch) (Q : xQ) (K4 : xK) (h4 : xW G l m_X12_subtract xX0 (xPm G Q r_X12_subtract) 4 K4) : xW G l m_X12_subtract xX0 (xPm G Q r_X12_subtract) 4 (b_X12_subtract_4 Q K4) := xo_iload_n (pc := 4) (i := 3) dX12_subtract_4 rfl <| xo_aload_n (pc := 5) (i := 0) dX12_subtract_5 rfl <| xo_get (pc := 6) (ci := 11) (i := 1) rfl ok11 (by decide) dX12_subtract_6 kw1168 <| xo_icmp_ge (pc := 9) (tgt := 69) dX12_subtract_9 (by decide) (xo_aload_n (pc := 69) (i := 0) dX12_subtract_69 rfl <| xo_callV (pc := 70) (np := 0) (ci := 11) rfl (cM_X12_trim G l) dX12_subtract_70 kw1406 kw1403 kw1405 ks60 kw14 (by decide +kernel) (by decide) <| xo_vret (pc := 73) rfl dX12_subtract_73) <| xo_aload_n (pc := 12) (i := 0) dX12_subtract_12 rfl <| xo_get (pc := 13) (ci := 11) (i := 0) rfl ok11 (by decide) dX12_subtract_13 kw1167 <| xo_iload_n (pc := 16) (i := 3) dX12_subtract_16 rfl <| xo_iald (pc := 17) dX12_subtract_17 <| xo_iload_n (pc := 18) (i := 3) dX12_subtract_18 rfl <| xo_aload_n (pc := 19) (i := 1) dX12_subtract_19 rfl <| xo_get (pc := 20) (ci := 11) (i := 1) rfl ok11 (by decide) dX12_subtract_20 kw1168 <| xo_icmp_ge (pc := 23) (tgt := 35) dX12_subtract_23 (by decide) (xo_iconst (pc := 35) dX12_subtract_35 (by decide) <| (s_X12_subtract_36 G l Q K4 h4)) <| xo_aload_n (pc := 26) (i := 1) dX12_subtract_26 rfl <| xo_get (pc := 27) (ci := 11) (i := 0) rfl ok11 (by decide) dX12_subtract_27 kw1167 <| xo_iload_n (pc := 30) (i := 3) dX12_subtract_30 rfl <| xo_iald (pc := 31) dX12_subtract_31 <| xo_goto (pc := 32) (tgt := 36) dX12_subtract_32 (by decide) <| (s_X12_subtract_36 G l Q K4 h4)

theorem m_borrow {x y b : Nat} (hx : x < 65536) (hy : y < 65536) (hb : b < 2) : ∃ b', b' < 2 ∧ (nI x - nI y - nI b) &&& 65535 = nI ((x + 65536 - y - b) % 65536) ∧ (0 ≤ nI x - nI y - nI b ↔ b' = 0) ∧ (x + 65536 - y - b) % 65536 + y + b = x + b' * 65536 := by
  have e1 : (nI x - nI y).toInt = (x : Int) - y := pk_sub_toInt (by omega) (by omega)
  have e2 : (nI x - nI y - nI b).toInt = (x : Int) - y - b := by
    rw [Int32.toInt_sub, e1, nI_toInt (by omega)]
    apply Int.bmod_eq_of_le <;> omega
  have e3 : (nI x - nI y - nI b) &&& 65535 = nI (wn (nI x - nI y - nI b) % 2 ^ 16) := pk_and _ 16 (by decide)
  have e4 : (nI x - nI y - nI b).toInt = if 2 * wn (nI x - nI y - nI b) < 2 ^ 32 then (wn (nI x - nI y - nI b) : Int) else (wn (nI x - nI y - nI b) : Int) - 2 ^ 32 := BitVec.toInt_eq_toNat_cond ..
  have h0 := wn_lt (nI x - nI y - nI b)
  rw [e3, i_le, i_0, e2]
  rw [e2] at e4
  generalize wn (nI x - nI y - nI b) = w at *
  have hw : w % 2 ^ 16 = (x + 65536 - y - b) % 65536 := by split at e4 <;> omega
  rw [hw]
  rcases Nat.lt_or_ge x (y + b) with c | c
  · exact ⟨1, by omega, rfl, by omega, by omega⟩
  · exact ⟨0, by omega, rfl, by omega, by omega⟩
def C_X12_subtract : xC := fun av S Q => ∃ (t a u v : Nat), av = [.ref t, .ref a] ∧ (t + 2 ≤ a ∨ a + 2 ≤ t) ∧ mV S.1 t u ∧ mV S.1 a v ∧ v ≤ u ∧ ∀ h', xoff h' S.1 t (t + 2) → mV h' t (u - v) → Q none (h', S.2)
def dz (y : Nat → Nat) (m j : Nat) : Nat := if j < m then y j else 0
theorem dz_sd {B : Nat} {y : Nat → Nat} {n m : Nat} (h : m ≤ n) : sd B (dz y m) n = sd B y m := by
  rw [sd_ext (d := dz y m) h (fun i h1 _ => if_neg (by omega))]
  exact sd_congr fun i hi => if_pos hi
def cn_X12_subtract : Nat × Nat × Nat × Nat → List (Nat × Value) := fun v => [(0, .ref v.1), (1, .ref v.2.1), (2, .int (nI v.2.2.1)), (3, .int (nI v.2.2.2))]
def I_X12_subtract (Q : xQ) : Nat → Nat × Nat × Nat × Nat → xS → Prop := fun k v S => match v with
  | (t, a, c, i) => ∃ x n y m d, mR S.1 t x n ∧ mR S.1 a y m ∧ (t + 2 ≤ a ∨ a + 2 ≤ t) ∧ m ≤ n ∧ (∀ j, i ≤ j → x j = d j) ∧ (∀ j, d j < 65536) ∧ k + i = n ∧ c < 2 ∧ sd 65536 x i + sd 65536 (dz y m) i = sd 65536 d i + c * 65536 ^ i ∧ sd 65536 (dz y m) n ≤ sd 65536 d n ∧ ∀ h', xoff h' S.1 t (t + 2) → mV h' t (sd 65536 d n - sd 65536 (dz y m) n) → Q none (h', S.2)
theorem cM_X12_subtract (G : xG) (l : Launch) : xM G l yX12_subtract cX12_subtract 5 none r_X12_subtract C_X12_subtract := by
  refine xM_of (fun Q => b_X12_subtract_0 Q (xInv cn_X12_subtract (I_X12_subtract Q))) RX12 false (fun Q => s_X12_subtract_0 G l Q _ (xW.lp (b_X12_subtract_4 Q) (fun K hK => s_X12_subtract_4 G l Q K hK) ?_)) (by decide) rfl (by decide) ?_
  · rintro k ⟨t, a, c, i⟩ S ⟨x, n, y, m, d, r, ra, o1, hmn, ed, hd, hk, hc, hv, hle, hQ⟩
    have n2 := r.2.2.1
    have d1 := hd i
    have y1 := ra.2.2.2 i
    have en := nI_leI (show n < 2 ^ 31 by omega) (show i < 2 ^ 31 by omega)
    have em := nI_leI (show m < 2 ^ 31 by omega) (show i < 2 ^ 31 by omega)
    have ci := m_cl (n := i) (by omega)
    have ex : x i = d i := ed i (Nat.le_refl i)
    have hy : dz y m i < 65536 := by unfold dz; split <;> omega
    obtain ⟨c', hc', k1, k2, k3⟩ := m_borrow d1 hy hc
    have fin : (sd 65536 (va_up x i ((d i + 65536 - dz y m i - c) % 65536)) (i + 1) + sd 65536 (dz y m) (i + 1) = sd 65536 d (i + 1) + c' * 65536 ^ (i + 1)) := by
      rw [sd, sd_up_hi (Nat.le_refl i), va_us, sd, sd, show (65536 : Nat) ^ (i + 1) = 65536 * 65536 ^ i by rw [Nat.pow_succ, Nat.mul_comm]]
      generalize 65536 ^ i = E at *
      have h4 : ((d i + 65536 - dz y m i - c) % 65536 + dz y m i + c) * E = (d i + c' * 65536) * E := by rw [k3]
      rw [Nat.add_mul, Nat.add_mul, Nat.add_mul] at h4
      have h5 : c' * (65536 * E) = c' * 65536 * E := (Nat.mul_assoc _ _ _).symm
      omega
    have go : ∀ lv, xsub (cn_X12_subtract (t, a, c', i + 1)) lv → i < n → xInvL cn_X12_subtract (I_X12_subtract Q) k lv [] (xup S.1 (t + 1) (.inl (0, 640, .inl (fun j => nI (va_up x i ((d i + 65536 - dz y m i - c) % 65536) j)))), S.2) := fun lv hs hi => xInvL.mk (k - 1) (t, a, c', i + 1) (by omega) hs ⟨_, n, y, m, d, r.wr (Nat.mod_lt _ (by decide)), ra.off off_wr (by omega), o1, hmn, fun j hj => by rw [va_un (by omega)]; exact ed j (by omega), hd, by omega, hc', fin, hle, fun h' o' r' => hQ h' (xoff_tr o' off_wr) r'⟩
    have ez1 : i < m → dz y m i = y i := fun h => if_pos h
    have ez0 : ¬ i < m → dz y m i = 0 := fun h => if_neg h
    simp only [x_c, x_iload, x_lload, x_aload, x_istore, x_lstore, x_astore, x_iinc, x_iadd, x_isub, x_imul, x_iand, x_ior, x_ixor, x_ladd, x_lsub, x_lmul, x_land, x_lor, x_lxor, x_idiv, x_irem, x_ldiv, x_lrem, x_ineg, x_lneg, x_ishl, x_ishr, x_iushr, x_lshl, x_lshr, x_lushr, x_i2l, x_l2i, x_i2b, x_i2c, x_lcmp, x_if_eq, x_if_ne, x_if_lt, x_if_ge, x_if_gt, x_if_le, x_icmp_eq, x_icmp_ne, x_icmp_lt, x_icmp_ge, x_icmp_gt, x_icmp_le, x_dup, x_pop, x_dup_x1, x_dup2, x_iret, x_zret, x_lret, x_aret, x_vret, x_call, x_callv, x_calli, x_oinit, x_mmax, x_mmin, x_mabs, x_mmaxL, x_mminL, x_mabsL, lg_cmp_ge, lg_cmp_le, lg_cmp_gt, lg_cmp_lt, lg_cmp_eq, xlk, xs1, xs2, lv_args, Value.category, List.filter_cons, List.filter_nil, Nat.reduceAdd, Nat.reduceBEq, Nat.reduceEqDiff, Nat.reduceSub, Nat.sub_zero, beq_self_eq_true, Bool.not_true, Bool.not_false, Bool.and_true, Bool.and_false, Bool.true_and, Bool.false_and, reduceIte, reduceCtorEq, Bool.false_eq_true, Nat.one_ne_zero, Nat.zero_ne_one, Nat.zero_add, Option.toList_some, Option.toList_none, List.nil_append, List.cons_append, List.take_succ_cons, List.take_zero, List.take_nil, List.drop_succ_cons, List.drop_zero, List.length_cons, List.length_nil, List.reverse_cons, List.reverse_nil, List.head?_cons, List.map_cons, List.map_nil, List.sum_cons, List.sum_nil, true_and, and_true, List.getElem?_cons_zero, List.getElem?_cons_succ, Prod.eta, x_get, x_put, x_iald, x_iast, x_bald, x_bast, x_lald, x_last, x_alen, xup_s, xup_a1, xup_1a, xup_uu, nr_i, nr_l, nr_o, nr_a, ft_i, ft_l, ft_o, ft_a, Nat.reduceLT, i_cl0, i_cl1, i_n1, i_m1, List.set_cons_zero, List.set_cons_succ, Nat.reduceLeDiff, Nat.le_refl, Nat.zero_le, Nat.add_zero, b_X12_subtract_4, b_X12_subtract_36, b_X12_subtract_62, cn_X12_subtract, r.1, r.2.1, ra.1, ra.2.1, en, em, ci, ex]
    refine ⟨fun q => ?_, fun q => ⟨vp_in_nI (by omega) (by decide), fun z => ?_, fun z => ?_⟩⟩
    · obtain rfl : i = n := by omega
      refine ⟨⟨t, _, rfl, r.1⟩, t, x, i, rfl, r, fun h' o' r' => hQ h' o' ?_⟩
      have h0 : c = 0 := by
        rcases (show c = 0 ∨ c = 1 by omega) with h | h
        · exact h
        · subst h
          have := sd_lt (B := 65536) (d := x) (n := i) (fun j _ => r.2.2.2 j)
          omega
      subst h0
      rw [show sd 65536 d i - sd 65536 (dz y m) i = sd 65536 x i by omega]
      exact r'
    · rw [ez0 (by omega)] at k1 k2 go
      rw [show (0 : Int32) = nI 0 from rfl, k1, upd_nI]
      refine ⟨vp_in_nI (by omega) (by decide), fun w => go _ ⟨rfl, rfl, ?_, rfl, trivial⟩ (by omega), fun w => go _ ⟨rfl, rfl, ?_, rfl, trivial⟩ (by omega)⟩
      · rw [k2.mp w]; rfl
      · rw [show c' = 1 by have h7 : c' ≠ 0 := fun h => w (k2.mpr h); clear fin k3 go hv hle; omega]; rfl
    · rw [ez1 (by omega)] at k1 k2 go
      rw [k1, upd_nI]
      refine ⟨vp_in_nI (by omega) (by decide), vp_in_nI (by omega) (by decide), fun w => go _ ⟨rfl, rfl, ?_, rfl, trivial⟩ (by omega), fun w => go _ ⟨rfl, rfl, ?_, rfl, trivial⟩ (by omega)⟩
      · rw [k2.mp w]; rfl
      · rw [show c' = 1 by have h7 : c' ≠ 0 := fun h => w (k2.mpr h); clear fin k3 go hv hle; omega]; rfl
  · rintro av S Q ⟨t, a, u, v, rfl, o1, ⟨x, n, r, rfl, zx⟩, ⟨y, m, ra, rfl, zy⟩, hle, hQ⟩
    refine ⟨Nat.le_of_ble_eq_true rfl, ?_⟩
    have hmn : m ≤ n := sd_size (B := 65536) (by decide) zy (Nat.lt_of_le_of_lt hle (sd_lt (fun i _ => r.2.2.2 i)))
    simp only [x_c, x_iload, x_lload, x_aload, x_istore, x_lstore, x_astore, x_iinc, x_iadd, x_isub, x_imul, x_iand, x_ior, x_ixor, x_ladd, x_lsub, x_lmul, x_land, x_lor, x_lxor, x_idiv, x_irem, x_ldiv, x_lrem, x_ineg, x_lneg, x_ishl, x_ishr, x_iushr, x_lshl, x_lshr, x_lushr, x_i2l, x_l2i, x_i2b, x_i2c, x_lcmp, x_if_eq, x_if_ne, x_if_lt, x_if_ge, x_if_gt, x_if_le, x_icmp_eq, x_icmp_ne, x_icmp_lt, x_icmp_ge, x_icmp_gt, x_icmp_le, x_dup, x_pop, x_dup_x1, x_dup2, x_iret, x_zret, x_lret, x_aret, x_vret, x_call, x_callv, x_calli, x_oinit, x_mmax, x_mmin, x_mabs, x_mmaxL, x_mminL, x_mabsL, lg_cmp_ge, lg_cmp_le, lg_cmp_gt, lg_cmp_lt, lg_cmp_eq, xlk, xs1, xs2, lv_args, Value.category, List.filter_cons, List.filter_nil, Nat.reduceAdd, Nat.reduceBEq, Nat.reduceEqDiff, Nat.reduceSub, Nat.sub_zero, beq_self_eq_true, Bool.not_true, Bool.not_false, Bool.and_true, Bool.and_false, Bool.true_and, Bool.false_and, reduceIte, reduceCtorEq, Bool.false_eq_true, Nat.one_ne_zero, Nat.zero_ne_one, Nat.zero_add, Option.toList_some, Option.toList_none, List.nil_append, List.cons_append, List.take_succ_cons, List.take_zero, List.take_nil, List.drop_succ_cons, List.drop_zero, List.length_cons, List.length_nil, List.reverse_cons, List.reverse_nil, List.head?_cons, List.map_cons, List.map_nil, List.sum_cons, List.sum_nil, true_and, and_true, List.getElem?_cons_zero, List.getElem?_cons_succ, Prod.eta, x_get, x_put, x_iald, x_iast, x_bald, x_bast, x_lald, x_last, x_alen, xup_s, xup_a1, xup_1a, xup_uu, nr_i, nr_l, nr_o, nr_a, ft_i, ft_l, ft_o, ft_a, Nat.reduceLT, i_cl0, i_cl1, i_n1, i_m1, List.set_cons_zero, List.set_cons_succ, Nat.reduceLeDiff, Nat.le_refl, Nat.zero_le, Nat.add_zero, b_X12_subtract_0]
    exact xInv.mk n (t, a, 0, 0) ⟨rfl, rfl, rfl, rfl, trivial⟩ ⟨x, n, y, m, x, r, ra, o1, hmn, fun _ _ => rfl, r.2.2.2, rfl, by decide, rfl, by rw [dz_sd hmn]; exact hle, fun h' o' r' => hQ h' o' (by rw [dz_sd hmn] at r'; exact r')⟩
theorem sd_mono {B : Nat} {d : Nat → Nat} {i n : Nat} (h : i ≤ n) : sd B d i ≤ sd B d n := by
  induction n with
  | zero => rw [show i = 0 by omega]; exact Nat.le_refl _
  | succ n ih =>
    rcases Nat.lt_or_ge n i with q | q
    · rw [show i = n + 1 by omega]; exact Nat.le_refl _
    · exact Nat.le_trans (ih q) (Nat.le_add_right _ _)
theorem sd_tail {B : Nat} {x d : Nat → Nat} {i n : Nat} (h : i ≤ n) (e : ∀ j, i ≤ j → j < n → x j = d j) : sd B x n + sd B d i = sd B d n + sd B x i := by
  induction n with
  | zero => rw [show i = 0 by omega]; rfl
  | succ n ih =>
    rcases Nat.lt_or_ge n i with q | q
    · rw [show i = n + 1 by omega]; omega
    · rw [sd, sd, e n q (by omega)]
      have := ih q (fun j h1 h2 => e j h1 (by omega))
      omega
theorem dX12_add_0 : decode cX12_add 0 = .ok (.iconst 0, 1) := by decide +kernel
theorem dX12_add_1 : decode cX12_add 1 = .ok (.istore_n 2, 1) := by decide +kernel
theorem dX12_add_2 : decode cX12_add 2 = .ok (.iconst 0, 1) := by decide +kernel
theorem dX12_add_3 : decode cX12_add 3 = .ok (.istore_n 3, 1) := by decide +kernel
theorem dX12_add_4 : decode cX12_add 4 = .ok (.iload_n 3, 1) := by decide +kernel
theorem dX12_add_5 : decode cX12_add 5 = .ok (.aload_n 1, 1) := by decide +kernel
theorem dX12_add_6 : decode cX12_add 6 = .ok (.getfield 13, 3) := by decide +kernel
theorem dX12_add_9 : decode cX12_add 9 = .ok (.if_icmp .lt 7, 3) := by decide +kernel
theorem dX12_add_12 : decode cX12_add 12 = .ok (.iload_n 2, 1) := by decide +kernel
theorem dX12_add_13 : decode cX12_add 13 = .ok (.ifCond .le 89, 3) := by decide +kernel
theorem dX12_add_16 : decode cX12_add 16 = .ok (.iload_n 3, 1) := by decide +kernel
theorem dX12_add_17 : decode cX12_add 17 = .ok (.aload_n 0, 1) := by decide +kernel
theorem dX12_add_18 : decode cX12_add 18 = .ok (.getfield 13, 3) := by decide +kernel
theorem dX12_add_21 : decode cX12_add 21 = .ok (.if_icmp .ge 12, 3) := by decide +kernel
theorem dX12_add_24 : decode cX12_add 24 = .ok (.aload_n 0, 1) := by decide +kernel
theorem dX12_add_25 : decode cX12_add 25 = .ok (.getfield 7, 3) := by decide +kernel
theorem dX12_add_28 : decode cX12_add 28 = .ok (.iload_n 3, 1) := by decide +kernel
theorem dX12_add_29 : decode cX12_add 29 = .ok (.iaload, 1) := by decide +kernel
theorem dX12_add_30 : decode cX12_add 30 = .ok (.goto 4, 3) := by decide +kernel
theorem dX12_add_33 : decode cX12_add 33 = .ok (.iconst 0, 1) := by decide +kernel
theorem dX12_add_34 : decode cX12_add 34 = .ok (.iload_n 3, 1) := by decide +kernel
theorem dX12_add_35 : decode cX12_add 35 = .ok (.aload_n 1, 1) := by decide +kernel
theorem dX12_add_36 : decode cX12_add 36 = .ok (.getfield 13, 3) := by decide +kernel
theorem dX12_add_39 : decode cX12_add 39 = .ok (.if_icmp .ge 12, 3) := by decide +kernel
theorem dX12_add_42 : decode cX12_add 42 = .ok (.aload_n 1, 1) := by decide +kernel
theorem dX12_add_43 : decode cX12_add 43 = .ok (.getfield 7, 3) := by decide +kernel
theorem dX12_add_46 : decode cX12_add 46 = .ok (.iload_n 3, 1) := by decide +kernel
theorem dX12_add_47 : decode cX12_add 47 = .ok (.iaload, 1) := by decide +kernel
theorem dX12_add_48 : decode cX12_add 48 = .ok (.goto 4, 3) := by decide +kernel
theorem dX12_add_51 : decode cX12_add 51 = .ok (.iconst 0, 1) := by decide +kernel
theorem dX12_add_52 : decode cX12_add 52 = .ok (.iadd, 1) := by decide +kernel
theorem dX12_add_53 : decode cX12_add 53 = .ok (.iload_n 2, 1) := by decide +kernel
theorem dX12_add_54 : decode cX12_add 54 = .ok (.iadd, 1) := by decide +kernel
theorem dX12_add_55 : decode cX12_add 55 = .ok (.istore 4, 2) := by decide +kernel
theorem dX12_add_57 : decode cX12_add 57 = .ok (.aload_n 0, 1) := by decide +kernel
theorem dX12_add_58 : decode cX12_add 58 = .ok (.iload_n 3, 1) := by decide +kernel
theorem dX12_add_59 : decode cX12_add 59 = .ok (.aload_n 0, 1) := by decide +kernel
theorem dX12_add_60 : decode cX12_add 60 = .ok (.getfield 13, 3) := by decide +kernel
theorem dX12_add_63 : decode cX12_add 63 = .ok (.if_icmp .ge 10, 3) := by decide +kernel
theorem dX12_add_66 : decode cX12_add 66 = .ok (.aload_n 0, 1) := by decide +kernel
theorem dX12_add_67 : decode cX12_add 67 = .ok (.getfield 13, 3) := by decide +kernel
theorem dX12_add_70 : decode cX12_add 70 = .ok (.goto 6, 3) := by decide +kernel
theorem dX12_add_73 : decode cX12_add 73 = .ok (.iload_n 3, 1) := by decide +kernel
theorem dX12_add_74 : decode cX12_add 74 = .ok (.iconst 1, 1) := by decide +kernel
theorem dX12_add_75 : decode cX12_add 75 = .ok (.iadd, 1) := by decide +kernel
theorem dX12_add_76 : decode cX12_add 76 = .ok (.putfield 13, 3) := by decide +kernel
theorem dX12_add_79 : decode cX12_add 79 = .ok (.aload_n 0, 1) := by decide +kernel
theorem dX12_add_80 : decode cX12_add 80 = .ok (.getfield 7, 3) := by decide +kernel
theorem dX12_add_83 : decode cX12_add 83 = .ok (.iload_n 3, 1) := by decide +kernel
theorem dX12_add_84 : decode cX12_add 84 = .ok (.iload 4, 2) := by decide +kernel
theorem dX12_add_86 : decode cX12_add 86 = .ok (.ldc 26, 2) := by decide +kernel
theorem dX12_add_88 : decode cX12_add 88 = .ok (.iand, 1) := by decide +kernel
theorem dX12_add_89 : decode cX12_add 89 = .ok (.iastore, 1) := by decide +kernel
theorem dX12_add_90 : decode cX12_add 90 = .ok (.iload 4, 2) := by decide +kernel
theorem dX12_add_92 : decode cX12_add 92 = .ok (.bipush 16, 2) := by decide +kernel
theorem dX12_add_94 : decode cX12_add 94 = .ok (.ishr, 1) := by decide +kernel
theorem dX12_add_95 : decode cX12_add 95 = .ok (.istore_n 2, 1) := by decide +kernel
theorem dX12_add_96 : decode cX12_add 96 = .ok (.iinc 3 1, 3) := by decide +kernel
theorem dX12_add_99 : decode cX12_add 99 = .ok (.goto (-95), 3) := by decide +kernel
theorem dX12_add_102 : decode cX12_add 102 = .ok (.return_, 1) := by decide +kernel
abbrev r_X12_add : Room := { frames := 0, cells := 0, slots := 0, locals := 0 }
abbrev m_X12_add : xMd := (cX12_add, RX12, 5, none, false, r_X12_add)
def b_X12_add_0 (Q : xQ) (K4 : xK) : xK := x_c (.int 0) <| x_istore 2 <| x_c (.int 0) <| x_istore 3 <| K4
def b_X12_add_76 (Q : xQ) (K4 : xK) : xK := x_put 11 1 .int <| x_aload 0 <| x_get 11 0 <| x_iload 3 <| x_iload 4 <| x_c (.int 65535) <| x_iand <| x_iast <| x_iload 4 <| x_c (.int 16) <| x_ishr <| x_istore 2 <| x_iinc 3 1 <| K4
def b_X12_add_52 (Q : xQ) (K4 : xK) : xK := x_iadd <| x_iload 2 <| x_iadd <| x_istore 4 <| x_aload 0 <| x_iload 3 <| x_aload 0 <| x_get 11 1 <| x_icmp_ge (x_iload 3 <| x_c (.int 1) <| x_iadd <| (b_X12_add_76 Q K4)) <| x_aload 0 <| x_get 11 1 <| (b_X12_add_76 Q K4)
def b_X12_add_34 (Q : xQ) (K4 : xK) : xK := x_iload 3 <| x_aload 1 <| x_get 11 1 <| x_icmp_ge (x_c (.int 0) <| (b_X12_add_52 Q K4)) <| x_aload 1 <| x_get 11 0 <| x_iload 3 <| x_iald <| (b_X12_add_52 Q K4)
def b_X12_add_16 (Q : xQ) (K4 : xK) : xK := x_iload 3 <| x_aload 0 <| x_get 11 1 <| x_icmp_ge (x_c (.int 0) <| (b_X12_add_34 Q K4)) <| x_aload 0 <| x_get 11 0 <| x_iload 3 <| x_iald <| (b_X12_add_34 Q K4)
def b_X12_add_4 (Q : xQ) (K4 : xK) : xK := x_iload 3 <| x_aload 1 <| x_get 11 1 <| x_icmp_lt ((b_X12_add_16 Q K4)) <| x_iload 2 <| x_if_le (x_vret Q) <| (b_X12_add_16 Q K4)
theorem s_X12_add_0 (G : xG) (l : Launch) (Q : xQ) (K4 : xK) (h4 : xW G l m_X12_add xX0 (xPm G Q r_X12_add) 4 K4) : xW G l m_X12_add xX0 (xPm G Q r_X12_add) 0 (b_X12_add_0 Q K4) := xo_iconst (pc := 0) dX12_add_0 (by decide) <| xo_istore_n (pc := 1) (i := 2) dX12_add_1 rfl (by decide) <| xo_iconst (pc := 2) dX12_add_2 (by decide) <| xo_istore_n (pc := 3) (i := 3) dX12_add_3 rfl (by decide) <| h4
theorem s_X12_add_76 (G : xG) (l : Launch) (Q : xQ) (K4 : xK) (h4 : xW G l m_X12_add xX0 (xPm G Q r_X12_add) 4 K4) : xW G l m_X12_add xX0 (xPm G Q r_X12_add) 76 (b_X12_add_76 Q K4) := xo_put (pc := 76) (ci := 11) (i := 1) rfl ok11 (by decide) rfl rfl dX12_add_76 kw1168 <| xo_aload_n (pc := 79) (i := 0) dX12_add_79 rfl <| xo_get (pc := 80) (ci := 11) (i := 0) rfl ok11 (by decide) dX12_add_80 kw1167 <| xo_iload_n (pc := 83) (i := 3) dX12_add_83 rfl <| xo_iload (pc := 84) (i := 4) dX12_add_84 <| xo_ldc (pc := 86) dX12_add_86 kw1558 <| xo_iand (pc := 88) dX12_add_88 <| xo_iast (pc := 89) dX12_add_89 <| xo_iload (pc := 90) (i := 4) dX12_add_90 <| xo_bipush (pc := 92) dX12_add_92 (by decide) <| xo_ishr (pc := 94) dX12_add_94 <| xo_istore_n (pc := 95) (i := 2) dX12_add_95 rfl (by decide) <| xo_iinc (pc := 96) dX12_add_96 (by decide) <| xo_goto (pc := 99) (tgt := 4) dX12_add_99 (by decide) <| h4
theorem s_X12_add_52 (G : xG) (l : Launch) (Q : xQ) (K4 : xK) (h4 : xW G l m_X12_add xX0 (xPm G Q r_X12_add) 4 K4) : xW G l m_X12_add xX0 (xPm G Q r_X12_add) 52 (b_X12_add_52 Q K4) := xo_iadd (pc := 52) dX12_add_52 <| xo_iload_n (pc := 53) (i := 2) dX12_add_53 rfl <| xo_iadd (pc := 54) dX12_add_54 <| xo_istore (pc := 55) (i := 4) dX12_add_55 (by decide) <| xo_aload_n (pc := 57) (i := 0) dX12_add_57 rfl <| xo_iload_n (pc := 58) (i := 3) dX12_add_58 rfl <| xo_aload_n (pc := 59) (i := 0) dX12_add_59 rfl <| xo_get (pc := 60) (ci := 11) (i := 1) rfl ok11 (by decide) dX12_add_60 kw1168 <| xo_icmp_ge (pc := 63) (tgt := 73) dX12_add_63 (by decide) (xo_iload_n (pc := 73) (i := 3) dX12_add_73 rfl <| xo_iconst (pc := 74) dX12_add_74 (by decide) <| xo_iadd (pc := 75) dX12_add_75 <| (s_X12_add_76 G l Q K4 h4)) <| xo_aload_n (pc := 66) (i := 0) dX12_add_66 rfl <| xo_get (pc := 67) (ci := 11) (i := 1) rfl ok11 (by decide) dX12_add_67 kw1168 <| xo_goto (pc := 70) (tgt := 76) dX12_add_70 (by decide) <| (s_X12_add_76 G l Q K4 h4)
theorem s_X12_add_34 (G : xG) (l : Launch) (Q : xQ) (K4 : xK) (h4 : xW G l m_X12_add xX0 (xPm G Q r_X12_add) 4 K4) : xW G l m_X12_add xX0 (xPm G Q r_X12_add) 34 (b_X12_add_34 Q K4) := xo_iload_n (pc := 34) (i := 3) dX12_add_34 rfl <| xo_aload_n (pc := 35) (i := 1) dX12_add_35 rfl <| xo_get (pc := 36) (ci := 11) (i := 1) rfl ok11 (by decide) dX12_add_36 kw1168 <| xo_icmp_ge (pc := 39) (tgt := 51) dX12_add_39 (by decide) (xo_iconst (pc := 51) dX12_add_51 (by decide) <| (s_X12_add_52 G l Q K4 h4)) <| xo_aload_n (pc := 42) (i := 1) dX12_add_42 rfl <| xo_get (pc := 43) (ci := 11) (i := 0) rfl ok11 (by decide) dX12_add_43 kw1167 <| xo_iload_n (pc := 46) (i := 3) dX12_add_46 rfl <| xo_iald (pc := 47) dX12_add_47 <| xo_goto (pc := 48) (tgt := 52) dX12_add_48 (by decide) <| (s_X12_add_52 G l Q K4 h4)
theorem s_X12_add_16 (G : xG) (l : Launch) (Q : xQ) (K4 : xK) (h4 : xW G l m_X12_add xX0 (xPm G Q r_X12_add) 4 K4) : xW G l m_X12_add xX0 (xPm G Q r_X12_add) 16 (b_X12_add_16 Q K4) := xo_iload_n (pc := 16) (i := 3) dX12_add_16 rfl <| xo_aload_n (pc := 17) (i := 0) dX12_add_17 rfl <| xo_get (pc := 18) (ci := 11) (i := 1) rfl ok11 (by decide) dX12_add_18 kw1168 <| xo_icmp_ge (pc := 21) (tgt := 33) dX12_add_21 (by decide) (xo_iconst (pc := 33) dX12_add_33 (by decide) <| (s_X12_add_34 G l Q K4 h4)) <| xo_aload_n (pc := 24) (i := 0) dX12_add_24 rfl <| xo_get (pc := 25) (ci := 11) (i := 0) rfl ok11 (by decide) dX12_add_25 kw1167 <| xo_iload_n (pc := 28) (i := 3) dX12_add_28 rfl <| xo_iald (pc := 29) dX12_add_29 <| xo_goto (pc := 30) (tgt := 34) dX12_add_30 (by decide) <| (s_X12_add_34 G l Q K4 h4)
theorem s_X12_add_4 (G : xG) (l : Launch) (Q : xQ) (K4 : xK) (h4 : xW G l m_X12_add xX0 (xPm G Q r_X12_add) 4 K4) : xW G l m_X12_add xX0 (xPm G Q r_X12_add) 4 (b_X12_add_4 Q K4) := xo_iload_n (pc := 4) (i := 3) dX12_add_4 rfl <| xo_aload_n (pc := 5) (i := 1) dX12_add_5 rfl <| xo_get (pc := 6) (ci := 11) (i := 1) rfl ok11 (by decide) dX12_add_6 kw1168 <| xo_icmp_lt (pc := 9) (tgt := 16) dX12_add_9 (by decide) ((s_X12_add_16 G l Q K4 h4)) <| xo_iload_n (pc := 12) (i := 2) dX12_add_12 rfl <| xo_if_le (pc := 13) (tgt := 102) dX12_add_13 (by decide) (xo_vret (pc := 102) rfl dX12_add_102) <| (s_X12_add_16 G l Q K4 h4)

def C_X12_add : xC := fun av S Q => ∃ (t a u v : Nat), av = [.ref t, .ref a] ∧ (t + 2 ≤ a ∨ a + 2 ≤ t) ∧ mV S.1 t u ∧ mV S.1 a v ∧ u + v < 65536 ^ 640 ∧ ∀ h', xoff h' S.1 t (t + 2) → mV h' t (u + v) → Q none (h', S.2)
def cn_X12_add : Nat × Nat × Nat × Nat → List (Nat × Value) := fun v => [(0, .ref v.1), (1, .ref v.2.1), (2, .int (nI v.2.2.1)), (3, .int (nI v.2.2.2))]
def I_X12_add (Q : xQ) : Nat → Nat × Nat × Nat × Nat → xS → Prop := fun k v S => match v with
  | (t, a, c, i) => ∃ x n n0 y m d, mR S.1 t x n ∧ mR S.1 a y m ∧ (t + 2 ≤ a ∨ a + 2 ≤ t) ∧ n = max n0 i ∧ (∀ j, i ≤ j → dz x n0 j = d j) ∧ (∀ j, d j < 65536) ∧ (∀ j, n0 ≤ j → d j = 0) ∧ i ≤ max n0 m + 1 ∧ k + i = max n0 m + 1 ∧ c < 2 ∧ (i = max n0 m + 1 → c = 0) ∧ sd 65536 x i + c * 65536 ^ i = sd 65536 d i + sd 65536 (dz y m) i ∧ sd 65536 d n0 + sd 65536 y m < 65536 ^ 640 ∧ (0 < n → 65536 ^ (n - 1) ≤ sd 65536 d n0 + sd 65536 y m) ∧ (0 < m → 65536 ^ (m - 1) ≤ sd 65536 y m) ∧ ∀ h', xoff h' S.1 t (t + 2) → mV h' t (sd 65536 d n0 + sd 65536 y m) → Q none (h', S.2)
theorem m_carry {x y c : Nat} (hx : x < 65536) (hy : y < 65536) (hc : c < 2) : (nI x + nI y + nI c) &&& 65535 = nI ((x + y + c) % 65536) ∧ (nI x + nI y + nI c) >>> ((16 : Int32) &&& 31) = nI ((x + y + c) / 65536) := by
  rw [nI_add, nI_add]
  exact ⟨pk_andN (by omega) 16 (by decide), pk_shrN (by omega) _ 16 (by decide)⟩
theorem cM_X12_add (G : xG) (l : Launch) : xM G l yX12_add cX12_add 5 none r_X12_add C_X12_add := by
  refine xM_of (fun Q => b_X12_add_0 Q (xInv cn_X12_add (I_X12_add Q))) RX12 false (fun Q => s_X12_add_0 G l Q _ (xW.lp (b_X12_add_4 Q) (fun K hK => s_X12_add_4 G l Q K hK) ?_)) (by decide) rfl (by decide) ?_
  · rintro k ⟨t, a, c, i⟩ S ⟨x, n, n0, y, m, d, r, ra, o1, hn, ed, hd, hd0, hi, hk, hc, hce, hv, hmax, hlow, hlm, hQ⟩
    have n2 := r.2.2.1
    have m2 := ra.2.2.1
    have d1 := hd i
    have hy : dz y m i < 65536 := by
      have := ra.2.2.2 i
      unfold dz
      split <;> omega
    have en := nI_leI (show n < 2 ^ 31 by omega) (show i < 2 ^ 31 by omega)
    have em := nI_leI (show m < 2 ^ 31 by omega) (show i < 2 ^ 31 by omega)
    have el := nI_ltI (show i < 2 ^ 31 by omega) (show m < 2 ^ 31 by omega)
    have e0 : nI c ≤ 0 ↔ c ≤ 0 := nI_leI (b := 0) (by omega) (by decide)
    have ci := m_cl (n := i) (by omega)
    have g1 : nI i + 1 = nI (i + 1) := nI_1 i
    obtain ⟨k1, k2⟩ := m_carry d1 hy hc
    have tD : ∀ j, n0 ≤ j → sd 65536 d j = sd 65536 d n0 := fun j hj => sd_ext hj (fun q h1 _ => hd0 q h1)
    have mD : sd 65536 d i ≤ sd 65536 d n0 := by rw [← tD (max n0 i) (by omega)]; exact sd_mono (by omega)
    have mY : sd 65536 (dz y m) i ≤ sd 65536 y m := by rw [← dz_sd (B := 65536) (y := y) (show m ≤ max m i by omega)]; exact sd_mono (by omega)
    have hp1 : c = 1 → 65536 ^ i ≤ sd 65536 d n0 + sd 65536 y m := fun e => by subst e; omega
    -- what a digit's round leaves
    have body : (i < m ∨ 0 < c) → b_X12_add_16 Q (xInvL cn_X12_add (I_X12_add Q) k) (cn_X12_add (t, a, c, i)) [] S := by
      intro hgo
      have hi640 : i < 640 := by
        rcases hgo with h | h
        · omega
        · exact (Nat.pow_lt_pow_iff_right (a := 65536) (by decide)).mp (Nat.lt_of_le_of_lt (hp1 (by omega)) hmax)
      have hpi : 65536 ^ i ≤ sd 65536 d n0 + sd 65536 y m := by
        rcases hgo with h | h
        · have h1 := hlm (by omega)
          have h2 : 65536 ^ i ≤ 65536 ^ (m - 1) := Nat.pow_le_pow_right (by decide) (by omega)
          omega
        · exact hp1 (by omega)
      have hz : d i + dz y m i + c < 131072 := by omega
      have fin : sd 65536 (va_up x i ((d i + dz y m i + c) % 65536)) (i + 1) + (d i + dz y m i + c) / 65536 * 65536 ^ (i + 1) = sd 65536 d (i + 1) + sd 65536 (dz y m) (i + 1) := by
        rw [sd, sd_up_hi (Nat.le_refl i), va_us, sd, sd, show (65536 : Nat) ^ (i + 1) = 65536 ^ i * 65536 from Nat.pow_succ _ _]
        have h1 := mul_split (z := d i + dz y m i + c) (E := 65536 ^ i)
        rw [Nat.add_mul (d i + dz y m i), Nat.add_mul] at h1
        omega
      have hcl : i = max n0 m → (d i + dz y m i + c) / 65536 = 0 := fun e => by
        have h1 := hd0 i (by omega)
        have h2 : dz y m i = 0 := if_neg (by omega)
        omega
      have hil : i ≤ max n0 m := by
        rcases hgo with h | h
        · omega
        · rcases Nat.lt_or_ge (max n0 m) i with q | q
          · have := hce (by omega); omega
          · exact q
      have go : ∀ lv (h9 : xH), mR h9 t (va_up x i ((d i + dz y m i + c) % 65536)) (max n0 (i + 1)) → xoff h9 S.1 t (t + 2) → xsub (cn_X12_add (t, a, (d i + dz y m i + c) / 65536, i + 1)) lv → xInvL cn_X12_add (I_X12_add Q) k lv [] (h9, S.2) := fun lv h9 r9 o9 hs => xInvL.mk (k - 1) (t, a, (d i + dz y m i + c) / 65536, i + 1) (by omega) hs ⟨_, _, n0, y, m, d, r9, ra.off o9 (by omega), o1, rfl, fun j hj => by rw [← ed j (by omega)]; unfold dz; rw [va_un (by omega)], hd, hd0, by omega, by omega, by omega, fun e => hcl (by omega), fin, hmax, fun _ => by
          rcases Nat.lt_or_ge i n0 with q | q
          · rw [show max n0 (i + 1) = n by omega]; exact hlow (by omega)
          · rw [show max n0 (i + 1) - 1 = i by omega]; exact hpi, hlm, fun h' o' r' => hQ h' (xoff_tr o' o9) r'⟩
      have w1 := fun (s9 : Nat) (h : s9 ≤ 640) => (r.sz h).wr (k := i) (y := (d i + dz y m i + c) % 65536) (Nat.mod_lt _ (by decide))
      have ez1 : i < m → dz y m i = y i := fun h => if_pos h
      have ez0 : ¬ i < m → dz y m i = 0 := fun h => if_neg h
      rcases Nat.lt_or_ge i n0 with q | q
      · have ex : x i = d i := by rw [← ed i (Nat.le_refl i)]; exact (if_pos q).symm
        have enF : (n ≤ i) = False := by simp; omega
        simp only [x_c, x_iload, x_lload, x_aload, x_istore, x_lstore, x_astore, x_iinc, x_iadd, x_isub, x_imul, x_iand, x_ior, x_ixor, x_ladd, x_lsub, x_lmul, x_land, x_lor, x_lxor, x_idiv, x_irem, x_ldiv, x_lrem, x_ineg, x_lneg, x_ishl, x_ishr, x_iushr, x_lshl, x_lshr, x_lushr, x_i2l, x_l2i, x_i2b, x_i2c, x_lcmp, x_if_eq, x_if_ne, x_if_lt, x_if_ge, x_if_gt, x_if_le, x_icmp_eq, x_icmp_ne, x_icmp_lt, x_icmp_ge, x_icmp_gt, x_icmp_le, x_dup, x_pop, x_dup_x1, x_dup2, x_iret, x_zret, x_lret, x_aret, x_vret, x_call, x_callv, x_calli, x_oinit, x_mmax, x_mmin, x_mabs, x_mmaxL, x_mminL, x_mabsL, lg_cmp_ge, lg_cmp_le, lg_cmp_gt, lg_cmp_lt, lg_cmp_eq, xlk, xs1, xs2, lv_args, Value.category, List.filter_cons, List.filter_nil, Nat.reduceAdd, Nat.reduceBEq, Nat.reduceEqDiff, Nat.reduceSub, Nat.sub_zero, beq_self_eq_true, Bool.not_true, Bool.not_false, Bool.and_true, Bool.and_false, Bool.true_and, Bool.false_and, reduceIte, reduceCtorEq, Bool.false_eq_true, Nat.one_ne_zero, Nat.zero_ne_one, Nat.zero_add, Option.toList_some, Option.toList_none, List.nil_append, List.cons_append, List.take_succ_cons, List.take_zero, List.take_nil, List.drop_succ_cons, List.drop_zero, List.length_cons, List.length_nil, List.reverse_cons, List.reverse_nil, List.head?_cons, List.map_cons, List.map_nil, List.sum_cons, List.sum_nil, true_and, and_true, List.getElem?_cons_zero, List.getElem?_cons_succ, Prod.eta, x_get, x_put, x_iald, x_iast, x_bald, x_bast, x_lald, x_last, x_alen, xup_s, xup_a1, xup_1a, xup_uu, nr_i, nr_l, nr_o, nr_a, ft_i, ft_l, ft_o, ft_a, Nat.reduceLT, i_cl0, i_cl1, i_n1, i_m1, List.set_cons_zero, List.set_cons_succ, Nat.reduceLeDiff, Nat.le_refl, Nat.zero_le, Nat.add_zero, b_X12_add_16, b_X12_add_34, b_X12_add_52, b_X12_add_76, cn_X12_add, r.1, r.2.1, ra.1, ra.2.1, en, em, ci, ex, enF]
        refine ⟨fun z => z.elim, fun _ => ⟨vp_in_nI (by omega) (by decide), fun z => ⟨fun z => z.elim, fun _ => ⟨vp_in_nI (by omega) (by decide), ?_⟩⟩, fun z => ⟨vp_in_nI (by omega) (by decide), fun z => z.elim, fun _ => ⟨vp_in_nI (by omega) (by decide), ?_⟩⟩⟩⟩
        · rw [ez0 (by omega)] at k1 k2 go w1
          rw [show (0 : Int32) = nI 0 from rfl, k1, k2, upd_nI]
          have := w1 (max n0 (i + 1)) (by omega)
          rw [show max n0 (i + 1) = n by omega] at this go
          exact go _ _ this (xoff_tr off_wr off_sz) ⟨rfl, rfl, rfl, rfl, trivial⟩
        · rw [ez1 (by omega)] at k1 k2 go w1
          rw [k1, k2, upd_nI]
          have := w1 (max n0 (i + 1)) (by omega)
          rw [show max n0 (i + 1) = n by omega] at this go
          exact go _ _ this (xoff_tr off_wr off_sz) ⟨rfl, rfl, rfl, rfl, trivial⟩
      · have ex : d i = 0 := hd0 i q
        have enT : (n ≤ i) = True := by simp; omega
        simp only [x_c, x_iload, x_lload, x_aload, x_istore, x_lstore, x_astore, x_iinc, x_iadd, x_isub, x_imul, x_iand, x_ior, x_ixor, x_ladd, x_lsub, x_lmul, x_land, x_lor, x_lxor, x_idiv, x_irem, x_ldiv, x_lrem, x_ineg, x_lneg, x_ishl, x_ishr, x_iushr, x_lshl, x_lshr, x_lushr, x_i2l, x_l2i, x_i2b, x_i2c, x_lcmp, x_if_eq, x_if_ne, x_if_lt, x_if_ge, x_if_gt, x_if_le, x_icmp_eq, x_icmp_ne, x_icmp_lt, x_icmp_ge, x_icmp_gt, x_icmp_le, x_dup, x_pop, x_dup_x1, x_dup2, x_iret, x_zret, x_lret, x_aret, x_vret, x_call, x_callv, x_calli, x_oinit, x_mmax, x_mmin, x_mabs, x_mmaxL, x_mminL, x_mabsL, lg_cmp_ge, lg_cmp_le, lg_cmp_gt, lg_cmp_lt, lg_cmp_eq, xlk, xs1, xs2, lv_args, Value.category, List.filter_cons, List.filter_nil, Nat.reduceAdd, Nat.reduceBEq, Nat.reduceEqDiff, Nat.reduceSub, Nat.sub_zero, beq_self_eq_true, Bool.not_true, Bool.not_false, Bool.and_true, Bool.and_false, Bool.true_and, Bool.false_and, reduceIte, reduceCtorEq, Bool.false_eq_true, Nat.one_ne_zero, Nat.zero_ne_one, Nat.zero_add, Option.toList_some, Option.toList_none, List.nil_append, List.cons_append, List.take_succ_cons, List.take_zero, List.take_nil, List.drop_succ_cons, List.drop_zero, List.length_cons, List.length_nil, List.reverse_cons, List.reverse_nil, List.head?_cons, List.map_cons, List.map_nil, List.sum_cons, List.sum_nil, true_and, and_true, List.getElem?_cons_zero, List.getElem?_cons_succ, Prod.eta, x_get, x_put, x_iald, x_iast, x_bald, x_bast, x_lald, x_last, x_alen, xup_s, xup_a1, xup_1a, xup_uu, nr_i, nr_l, nr_o, nr_a, ft_i, ft_l, ft_o, ft_a, Nat.reduceLT, i_cl0, i_cl1, i_n1, i_m1, List.set_cons_zero, List.set_cons_succ, Nat.reduceLeDiff, Nat.le_refl, Nat.zero_le, Nat.add_zero, b_X12_add_16, b_X12_add_34, b_X12_add_52, b_X12_add_76, cn_X12_add, r.1, r.2.1, ra.1, ra.2.1, en, em, ci, enT, g1]
        rw [show (0 : Int32) = nI (d i) from (by rw [ex]; rfl)]
        refine ⟨fun _ => ⟨fun z => ⟨fun _ => ⟨vp_in_nI (by omega) (by decide), ?_⟩, fun z => absurd trivial z⟩, fun z => ⟨vp_in_nI (by omega) (by decide), fun _ => ⟨vp_in_nI (by omega) (by decide), ?_⟩, fun z => absurd trivial z⟩⟩, fun z => absurd trivial z⟩
        · rw [ez0 (by omega)] at k1 k2 go w1
          rw [show nI (d i) + nI (d i) + nI c = nI (d i) + nI 0 + nI c by rw [ex], k1, k2, upd_nI]
          have := w1 (max n0 (i + 1)) (by omega)
          rw [show max n0 (i + 1) = i + 1 by omega] at this go
          exact go _ _ this (xoff_tr off_wr off_sz) ⟨rfl, rfl, rfl, rfl, trivial⟩
        · rw [ez1 (by omega)] at k1 k2 go w1
          rw [k1, k2, upd_nI]
          have := w1 (max n0 (i + 1)) (by omega)
          rw [show max n0 (i + 1) = i + 1 by omega] at this go
          exact go _ _ this (xoff_tr off_wr off_sz) ⟨rfl, rfl, rfl, rfl, trivial⟩
    simp only [x_c, x_iload, x_lload, x_aload, x_istore, x_lstore, x_astore, x_iinc, x_iadd, x_isub, x_imul, x_iand, x_ior, x_ixor, x_ladd, x_lsub, x_lmul, x_land, x_lor, x_lxor, x_idiv, x_irem, x_ldiv, x_lrem, x_ineg, x_lneg, x_ishl, x_ishr, x_iushr, x_lshl, x_lshr, x_lushr, x_i2l, x_l2i, x_i2b, x_i2c, x_lcmp, x_if_eq, x_if_ne, x_if_lt, x_if_ge, x_if_gt, x_if_le, x_icmp_eq, x_icmp_ne, x_icmp_lt, x_icmp_ge, x_icmp_gt, x_icmp_le, x_dup, x_pop, x_dup_x1, x_dup2, x_iret, x_zret, x_lret, x_aret, x_vret, x_call, x_callv, x_calli, x_oinit, x_mmax, x_mmin, x_mabs, x_mmaxL, x_mminL, x_mabsL, lg_cmp_ge, lg_cmp_le, lg_cmp_gt, lg_cmp_lt, lg_cmp_eq, xlk, xs1, xs2, lv_args, Value.category, List.filter_cons, List.filter_nil, Nat.reduceAdd, Nat.reduceBEq, Nat.reduceEqDiff, Nat.reduceSub, Nat.sub_zero, beq_self_eq_true, Bool.not_true, Bool.not_false, Bool.and_true, Bool.and_false, Bool.true_and, Bool.false_and, reduceIte, reduceCtorEq, Bool.false_eq_true, Nat.one_ne_zero, Nat.zero_ne_one, Nat.zero_add, Option.toList_some, Option.toList_none, List.nil_append, List.cons_append, List.take_succ_cons, List.take_zero, List.take_nil, List.drop_succ_cons, List.drop_zero, List.length_cons, List.length_nil, List.reverse_cons, List.reverse_nil, List.head?_cons, List.map_cons, List.map_nil, List.sum_cons, List.sum_nil, true_and, and_true, List.getElem?_cons_zero, List.getElem?_cons_succ, Prod.eta, x_get, x_put, x_iald, x_iast, x_bald, x_bast, x_lald, x_last, x_alen, xup_s, xup_a1, xup_1a, xup_uu, nr_i, nr_l, nr_o, nr_a, ft_i, ft_l, ft_o, ft_a, Nat.reduceLT, i_cl0, i_cl1, i_n1, i_m1, List.set_cons_zero, List.set_cons_succ, Nat.reduceLeDiff, Nat.le_refl, Nat.zero_le, Nat.add_zero, b_X12_add_4, cn_X12_add, r.1, r.2.1, ra.1, ra.2.1, el, e0]
    refine ⟨fun q => body (Or.inl q), fun q => ⟨fun z => ?_, fun z => body (Or.inr (by omega))⟩⟩
    obtain rfl : c = 0 := by omega
    rw [Nat.zero_mul, Nat.add_zero, dz_sd (by omega)] at hv
    have e1 : sd 65536 x n = sd 65536 d n0 + sd 65536 y m := by
      rcases Nat.lt_or_ge i n0 with w | w
      · have h1 := sd_tail (B := 65536) (x := x) (d := d) (i := i) (n := n) (by omega) (fun j h1 h2 => by rw [← ed j h1]; exact (if_pos (by omega)).symm)
        rw [show n = n0 by omega] at h1 ⊢
        omega
      · rw [show n = i by omega, hv, tD i w]
    exact hQ _ xoff_rf ⟨x, n, r, e1, fun h => sd_norm r.2.2.2 (by rw [e1]; exact hlow h) h⟩
  · rintro av S Q ⟨t, a, u, v, rfl, o1, ⟨x, n, r, rfl, zx⟩, ⟨y, m, ra, rfl, zy⟩, hle, hQ⟩
    refine ⟨Nat.le_of_ble_eq_true rfl, ?_⟩
    have n2 := r.2.2.1
    simp only [x_c, x_iload, x_lload, x_aload, x_istore, x_lstore, x_astore, x_iinc, x_iadd, x_isub, x_imul, x_iand, x_ior, x_ixor, x_ladd, x_lsub, x_lmul, x_land, x_lor, x_lxor, x_idiv, x_irem, x_ldiv, x_lrem, x_ineg, x_lneg, x_ishl, x_ishr, x_iushr, x_lshl, x_lshr, x_lushr, x_i2l, x_l2i, x_i2b, x_i2c, x_lcmp, x_if_eq, x_if_ne, x_if_lt, x_if_ge, x_if_gt, x_if_le, x_icmp_eq, x_icmp_ne, x_icmp_lt, x_icmp_ge, x_icmp_gt, x_icmp_le, x_dup, x_pop, x_dup_x1, x_dup2, x_iret, x_zret, x_lret, x_aret, x_vret, x_call, x_callv, x_calli, x_oinit, x_mmax, x_mmin, x_mabs, x_mmaxL, x_mminL, x_mabsL, lg_cmp_ge, lg_cmp_le, lg_cmp_gt, lg_cmp_lt, lg_cmp_eq, xlk, xs1, xs2, lv_args, Value.category, List.filter_cons, List.filter_nil, Nat.reduceAdd, Nat.reduceBEq, Nat.reduceEqDiff, Nat.reduceSub, Nat.sub_zero, beq_self_eq_true, Bool.not_true, Bool.not_false, Bool.and_true, Bool.and_false, Bool.true_and, Bool.false_and, reduceIte, reduceCtorEq, Bool.false_eq_true, Nat.one_ne_zero, Nat.zero_ne_one, Nat.zero_add, Option.toList_some, Option.toList_none, List.nil_append, List.cons_append, List.take_succ_cons, List.take_zero, List.take_nil, List.drop_succ_cons, List.drop_zero, List.length_cons, List.length_nil, List.reverse_cons, List.reverse_nil, List.head?_cons, List.map_cons, List.map_nil, List.sum_cons, List.sum_nil, true_and, and_true, List.getElem?_cons_zero, List.getElem?_cons_succ, Prod.eta, x_get, x_put, x_iald, x_iast, x_bald, x_bast, x_lald, x_last, x_alen, xup_s, xup_a1, xup_1a, xup_uu, nr_i, nr_l, nr_o, nr_a, ft_i, ft_l, ft_o, ft_a, Nat.reduceLT, i_cl0, i_cl1, i_n1, i_m1, List.set_cons_zero, List.set_cons_succ, Nat.reduceLeDiff, Nat.le_refl, Nat.zero_le, Nat.add_zero, b_X12_add_0]
    refine xInv.mk (max n m + 1) (t, a, 0, 0) ⟨rfl, rfl, rfl, rfl, trivial⟩ ⟨x, n, n, y, m, dz x n, r, ra, o1, by omega, fun _ _ => rfl, fun j => ?_, fun j hj => if_neg (by omega), by omega, by omega, by decide, by omega, rfl, by rw [dz_sd (Nat.le_refl n)]; exact hle, fun h => ?_, fun h => sd_top h (zy h), fun h' o' r' => hQ h' o' (by rw [dz_sd (Nat.le_refl n)] at r'; exact r')⟩
    · unfold dz
      split
      · exact r.2.2.2 j
      · decide
    · have := sd_top (B := 65536) h (zx h)
      rw [dz_sd (Nat.le_refl n)]
      omega
