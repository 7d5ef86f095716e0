/-! how many tens -/
theorem sv_ten {e n : Int} {p : Nat} : sv (e + n) (p * 5 ^ n.toNat) (1 * 5 ^ (-n).toNat) = (p : Rat) * p2 e * tn n := by
  have h5 : (5 : Nat) ^ (-n).toNat ≠ 0 := Nat.ne_of_gt (Nat.pow_pos (by decide))
  rw [Nat.one_mul]
  apply rat_cn (q_ne h5)
  rw [sv_q h5, Rat.natCast_mul, p2_add]
  have k : tn n * ((5 ^ (-n).toNat : Nat) : Rat) = ((5 ^ n.toNat : Nat) : Rat) * p2 n := by
    rcases ilt_ge n 0 with c | c
    · obtain ⟨k, rfl⟩ : ∃ k : Nat, n = -(k : Int) := ⟨(-n).toNat, by omega⟩
      rw [show (-(k : Int)).toNat = 0 by omega, show (- -(k : Int)).toNat = k by omega, Nat.pow_zero]
      have e1 : tn (-(k : Int)) * ((10 ^ k : Nat) : Rat) = 1 := by rw [← tn_nat, ← tn_add, show -(k : Int) + (k : Int) = 0 by omega, tn_z]; exact Rat.zpow_zero 10
      have e2 : p2 (-(k : Int)) * ((2 ^ k : Nat) : Rat) = 1 := by rw [← p2_nat, ← p2_add, show -(k : Int) + (k : Int) = 0 by omega, p2_0]
      have e3 : ((10 ^ k : Nat) : Rat) = ((5 ^ k : Nat) : Rat) * ((2 ^ k : Nat) : Rat) := by rw [← Rat.natCast_mul, ← Nat.mul_pow]
      rw [e3] at e1
      have z : ((2 ^ k : Nat) : Rat) ≠ 0 := q_ne (Nat.ne_of_gt (Nat.two_pow_pos _))
      apply rat_cn z
      have n1 : ((1 : Nat) : Rat) = 1 := rfl
      rw [n1, Rat.one_mul, e2, Rat.mul_assoc]
      exact e1
    · obtain ⟨k, rfl⟩ : ∃ k : Nat, n = (k : Int) := ⟨n.toNat, by omega⟩
      rw [show (k : Int).toNat = k by omega, show (-(k : Int)).toNat = 0 by omega, Nat.pow_zero, tn_nat, p2_nat, show ((1 : Nat) : Rat) = 1 from rfl, Rat.mul_one, ← Rat.natCast_mul, ← Nat.mul_pow]
  calc (p : Rat) * ((5 ^ n.toNat : Nat) : Rat) * (p2 e * p2 n) = (p : Rat) * p2 e * (((5 ^ n.toNat : Nat) : Rat) * p2 n) := by grind
    _ = (p : Rat) * p2 e * (tn n * ((5 ^ (-n).toNat : Nat) : Rat)) := by rw [k]
    _ = _ := by grind
/-- 30103 / 100000 against the logarithm -/
theorem lg_p : ∀ b : Fin 1025, 2 ^ b.val ≤ 10 ^ (b.val * 30103 / 100000 + 1) ∧ (1 ≤ b.val → 10 ^ (b.val * 30103 / 100000) ≤ 2 ^ (b.val - 1) * 10) := by decide +kernel
theorem lg_n : ∀ c : Fin 1075, 1 ≤ c.val → 10 ^ ((c.val * 30103 + 99999) / 100000 - 1) ≤ 2 ^ c.val ∧ 2 ^ (c.val + 1) ≤ 10 ^ ((c.val * 30103 + 99999) / 100000 + 1) := by decide +kernel
theorem p2t {a : Nat} {b : Int} (h : 0 ≤ b) (l : 2 ^ a ≤ 10 ^ b.toNat) : p2 a ≤ tn b := by
  rw [p2_nat, show b = ((b.toNat : Nat) : Int) by omega, tn_nat]
  exact Rat.natCast_le_natCast.mpr l
theorem inv_le {x y a b : Rat} (hx : 0 < x) (hb : 0 < b) (e1 : x * a = 1) (e2 : y * b = 1) (h : b ≤ a) : x ≤ y := by
  rw [← Rat.not_lt]
  intro c
  have k1 : y * b < x * b := (Rat.mul_lt_mul_right hb).mpr c
  have k2 : x * b ≤ x * a := Rat.mul_le_mul_of_nonneg_left h (Rat.le_of_lt hx)
  grind
theorem fl_b {b : Int} (h1 : -1074 ≤ b) (h2 : b ≤ 1024) : p2 b ≤ tn (b * 30103 / 100000 + 1) ∧ tn (b * 30103 / 100000 - 1) ≤ p2 (b - 1) := by
  have t1 : ∀ k : Nat, tn (-(k : Int)) * ((10 ^ k : Nat) : Rat) = 1 := fun k => by rw [← tn_nat, ← tn_add, show -(k : Int) + (k : Int) = 0 by omega, tn_z]; exact Rat.zpow_zero 10
  have t2 : ∀ k : Nat, p2 (-(k : Int)) * ((2 ^ k : Nat) : Rat) = 1 := fun k => by rw [← p2_nat, ← p2_add, show -(k : Int) + (k : Int) = 0 by omega, p2_0]
  have cp : ∀ k : Nat, (0 : Rat) < ((10 ^ k : Nat) : Rat) := fun k => q_pos (Nat.ne_of_gt (Nat.pow_pos (by decide)))
  have cp2 : ∀ k : Nat, (0 : Rat) < ((2 ^ k : Nat) : Rat) := fun k => q_pos (Nat.ne_of_gt (Nat.two_pow_pos _))
  rcases ilt_ge b 0 with c | c
  · obtain ⟨k, hk⟩ : ∃ k : Nat, b = -(k : Int) := ⟨(-b).toNat, by omega⟩
    subst hk
    obtain ⟨u, hu⟩ : ∃ u : Nat, u = (k * 30103 + 99999) / 100000 := ⟨_, rfl⟩
    have e : -(k : Int) * 30103 / 100000 = -(u : Int) := by omega
    have u1 : 1 ≤ u := by omega
    obtain ⟨l1, l2⟩ := lg_n ⟨k, by omega⟩ (by show 1 ≤ k; omega)
    dsimp only at l1 l2
    rw [← hu] at l1 l2
    rw [e]
    constructor
    · rw [show -(u : Int) + 1 = -((u - 1 : Nat) : Int) by omega]
      exact inv_le (p2_pos _) (cp _) (t2 k) (t1 (u - 1)) (Rat.natCast_le_natCast.mpr l1)
    · rw [show -(u : Int) - 1 = -((u + 1 : Nat) : Int) by omega, show -(k : Int) - 1 = -((k + 1 : Nat) : Int) by omega]
      exact inv_le (tn_pos _) (cp2 _) (t1 (u + 1)) (t2 (k + 1)) (Rat.natCast_le_natCast.mpr l2)
  · obtain ⟨k, hk⟩ : ∃ k : Nat, b = (k : Int) := ⟨b.toNat, by omega⟩
    subst hk
    obtain ⟨u, hu⟩ : ∃ u : Nat, u = k * 30103 / 100000 := ⟨_, rfl⟩
    have e : (k : Int) * 30103 / 100000 = (u : Int) := by omega
    obtain ⟨l1, l2⟩ := lg_p ⟨k, by omega⟩
    dsimp only at l1 l2
    rw [← hu] at l1 l2
    rw [e]
    constructor
    · exact p2t (by omega) (by rw [show ((u : Int) + 1).toNat = u + 1 by omega]; exact l1)
    · rcases Nat.eq_zero_or_pos k with z | z
      · have u0 : u = 0 := by rw [hu, z]
        subst z
        rw [u0]
        have a1 := t1 1
        have a2 := t2 1
        exact inv_le (tn_pos _) (cp2 1) a1 a2 (Rat.natCast_le_natCast.mpr (by decide))
      · have l3 := l2 z
        have e1 : tn ((u : Int) - 1) * 10 = ((10 ^ u : Nat) : Rat) := by
          rw [← tn_nat]
          have : (10 : Rat) = tn 1 := by rw [show (1 : Int) = ((1 : Nat) : Int) from rfl, tn_nat]; rfl
          rw [this, ← tn_add]
          congr 1
          omega
        have e2 : p2 ((k : Int) - 1) = ((2 ^ (k - 1) : Nat) : Rat) := by rw [← p2_nat]; congr 1; omega
        have l4 : ((10 ^ u : Nat) : Rat) ≤ ((2 ^ (k - 1) * 10 : Nat) : Rat) := Rat.natCast_le_natCast.mpr l3
        rw [Rat.natCast_mul, show ((10 : Nat) : Rat) = 10 from rfl, ← e1, ← e2] at l4
        rw [← Rat.not_lt]
        intro c
        have := (Rat.mul_lt_mul_right (show (0 : Rat) < 10 by decide)).mpr c
        grind
theorem dX10_putHex_0 : decode cX10_putHex 0 = .ok (.lload_n 1, 1) := by decide +kernel
theorem dX10_putHex_1 : decode cX10_putHex 1 = .ok (.invokestatic 93, 3) := by decide +kernel
theorem dX10_putHex_4 : decode cX10_putHex 4 = .ok (.istore_n 3, 1) := by decide +kernel
theorem dX10_putHex_5 : decode cX10_putHex 5 = .ok (.aload_n 0, 1) := by decide +kernel
theorem dX10_putHex_6 : decode cX10_putHex 6 = .ok (.ldc 99, 2) := by decide +kernel
theorem dX10_putHex_8 : decode cX10_putHex 8 = .ok (.iconst 0, 1) := by decide +kernel
theorem dX10_putHex_9 : decode cX10_putHex 9 = .ok (.iconst 2, 1) := by decide +kernel
theorem dX10_putHex_10 : decode cX10_putHex 10 = .ok (.invokevirtual 34, 3) := by decide +kernel
theorem dX10_putHex_13 : decode cX10_putHex 13 = .ok (.aload_n 0, 1) := by decide +kernel
theorem dX10_putHex_14 : decode cX10_putHex 14 = .ok (.iload_n 3, 1) := by decide +kernel
theorem dX10_putHex_15 : decode cX10_putHex 15 = .ok (.ifCond .ne 8, 3) := by decide +kernel
theorem dX10_putHex_18 : decode cX10_putHex 18 = .ok (.bipush 48, 2) := by decide +kernel
theorem dX10_putHex_20 : decode cX10_putHex 20 = .ok (.goto 5, 3) := by decide +kernel
theorem dX10_putHex_23 : decode cX10_putHex 23 = .ok (.bipush 49, 2) := by decide +kernel
theorem dX10_putHex_25 : decode cX10_putHex 25 = .ok (.invokevirtual 50, 3) := by decide +kernel
theorem dX10_putHex_28 : decode cX10_putHex 28 = .ok (.aload_n 0, 1) := by decide +kernel
theorem dX10_putHex_29 : decode cX10_putHex 29 = .ok (.bipush 46, 2) := by decide +kernel
theorem dX10_putHex_31 : decode cX10_putHex 31 = .ok (.invokevirtual 50, 3) := by decide +kernel
theorem dX10_putHex_34 : decode cX10_putHex 34 = .ok (.bipush 48, 2) := by decide +kernel
theorem dX10_putHex_36 : decode cX10_putHex 36 = .ok (.istore 4, 2) := by decide +kernel
theorem dX10_putHex_38 : decode cX10_putHex 38 = .ok (.iload 4, 2) := by decide +kernel
theorem dX10_putHex_40 : decode cX10_putHex 40 = .ok (.ifCond .lt 26, 3) := by decide +kernel
theorem dX10_putHex_43 : decode cX10_putHex 43 = .ok (.aload_n 0, 1) := by decide +kernel
theorem dX10_putHex_44 : decode cX10_putHex 44 = .ok (.ldc 101, 2) := by decide +kernel
theorem dX10_putHex_46 : decode cX10_putHex 46 = .ok (.lload_n 1, 1) := by decide +kernel
theorem dX10_putHex_47 : decode cX10_putHex 47 = .ok (.iload 4, 2) := by decide +kernel
theorem dX10_putHex_49 : decode cX10_putHex 49 = .ok (.lushr, 1) := by decide +kernel
theorem dX10_putHex_50 : decode cX10_putHex 50 = .ok (.l2i, 1) := by decide +kernel
theorem dX10_putHex_51 : decode cX10_putHex 51 = .ok (.bipush 15, 2) := by decide +kernel
theorem dX10_putHex_53 : decode cX10_putHex 53 = .ok (.iand, 1) := by decide +kernel
theorem dX10_putHex_54 : decode cX10_putHex 54 = .ok (.invokevirtual 70, 3) := by decide +kernel
theorem dX10_putHex_57 : decode cX10_putHex 57 = .ok (.invokevirtual 50, 3) := by decide +kernel
theorem dX10_putHex_60 : decode cX10_putHex 60 = .ok (.iinc 4 (-4), 3) := by decide +kernel
theorem dX10_putHex_63 : decode cX10_putHex 63 = .ok (.goto (-25), 3) := by decide +kernel
theorem dX10_putHex_66 : decode cX10_putHex 66 = .ok (.aload_n 0, 1) := by decide +kernel
theorem dX10_putHex_67 : decode cX10_putHex 67 = .ok (.bipush 112, 2) := by decide +kernel
theorem dX10_putHex_69 : decode cX10_putHex 69 = .ok (.invokevirtual 50, 3) := by decide +kernel
theorem dX10_putHex_72 : decode cX10_putHex 72 = .ok (.aload_n 0, 1) := by decide +kernel
theorem dX10_putHex_73 : decode cX10_putHex 73 = .ok (.iload_n 3, 1) := by decide +kernel
theorem dX10_putHex_74 : decode cX10_putHex 74 = .ok (.iconst 1, 1) := by decide +kernel
theorem dX10_putHex_75 : decode cX10_putHex 75 = .ok (.invokestatic 103, 3) := by decide +kernel
theorem dX10_putHex_78 : decode cX10_putHex 78 = .ok (.sipush 1023, 3) := by decide +kernel
theorem dX10_putHex_81 : decode cX10_putHex 81 = .ok (.isub, 1) := by decide +kernel
theorem dX10_putHex_82 : decode cX10_putHex 82 = .ok (.invokevirtual 107, 3) := by decide +kernel
theorem dX10_putHex_85 : decode cX10_putHex 85 = .ok (.return_, 1) := by decide +kernel
abbrev r_X10_putHex : Room := { frames := 5, cells := 0, slots := 0, locals := 109 }
abbrev m_X10_putHex : xMd := (cX10_putHex, RX10, 5, none, false, r_X10_putHex)
def b_X10_putHex_25 (Q : xQ) (K38 : xK) : xK := x_callv 9 C_X10_put 2 0 0 <| x_aload 0 <| x_c (.int 46) <| x_callv 9 C_X10_put 2 0 0 <| x_c (.int 48) <| x_istore 4 <| K38
def b_X10_putHex_38 (Q : xQ) (K38 : xK) : xK := x_iload 4 <| x_if_lt (x_aload 0 <| x_c (.int 112) <| x_callv 9 C_X10_put 2 0 0 <| x_aload 0 <| x_iload 3 <| x_c (.int 1) <| x_mmax <| x_c (.int 1023) <| x_isub <| x_callv 9 C_X10_putWhole 2 0 0 <| x_vret Q) <| x_aload 0 <| x_str 13 <| x_lload 1 <| x_iload 4 <| x_lushr <| x_l2i <| x_c (.int 15) <| x_iand <| x_callt C_J0_charAt_5068e 2 0 0 <| x_callv 9 C_X10_put 2 0 0 <| x_iinc 4 (-4) <| K38
def b_X10_putHex_0 (Q : xQ) (K38 : xK) : xK := x_lload 1 <| x_call C_X4_scale 1 0 0 <| x_istore 3 <| x_aload 0 <| x_str 12 <| x_c (.int 0) <| x_c (.int 2) <| x_callv 9 C_X10_putText 4 0 0 <| x_aload 0 <| x_iload 3 <| x_if_ne (x_c (.int 49) <| (b_X10_putHex_25 Q K38)) <| x_c (.int 48) <| (b_X10_putHex_25 Q K38)
theorem s_X10_putHex_25 (G : xG) (l : Launch) (Q : xQ) (K38 : xK) (h38 : xW G l m_X10_putHex xX0 (xPm G Q r_X10_putHex) 38 K38) : xW G l m_X10_putHex xX0 (xPm G Q r_X10_putHex) 25 (b_X10_putHex_25 Q K38) := xo_callV (pc := 25) (np := 1) (ci := 9) rfl (cM_X10_put G l) dX10_putHex_25 kw1085 kw1082 kw1084 ks39 kw12 (by decide +kernel) (by decide) <| xo_aload_n (pc := 28) (i := 0) dX10_putHex_28 rfl <| xo_bipush (pc := 29) dX10_putHex_29 (by decide) <| xo_callV (pc := 31) (np := 1) (ci := 9) rfl (cM_X10_put G l) dX10_putHex_31 kw1085 kw1082 kw1084 ks39 kw12 (by decide +kernel) (by decide) <| xo_bipush (pc := 34) dX10_putHex_34 (by decide) <| xo_istore (pc := 36) (i := 4) dX10_putHex_36 (by decide) <| h38
theorem s_X10_putHex_38 (G : xG) (l : Launch) (Q : xQ) (K38 : xK) (h38 : xW G l m_X10_putHex xX0 (xPm G Q r_X10_putHex) 38 K38) : xW G l m_X10_putHex xX0 (xPm G Q r_X10_putHex) 38 (b_X10_putHex_38 Q K38) := xo_iload (pc := 38) (i := 4) dX10_putHex_38 <| xo_if_lt (pc := 40) (tgt := 66) dX10_putHex_40 (by decide) (xo_aload_n (pc := 66) (i := 0) dX10_putHex_66 rfl <| xo_bipush (pc := 67) dX10_putHex_67 (by decide) <| xo_callV (pc := 69) (np := 1) (ci := 9) rfl (cM_X10_put G l) dX10_putHex_69 kw1085 kw1082 kw1084 ks39 kw12 (by decide +kernel) (by decide) <| xo_aload_n (pc := 72) (i := 0) dX10_putHex_72 rfl <| xo_iload_n (pc := 73) (i := 3) dX10_putHex_73 rfl <| xo_iconst (pc := 74) dX10_putHex_74 (by decide) <| xo_mmax (pc := 75) dX10_putHex_75 kw1104 kw537 kw17 kw538 (by decide) <| xo_sipush (pc := 78) dX10_putHex_78 (by decide) <| xo_isub (pc := 81) dX10_putHex_81 <| xo_callV (pc := 82) (np := 1) (ci := 9) rfl (cM_X10_putWhole G l) dX10_putHex_82 kw1108 kw1105 kw1107 ks42 kw12 (by decide +kernel) (by decide) <| xo_vret (pc := 85) rfl dX10_putHex_85) <| xo_aload_n (pc := 43) (i := 0) dX10_putHex_43 rfl <| xo_str (pc := 44) (i := 13) (by decide) (by decide) (by decide) dX10_putHex_44 <| xo_lload_n (pc := 46) (i := 1) dX10_putHex_46 rfl <| xo_iload (pc := 47) (i := 4) dX10_putHex_47 <| xo_lushr (pc := 49) dX10_putHex_49 <| xo_l2i (pc := 50) dX10_putHex_50 <| xo_bipush (pc := 51) dX10_putHex_51 (by decide) <| xo_iand (pc := 53) dX10_putHex_53 <| xo_callT (pc := 54) (np := 1) (cM_J0_charAt_5068e G l) dX10_putHex_54 kw427 kw1081 kw425 kw426 kw20 (by decide +kernel) (by decide) <| xo_callV (pc := 57) (np := 1) (ci := 9) rfl (cM_X10_put G l) dX10_putHex_57 kw1085 kw1082 kw1084 ks39 kw12 (by decide +kernel) (by decide) <| xo_iinc (pc := 60) dX10_putHex_60 (by decide) <| xo_goto (pc := 63) (tgt := 38) dX10_putHex_63 (by decide) <| h38
theorem s_X10_putHex_0 (G : xG) (l : Launch) (Q : xQ) (K38 : xK) (h38 : xW G l m_X10_putHex xX0 (xPm G Q r_X10_putHex) 38 K38) : xW G l m_X10_putHex xX0 (xPm G Q r_X10_putHex) 0 (b_X10_putHex_0 Q K38) := xo_lload_n (pc := 0) (i := 1) dX10_putHex_0 rfl <| xo_callS (pc := 1) (np := 1) (cM_X4_scale G l) dX10_putHex_1 kw894 kw1101 kw893 kw25 (by decide +kernel) (by decide) <| xo_istore_n (pc := 4) (i := 3) dX10_putHex_4 rfl (by decide) <| xo_aload_n (pc := 5) (i := 0) dX10_putHex_5 rfl <| xo_str (pc := 6) (i := 12) (by decide) (by decide) (by decide) dX10_putHex_6 <| xo_iconst (pc := 8) dX10_putHex_8 (by decide) <| xo_iconst (pc := 9) dX10_putHex_9 (by decide) <| xo_callV (pc := 10) (np := 3) (ci := 9) rfl (cM_X10_putText G l) dX10_putHex_10 kw1080 kw1077 kw1079 ks38 kw12 (by decide +kernel) (by decide) <| xo_aload_n (pc := 13) (i := 0) dX10_putHex_13 rfl <| xo_iload_n (pc := 14) (i := 3) dX10_putHex_14 rfl <| xo_if_ne (pc := 15) (tgt := 23) dX10_putHex_15 (by decide) (xo_bipush (pc := 23) dX10_putHex_23 (by decide) <| (s_X10_putHex_25 G l Q K38 h38)) <| xo_bipush (pc := 18) dX10_putHex_18 (by decide) <| xo_goto (pc := 20) (tgt := 25) dX10_putHex_20 (by decide) <| (s_X10_putHex_25 G l Q K38 h38)

theorem n_a15 (n : Nat) : nI n &&& 15 = nI (n % 16) := by
  apply Int32.toBitVec_inj.mp
  show BitVec.ofNat 32 n &&& BitVec.ofNat 32 15 = BitVec.ofNat 32 (n % 16)
  rw [← BitVec.ofNat_and, show (15 : Nat) = 2 ^ 4 - 1 from rfl, Nat.and_two_pow_sub_one_eq_mod]
abbrev hxS : List Nat := [48, 49, 50, 51, 52, 53, 54, 55, 56, 57, 97, 98, 99, 100, 101, 102]
theorem hx_S {d : Nat} (h : d < 16) : hxS.getD d 0 = hxC d := by
  have h9 : ∀ k : Fin 16, hxS.getD k.val 0 = hxC k.val := by decide
  exact h9 ⟨d, h⟩
def cn_X10_putHex : Nat × Nat × Nat → List (Nat × Value) := fun v => [(0, .ref (v.1 + 39)), (1, .long (lN v.2.1)), (3, .int (nI (v.2.1 / 2 ^ 52))), (4, .int (iZ (4 * (v.2.2 : Int) - 4)))]
def I_X10_putHex (Q : xQ) : Nat → Nat × Nat × Nat → xS → Prop := fun k v S => match v with
  | (x, f, j) => k = j ∧ j ≤ 13 ∧ f < 9218868437227405312 ∧ ∃ (cur fin : List Nat), wW S.1 x cur ∧ cur ++ (hxL f j ++ (112 :: nD (eEx f))) = fin ∧ cur.length + j + 6 ≤ 64 ∧ ∀ h', fW h' S.1 x → wW h' x fin → Q none (h', S.2)
def C_X10_putHex : xC := fun av S Q => ∃ (x f : Nat) (L : List Nat), av = [.ref (x + 39), .long (lN f)] ∧ f < 9218868437227405312 ∧ wW S.1 x L ∧ L.length + 23 ≤ 64 ∧ ∀ h', fW h' S.1 x → wW h' x (L ++ exL f) → Q none (h', S.2)
theorem kw_txt {h : xH} {T : Nat × Nat × Nat} {K : xQ} {x a i : Nat} {l : List Nat} (w : wW h x l) (f t : Nat) (L : List Nat) (e : xsB i = L.map nI) (hl : L.length ≤ 100) (hb : L.all (fun x => decide (x < 128)) = true) (ha : h a = some (.inl (5, (xsB i).length, .inl (fun j => (xsB i).getD j 0)))) (hf : f ≤ t) (ht : t ≤ L.length) (hr : l.length + (t - f) ≤ 64) (c : ∀ h2, fW h2 h x → wW h2 x (l ++ (List.range (t - f)).map (fun j => L.getD (f + j) 0)) → K none (h2, T)) : rcw h x ∧ C_X10_putText [.ref (x + 39), .ref a, .int (nI f), .int (nI t)] (h, T) K :=
  ⟨w.rc, x, a, f, t, L.length, fun j => L.getD j 0, l, rfl, hf, ht, sS_k L e hl (lst_b hb) ha, w, hr, c⟩
theorem cM_X10_putHex (G : xG) (l : Launch) : xM G l yX10_putHex cX10_putHex 5 none r_X10_putHex C_X10_putHex := by
  refine xM_of (fun Q => b_X10_putHex_0 Q (xInv cn_X10_putHex (I_X10_putHex Q))) RX10 false (fun Q => s_X10_putHex_0 G l Q _ (xW.lp (b_X10_putHex_38 Q) (fun K hK => s_X10_putHex_38 G l Q K hK) ?_)) (by decide) rfl (by decide) ?_
  · rintro c ⟨x, f, j⟩ ⟨h, S2⟩ ⟨rfl, hj, hf, cur, fin, w, hfin, hr, hQ⟩
    dsimp only at *
    have c1 : cn_X10_putHex (x, f, c) = [(0, .ref (x + 39)), (1, .long (lN f)), (3, .int (nI (f / 2 ^ 52))), (4, .int (iZ (4 * (c : Int) - 4)))] := rfl
    rw [c1]
    have fe : f / 2 ^ 52 < 2048 := by omega
    have q1 := iZ_lt0 (z := 4 * (c : Int) - 4) (by omega) (by omega)
    generalize hK : xInvL cn_X10_putHex (I_X10_putHex Q) c = K
    rcases Nat.eq_zero_or_pos c with c0 | c0
    · subst c0
      have e0 : hxL f 0 = [] := rfl
      rw [e0, List.nil_append] at hfin
      have mx : (if nI (f / 2 ^ 52) < (1 : Int32) then 1 else nI (f / 2 ^ 52)) - 1023 = iZ (eEx f) := by
        have q : nI (f / 2 ^ 52) < (1 : Int32) ↔ f / 2 ^ 52 < 1 := nc_lt (b := 1) (by omega) (by decide)
        unfold eEx
        rcases Nat.eq_zero_or_pos (f / 2 ^ 52) with z | z
        · rw [if_pos (q.mpr (by omega)), if_pos z]; decide
        · rw [if_neg (fun t => by have := q.mp t; omega), if_neg (by omega), ← iZ_nat, show (1023 : Int32) = iZ 1023 from rfl, iZ_sub]
      have eb : -9999 ≤ eEx f ∧ eEx f ≤ 9999 := by unfold eEx; split <;> omega
      simp only [q_c, x_iload, x_lload, x_aload, q_istore, q_lstore, q_astore, q_astore2, x_iinc, q_iadd, q_isub, q_imul, q_iand, q_ior, q_ixor, q_ladd, q_lsub, q_lmul, q_land, q_lor, q_lxor, q_idiv, q_irem, q_ldiv, q_lrem, q_ineg, q_lneg, q_ishl, q_ishr, q_iushr, q_lshl, q_lshr, q_lushr, q_i2l, q_l2i, q_i2b, q_i2c, q_lcmp, q_if_eq, q_if_ne, q_if_lt, q_if_ge, q_if_gt, q_if_le, q_icmp_eq, q_icmp_ne, q_icmp_lt, q_icmp_ge, q_icmp_gt, q_icmp_le, q_dup, q_pop, q_dup_x1, q_dup2, x_iret, x_zret, x_lret, x_aret, x_vret, x_call, x_callv, x_calli, x_oinit, x_mmax, x_mmin, x_mabs, x_mmaxL, x_mminL, x_mabsL, lg_cmp_ge, lg_cmp_le, lg_cmp_gt, lg_cmp_lt, lg_cmp_eq, xlk, q_xs1, q_xs2, lv_args, Value.category, List.filter_cons, List.filter_nil, Nat.reduceAdd, Nat.reduceBEq, Nat.reduceEqDiff, Nat.reduceSub, Nat.sub_zero, beq_self_eq_true, Bool.not_true, Bool.not_false, Bool.and_true, Bool.and_false, Bool.true_and, Bool.false_and, reduceIte, reduceCtorEq, Bool.false_eq_true, Nat.one_ne_zero, Nat.zero_ne_one, Nat.zero_add, Option.toList_some, Option.toList_none, List.nil_append, List.cons_append, List.take_succ_cons, List.take_zero, List.take_nil, List.drop_succ_cons, List.drop_zero, List.length_cons, List.length_nil, List.reverse_cons, List.reverse_nil, List.head?_cons, List.map_cons, List.map_nil, List.sum_cons, List.sum_nil, true_and, and_true, List.getElem?_cons_zero, List.getElem?_cons_succ, Prod.eta, x_iast, x_bald, x_bast, x_last, x_alen, xup_s, xup_a1, xup_1a, xup_uu, nr_i, nr_l, nr_o, nr_a, ft_i, ft_l, ft_o, ft_a, Nat.reduceLT, i_cl0, i_cl1, i_n1, i_m1, List.set_cons_zero, List.set_cons_succ, Nat.reduceLeDiff, Nat.le_refl, Nat.zero_le, Nat.add_zero, x_no, x_ifnull, x_ifnonnull, x_acmp_eq, x_acmp_ne, x_swl, x_tsw, x_castC, true_or, or_true, nr_z, ft_z, nr_z0, nr_z1, ft_z0, ft_z1, nr_on, nr_an, ft_on, ft_an, b_X10_putHex_38, q1]
      refine ⟨fun _ => kw_put (b := 112) w (by decide) (by omega) fun h2 f2 w2 => ?_, fun y => by omega⟩
      simp only [q_c, x_iload, x_lload, x_aload, q_istore, q_lstore, q_astore, q_astore2, x_iinc, q_iadd, q_isub, q_imul, q_iand, q_ior, q_ixor, q_ladd, q_lsub, q_lmul, q_land, q_lor, q_lxor, q_idiv, q_irem, q_ldiv, q_lrem, q_ineg, q_lneg, q_ishl, q_ishr, q_iushr, q_lshl, q_lshr, q_lushr, q_i2l, q_l2i, q_i2b, q_i2c, q_lcmp, q_if_eq, q_if_ne, q_if_lt, q_if_ge, q_if_gt, q_if_le, q_icmp_eq, q_icmp_ne, q_icmp_lt, q_icmp_ge, q_icmp_gt, q_icmp_le, q_dup, q_pop, q_dup_x1, q_dup2, x_iret, x_zret, x_lret, x_aret, x_vret, x_call, x_callv, x_calli, x_oinit, x_mmax, x_mmin, x_mabs, x_mmaxL, x_mminL, x_mabsL, lg_cmp_ge, lg_cmp_le, lg_cmp_gt, lg_cmp_lt, lg_cmp_eq, xlk, q_xs1, q_xs2, lv_args, Value.category, List.filter_cons, List.filter_nil, Nat.reduceAdd, Nat.reduceBEq, Nat.reduceEqDiff, Nat.reduceSub, Nat.sub_zero, beq_self_eq_true, Bool.not_true, Bool.not_false, Bool.and_true, Bool.and_false, Bool.true_and, Bool.false_and, reduceIte, reduceCtorEq, Bool.false_eq_true, Nat.one_ne_zero, Nat.zero_ne_one, Nat.zero_add, Option.toList_some, Option.toList_none, List.nil_append, List.cons_append, List.take_succ_cons, List.take_zero, List.take_nil, List.drop_succ_cons, List.drop_zero, List.length_cons, List.length_nil, List.reverse_cons, List.reverse_nil, List.head?_cons, List.map_cons, List.map_nil, List.sum_cons, List.sum_nil, true_and, and_true, List.getElem?_cons_zero, List.getElem?_cons_succ, Prod.eta, x_iast, x_bald, x_bast, x_last, x_alen, xup_s, xup_a1, xup_1a, xup_uu, nr_i, nr_l, nr_o, nr_a, ft_i, ft_l, ft_o, ft_a, Nat.reduceLT, i_cl0, i_cl1, i_n1, i_m1, List.set_cons_zero, List.set_cons_succ, Nat.reduceLeDiff, Nat.le_refl, Nat.zero_le, Nat.add_zero, x_no, x_ifnull, x_ifnonnull, x_acmp_eq, x_acmp_ne, x_swl, x_tsw, x_castC, true_or, or_true, nr_z, ft_z, nr_z0, nr_z1, ft_z0, ft_z1, nr_on, nr_an, ft_on, ft_an, mx]
      refine ⟨w2.rc, x, eEx f, _, rfl, eb, w2, by rw [List.length_append, List.length_singleton]; omega, fun h3 f3 w3 => ?_⟩
      try simp only [q_c, x_iload, x_lload, x_aload, q_istore, q_lstore, q_astore, q_astore2, x_iinc, q_iadd, q_isub, q_imul, q_iand, q_ior, q_ixor, q_ladd, q_lsub, q_lmul, q_land, q_lor, q_lxor, q_idiv, q_irem, q_ldiv, q_lrem, q_ineg, q_lneg, q_ishl, q_ishr, q_iushr, q_lshl, q_lshr, q_lushr, q_i2l, q_l2i, q_i2b, q_i2c, q_lcmp, q_if_eq, q_if_ne, q_if_lt, q_if_ge, q_if_gt, q_if_le, q_icmp_eq, q_icmp_ne, q_icmp_lt, q_icmp_ge, q_icmp_gt, q_icmp_le, q_dup, q_pop, q_dup_x1, q_dup2, x_iret, x_zret, x_lret, x_aret, x_vret, x_call, x_callv, x_calli, x_oinit, x_mmax, x_mmin, x_mabs, x_mmaxL, x_mminL, x_mabsL, lg_cmp_ge, lg_cmp_le, lg_cmp_gt, lg_cmp_lt, lg_cmp_eq, xlk, q_xs1, q_xs2, lv_args, Value.category, List.filter_cons, List.filter_nil, Nat.reduceAdd, Nat.reduceBEq, Nat.reduceEqDiff, Nat.reduceSub, Nat.sub_zero, beq_self_eq_true, Bool.not_true, Bool.not_false, Bool.and_true, Bool.and_false, Bool.true_and, Bool.false_and, reduceIte, reduceCtorEq, Bool.false_eq_true, Nat.one_ne_zero, Nat.zero_ne_one, Nat.zero_add, Option.toList_some, Option.toList_none, List.nil_append, List.cons_append, List.take_succ_cons, List.take_zero, List.take_nil, List.drop_succ_cons, List.drop_zero, List.length_cons, List.length_nil, List.reverse_cons, List.reverse_nil, List.head?_cons, List.map_cons, List.map_nil, List.sum_cons, List.sum_nil, true_and, and_true, List.getElem?_cons_zero, List.getElem?_cons_succ, Prod.eta, x_iast, x_bald, x_bast, x_last, x_alen, xup_s, xup_a1, xup_1a, xup_uu, nr_i, nr_l, nr_o, nr_a, ft_i, ft_l, ft_o, ft_a, Nat.reduceLT, i_cl0, i_cl1, i_n1, i_m1, List.set_cons_zero, List.set_cons_succ, Nat.reduceLeDiff, Nat.le_refl, Nat.zero_le, Nat.add_zero, x_no, x_ifnull, x_ifnonnull, x_acmp_eq, x_acmp_ne, x_swl, x_tsw, x_castC, true_or, or_true, nr_z, ft_z, nr_z0, nr_z1, ft_z0, ft_z1, nr_on, nr_an, ft_on, ft_an]
      rw [List.append_assoc] at w3
      exact hQ h3 (xoff_tr f3 f2) (by rw [← hfin]; exact w3)
    · obtain ⟨j, rfl⟩ : ∃ j, c = j + 1 := ⟨c - 1, by omega⟩
      have e1 : iZ (4 * ((j + 1 : Nat) : Int) - 4) = nI (4 * j) := by rw [← iZ_nat]; congr 1; omega
      have e2 : ((lN f).toUInt64 >>> ((nI (4 * j)).toInt64.toUInt64 &&& Int64.toUInt64 63)).toInt64.toInt32 &&& 15 = nI (f / 16 ^ j % 16) := by
        rw [wb_shr (by omega) (by omega), lN_l2i, n_a15, show (16 : Nat) ^ j = 2 ^ (4 * j) by rw [show (16 : Nat) = 2 ^ 4 from rfl, ← Nat.pow_mul]]
      have d16 : f / 16 ^ j % 16 < 16 := Nat.mod_lt _ (by decide)
      generalize hd : f / 16 ^ j % 16 = d at *
      have e5 : nI (4 * j) + Int32.ofInt (-4) = iZ (4 * (j : Int) - 4) := by
        rw [← iZ_nat, show Int32.ofInt (-4) = iZ (-4) from rfl, iZ_add]; congr 1
      have hs : hxL f (j + 1) = hxC d :: hxL f j := by rw [← hd]; rfl
      rw [hs, List.cons_append] at hfin
      have hb : hxC d < 128 := by unfold hxC; split <;> omega
      rw [e1] at q1
      simp only [q_c, x_iload, x_lload, x_aload, q_istore, q_lstore, q_astore, q_astore2, x_iinc, q_iadd, q_isub, q_imul, q_iand, q_ior, q_ixor, q_ladd, q_lsub, q_lmul, q_land, q_lor, q_lxor, q_idiv, q_irem, q_ldiv, q_lrem, q_ineg, q_lneg, q_ishl, q_ishr, q_iushr, q_lshl, q_lshr, q_lushr, q_i2l, q_l2i, q_i2b, q_i2c, q_lcmp, q_if_eq, q_if_ne, q_if_lt, q_if_ge, q_if_gt, q_if_le, q_icmp_eq, q_icmp_ne, q_icmp_lt, q_icmp_ge, q_icmp_gt, q_icmp_le, q_dup, q_pop, q_dup_x1, q_dup2, x_iret, x_zret, x_lret, x_aret, x_vret, x_call, x_callv, x_calli, x_oinit, x_mmax, x_mmin, x_mabs, x_mmaxL, x_mminL, x_mabsL, lg_cmp_ge, lg_cmp_le, lg_cmp_gt, lg_cmp_lt, lg_cmp_eq, xlk, q_xs1, q_xs2, lv_args, Value.category, List.filter_cons, List.filter_nil, Nat.reduceAdd, Nat.reduceBEq, Nat.reduceEqDiff, Nat.reduceSub, Nat.sub_zero, beq_self_eq_true, Bool.not_true, Bool.not_false, Bool.and_true, Bool.and_false, Bool.true_and, Bool.false_and, reduceIte, reduceCtorEq, Bool.false_eq_true, Nat.one_ne_zero, Nat.zero_ne_one, Nat.zero_add, Option.toList_some, Option.toList_none, List.nil_append, List.cons_append, List.take_succ_cons, List.take_zero, List.take_nil, List.drop_succ_cons, List.drop_zero, List.length_cons, List.length_nil, List.reverse_cons, List.reverse_nil, List.head?_cons, List.map_cons, List.map_nil, List.sum_cons, List.sum_nil, true_and, and_true, List.getElem?_cons_zero, List.getElem?_cons_succ, Prod.eta, x_iast, x_bald, x_bast, x_last, x_alen, xup_s, xup_a1, xup_1a, xup_uu, nr_i, nr_l, nr_o, nr_a, ft_i, ft_l, ft_o, ft_a, Nat.reduceLT, i_cl0, i_cl1, i_n1, i_m1, List.set_cons_zero, List.set_cons_succ, Nat.reduceLeDiff, Nat.le_refl, Nat.zero_le, Nat.add_zero, x_no, x_ifnull, x_ifnonnull, x_acmp_eq, x_acmp_ne, x_swl, x_tsw, x_castC, true_or, or_true, nr_z, ft_z, nr_z0, nr_z1, ft_z0, ft_z1, nr_on, nr_an, ft_on, ft_an, b_X10_putHex_38, e1, q1]
      refine ⟨fun y => by omega, fun _ => ?_⟩
      simp only [q_c, x_iload, x_lload, x_aload, q_istore, q_lstore, q_astore, q_astore2, x_iinc, q_iadd, q_isub, q_imul, q_iand, q_ior, q_ixor, q_ladd, q_lsub, q_lmul, q_land, q_lor, q_lxor, q_idiv, q_irem, q_ldiv, q_lrem, q_ineg, q_lneg, q_ishl, q_ishr, q_iushr, q_lshl, q_lshr, q_lushr, q_i2l, q_l2i, q_i2b, q_i2c, q_lcmp, q_if_eq, q_if_ne, q_if_lt, q_if_ge, q_if_gt, q_if_le, q_icmp_eq, q_icmp_ne, q_icmp_lt, q_icmp_ge, q_icmp_gt, q_icmp_le, q_dup, q_pop, q_dup_x1, q_dup2, x_iret, x_zret, x_lret, x_aret, x_vret, x_call, x_callv, x_calli, x_oinit, x_mmax, x_mmin, x_mabs, x_mmaxL, x_mminL, x_mabsL, lg_cmp_ge, lg_cmp_le, lg_cmp_gt, lg_cmp_lt, lg_cmp_eq, xlk, q_xs1, q_xs2, lv_args, Value.category, List.filter_cons, List.filter_nil, Nat.reduceAdd, Nat.reduceBEq, Nat.reduceEqDiff, Nat.reduceSub, Nat.sub_zero, beq_self_eq_true, Bool.not_true, Bool.not_false, Bool.and_true, Bool.and_false, Bool.true_and, Bool.false_and, reduceIte, reduceCtorEq, Bool.false_eq_true, Nat.one_ne_zero, Nat.zero_ne_one, Nat.zero_add, Option.toList_some, Option.toList_none, List.nil_append, List.cons_append, List.take_succ_cons, List.take_zero, List.take_nil, List.drop_succ_cons, List.drop_zero, List.length_cons, List.length_nil, List.reverse_cons, List.reverse_nil, List.head?_cons, List.map_cons, List.map_nil, List.sum_cons, List.sum_nil, true_and, and_true, List.getElem?_cons_zero, List.getElem?_cons_succ, Prod.eta, x_iast, x_bald, x_bast, x_last, x_alen, xup_s, xup_a1, xup_1a, xup_uu, nr_i, nr_l, nr_o, nr_a, ft_i, ft_l, ft_o, ft_a, Nat.reduceLT, i_cl0, i_cl1, i_n1, i_m1, List.set_cons_zero, List.set_cons_succ, Nat.reduceLeDiff, Nat.le_refl, Nat.zero_le, Nat.add_zero, x_no, x_ifnull, x_ifnonnull, x_acmp_eq, x_acmp_ne, x_swl, x_tsw, x_castC, true_or, or_true, nr_z, ft_z, nr_z0, nr_z1, ft_z0, ft_z1, nr_on, nr_an, ft_on, ft_an, x_str]
      intro a ha
      have ss := sS_k hxS (i := 13) (by decide) (by decide) (lst_b (by decide)) ha
      simp only [q_c, x_iload, x_lload, x_aload, q_istore, q_lstore, q_astore, q_astore2, x_iinc, q_iadd, q_isub, q_imul, q_iand, q_ior, q_ixor, q_ladd, q_lsub, q_lmul, q_land, q_lor, q_lxor, q_idiv, q_irem, q_ldiv, q_lrem, q_ineg, q_lneg, q_ishl, q_ishr, q_iushr, q_lshl, q_lshr, q_lushr, q_i2l, q_l2i, q_i2b, q_i2c, q_lcmp, q_if_eq, q_if_ne, q_if_lt, q_if_ge, q_if_gt, q_if_le, q_icmp_eq, q_icmp_ne, q_icmp_lt, q_icmp_ge, q_icmp_gt, q_icmp_le, q_dup, q_pop, q_dup_x1, q_dup2, x_iret, x_zret, x_lret, x_aret, x_vret, x_call, x_callv, x_calli, x_oinit, x_mmax, x_mmin, x_mabs, x_mmaxL, x_mminL, x_mabsL, lg_cmp_ge, lg_cmp_le, lg_cmp_gt, lg_cmp_lt, lg_cmp_eq, xlk, q_xs1, q_xs2, lv_args, Value.category, List.filter_cons, List.filter_nil, Nat.reduceAdd, Nat.reduceBEq, Nat.reduceEqDiff, Nat.reduceSub, Nat.sub_zero, beq_self_eq_true, Bool.not_true, Bool.not_false, Bool.and_true, Bool.and_false, Bool.true_and, Bool.false_and, reduceIte, reduceCtorEq, Bool.false_eq_true, Nat.one_ne_zero, Nat.zero_ne_one, Nat.zero_add, Option.toList_some, Option.toList_none, List.nil_append, List.cons_append, List.take_succ_cons, List.take_zero, List.take_nil, List.drop_succ_cons, List.drop_zero, List.length_cons, List.length_nil, List.reverse_cons, List.reverse_nil, List.head?_cons, List.map_cons, List.map_nil, List.sum_cons, List.sum_nil, true_and, and_true, List.getElem?_cons_zero, List.getElem?_cons_succ, Prod.eta, x_iast, x_bald, x_bast, x_last, x_alen, xup_s, xup_a1, xup_1a, xup_uu, nr_i, nr_l, nr_o, nr_a, ft_i, ft_l, ft_o, ft_a, Nat.reduceLT, i_cl0, i_cl1, i_n1, i_m1, List.set_cons_zero, List.set_cons_succ, Nat.reduceLeDiff, Nat.le_refl, Nat.zero_le, Nat.add_zero, x_no, x_ifnull, x_ifnonnull, x_acmp_eq, x_acmp_ne, x_swl, x_tsw, x_castC, true_or, or_true, nr_z, ft_z, nr_z0, nr_z1, ft_z0, ft_z1, nr_on, nr_an, ft_on, ft_an, e2, x_callt]
      refine kk_chr ss (show d < 16 from d16) ?_
      rw [hx_S d16]
      try simp only [q_c, x_iload, x_lload, x_aload, q_istore, q_lstore, q_astore, q_astore2, x_iinc, q_iadd, q_isub, q_imul, q_iand, q_ior, q_ixor, q_ladd, q_lsub, q_lmul, q_land, q_lor, q_lxor, q_idiv, q_irem, q_ldiv, q_lrem, q_ineg, q_lneg, q_ishl, q_ishr, q_iushr, q_lshl, q_lshr, q_lushr, q_i2l, q_l2i, q_i2b, q_i2c, q_lcmp, q_if_eq, q_if_ne, q_if_lt, q_if_ge, q_if_gt, q_if_le, q_icmp_eq, q_icmp_ne, q_icmp_lt, q_icmp_ge, q_icmp_gt, q_icmp_le, q_dup, q_pop, q_dup_x1, q_dup2, x_iret, x_zret, x_lret, x_aret, x_vret, x_call, x_callv, x_calli, x_oinit, x_mmax, x_mmin, x_mabs, x_mmaxL, x_mminL, x_mabsL, lg_cmp_ge, lg_cmp_le, lg_cmp_gt, lg_cmp_lt, lg_cmp_eq, xlk, q_xs1, q_xs2, lv_args, Value.category, List.filter_cons, List.filter_nil, Nat.reduceAdd, Nat.reduceBEq, Nat.reduceEqDiff, Nat.reduceSub, Nat.sub_zero, beq_self_eq_true, Bool.not_true, Bool.not_false, Bool.and_true, Bool.and_false, Bool.true_and, Bool.false_and, reduceIte, reduceCtorEq, Bool.false_eq_true, Nat.one_ne_zero, Nat.zero_ne_one, Nat.zero_add, Option.toList_some, Option.toList_none, List.nil_append, List.cons_append, List.take_succ_cons, List.take_zero, List.take_nil, List.drop_succ_cons, List.drop_zero, List.length_cons, List.length_nil, List.reverse_cons, List.reverse_nil, List.head?_cons, List.map_cons, List.map_nil, List.sum_cons, List.sum_nil, true_and, and_true, List.getElem?_cons_zero, List.getElem?_cons_succ, Prod.eta, x_iast, x_bald, x_bast, x_last, x_alen, xup_s, xup_a1, xup_1a, xup_uu, nr_i, nr_l, nr_o, nr_a, ft_i, ft_l, ft_o, ft_a, Nat.reduceLT, i_cl0, i_cl1, i_n1, i_m1, List.set_cons_zero, List.set_cons_succ, Nat.reduceLeDiff, Nat.le_refl, Nat.zero_le, Nat.add_zero, x_no, x_ifnull, x_ifnonnull, x_acmp_eq, x_acmp_ne, x_swl, x_tsw, x_castC, true_or, or_true, nr_z, ft_z, nr_z0, nr_z1, ft_z0, ft_z1, nr_on, nr_an, ft_on, ft_an]
      refine kw_put w hb (by omega) fun h2 f2 w2 => ?_
      simp only [q_c, x_iload, x_lload, x_aload, q_istore, q_lstore, q_astore, q_astore2, x_iinc, q_iadd, q_isub, q_imul, q_iand, q_ior, q_ixor, q_ladd, q_lsub, q_lmul, q_land, q_lor, q_lxor, q_idiv, q_irem, q_ldiv, q_lrem, q_ineg, q_lneg, q_ishl, q_ishr, q_iushr, q_lshl, q_lshr, q_lushr, q_i2l, q_l2i, q_i2b, q_i2c, q_lcmp, q_if_eq, q_if_ne, q_if_lt, q_if_ge, q_if_gt, q_if_le, q_icmp_eq, q_icmp_ne, q_icmp_lt, q_icmp_ge, q_icmp_gt, q_icmp_le, q_dup, q_pop, q_dup_x1, q_dup2, x_iret, x_zret, x_lret, x_aret, x_vret, x_call, x_callv, x_calli, x_oinit, x_mmax, x_mmin, x_mabs, x_mmaxL, x_mminL, x_mabsL, lg_cmp_ge, lg_cmp_le, lg_cmp_gt, lg_cmp_lt, lg_cmp_eq, xlk, q_xs1, q_xs2, lv_args, Value.category, List.filter_cons, List.filter_nil, Nat.reduceAdd, Nat.reduceBEq, Nat.reduceEqDiff, Nat.reduceSub, Nat.sub_zero, beq_self_eq_true, Bool.not_true, Bool.not_false, Bool.and_true, Bool.and_false, Bool.true_and, Bool.false_and, reduceIte, reduceCtorEq, Bool.false_eq_true, Nat.one_ne_zero, Nat.zero_ne_one, Nat.zero_add, Option.toList_some, Option.toList_none, List.nil_append, List.cons_append, List.take_succ_cons, List.take_zero, List.take_nil, List.drop_succ_cons, List.drop_zero, List.length_cons, List.length_nil, List.reverse_cons, List.reverse_nil, List.head?_cons, List.map_cons, List.map_nil, List.sum_cons, List.sum_nil, true_and, and_true, List.getElem?_cons_zero, List.getElem?_cons_succ, Prod.eta, x_iast, x_bald, x_bast, x_last, x_alen, xup_s, xup_a1, xup_1a, xup_uu, nr_i, nr_l, nr_o, nr_a, ft_i, ft_l, ft_o, ft_a, Nat.reduceLT, i_cl0, i_cl1, i_n1, i_m1, List.set_cons_zero, List.set_cons_succ, Nat.reduceLeDiff, Nat.le_refl, Nat.zero_le, Nat.add_zero, x_no, x_ifnull, x_ifnonnull, x_acmp_eq, x_acmp_ne, x_swl, x_tsw, x_castC, true_or, or_true, nr_z, ft_z, nr_z0, nr_z1, ft_z0, ft_z1, nr_on, nr_an, ft_on, ft_an, e5]
      rw [← hK]
      refine xInvL.mk j (x, f, j) (by omega) ⟨rfl, rfl, rfl, rfl, trivial⟩ ⟨rfl, by omega, hf, cur ++ [hxC d], fin, w2, ?_, by rw [List.length_append, List.length_singleton]; omega, fun h3 f3 w3 => hQ h3 (xoff_tr f3 f2) w3⟩
      rw [List.append_assoc]
      exact hfin
  · rintro av ⟨h, S2⟩ Q ⟨x, f, L, rfl, hf, w, hr, hQ⟩
    dsimp only at *
    refine ⟨Nat.le_of_ble_eq_true rfl, ?_⟩
    have fe : f / 2 ^ 52 < 2048 := by omega
    have q2 : nI (f / 2 ^ 52) = 0 ↔ f / 2 ^ 52 = 0 := nI_eq (b := 0) (by omega) (by decide)
    have goal : ∀ h2, fW h2 h x → wW h2 x (L ++ [48, 120, if f / 2 ^ 52 = 0 then 48 else 49, 46]) → (xInv cn_X10_putHex (I_X10_putHex Q)) [(4, .int 48), (3, .int (nI (f / 2 ^ 52))), (0, .ref (x + 39)), (1, .long (lN f))] [] (h2, S2) := by
      intro h2 f2 w2
      refine xInv.mk 13 (x, f, 13) ⟨rfl, rfl, rfl, rfl, trivial⟩ ⟨rfl, by omega, hf, _, L ++ exL f, w2, ?_, by rw [List.length_append]; show L.length + 4 + 13 + 6 ≤ 64; omega, fun h3 f3 w3 => hQ h3 (xoff_tr f3 f2) w3⟩
      unfold exL
      rw [List.append_assoc]
    have g25 : ∀ h2 b, b = (if f / 2 ^ 52 = 0 then 48 else 49) → fW h2 h x → wW h2 x (L ++ [48, 120]) → b_X10_putHex_25 Q (xInv cn_X10_putHex (I_X10_putHex Q)) [(3, .int (nI (f / 2 ^ 52))), (0, .ref (x + 39)), (1, .long (lN f))] [.int (nI b), .ref (x + 39)] (h2, S2) := by
      intro h2 b hb f2 w2
      have b1 : b < 128 := by rw [hb]; split <;> decide
      generalize hK : xInv cn_X10_putHex (I_X10_putHex Q) = K at *
      simp only [q_c, x_iload, x_lload, x_aload, q_istore, q_lstore, q_astore, q_astore2, x_iinc, q_iadd, q_isub, q_imul, q_iand, q_ior, q_ixor, q_ladd, q_lsub, q_lmul, q_land, q_lor, q_lxor, q_idiv, q_irem, q_ldiv, q_lrem, q_ineg, q_lneg, q_ishl, q_ishr, q_iushr, q_lshl, q_lshr, q_lushr, q_i2l, q_l2i, q_i2b, q_i2c, q_lcmp, q_if_eq, q_if_ne, q_if_lt, q_if_ge, q_if_gt, q_if_le, q_icmp_eq, q_icmp_ne, q_icmp_lt, q_icmp_ge, q_icmp_gt, q_icmp_le, q_dup, q_pop, q_dup_x1, q_dup2, x_iret, x_zret, x_lret, x_aret, x_vret, x_call, x_callv, x_calli, x_oinit, x_mmax, x_mmin, x_mabs, x_mmaxL, x_mminL, x_mabsL, lg_cmp_ge, lg_cmp_le, lg_cmp_gt, lg_cmp_lt, lg_cmp_eq, xlk, q_xs1, q_xs2, lv_args, Value.category, List.filter_cons, List.filter_nil, Nat.reduceAdd, Nat.reduceBEq, Nat.reduceEqDiff, Nat.reduceSub, Nat.sub_zero, beq_self_eq_true, Bool.not_true, Bool.not_false, Bool.and_true, Bool.and_false, Bool.true_and, Bool.false_and, reduceIte, reduceCtorEq, Bool.false_eq_true, Nat.one_ne_zero, Nat.zero_ne_one, Nat.zero_add, Option.toList_some, Option.toList_none, List.nil_append, List.cons_append, List.take_succ_cons, List.take_zero, List.take_nil, List.drop_succ_cons, List.drop_zero, List.length_cons, List.length_nil, List.reverse_cons, List.reverse_nil, List.head?_cons, List.map_cons, List.map_nil, List.sum_cons, List.sum_nil, true_and, and_true, List.getElem?_cons_zero, List.getElem?_cons_succ, Prod.eta, x_iast, x_bald, x_bast, x_last, x_alen, xup_s, xup_a1, xup_1a, xup_uu, nr_i, nr_l, nr_o, nr_a, ft_i, ft_l, ft_o, ft_a, Nat.reduceLT, i_cl0, i_cl1, i_n1, i_m1, List.set_cons_zero, List.set_cons_succ, Nat.reduceLeDiff, Nat.le_refl, Nat.zero_le, Nat.add_zero, x_no, x_ifnull, x_ifnonnull, x_acmp_eq, x_acmp_ne, x_swl, x_tsw, x_castC, true_or, or_true, nr_z, ft_z, nr_z0, nr_z1, ft_z0, ft_z1, nr_on, nr_an, ft_on, ft_an, b_X10_putHex_25]
      refine kw_put w2 b1 (by rw [List.length_append]; show L.length + 2 < 64; omega) fun h3 f3 w3 => ?_
      try simp only [q_c, x_iload, x_lload, x_aload, q_istore, q_lstore, q_astore, q_astore2, x_iinc, q_iadd, q_isub, q_imul, q_iand, q_ior, q_ixor, q_ladd, q_lsub, q_lmul, q_land, q_lor, q_lxor, q_idiv, q_irem, q_ldiv, q_lrem, q_ineg, q_lneg, q_ishl, q_ishr, q_iushr, q_lshl, q_lshr, q_lushr, q_i2l, q_l2i, q_i2b, q_i2c, q_lcmp, q_if_eq, q_if_ne, q_if_lt, q_if_ge, q_if_gt, q_if_le, q_icmp_eq, q_icmp_ne, q_icmp_lt, q_icmp_ge, q_icmp_gt, q_icmp_le, q_dup, q_pop, q_dup_x1, q_dup2, x_iret, x_zret, x_lret, x_aret, x_vret, x_call, x_callv, x_calli, x_oinit, x_mmax, x_mmin, x_mabs, x_mmaxL, x_mminL, x_mabsL, lg_cmp_ge, lg_cmp_le, lg_cmp_gt, lg_cmp_lt, lg_cmp_eq, xlk, q_xs1, q_xs2, lv_args, Value.category, List.filter_cons, List.filter_nil, Nat.reduceAdd, Nat.reduceBEq, Nat.reduceEqDiff, Nat.reduceSub, Nat.sub_zero, beq_self_eq_true, Bool.not_true, Bool.not_false, Bool.and_true, Bool.and_false, Bool.true_and, Bool.false_and, reduceIte, reduceCtorEq, Bool.false_eq_true, Nat.one_ne_zero, Nat.zero_ne_one, Nat.zero_add, Option.toList_some, Option.toList_none, List.nil_append, List.cons_append, List.take_succ_cons, List.take_zero, List.take_nil, List.drop_succ_cons, List.drop_zero, List.length_cons, List.length_nil, List.reverse_cons, List.reverse_nil, List.head?_cons, List.map_cons, List.map_nil, List.sum_cons, List.sum_nil, true_and, and_true, List.getElem?_cons_zero, List.getElem?_cons_succ, Prod.eta, x_iast, x_bald, x_bast, x_last, x_alen, xup_s, xup_a1, xup_1a, xup_uu, nr_i, nr_l, nr_o, nr_a, ft_i, ft_l, ft_o, ft_a, Nat.reduceLT, i_cl0, i_cl1, i_n1, i_m1, List.set_cons_zero, List.set_cons_succ, Nat.reduceLeDiff, Nat.le_refl, Nat.zero_le, Nat.add_zero, x_no, x_ifnull, x_ifnonnull, x_acmp_eq, x_acmp_ne, x_swl, x_tsw, x_castC, true_or, or_true, nr_z, ft_z, nr_z0, nr_z1, ft_z0, ft_z1, nr_on, nr_an, ft_on, ft_an]
      refine kw_put (b := 46) w3 (by decide) (by rw [List.length_append, List.length_append]; show L.length + 2 + 1 < 64; omega) fun h4 f4 w4 => ?_
      try simp only [q_c, x_iload, x_lload, x_aload, q_istore, q_lstore, q_astore, q_astore2, x_iinc, q_iadd, q_isub, q_imul, q_iand, q_ior, q_ixor, q_ladd, q_lsub, q_lmul, q_land, q_lor, q_lxor, q_idiv, q_irem, q_ldiv, q_lrem, q_ineg, q_lneg, q_ishl, q_ishr, q_iushr, q_lshl, q_lshr, q_lushr, q_i2l, q_l2i, q_i2b, q_i2c, q_lcmp, q_if_eq, q_if_ne, q_if_lt, q_if_ge, q_if_gt, q_if_le, q_icmp_eq, q_icmp_ne, q_icmp_lt, q_icmp_ge, q_icmp_gt, q_icmp_le, q_dup, q_pop, q_dup_x1, q_dup2, x_iret, x_zret, x_lret, x_aret, x_vret, x_call, x_callv, x_calli, x_oinit, x_mmax, x_mmin, x_mabs, x_mmaxL, x_mminL, x_mabsL, lg_cmp_ge, lg_cmp_le, lg_cmp_gt, lg_cmp_lt, lg_cmp_eq, xlk, q_xs1, q_xs2, lv_args, Value.category, List.filter_cons, List.filter_nil, Nat.reduceAdd, Nat.reduceBEq, Nat.reduceEqDiff, Nat.reduceSub, Nat.sub_zero, beq_self_eq_true, Bool.not_true, Bool.not_false, Bool.and_true, Bool.and_false, Bool.true_and, Bool.false_and, reduceIte, reduceCtorEq, Bool.false_eq_true, Nat.one_ne_zero, Nat.zero_ne_one, Nat.zero_add, Option.toList_some, Option.toList_none, List.nil_append, List.cons_append, List.take_succ_cons, List.take_zero, List.take_nil, List.drop_succ_cons, List.drop_zero, List.length_cons, List.length_nil, List.reverse_cons, List.reverse_nil, List.head?_cons, List.map_cons, List.map_nil, List.sum_cons, List.sum_nil, true_and, and_true, List.getElem?_cons_zero, List.getElem?_cons_succ, Prod.eta, x_iast, x_bald, x_bast, x_last, x_alen, xup_s, xup_a1, xup_1a, xup_uu, nr_i, nr_l, nr_o, nr_a, ft_i, ft_l, ft_o, ft_a, Nat.reduceLT, i_cl0, i_cl1, i_n1, i_m1, List.set_cons_zero, List.set_cons_succ, Nat.reduceLeDiff, Nat.le_refl, Nat.zero_le, Nat.add_zero, x_no, x_ifnull, x_ifnonnull, x_acmp_eq, x_acmp_ne, x_swl, x_tsw, x_castC, true_or, or_true, nr_z, ft_z, nr_z0, nr_z1, ft_z0, ft_z1, nr_on, nr_an, ft_on, ft_an]
      refine goal h4 (xoff_tr f4 (xoff_tr f3 f2)) ?_
      rw [← hb]
      rw [List.append_assoc, List.append_assoc] at w4
      exact w4
    unfold b_X10_putHex_0
    generalize b_X10_putHex_25 Q (xInv cn_X10_putHex (I_X10_putHex Q)) = J at *
    try simp only [q_c, x_iload, x_lload, x_aload, q_istore, q_lstore, q_astore, q_astore2, x_iinc, q_iadd, q_isub, q_imul, q_iand, q_ior, q_ixor, q_ladd, q_lsub, q_lmul, q_land, q_lor, q_lxor, q_idiv, q_irem, q_ldiv, q_lrem, q_ineg, q_lneg, q_ishl, q_ishr, q_iushr, q_lshl, q_lshr, q_lushr, q_i2l, q_l2i, q_i2b, q_i2c, q_lcmp, q_if_eq, q_if_ne, q_if_lt, q_if_ge, q_if_gt, q_if_le, q_icmp_eq, q_icmp_ne, q_icmp_lt, q_icmp_ge, q_icmp_gt, q_icmp_le, q_dup, q_pop, q_dup_x1, q_dup2, x_iret, x_zret, x_lret, x_aret, x_vret, x_call, x_callv, x_calli, x_oinit, x_mmax, x_mmin, x_mabs, x_mmaxL, x_mminL, x_mabsL, lg_cmp_ge, lg_cmp_le, lg_cmp_gt, lg_cmp_lt, lg_cmp_eq, xlk, q_xs1, q_xs2, lv_args, Value.category, List.filter_cons, List.filter_nil, Nat.reduceAdd, Nat.reduceBEq, Nat.reduceEqDiff, Nat.reduceSub, Nat.sub_zero, beq_self_eq_true, Bool.not_true, Bool.not_false, Bool.and_true, Bool.and_false, Bool.true_and, Bool.false_and, reduceIte, reduceCtorEq, Bool.false_eq_true, Nat.one_ne_zero, Nat.zero_ne_one, Nat.zero_add, Option.toList_some, Option.toList_none, List.nil_append, List.cons_append, List.take_succ_cons, List.take_zero, List.take_nil, List.drop_succ_cons, List.drop_zero, List.length_cons, List.length_nil, List.reverse_cons, List.reverse_nil, List.head?_cons, List.map_cons, List.map_nil, List.sum_cons, List.sum_nil, true_and, and_true, List.getElem?_cons_zero, List.getElem?_cons_succ, Prod.eta, x_iast, x_bald, x_bast, x_last, x_alen, xup_s, xup_a1, xup_1a, xup_uu, nr_i, nr_l, nr_o, nr_a, ft_i, ft_l, ft_o, ft_a, Nat.reduceLT, i_cl0, i_cl1, i_n1, i_m1, List.set_cons_zero, List.set_cons_succ, Nat.reduceLeDiff, Nat.le_refl, Nat.zero_le, Nat.add_zero, x_no, x_ifnull, x_ifnonnull, x_acmp_eq, x_acmp_ne, x_swl, x_tsw, x_castC, true_or, or_true, nr_z, ft_z, nr_z0, nr_z1, ft_z0, ft_z1, nr_on, nr_an, ft_on, ft_an]
    refine ⟨f, rfl, by omega, ?_⟩
    simp only [q_c, x_iload, x_lload, x_aload, q_istore, q_lstore, q_astore, q_astore2, x_iinc, q_iadd, q_isub, q_imul, q_iand, q_ior, q_ixor, q_ladd, q_lsub, q_lmul, q_land, q_lor, q_lxor, q_idiv, q_irem, q_ldiv, q_lrem, q_ineg, q_lneg, q_ishl, q_ishr, q_iushr, q_lshl, q_lshr, q_lushr, q_i2l, q_l2i, q_i2b, q_i2c, q_lcmp, q_if_eq, q_if_ne, q_if_lt, q_if_ge, q_if_gt, q_if_le, q_icmp_eq, q_icmp_ne, q_icmp_lt, q_icmp_ge, q_icmp_gt, q_icmp_le, q_dup, q_pop, q_dup_x1, q_dup2, x_iret, x_zret, x_lret, x_aret, x_vret, x_call, x_callv, x_calli, x_oinit, x_mmax, x_mmin, x_mabs, x_mmaxL, x_mminL, x_mabsL, lg_cmp_ge, lg_cmp_le, lg_cmp_gt, lg_cmp_lt, lg_cmp_eq, xlk, q_xs1, q_xs2, lv_args, Value.category, List.filter_cons, List.filter_nil, Nat.reduceAdd, Nat.reduceBEq, Nat.reduceEqDiff, Nat.reduceSub, Nat.sub_zero, beq_self_eq_true, Bool.not_true, Bool.not_false, Bool.and_true, Bool.and_false, Bool.true_and, Bool.false_and, reduceIte, reduceCtorEq, Bool.false_eq_true, Nat.one_ne_zero, Nat.zero_ne_one, Nat.zero_add, Option.toList_some, Option.toList_none, List.nil_append, List.cons_append, List.take_succ_cons, List.take_zero, List.take_nil, List.drop_succ_cons, List.drop_zero, List.length_cons, List.length_nil, List.reverse_cons, List.reverse_nil, List.head?_cons, List.map_cons, List.map_nil, List.sum_cons, List.sum_nil, true_and, and_true, List.getElem?_cons_zero, List.getElem?_cons_succ, Prod.eta, x_iast, x_bald, x_bast, x_last, x_alen, xup_s, xup_a1, xup_1a, xup_uu, nr_i, nr_l, nr_o, nr_a, ft_i, ft_l, ft_o, ft_a, Nat.reduceLT, i_cl0, i_cl1, i_n1, i_m1, List.set_cons_zero, List.set_cons_succ, Nat.reduceLeDiff, Nat.le_refl, Nat.zero_le, Nat.add_zero, x_no, x_ifnull, x_ifnonnull, x_acmp_eq, x_acmp_ne, x_swl, x_tsw, x_castC, true_or, or_true, nr_z, ft_z, nr_z0, nr_z1, ft_z0, ft_z1, nr_on, nr_an, ft_on, ft_an, x_str]
    intro a ha
    refine kw_txt w 0 2 [48, 120] (by decide) (by decide) (by decide) ha (by decide) (by decide) (by omega) fun h2 f2 w2 => ?_
    simp only [q_c, x_iload, x_lload, x_aload, q_istore, q_lstore, q_astore, q_astore2, x_iinc, q_iadd, q_isub, q_imul, q_iand, q_ior, q_ixor, q_ladd, q_lsub, q_lmul, q_land, q_lor, q_lxor, q_idiv, q_irem, q_ldiv, q_lrem, q_ineg, q_lneg, q_ishl, q_ishr, q_iushr, q_lshl, q_lshr, q_lushr, q_i2l, q_l2i, q_i2b, q_i2c, q_lcmp, q_if_eq, q_if_ne, q_if_lt, q_if_ge, q_if_gt, q_if_le, q_icmp_eq, q_icmp_ne, q_icmp_lt, q_icmp_ge, q_icmp_gt, q_icmp_le, q_dup, q_pop, q_dup_x1, q_dup2, x_iret, x_zret, x_lret, x_aret, x_vret, x_call, x_callv, x_calli, x_oinit, x_mmax, x_mmin, x_mabs, x_mmaxL, x_mminL, x_mabsL, lg_cmp_ge, lg_cmp_le, lg_cmp_gt, lg_cmp_lt, lg_cmp_eq, xlk, q_xs1, q_xs2, lv_args, Value.category, List.filter_cons, List.filter_nil, Nat.reduceAdd, Nat.reduceBEq, Nat.reduceEqDiff, Nat.reduceSub, Nat.sub_zero, beq_self_eq_true, Bool.not_true, Bool.not_false, Bool.and_true, Bool.and_false, Bool.true_and, Bool.false_and, reduceIte, reduceCtorEq, Bool.false_eq_true, Nat.one_ne_zero, Nat.zero_ne_one, Nat.zero_add, Option.toList_some, Option.toList_none, List.nil_append, List.cons_append, List.take_succ_cons, List.take_zero, List.take_nil, List.drop_succ_cons, List.drop_zero, List.length_cons, List.length_nil, List.reverse_cons, List.reverse_nil, List.head?_cons, List.map_cons, List.map_nil, List.sum_cons, List.sum_nil, true_and, and_true, List.getElem?_cons_zero, List.getElem?_cons_succ, Prod.eta, x_iast, x_bald, x_bast, x_last, x_alen, xup_s, xup_a1, xup_1a, xup_uu, nr_i, nr_l, nr_o, nr_a, ft_i, ft_l, ft_o, ft_a, Nat.reduceLT, i_cl0, i_cl1, i_n1, i_m1, List.set_cons_zero, List.set_cons_succ, Nat.reduceLeDiff, Nat.le_refl, Nat.zero_le, Nat.add_zero, x_no, x_ifnull, x_ifnonnull, x_acmp_eq, x_acmp_ne, x_swl, x_tsw, x_castC, true_or, or_true, nr_z, ft_z, nr_z0, nr_z1, ft_z0, ft_z1, nr_on, nr_an, ft_on, ft_an, q2]
    have w2' : wW h2 x (L ++ [48, 120]) := w2
    exact ⟨fun y => g25 h2 49 (by rw [if_neg y]) f2 w2', fun y => g25 h2 48 (by rw [if_pos y]) f2 w2'⟩
