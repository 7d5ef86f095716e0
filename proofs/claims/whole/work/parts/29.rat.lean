/-! exact numbers -/
def p2 (e : Int) : Rat := (2 : Rat) ^ e
theorem p2_pos (e : Int) : 0 < p2 e := Rat.zpow_pos (by decide)
theorem p2_add (a b : Int) : p2 (a + b) = p2 a * p2 b := Rat.zpow_add (by decide) a b
theorem p2_nat (n : Nat) : p2 n = ((2 ^ n : Nat) : Rat) := by
  show (2 : Rat) ^ (n : Int) = _
  rw [Rat.zpow_natCast, Rat.natCast_pow]
  rfl
theorem p2_0 : p2 0 = 1 := Rat.zpow_zero 2
theorem p2_split {m e : Int} (h : m ≤ e) : p2 e = ((2 ^ (e - m).toNat : Nat) : Rat) * p2 m := by
  rw [← p2_nat, Int.toNat_of_nonneg (by omega), ← p2_add]
  congr 1
  omega
theorem sr_split {L : Nat} {m e : Int} (h : m ≤ e) : (L : Rat) * p2 e = ((L * 2 ^ (e - m).toNat : Nat) : Rat) * p2 m := by
  rw [p2_split h, Rat.natCast_mul, Rat.mul_assoc]
theorem sr_lt {L R : Nat} {m a b : Int} (ha : m ≤ a) (hb : m ≤ b) : (L : Rat) * p2 a < (R : Rat) * p2 b ↔ L * 2 ^ (a - m).toNat < R * 2 ^ (b - m).toNat := by
  rw [sr_split ha, sr_split hb, Rat.mul_lt_mul_right (p2_pos m), Rat.natCast_lt_natCast]
theorem sr_eq {L R : Nat} {m a b : Int} (ha : m ≤ a) (hb : m ≤ b) : (L : Rat) * p2 a = (R : Rat) * p2 b ↔ L * 2 ^ (a - m).toNat = R * 2 ^ (b - m).toNat := by
  rw [sr_split ha, sr_split hb]
  constructor
  · intro e
    rcases Nat.lt_trichotomy (L * 2 ^ (a - m).toNat) (R * 2 ^ (b - m).toNat) with q | q | q
    · have := (Rat.mul_lt_mul_right (p2_pos m)).mpr (Rat.natCast_lt_natCast.mpr q)
      rw [e] at this
      exact absurd this (Rat.lt_irrefl)
    · exact q
    · have := (Rat.mul_lt_mul_right (p2_pos m)).mpr (Rat.natCast_lt_natCast.mpr q)
      rw [e] at this
      exact absurd this (Rat.lt_irrefl)
  · intro e; rw [e]
/-- the number of a Num -/
def nval (b : Bool) (p q : Nat) (e : Int) : Rat := (si b p : Rat) / (q : Rat) * p2 e
/-- an order's answer -/
def cmpR (x y : Rat) : Int32 := if x < y then -1 else if x = y then 0 else 1
theorem cmpR_lt {x y : Rat} (h : x < y) : cmpR x y = -1 := if_pos h
theorem cmpR_gt {x y : Rat} (h : y < x) : cmpR x y = 1 := by
  unfold cmpR
  rw [if_neg (Rat.not_lt.mpr (Rat.le_of_lt h)), if_neg (fun q => by rw [q] at h; exact Rat.lt_irrefl h)]
theorem cmpR_eq {x y : Rat} (h : x = y) : cmpR x y = 0 := by
  unfold cmpR
  rw [h, if_neg Rat.lt_irrefl, if_pos rfl]
/-! IntervalTapeModel (X14) at M -/
def moF (M : Nat) (s : Nat → Value) : List Value := [.ref (M + 1), .ref (M + 3), .ref (M + 5), .ref (M + 10), .ref (M + 15), s 5, s 6, s 7, .ref (M + 20), s 9, .ref (M + 21), s 11, .ref (M + 22), .ref (M + 23), .ref (M + 24), s 15, s 16, s 17, s 18, .ref (M + 25), .ref (M + 30), .ref (M + 35), .ref (M + 40), s 23, s 24, s 25, s 26]
def moO (h : xH) (M : Nat) (s : Nat → Value) : Prop := h M = some (.inr (13, moF M s))
/-- the two Bigs for comparing -/
def moB (h : xH) (M : Nat) : Prop := (∃ l, mV h (M + 1) l) ∧ ∃ r, mV h (M + 3) r
theorem dX14_compareSizes_0 : decode cX14_compareSizes 0 = .ok (.aload_n 2, 1) := by decide +kernel
theorem dX14_compareSizes_1 : decode cX14_compareSizes 1 = .ok (.getfield 1, 3) := by decide +kernel
theorem dX14_compareSizes_4 : decode cX14_compareSizes 4 = .ok (.invokevirtual 7, 3) := by decide +kernel
theorem dX14_compareSizes_7 : decode cX14_compareSizes 7 = .ok (.ifCond .eq 17, 3) := by decide +kernel
theorem dX14_compareSizes_10 : decode cX14_compareSizes 10 = .ok (.aload_n 0, 1) := by decide +kernel
theorem dX14_compareSizes_11 : decode cX14_compareSizes 11 = .ok (.getfield 13, 3) := by decide +kernel
theorem dX14_compareSizes_14 : decode cX14_compareSizes 14 = .ok (.aload_n 1, 1) := by decide +kernel
theorem dX14_compareSizes_15 : decode cX14_compareSizes 15 = .ok (.getfield 18, 3) := by decide +kernel
theorem dX14_compareSizes_18 : decode cX14_compareSizes 18 = .ok (.invokevirtual 21, 3) := by decide +kernel
theorem dX14_compareSizes_21 : decode cX14_compareSizes 21 = .ok (.goto 18, 3) := by decide +kernel
theorem dX14_compareSizes_24 : decode cX14_compareSizes 24 = .ok (.aload_n 0, 1) := by decide +kernel
theorem dX14_compareSizes_25 : decode cX14_compareSizes 25 = .ok (.getfield 13, 3) := by decide +kernel
theorem dX14_compareSizes_28 : decode cX14_compareSizes 28 = .ok (.aload_n 1, 1) := by decide +kernel
theorem dX14_compareSizes_29 : decode cX14_compareSizes 29 = .ok (.getfield 18, 3) := by decide +kernel
theorem dX14_compareSizes_32 : decode cX14_compareSizes 32 = .ok (.aload_n 2, 1) := by decide +kernel
theorem dX14_compareSizes_33 : decode cX14_compareSizes 33 = .ok (.getfield 1, 3) := by decide +kernel
theorem dX14_compareSizes_36 : decode cX14_compareSizes 36 = .ok (.invokevirtual 25, 3) := by decide +kernel
theorem dX14_compareSizes_39 : decode cX14_compareSizes 39 = .ok (.aload_n 1, 1) := by decide +kernel
theorem dX14_compareSizes_40 : decode cX14_compareSizes 40 = .ok (.getfield 1, 3) := by decide +kernel
theorem dX14_compareSizes_43 : decode cX14_compareSizes 43 = .ok (.invokevirtual 7, 3) := by decide +kernel
theorem dX14_compareSizes_46 : decode cX14_compareSizes 46 = .ok (.ifCond .eq 17, 3) := by decide +kernel
theorem dX14_compareSizes_49 : decode cX14_compareSizes 49 = .ok (.aload_n 0, 1) := by decide +kernel
theorem dX14_compareSizes_50 : decode cX14_compareSizes 50 = .ok (.getfield 29, 3) := by decide +kernel
theorem dX14_compareSizes_53 : decode cX14_compareSizes 53 = .ok (.aload_n 2, 1) := by decide +kernel
theorem dX14_compareSizes_54 : decode cX14_compareSizes 54 = .ok (.getfield 18, 3) := by decide +kernel
theorem dX14_compareSizes_57 : decode cX14_compareSizes 57 = .ok (.invokevirtual 21, 3) := by decide +kernel
theorem dX14_compareSizes_60 : decode cX14_compareSizes 60 = .ok (.goto 18, 3) := by decide +kernel
theorem dX14_compareSizes_63 : decode cX14_compareSizes 63 = .ok (.aload_n 0, 1) := by decide +kernel
theorem dX14_compareSizes_64 : decode cX14_compareSizes 64 = .ok (.getfield 29, 3) := by decide +kernel
theorem dX14_compareSizes_67 : decode cX14_compareSizes 67 = .ok (.aload_n 2, 1) := by decide +kernel
theorem dX14_compareSizes_68 : decode cX14_compareSizes 68 = .ok (.getfield 18, 3) := by decide +kernel
theorem dX14_compareSizes_71 : decode cX14_compareSizes 71 = .ok (.aload_n 1, 1) := by decide +kernel
theorem dX14_compareSizes_72 : decode cX14_compareSizes 72 = .ok (.getfield 1, 3) := by decide +kernel
theorem dX14_compareSizes_75 : decode cX14_compareSizes 75 = .ok (.invokevirtual 25, 3) := by decide +kernel
theorem dX14_compareSizes_78 : decode cX14_compareSizes 78 = .ok (.aload_n 0, 1) := by decide +kernel
theorem dX14_compareSizes_79 : decode cX14_compareSizes 79 = .ok (.getfield 13, 3) := by decide +kernel
theorem dX14_compareSizes_82 : decode cX14_compareSizes 82 = .ok (.invokevirtual 32, 3) := by decide +kernel
theorem dX14_compareSizes_85 : decode cX14_compareSizes 85 = .ok (.aload_n 1, 1) := by decide +kernel
theorem dX14_compareSizes_86 : decode cX14_compareSizes 86 = .ok (.getfield 36, 3) := by decide +kernel
theorem dX14_compareSizes_89 : decode cX14_compareSizes 89 = .ok (.iadd, 1) := by decide +kernel
theorem dX14_compareSizes_90 : decode cX14_compareSizes 90 = .ok (.istore_n 3, 1) := by decide +kernel
theorem dX14_compareSizes_91 : decode cX14_compareSizes 91 = .ok (.aload_n 0, 1) := by decide +kernel
theorem dX14_compareSizes_92 : decode cX14_compareSizes 92 = .ok (.getfield 29, 3) := by decide +kernel
theorem dX14_compareSizes_95 : decode cX14_compareSizes 95 = .ok (.invokevirtual 32, 3) := by decide +kernel
theorem dX14_compareSizes_98 : decode cX14_compareSizes 98 = .ok (.aload_n 2, 1) := by decide +kernel
theorem dX14_compareSizes_99 : decode cX14_compareSizes 99 = .ok (.getfield 36, 3) := by decide +kernel
theorem dX14_compareSizes_102 : decode cX14_compareSizes 102 = .ok (.iadd, 1) := by decide +kernel
theorem dX14_compareSizes_103 : decode cX14_compareSizes 103 = .ok (.istore 4, 2) := by decide +kernel
theorem dX14_compareSizes_105 : decode cX14_compareSizes 105 = .ok (.iload_n 3, 1) := by decide +kernel
theorem dX14_compareSizes_106 : decode cX14_compareSizes 106 = .ok (.iload 4, 2) := by decide +kernel
theorem dX14_compareSizes_108 : decode cX14_compareSizes 108 = .ok (.if_icmp .eq 15, 3) := by decide +kernel
theorem dX14_compareSizes_111 : decode cX14_compareSizes 111 = .ok (.iload_n 3, 1) := by decide +kernel
theorem dX14_compareSizes_112 : decode cX14_compareSizes 112 = .ok (.iload 4, 2) := by decide +kernel
theorem dX14_compareSizes_114 : decode cX14_compareSizes 114 = .ok (.if_icmp .ge 7, 3) := by decide +kernel
theorem dX14_compareSizes_117 : decode cX14_compareSizes 117 = .ok (.iconst (-1), 1) := by decide +kernel
theorem dX14_compareSizes_118 : decode cX14_compareSizes 118 = .ok (.goto 4, 3) := by decide +kernel
theorem dX14_compareSizes_121 : decode cX14_compareSizes 121 = .ok (.iconst 1, 1) := by decide +kernel
theorem dX14_compareSizes_122 : decode cX14_compareSizes 122 = .ok (.ireturn, 1) := by decide +kernel
theorem dX14_compareSizes_123 : decode cX14_compareSizes 123 = .ok (.aload_n 1, 1) := by decide +kernel
theorem dX14_compareSizes_124 : decode cX14_compareSizes 124 = .ok (.getfield 36, 3) := by decide +kernel
theorem dX14_compareSizes_127 : decode cX14_compareSizes 127 = .ok (.aload_n 2, 1) := by decide +kernel
theorem dX14_compareSizes_128 : decode cX14_compareSizes 128 = .ok (.getfield 36, 3) := by decide +kernel
theorem dX14_compareSizes_131 : decode cX14_compareSizes 131 = .ok (.if_icmp .le 22, 3) := by decide +kernel
theorem dX14_compareSizes_134 : decode cX14_compareSizes 134 = .ok (.aload_n 0, 1) := by decide +kernel
theorem dX14_compareSizes_135 : decode cX14_compareSizes 135 = .ok (.getfield 13, 3) := by decide +kernel
theorem dX14_compareSizes_138 : decode cX14_compareSizes 138 = .ok (.aload_n 1, 1) := by decide +kernel
theorem dX14_compareSizes_139 : decode cX14_compareSizes 139 = .ok (.getfield 36, 3) := by decide +kernel
theorem dX14_compareSizes_142 : decode cX14_compareSizes 142 = .ok (.aload_n 2, 1) := by decide +kernel
theorem dX14_compareSizes_143 : decode cX14_compareSizes 143 = .ok (.getfield 36, 3) := by decide +kernel
theorem dX14_compareSizes_146 : decode cX14_compareSizes 146 = .ok (.isub, 1) := by decide +kernel
theorem dX14_compareSizes_147 : decode cX14_compareSizes 147 = .ok (.invokevirtual 40, 3) := by decide +kernel
theorem dX14_compareSizes_150 : decode cX14_compareSizes 150 = .ok (.goto 19, 3) := by decide +kernel
theorem dX14_compareSizes_153 : decode cX14_compareSizes 153 = .ok (.aload_n 0, 1) := by decide +kernel
theorem dX14_compareSizes_154 : decode cX14_compareSizes 154 = .ok (.getfield 29, 3) := by decide +kernel
theorem dX14_compareSizes_157 : decode cX14_compareSizes 157 = .ok (.aload_n 2, 1) := by decide +kernel
theorem dX14_compareSizes_158 : decode cX14_compareSizes 158 = .ok (.getfield 36, 3) := by decide +kernel
theorem dX14_compareSizes_161 : decode cX14_compareSizes 161 = .ok (.aload_n 1, 1) := by decide +kernel
theorem dX14_compareSizes_162 : decode cX14_compareSizes 162 = .ok (.getfield 36, 3) := by decide +kernel
theorem dX14_compareSizes_165 : decode cX14_compareSizes 165 = .ok (.isub, 1) := by decide +kernel
theorem dX14_compareSizes_166 : decode cX14_compareSizes 166 = .ok (.invokevirtual 40, 3) := by decide +kernel
theorem dX14_compareSizes_169 : decode cX14_compareSizes 169 = .ok (.aload_n 0, 1) := by decide +kernel
theorem dX14_compareSizes_170 : decode cX14_compareSizes 170 = .ok (.getfield 13, 3) := by decide +kernel
theorem dX14_compareSizes_173 : decode cX14_compareSizes 173 = .ok (.aload_n 0, 1) := by decide +kernel
theorem dX14_compareSizes_174 : decode cX14_compareSizes 174 = .ok (.getfield 29, 3) := by decide +kernel
theorem dX14_compareSizes_177 : decode cX14_compareSizes 177 = .ok (.invokevirtual 44, 3) := by decide +kernel
theorem dX14_compareSizes_180 : decode cX14_compareSizes 180 = .ok (.ireturn, 1) := by decide +kernel
abbrev r_X14_compareSizes : Room := { frames := 2, cells := 0, slots := 0, locals := 51 }
abbrev m_X14_compareSizes : xMd := (cX14_compareSizes, RX14, 5, (some FieldType.int), false, r_X14_compareSizes)
def b_X14_compareSizes_122 (Q : xQ) : xK := x_iret Q
def b_X14_compareSizes_169 (Q : xQ) : xK := x_aload 0 <| x_get 13 0 <| x_aload 0 <| x_get 13 1 <| x_callv 11 C_X12_compare 2 0 0 <| x_iret Q
def b_X14_compareSizes_78 (Q : xQ) : xK := x_aload 0 <| x_get 13 0 <| x_callv 11 C_X12_bits 1 0 0 <| x_aload 1 <| x_get 12 3 <| x_iadd <| x_istore 3 <| x_aload 0 <| x_get 13 1 <| x_callv 11 C_X12_bits 1 0 0 <| x_aload 2 <| x_get 12 3 <| x_iadd <| x_istore 4 <| x_iload 3 <| x_iload 4 <| x_icmp_eq (x_aload 1 <| x_get 12 3 <| x_aload 2 <| x_get 12 3 <| x_icmp_le (x_aload 0 <| x_get 13 1 <| x_aload 2 <| x_get 12 3 <| x_aload 1 <| x_get 12 3 <| x_isub <| x_callv 11 C_X12_shift 2 0 0 <| (b_X14_compareSizes_169 Q)) <| x_aload 0 <| x_get 13 0 <| x_aload 1 <| x_get 12 3 <| x_aload 2 <| x_get 12 3 <| x_isub <| x_callv 11 C_X12_shift 2 0 0 <| (b_X14_compareSizes_169 Q)) <| x_iload 3 <| x_iload 4 <| x_icmp_ge (x_c (.int 1) <| (b_X14_compareSizes_122 Q)) <| x_c (.int (-1)) <| (b_X14_compareSizes_122 Q)
def b_X14_compareSizes_39 (Q : xQ) : xK := x_aload 1 <| x_get 12 2 <| x_callv 11 C_X12_isOne 1 0 0 <| x_if_eq (x_aload 0 <| x_get 13 1 <| x_aload 2 <| x_get 12 1 <| x_aload 1 <| x_get 12 2 <| x_callv 11 C_X12_product 3 0 0 <| (b_X14_compareSizes_78 Q)) <| x_aload 0 <| x_get 13 1 <| x_aload 2 <| x_get 12 1 <| x_callv 11 C_X12_copy 2 0 0 <| (b_X14_compareSizes_78 Q)
def b_X14_compareSizes_0 (Q : xQ) : xK := x_aload 2 <| x_get 12 2 <| x_callv 11 C_X12_isOne 1 0 0 <| x_if_eq (x_aload 0 <| x_get 13 0 <| x_aload 1 <| x_get 12 1 <| x_aload 2 <| x_get 12 2 <| x_callv 11 C_X12_product 3 0 0 <| (b_X14_compareSizes_39 Q)) <| x_aload 0 <| x_get 13 0 <| x_aload 1 <| x_get 12 1 <| x_callv 11 C_X12_copy 2 0 0 <| (b_X14_compareSizes_39 Q)
theorem s_X14_compareSizes_122 (G : xG) (l : Launch) (Q : xQ) : xW G l m_X14_compareSizes xX0 (xPm G Q r_X14_compareSizes) 122 (b_X14_compareSizes_122 Q) := xo_iret (pc := 122) rfl dX14_compareSizes_122
theorem s_X14_compareSizes_169 (G : xG) (l : Launch) (Q : xQ) : xW G l m_X14_compareSizes xX0 (xPm G Q r_X14_compareSizes) 169 (b_X14_compareSizes_169 Q) := xo_aload_n (pc := 169) (i := 0) dX14_compareSizes_169 rfl <| xo_get (pc := 170) (ci := 13) (i := 0) rfl ok13 (by decide) dX14_compareSizes_170 kw1201 <| xo_aload_n (pc := 173) (i := 0) dX14_compareSizes_173 rfl <| xo_get (pc := 174) (ci := 13) (i := 1) rfl ok13 (by decide) dX14_compareSizes_174 kw1202 <| xo_callV (pc := 177) (np := 1) (ci := 11) rfl (cM_X12_compare G l) dX14_compareSizes_177 kw1455 kw1452 kw1453 kw1454 kw14 (by decide +kernel) (by decide) <| xo_iret (pc := 180) rfl dX14_compareSizes_180
theorem s_X14_compareSizes_78 (G : xG) (l : Launch) (Q : xQ) : xW G l m_X14_compareSizes xX0 (xPm G Q r_X14_compareSizes) 78 (b_X14_compareSizes_78 Q) := xo_aload_n (pc := 78) (i := 0) dX14_compareSizes_78 rfl <| xo_get (pc := 79) (ci := 13) (i := 0) rfl ok13 (by decide) dX14_compareSizes_79 kw1201 <| xo_callV (pc := 82) (np := 0) (ci := 11) rfl (cM_X12_bits G l) dX14_compareSizes_82 kw1443 kw1440 kw1441 kw1442 kw14 (by decide +kernel) (by decide) <| xo_aload_n (pc := 85) (i := 1) dX14_compareSizes_85 rfl <| xo_getN (pc := 86) (ci := 12) (i := 3) rfl ok12 (by decide) dX14_compareSizes_86 kw1190 <| xo_iadd (pc := 89) dX14_compareSizes_89 <| xo_istore_n (pc := 90) (i := 3) dX14_compareSizes_90 rfl (by decide) <| xo_aload_n (pc := 91) (i := 0) dX14_compareSizes_91 rfl <| xo_get (pc := 92) (ci := 13) (i := 1) rfl ok13 (by decide) dX14_compareSizes_92 kw1202 <| xo_callV (pc := 95) (np := 0) (ci := 11) rfl (cM_X12_bits G l) dX14_compareSizes_95 kw1443 kw1440 kw1441 kw1442 kw14 (by decide +kernel) (by decide) <| xo_aload_n (pc := 98) (i := 2) dX14_compareSizes_98 rfl <| xo_getN (pc := 99) (ci := 12) (i := 3) rfl ok12 (by decide) dX14_compareSizes_99 kw1190 <| xo_iadd (pc := 102) dX14_compareSizes_102 <| xo_istore (pc := 103) (i := 4) dX14_compareSizes_103 (by decide) <| xo_iload_n (pc := 105) (i := 3) dX14_compareSizes_105 rfl <| xo_iload (pc := 106) (i := 4) dX14_compareSizes_106 <| xo_icmp_eq (pc := 108) (tgt := 123) dX14_compareSizes_108 (by decide) (xo_aload_n (pc := 123) (i := 1) dX14_compareSizes_123 rfl <| xo_getN (pc := 124) (ci := 12) (i := 3) rfl ok12 (by decide) dX14_compareSizes_124 kw1190 <| xo_aload_n (pc := 127) (i := 2) dX14_compareSizes_127 rfl <| xo_getN (pc := 128) (ci := 12) (i := 3) rfl ok12 (by decide) dX14_compareSizes_128 kw1190 <| xo_icmp_le (pc := 131) (tgt := 153) dX14_compareSizes_131 (by decide) (xo_aload_n (pc := 153) (i := 0) dX14_compareSizes_153 rfl <| xo_get (pc := 154) (ci := 13) (i := 1) rfl ok13 (by decide) dX14_compareSizes_154 kw1202 <| xo_aload_n (pc := 157) (i := 2) dX14_compareSizes_157 rfl <| xo_getN (pc := 158) (ci := 12) (i := 3) rfl ok12 (by decide) dX14_compareSizes_158 kw1190 <| xo_aload_n (pc := 161) (i := 1) dX14_compareSizes_161 rfl <| xo_getN (pc := 162) (ci := 12) (i := 3) rfl ok12 (by decide) dX14_compareSizes_162 kw1190 <| xo_isub (pc := 165) dX14_compareSizes_165 <| xo_callV (pc := 166) (np := 1) (ci := 11) rfl (cM_X12_shift G l) dX14_compareSizes_166 kw1447 kw1444 kw1445 kw1446 kw14 (by decide +kernel) (by decide) <| (s_X14_compareSizes_169 G l Q)) <| xo_aload_n (pc := 134) (i := 0) dX14_compareSizes_134 rfl <| xo_get (pc := 135) (ci := 13) (i := 0) rfl ok13 (by decide) dX14_compareSizes_135 kw1201 <| xo_aload_n (pc := 138) (i := 1) dX14_compareSizes_138 rfl <| xo_getN (pc := 139) (ci := 12) (i := 3) rfl ok12 (by decide) dX14_compareSizes_139 kw1190 <| xo_aload_n (pc := 142) (i := 2) dX14_compareSizes_142 rfl <| xo_getN (pc := 143) (ci := 12) (i := 3) rfl ok12 (by decide) dX14_compareSizes_143 kw1190 <| xo_isub (pc := 146) dX14_compareSizes_146 <| xo_callV (pc := 147) (np := 1) (ci := 11) rfl (cM_X12_shift G l) dX14_compareSizes_147 kw1447 kw1444 kw1445 kw1446 kw14 (by decide +kernel) (by decide) <| xo_goto (pc := 150) (tgt := 169) dX14_compareSizes_150 (by decide) <| (s_X14_compareSizes_169 G l Q)) <| xo_iload_n (pc := 111) (i := 3) dX14_compareSizes_111 rfl <| xo_iload (pc := 112) (i := 4) dX14_compareSizes_112 <| xo_icmp_ge (pc := 114) (tgt := 121) dX14_compareSizes_114 (by decide) (xo_iconst (pc := 121) dX14_compareSizes_121 (by decide) <| (s_X14_compareSizes_122 G l Q)) <| xo_iconst (pc := 117) dX14_compareSizes_117 (by decide) <| xo_goto (pc := 118) (tgt := 122) dX14_compareSizes_118 (by decide) <| (s_X14_compareSizes_122 G l Q)
theorem s_X14_compareSizes_39 (G : xG) (l : Launch) (Q : xQ) : xW G l m_X14_compareSizes xX0 (xPm G Q r_X14_compareSizes) 39 (b_X14_compareSizes_39 Q) := xo_aload_n (pc := 39) (i := 1) dX14_compareSizes_39 rfl <| xo_getN (pc := 40) (ci := 12) (i := 2) rfl ok12 (by decide) dX14_compareSizes_40 kw1188 <| xo_callV (pc := 43) (np := 0) (ci := 11) rfl (cM_X12_isOne G l) dX14_compareSizes_43 kw1434 kw1431 kw1432 kw1433 kw14 (by decide +kernel) (by decide) <| xo_if_eq (pc := 46) (tgt := 63) dX14_compareSizes_46 (by decide) (xo_aload_n (pc := 63) (i := 0) dX14_compareSizes_63 rfl <| xo_get (pc := 64) (ci := 13) (i := 1) rfl ok13 (by decide) dX14_compareSizes_64 kw1202 <| xo_aload_n (pc := 67) (i := 2) dX14_compareSizes_67 rfl <| xo_getN (pc := 68) (ci := 12) (i := 1) rfl ok12 (by decide) dX14_compareSizes_68 kw1187 <| xo_aload_n (pc := 71) (i := 1) dX14_compareSizes_71 rfl <| xo_getN (pc := 72) (ci := 12) (i := 2) rfl ok12 (by decide) dX14_compareSizes_72 kw1188 <| xo_callV (pc := 75) (np := 2) (ci := 11) rfl (cM_X12_product G l) dX14_compareSizes_75 kw1402 kw1439 kw1400 kw1401 kw14 (by decide +kernel) (by decide) <| (s_X14_compareSizes_78 G l Q)) <| xo_aload_n (pc := 49) (i := 0) dX14_compareSizes_49 rfl <| xo_get (pc := 50) (ci := 13) (i := 1) rfl ok13 (by decide) dX14_compareSizes_50 kw1202 <| xo_aload_n (pc := 53) (i := 2) dX14_compareSizes_53 rfl <| xo_getN (pc := 54) (ci := 12) (i := 1) rfl ok12 (by decide) dX14_compareSizes_54 kw1187 <| xo_callV (pc := 57) (np := 1) (ci := 11) rfl (cM_X12_copy G l) dX14_compareSizes_57 kw1438 kw1435 kw1436 kw1437 kw14 (by decide +kernel) (by decide) <| xo_goto (pc := 60) (tgt := 78) dX14_compareSizes_60 (by decide) <| (s_X14_compareSizes_78 G l Q)
theorem s_X14_compareSizes_0 (G : xG) (l : Launch) (Q : xQ) : xW G l m_X14_compareSizes xX0 (xPm G Q r_X14_compareSizes) 0 (b_X14_compareSizes_0 Q) := xo_aload_n (pc := 0) (i := 2) dX14_compareSizes_0 rfl <| xo_getN (pc := 1) (ci := 12) (i := 2) rfl ok12 (by decide) dX14_compareSizes_1 kw1188 <| xo_callV (pc := 4) (np := 0) (ci := 11) rfl (cM_X12_isOne G l) dX14_compareSizes_4 kw1434 kw1431 kw1432 kw1433 kw14 (by decide +kernel) (by decide) <| xo_if_eq (pc := 7) (tgt := 24) dX14_compareSizes_7 (by decide) (xo_aload_n (pc := 24) (i := 0) dX14_compareSizes_24 rfl <| xo_get (pc := 25) (ci := 13) (i := 0) rfl ok13 (by decide) dX14_compareSizes_25 kw1201 <| xo_aload_n (pc := 28) (i := 1) dX14_compareSizes_28 rfl <| xo_getN (pc := 29) (ci := 12) (i := 1) rfl ok12 (by decide) dX14_compareSizes_29 kw1187 <| xo_aload_n (pc := 32) (i := 2) dX14_compareSizes_32 rfl <| xo_getN (pc := 33) (ci := 12) (i := 2) rfl ok12 (by decide) dX14_compareSizes_33 kw1188 <| xo_callV (pc := 36) (np := 2) (ci := 11) rfl (cM_X12_product G l) dX14_compareSizes_36 kw1402 kw1439 kw1400 kw1401 kw14 (by decide +kernel) (by decide) <| (s_X14_compareSizes_39 G l Q)) <| xo_aload_n (pc := 10) (i := 0) dX14_compareSizes_10 rfl <| xo_get (pc := 11) (ci := 13) (i := 0) rfl ok13 (by decide) dX14_compareSizes_11 kw1201 <| xo_aload_n (pc := 14) (i := 1) dX14_compareSizes_14 rfl <| xo_getN (pc := 15) (ci := 12) (i := 1) rfl ok12 (by decide) dX14_compareSizes_15 kw1187 <| xo_callV (pc := 18) (np := 1) (ci := 11) rfl (cM_X12_copy G l) dX14_compareSizes_18 kw1438 kw1435 kw1436 kw1437 kw14 (by decide +kernel) (by decide) <| xo_goto (pc := 21) (tgt := 39) dX14_compareSizes_21 (by decide) <| (s_X14_compareSizes_39 G l Q)

def C_X14_compareSizes : xC := fun av S Q => ∃ (M a b : Nat) (s : Nat → Value) (b1 b2 : Bool) (x1 y1 x2 y2 : Nat) (e1 e2 : Int), av = [.ref M, .ref a, .ref b] ∧ (a + 5 ≤ M + 1 ∨ M + 5 ≤ a) ∧ (b + 5 ≤ M + 1 ∨ M + 5 ≤ b) ∧ moO S.1 M s ∧ moB S.1 M ∧ nuR S.1 a b1 x1 y1 e1 ∧ nuR S.1 b b2 x2 y2 e2 ∧ x1 ≠ 0 ∧ x2 ≠ 0 ∧ y1 ≠ 0 ∧ y2 ≠ 0 ∧ x1 * y2 < 65536 ^ 639 ∧ x2 * y1 < 65536 ^ 639 ∧ ∀ h', xoff h' S.1 (M + 1) (M + 5) → moB h' M → Q (some (.int (cmpR (((x1 * y2 : Nat) : Rat) * p2 e1) (((x2 * y1 : Nat) : Rat) * p2 e2)))) (h', S.2)
