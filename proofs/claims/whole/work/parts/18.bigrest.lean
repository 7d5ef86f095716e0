/-- how many bits a number has -/
def nb (v : Nat) : Nat := if v = 0 then 0 else Nat.log2 v + 1
theorem nb_0 : nb 0 = 0 := rfl
theorem nb_lt (v : Nat) : v < 2 ^ nb v := by
  unfold nb
  split
  · omega
  · exact Nat.lt_log2_self
theorem nb_le {v : Nat} (h : 0 < v) : 2 ^ (nb v - 1) ≤ v ∧ 0 < nb v := by
  unfold nb
  rw [if_neg (by omega)]
  exact ⟨by rw [Nat.add_sub_cancel]; exact Nat.log2_self_le (by omega), by omega⟩
theorem nb_of {v k : Nat} (h1 : 2 ^ k ≤ v) (h2 : v < 2 ^ (k + 1)) : nb v = k + 1 := by
  have h0 : 0 < v := Nat.lt_of_lt_of_le (Nat.two_pow_pos k) h1
  have a := nb_lt v
  obtain ⟨b, c⟩ := nb_le h0
  have d1 : k < nb v := (Nat.pow_lt_pow_iff_right (a := 2) (by decide)).mp (Nat.lt_of_le_of_lt h1 a)
  have d2 : nb v - 1 < k + 1 := (Nat.pow_lt_pow_iff_right (a := 2) (by decide)).mp (Nat.lt_of_le_of_lt b h2)
  omega
theorem nb_div {v k : Nat} (h : 2 ^ k ≤ v) : nb (v / 2 ^ k) + k = nb v := by
  have h0 : 0 < v := Nat.lt_of_lt_of_le (Nat.two_pow_pos k) h
  have hq : 0 < v / 2 ^ k := Nat.div_pos h (Nat.two_pow_pos k)
  have a := nb_lt (v / 2 ^ k)
  obtain ⟨b, c⟩ := nb_le hq
  obtain ⟨j, hj⟩ : ∃ j, nb (v / 2 ^ k) = j + 1 := ⟨nb (v / 2 ^ k) - 1, by omega⟩
  rw [hj] at a b ⊢
  rw [Nat.add_sub_cancel] at b
  rw [Nat.le_div_iff_mul_le (Nat.two_pow_pos k), ← Nat.pow_add] at b
  rw [Nat.div_lt_iff_lt_mul (Nat.two_pow_pos k), ← Nat.pow_add] at a
  rw [nb_of b (by rw [show j + k + 1 = j + 1 + k by omega]; exact a)]
  omega
theorem nb_top {x lo w : Nat} (hx : 0 < x) (hl : lo < 2 ^ w) : nb (lo + x * 2 ^ w) = nb x + w := by
  have e : (lo + x * 2 ^ w) / 2 ^ w = x := by rw [Nat.add_mul_div_right _ _ (Nat.two_pow_pos w), Nat.div_eq_of_lt hl, Nat.zero_add]
  have h : 2 ^ w ≤ lo + x * 2 ^ w := by
    have : 1 * 2 ^ w ≤ x * 2 ^ w := Nat.mul_le_mul_right _ hx
    omega
  have := nb_div h
  rw [e] at this
  exact this.symm
theorem dJ6_numberOfLeadingZeros_0f7a4_0 : decode cJ6_numberOfLeadingZeros_0f7a4 0 = .ok (.iload_n 0, 1) := by decide +kernel
theorem dJ6_numberOfLeadingZeros_0f7a4_1 : decode cJ6_numberOfLeadingZeros_0f7a4 1 = .ok (.ifCond .gt 14, 3) := by decide +kernel
theorem dJ6_numberOfLeadingZeros_0f7a4_4 : decode cJ6_numberOfLeadingZeros_0f7a4 4 = .ok (.iload_n 0, 1) := by decide +kernel
theorem dJ6_numberOfLeadingZeros_0f7a4_5 : decode cJ6_numberOfLeadingZeros_0f7a4 5 = .ok (.ifCond .ne 8, 3) := by decide +kernel
theorem dJ6_numberOfLeadingZeros_0f7a4_8 : decode cJ6_numberOfLeadingZeros_0f7a4 8 = .ok (.bipush 32, 2) := by decide +kernel
theorem dJ6_numberOfLeadingZeros_0f7a4_10 : decode cJ6_numberOfLeadingZeros_0f7a4 10 = .ok (.goto 4, 3) := by decide +kernel
theorem dJ6_numberOfLeadingZeros_0f7a4_13 : decode cJ6_numberOfLeadingZeros_0f7a4 13 = .ok (.iconst 0, 1) := by decide +kernel
theorem dJ6_numberOfLeadingZeros_0f7a4_14 : decode cJ6_numberOfLeadingZeros_0f7a4 14 = .ok (.ireturn, 1) := by decide +kernel
theorem dJ6_numberOfLeadingZeros_0f7a4_15 : decode cJ6_numberOfLeadingZeros_0f7a4 15 = .ok (.bipush 31, 2) := by decide +kernel
theorem dJ6_numberOfLeadingZeros_0f7a4_17 : decode cJ6_numberOfLeadingZeros_0f7a4 17 = .ok (.istore_n 1, 1) := by decide +kernel
theorem dJ6_numberOfLeadingZeros_0f7a4_18 : decode cJ6_numberOfLeadingZeros_0f7a4 18 = .ok (.iload_n 0, 1) := by decide +kernel
theorem dJ6_numberOfLeadingZeros_0f7a4_19 : decode cJ6_numberOfLeadingZeros_0f7a4 19 = .ok (.ldc_w 264, 3) := by decide +kernel
theorem dJ6_numberOfLeadingZeros_0f7a4_22 : decode cJ6_numberOfLeadingZeros_0f7a4 22 = .ok (.if_icmp .lt 11, 3) := by decide +kernel
theorem dJ6_numberOfLeadingZeros_0f7a4_25 : decode cJ6_numberOfLeadingZeros_0f7a4 25 = .ok (.iinc 1 (-16), 3) := by decide +kernel
theorem dJ6_numberOfLeadingZeros_0f7a4_28 : decode cJ6_numberOfLeadingZeros_0f7a4 28 = .ok (.iload_n 0, 1) := by decide +kernel
theorem dJ6_numberOfLeadingZeros_0f7a4_29 : decode cJ6_numberOfLeadingZeros_0f7a4 29 = .ok (.bipush 16, 2) := by decide +kernel
theorem dJ6_numberOfLeadingZeros_0f7a4_31 : decode cJ6_numberOfLeadingZeros_0f7a4 31 = .ok (.iushr, 1) := by decide +kernel
theorem dJ6_numberOfLeadingZeros_0f7a4_32 : decode cJ6_numberOfLeadingZeros_0f7a4 32 = .ok (.istore_n 0, 1) := by decide +kernel
theorem dJ6_numberOfLeadingZeros_0f7a4_33 : decode cJ6_numberOfLeadingZeros_0f7a4 33 = .ok (.iload_n 0, 1) := by decide +kernel
theorem dJ6_numberOfLeadingZeros_0f7a4_34 : decode cJ6_numberOfLeadingZeros_0f7a4 34 = .ok (.sipush 256, 3) := by decide +kernel
theorem dJ6_numberOfLeadingZeros_0f7a4_37 : decode cJ6_numberOfLeadingZeros_0f7a4 37 = .ok (.if_icmp .lt 11, 3) := by decide +kernel
theorem dJ6_numberOfLeadingZeros_0f7a4_40 : decode cJ6_numberOfLeadingZeros_0f7a4 40 = .ok (.iinc 1 (-8), 3) := by decide +kernel
theorem dJ6_numberOfLeadingZeros_0f7a4_43 : decode cJ6_numberOfLeadingZeros_0f7a4 43 = .ok (.iload_n 0, 1) := by decide +kernel
theorem dJ6_numberOfLeadingZeros_0f7a4_44 : decode cJ6_numberOfLeadingZeros_0f7a4 44 = .ok (.bipush 8, 2) := by decide +kernel
theorem dJ6_numberOfLeadingZeros_0f7a4_46 : decode cJ6_numberOfLeadingZeros_0f7a4 46 = .ok (.iushr, 1) := by decide +kernel
theorem dJ6_numberOfLeadingZeros_0f7a4_47 : decode cJ6_numberOfLeadingZeros_0f7a4 47 = .ok (.istore_n 0, 1) := by decide +kernel
theorem dJ6_numberOfLeadingZeros_0f7a4_48 : decode cJ6_numberOfLeadingZeros_0f7a4 48 = .ok (.iload_n 0, 1) := by decide +kernel
theorem dJ6_numberOfLeadingZeros_0f7a4_49 : decode cJ6_numberOfLeadingZeros_0f7a4 49 = .ok (.bipush 16, 2) := by decide +kernel
theorem dJ6_numberOfLeadingZeros_0f7a4_51 : decode cJ6_numberOfLeadingZeros_0f7a4 51 = .ok (.if_icmp .lt 10, 3) := by decide +kernel
theorem dJ6_numberOfLeadingZeros_0f7a4_54 : decode cJ6_numberOfLeadingZeros_0f7a4 54 = .ok (.iinc 1 (-4), 3) := by decide +kernel
theorem dJ6_numberOfLeadingZeros_0f7a4_57 : decode cJ6_numberOfLeadingZeros_0f7a4 57 = .ok (.iload_n 0, 1) := by decide +kernel
theorem dJ6_numberOfLeadingZeros_0f7a4_58 : decode cJ6_numberOfLeadingZeros_0f7a4 58 = .ok (.iconst 4, 1) := by decide +kernel
theorem dJ6_numberOfLeadingZeros_0f7a4_59 : decode cJ6_numberOfLeadingZeros_0f7a4 59 = .ok (.iushr, 1) := by decide +kernel
theorem dJ6_numberOfLeadingZeros_0f7a4_60 : decode cJ6_numberOfLeadingZeros_0f7a4 60 = .ok (.istore_n 0, 1) := by decide +kernel
theorem dJ6_numberOfLeadingZeros_0f7a4_61 : decode cJ6_numberOfLeadingZeros_0f7a4 61 = .ok (.iload_n 0, 1) := by decide +kernel
theorem dJ6_numberOfLeadingZeros_0f7a4_62 : decode cJ6_numberOfLeadingZeros_0f7a4 62 = .ok (.iconst 4, 1) := by decide +kernel
theorem dJ6_numberOfLeadingZeros_0f7a4_63 : decode cJ6_numberOfLeadingZeros_0f7a4 63 = .ok (.if_icmp .lt 10, 3) := by decide +kernel
theorem dJ6_numberOfLeadingZeros_0f7a4_66 : decode cJ6_numberOfLeadingZeros_0f7a4 66 = .ok (.iinc 1 (-2), 3) := by decide +kernel
theorem dJ6_numberOfLeadingZeros_0f7a4_69 : decode cJ6_numberOfLeadingZeros_0f7a4 69 = .ok (.iload_n 0, 1) := by decide +kernel
theorem dJ6_numberOfLeadingZeros_0f7a4_70 : decode cJ6_numberOfLeadingZeros_0f7a4 70 = .ok (.iconst 2, 1) := by decide +kernel
theorem dJ6_numberOfLeadingZeros_0f7a4_71 : decode cJ6_numberOfLeadingZeros_0f7a4 71 = .ok (.iushr, 1) := by decide +kernel
theorem dJ6_numberOfLeadingZeros_0f7a4_72 : decode cJ6_numberOfLeadingZeros_0f7a4 72 = .ok (.istore_n 0, 1) := by decide +kernel
theorem dJ6_numberOfLeadingZeros_0f7a4_73 : decode cJ6_numberOfLeadingZeros_0f7a4 73 = .ok (.iload_n 1, 1) := by decide +kernel
theorem dJ6_numberOfLeadingZeros_0f7a4_74 : decode cJ6_numberOfLeadingZeros_0f7a4 74 = .ok (.iload_n 0, 1) := by decide +kernel
theorem dJ6_numberOfLeadingZeros_0f7a4_75 : decode cJ6_numberOfLeadingZeros_0f7a4 75 = .ok (.iconst 1, 1) := by decide +kernel
theorem dJ6_numberOfLeadingZeros_0f7a4_76 : decode cJ6_numberOfLeadingZeros_0f7a4 76 = .ok (.iushr, 1) := by decide +kernel
theorem dJ6_numberOfLeadingZeros_0f7a4_77 : decode cJ6_numberOfLeadingZeros_0f7a4 77 = .ok (.isub, 1) := by decide +kernel
theorem dJ6_numberOfLeadingZeros_0f7a4_78 : decode cJ6_numberOfLeadingZeros_0f7a4 78 = .ok (.ireturn, 1) := by decide +kernel
abbrev r_J6_numberOfLeadingZeros_0f7a4 : Room := { frames := 0, cells := 0, slots := 0, locals := 0 }
abbrev m_J6_numberOfLeadingZeros_0f7a4 : xMd := (cJ6_numberOfLeadingZeros_0f7a4, RJ6, 2, (some FieldType.int), false, r_J6_numberOfLeadingZeros_0f7a4)
def b_J6_numberOfLeadingZeros_0f7a4_14 (Q : xQ) : xK := x_iret Q
def b_J6_numberOfLeadingZeros_0f7a4_73 (Q : xQ) : xK := x_iload 1 <| x_iload 0 <| x_c (.int 1) <| x_iushr <| x_isub <| x_iret Q
def b_J6_numberOfLeadingZeros_0f7a4_61 (Q : xQ) : xK := x_iload 0 <| x_c (.int 4) <| x_icmp_lt ((b_J6_numberOfLeadingZeros_0f7a4_73 Q)) <| x_iinc 1 (-2) <| x_iload 0 <| x_c (.int 2) <| x_iushr <| x_istore 0 <| (b_J6_numberOfLeadingZeros_0f7a4_73 Q)
def b_J6_numberOfLeadingZeros_0f7a4_48 (Q : xQ) : xK := x_iload 0 <| x_c (.int 16) <| x_icmp_lt ((b_J6_numberOfLeadingZeros_0f7a4_61 Q)) <| x_iinc 1 (-4) <| x_iload 0 <| x_c (.int 4) <| x_iushr <| x_istore 0 <| (b_J6_numberOfLeadingZeros_0f7a4_61 Q)
def b_J6_numberOfLeadingZeros_0f7a4_33 (Q : xQ) : xK := x_iload 0 <| x_c (.int 256) <| x_icmp_lt ((b_J6_numberOfLeadingZeros_0f7a4_48 Q)) <| x_iinc 1 (-8) <| x_iload 0 <| x_c (.int 8) <| x_iushr <| x_istore 0 <| (b_J6_numberOfLeadingZeros_0f7a4_48 Q)
def b_J6_numberOfLeadingZeros_0f7a4_0 (Q : xQ) : xK := x_iload 0 <| x_if_gt (x_c (.int 31) <| x_istore 1 <| x_iload 0 <| x_c (.int 65536) <| x_icmp_lt ((b_J6_numberOfLeadingZeros_0f7a4_33 Q)) <| x_iinc 1 (-16) <| x_iload 0 <| x_c (.int 16) <| x_iushr <| x_istore 0 <| (b_J6_numberOfLeadingZeros_0f7a4_33 Q)) <| x_iload 0 <| x_if_ne (x_c (.int 0) <| (b_J6_numberOfLeadingZeros_0f7a4_14 Q)) <| x_c (.int 32) <| (b_J6_numberOfLeadingZeros_0f7a4_14 Q)
theorem s_J6_numberOfLeadingZeros_0f7a4_14 (G : xG) (l : Launch) (Q : xQ) : xW G l m_J6_numberOfLeadingZeros_0f7a4 xX0 (xPm G Q r_J6_numberOfLeadingZeros_0f7a4) 14 (b_J6_numberOfLeadingZeros_0f7a4_14 Q) := xo_iret (pc := 14) rfl dJ6_numberOfLeadingZeros_0f7a4_14
theorem s_J6_numberOfLeadingZeros_0f7a4_73 (G : xG) (l : Launch) (Q : xQ) : xW G l m_J6_numberOfLeadingZeros_0f7a4 xX0 (xPm G Q r_J6_numberOfLeadingZeros_0f7a4) 73 (b_J6_numberOfLeadingZeros_0f7a4_73 Q) := xo_iload_n (pc := 73) (i := 1) dJ6_numberOfLeadingZeros_0f7a4_73 rfl <| xo_iload_n (pc := 74) (i := 0) dJ6_numberOfLeadingZeros_0f7a4_74 rfl <| xo_iconst (pc := 75) dJ6_numberOfLeadingZeros_0f7a4_75 (by decide) <| xo_iushr (pc := 76) dJ6_numberOfLeadingZeros_0f7a4_76 <| xo_isub (pc := 77) dJ6_numberOfLeadingZeros_0f7a4_77 <| xo_iret (pc := 78) rfl dJ6_numberOfLeadingZeros_0f7a4_78
theorem s_J6_numberOfLeadingZeros_0f7a4_61 (G : xG) (l : Launch) (Q : xQ) : xW G l m_J6_numberOfLeadingZeros_0f7a4 xX0 (xPm G Q r_J6_numberOfLeadingZeros_0f7a4) 61 (b_J6_numberOfLeadingZeros_0f7a4_61 Q) := xo_iload_n (pc := 61) (i := 0) dJ6_numberOfLeadingZeros_0f7a4_61 rfl <| xo_iconst (pc := 62) dJ6_numberOfLeadingZeros_0f7a4_62 (by decide) <| xo_icmp_lt (pc := 63) (tgt := 73) dJ6_numberOfLeadingZeros_0f7a4_63 (by decide) ((s_J6_numberOfLeadingZeros_0f7a4_73 G l Q)) <| xo_iinc (pc := 66) dJ6_numberOfLeadingZeros_0f7a4_66 (by decide) <| xo_iload_n (pc := 69) (i := 0) dJ6_numberOfLeadingZeros_0f7a4_69 rfl <| xo_iconst (pc := 70) dJ6_numberOfLeadingZeros_0f7a4_70 (by decide) <| xo_iushr (pc := 71) dJ6_numberOfLeadingZeros_0f7a4_71 <| xo_istore_n (pc := 72) (i := 0) dJ6_numberOfLeadingZeros_0f7a4_72 rfl (by decide) <| (s_J6_numberOfLeadingZeros_0f7a4_73 G l Q)
theorem s_J6_numberOfLeadingZeros_0f7a4_48 (G : xG) (l : Launch) (Q : xQ) : xW G l m_J6_numberOfLeadingZeros_0f7a4 xX0 (xPm G Q r_J6_numberOfLeadingZeros_0f7a4) 48 (b_J6_numberOfLeadingZeros_0f7a4_48 Q) := xo_iload_n (pc := 48) (i := 0) dJ6_numberOfLeadingZeros_0f7a4_48 rfl <| xo_bipush (pc := 49) dJ6_numberOfLeadingZeros_0f7a4_49 (by decide) <| xo_icmp_lt (pc := 51) (tgt := 61) dJ6_numberOfLeadingZeros_0f7a4_51 (by decide) ((s_J6_numberOfLeadingZeros_0f7a4_61 G l Q)) <| xo_iinc (pc := 54) dJ6_numberOfLeadingZeros_0f7a4_54 (by decide) <| xo_iload_n (pc := 57) (i := 0) dJ6_numberOfLeadingZeros_0f7a4_57 rfl <| xo_iconst (pc := 58) dJ6_numberOfLeadingZeros_0f7a4_58 (by decide) <| xo_iushr (pc := 59) dJ6_numberOfLeadingZeros_0f7a4_59 <| xo_istore_n (pc := 60) (i := 0) dJ6_numberOfLeadingZeros_0f7a4_60 rfl (by decide) <| (s_J6_numberOfLeadingZeros_0f7a4_61 G l Q)
theorem s_J6_numberOfLeadingZeros_0f7a4_33 (G : xG) (l : Launch) (Q : xQ) : xW G l m_J6_numberOfLeadingZeros_0f7a4 xX0 (xPm G Q r_J6_numberOfLeadingZeros_0f7a4) 33 (b_J6_numberOfLeadingZeros_0f7a4_33 Q) := xo_iload_n (pc := 33) (i := 0) dJ6_numberOfLeadingZeros_0f7a4_33 rfl <| xo_sipush (pc := 34) dJ6_numberOfLeadingZeros_0f7a4_34 (by decide) <| xo_icmp_lt (pc := 37) (tgt := 48) dJ6_numberOfLeadingZeros_0f7a4_37 (by decide) ((s_J6_numberOfLeadingZeros_0f7a4_48 G l Q)) <| xo_iinc (pc := 40) dJ6_numberOfLeadingZeros_0f7a4_40 (by decide) <| xo_iload_n (pc := 43) (i := 0) dJ6_numberOfLeadingZeros_0f7a4_43 rfl <| xo_bipush (pc := 44) dJ6_numberOfLeadingZeros_0f7a4_44 (by decide) <| xo_iushr (pc := 46) dJ6_numberOfLeadingZeros_0f7a4_46 <| xo_istore_n (pc := 47) (i := 0) dJ6_numberOfLeadingZeros_0f7a4_47 rfl (by decide) <| (s_J6_numberOfLeadingZeros_0f7a4_48 G l Q)
theorem s_J6_numberOfLeadingZeros_0f7a4_0 (G : xG) (l : Launch) (Q : xQ) : xW G l m_J6_numberOfLeadingZeros_0f7a4 xX0 (xPm G Q r_J6_numberOfLeadingZeros_0f7a4) 0 (b_J6_numberOfLeadingZeros_0f7a4_0 Q) := xo_iload_n (pc := 0) (i := 0) dJ6_numberOfLeadingZeros_0f7a4_0 rfl <| xo_if_gt (pc := 1) (tgt := 15) dJ6_numberOfLeadingZeros_0f7a4_1 (by decide) (xo_bipush (pc := 15) dJ6_numberOfLeadingZeros_0f7a4_15 (by decide) <| xo_istore_n (pc := 17) (i := 1) dJ6_numberOfLeadingZeros_0f7a4_17 rfl (by decide) <| xo_iload_n (pc := 18) (i := 0) dJ6_numberOfLeadingZeros_0f7a4_18 rfl <| xo_ldc_w (pc := 19) dJ6_numberOfLeadingZeros_0f7a4_19 kw627 <| xo_icmp_lt (pc := 22) (tgt := 33) dJ6_numberOfLeadingZeros_0f7a4_22 (by decide) ((s_J6_numberOfLeadingZeros_0f7a4_33 G l Q)) <| xo_iinc (pc := 25) dJ6_numberOfLeadingZeros_0f7a4_25 (by decide) <| xo_iload_n (pc := 28) (i := 0) dJ6_numberOfLeadingZeros_0f7a4_28 rfl <| xo_bipush (pc := 29) dJ6_numberOfLeadingZeros_0f7a4_29 (by decide) <| xo_iushr (pc := 31) dJ6_numberOfLeadingZeros_0f7a4_31 <| xo_istore_n (pc := 32) (i := 0) dJ6_numberOfLeadingZeros_0f7a4_32 rfl (by decide) <| (s_J6_numberOfLeadingZeros_0f7a4_33 G l Q)) <| xo_iload_n (pc := 4) (i := 0) dJ6_numberOfLeadingZeros_0f7a4_4 rfl <| xo_if_ne (pc := 5) (tgt := 13) dJ6_numberOfLeadingZeros_0f7a4_5 (by decide) (xo_iconst (pc := 13) dJ6_numberOfLeadingZeros_0f7a4_13 (by decide) <| (s_J6_numberOfLeadingZeros_0f7a4_14 G l Q)) <| xo_bipush (pc := 8) dJ6_numberOfLeadingZeros_0f7a4_8 (by decide) <| xo_goto (pc := 10) (tgt := 14) dJ6_numberOfLeadingZeros_0f7a4_10 (by decide) <| (s_J6_numberOfLeadingZeros_0f7a4_14 G l Q)

def C_J6_numberOfLeadingZeros_0f7a4 : xC := fun av S Q => ∃ x, av = [.int x] ∧ Q (some (.int (nI (32 - nb (wn x))))) S
theorem nz_ushr {m : Nat} (h : m < 2 ^ 31) (s : Int32) (k : Nat) (hs : ((s.toUInt32 &&& Int32.toUInt32 31).toBitVec % 32).toNat = k) : ((nI m).toUInt32 >>> (s.toUInt32 &&& Int32.toUInt32 31)).toInt32 = nI (m / 2 ^ k) := pk_ushrN (by omega) s k hs
def nzL (m n : Nat) (lv : List (Nat × Value)) : Prop := lv = [(1, .int (nI n)), (0, .int (nI m))] ∨ lv = [(0, .int (nI m)), (1, .int (nI n))]
theorem nz_73 {m n : Nat} {lv : List (Nat × Value)} {S : xS} {Q : xQ} (hl : nzL m n lv) (h0 : 0 < m) (h1 : m < 4) (hn : n < 32 ∧ 1 ≤ n) (hQ : Q (some (.int (nI (n + 1 - nb m)))) S) : b_J6_numberOfLeadingZeros_0f7a4_73 Q lv [] S := by
  have e1 := nz_ushr (m := m) (by omega) 1 1 (by decide)
  have e2 : nI n - nI (m / 2 ^ 1) = nI (n - m / 2 ^ 1) := pk_sub (by omega)
  have e3 : n - m / 2 ^ 1 = n + 1 - nb m := by
    rcases (show m = 1 ∨ m = 2 ∨ m = 3 by omega) with q | q | q <;> subst q
    · rw [nb_of (k := 0) (by decide) (by decide)]; omega
    · rw [nb_of (k := 1) (by decide) (by decide)]; omega
    · rw [nb_of (k := 1) (by decide) (by decide)]; omega
  rcases hl with rfl | rfl
  · simp only [x_c, x_iload, x_lload, x_aload, x_istore, x_lstore, x_astore, x_iinc, x_iadd, x_isub, x_imul, x_iand, x_ior, x_ixor, x_ladd, x_lsub, x_lmul, x_land, x_lor, x_lxor, x_idiv, x_irem, x_ldiv, x_lrem, x_ineg, x_lneg, x_ishl, x_ishr, x_iushr, x_lshl, x_lshr, x_lushr, x_i2l, x_l2i, x_i2b, x_i2c, x_lcmp, x_if_eq, x_if_ne, x_if_lt, x_if_ge, x_if_gt, x_if_le, x_icmp_eq, x_icmp_ne, x_icmp_lt, x_icmp_ge, x_icmp_gt, x_icmp_le, x_dup, x_pop, x_dup_x1, x_dup2, x_iret, x_zret, x_lret, x_aret, x_vret, x_call, x_callv, x_calli, x_oinit, x_mmax, x_mmin, x_mabs, x_mmaxL, x_mminL, x_mabsL, lg_cmp_ge, lg_cmp_le, lg_cmp_gt, lg_cmp_lt, lg_cmp_eq, xlk, xs1, xs2, lv_args, Value.category, List.filter_cons, List.filter_nil, Nat.reduceAdd, Nat.reduceBEq, Nat.reduceEqDiff, Nat.reduceSub, Nat.sub_zero, beq_self_eq_true, Bool.not_true, Bool.not_false, Bool.and_true, Bool.and_false, Bool.true_and, Bool.false_and, reduceIte, reduceCtorEq, Bool.false_eq_true, Nat.one_ne_zero, Nat.zero_ne_one, Nat.zero_add, Option.toList_some, Option.toList_none, List.nil_append, List.cons_append, List.take_succ_cons, List.take_zero, List.take_nil, List.drop_succ_cons, List.drop_zero, List.length_cons, List.length_nil, List.reverse_cons, List.reverse_nil, List.head?_cons, List.map_cons, List.map_nil, List.sum_cons, List.sum_nil, true_and, and_true, List.getElem?_cons_zero, List.getElem?_cons_succ, Prod.eta, x_get, x_put, x_iald, x_iast, x_bald, x_bast, x_lald, x_last, x_alen, xup_s, xup_a1, xup_1a, xup_uu, nr_i, nr_l, nr_o, nr_a, ft_i, ft_l, ft_o, ft_a, Nat.reduceLT, i_cl0, i_cl1, i_n1, i_m1, List.set_cons_zero, List.set_cons_succ, Nat.reduceLeDiff, Nat.le_refl, Nat.zero_le, Nat.add_zero, b_J6_numberOfLeadingZeros_0f7a4_73, e1, e2, e3]; exact hQ
  · simp only [x_c, x_iload, x_lload, x_aload, x_istore, x_lstore, x_astore, x_iinc, x_iadd, x_isub, x_imul, x_iand, x_ior, x_ixor, x_ladd, x_lsub, x_lmul, x_land, x_lor, x_lxor, x_idiv, x_irem, x_ldiv, x_lrem, x_ineg, x_lneg, x_ishl, x_ishr, x_iushr, x_lshl, x_lshr, x_lushr, x_i2l, x_l2i, x_i2b, x_i2c, x_lcmp, x_if_eq, x_if_ne, x_if_lt, x_if_ge, x_if_gt, x_if_le, x_icmp_eq, x_icmp_ne, x_icmp_lt, x_icmp_ge, x_icmp_gt, x_icmp_le, x_dup, x_pop, x_dup_x1, x_dup2, x_iret, x_zret, x_lret, x_aret, x_vret, x_call, x_callv, x_calli, x_oinit, x_mmax, x_mmin, x_mabs, x_mmaxL, x_mminL, x_mabsL, lg_cmp_ge, lg_cmp_le, lg_cmp_gt, lg_cmp_lt, lg_cmp_eq, xlk, xs1, xs2, lv_args, Value.category, List.filter_cons, List.filter_nil, Nat.reduceAdd, Nat.reduceBEq, Nat.reduceEqDiff, Nat.reduceSub, Nat.sub_zero, beq_self_eq_true, Bool.not_true, Bool.not_false, Bool.and_true, Bool.and_false, Bool.true_and, Bool.false_and, reduceIte, reduceCtorEq, Bool.false_eq_true, Nat.one_ne_zero, Nat.zero_ne_one, Nat.zero_add, Option.toList_some, Option.toList_none, List.nil_append, List.cons_append, List.take_succ_cons, List.take_zero, List.take_nil, List.drop_succ_cons, List.drop_zero, List.length_cons, List.length_nil, List.reverse_cons, List.reverse_nil, List.head?_cons, List.map_cons, List.map_nil, List.sum_cons, List.sum_nil, true_and, and_true, List.getElem?_cons_zero, List.getElem?_cons_succ, Prod.eta, x_get, x_put, x_iald, x_iast, x_bald, x_bast, x_lald, x_last, x_alen, xup_s, xup_a1, xup_1a, xup_uu, nr_i, nr_l, nr_o, nr_a, ft_i, ft_l, ft_o, ft_a, Nat.reduceLT, i_cl0, i_cl1, i_n1, i_m1, List.set_cons_zero, List.set_cons_succ, Nat.reduceLeDiff, Nat.le_refl, Nat.zero_le, Nat.add_zero, b_J6_numberOfLeadingZeros_0f7a4_73, e1, e2, e3]; exact hQ
theorem nz_dec (n k : Nat) (h : k ≤ n) {z : Int} (hz : Int32.ofInt z = -nI k) : nI n + Int32.ofInt z = nI (n - k) := by
  rw [hz, ← Int32.sub_eq_add_neg, pk_sub h]
theorem nz_61 {m n : Nat} {lv : List (Nat × Value)} {S : xS} {Q : xQ} (hl : nzL m n lv) (h0 : 0 < m) (h1 : m < 16) (hn : n < 32 ∧ 3 ≤ n) (hQ : Q (some (.int (nI (n + 1 - nb m)))) S) : b_J6_numberOfLeadingZeros_0f7a4_61 Q lv [] S := by
  have e1 := nz_ushr (m := m) (by omega) 2 2 (by decide)
  have e2 := nz_dec n 2 (by omega) (z := -2) (by decide)
  have e4 : nI m < 4 ↔ m < 4 := nI_ltI (b := 4) (by omega) (by decide)
  have key : 4 ≤ m → Q (some (.int (nI (n - 2 + 1 - nb (m / 2 ^ 2))))) S := fun q => by
    have := nb_div (v := m) (k := 2) q
    rw [show n - 2 + 1 - nb (m / 2 ^ 2) = n + 1 - nb m by omega]; exact hQ
  rcases hl with rfl | rfl
  · simp only [x_c, x_iload, x_lload, x_aload, x_istore, x_lstore, x_astore, x_iinc, x_iadd, x_isub, x_imul, x_iand, x_ior, x_ixor, x_ladd, x_lsub, x_lmul, x_land, x_lor, x_lxor, x_idiv, x_irem, x_ldiv, x_lrem, x_ineg, x_lneg, x_ishl, x_ishr, x_iushr, x_lshl, x_lshr, x_lushr, x_i2l, x_l2i, x_i2b, x_i2c, x_lcmp, x_if_eq, x_if_ne, x_if_lt, x_if_ge, x_if_gt, x_if_le, x_icmp_eq, x_icmp_ne, x_icmp_lt, x_icmp_ge, x_icmp_gt, x_icmp_le, x_dup, x_pop, x_dup_x1, x_dup2, x_iret, x_zret, x_lret, x_aret, x_vret, x_call, x_callv, x_calli, x_oinit, x_mmax, x_mmin, x_mabs, x_mmaxL, x_mminL, x_mabsL, lg_cmp_ge, lg_cmp_le, lg_cmp_gt, lg_cmp_lt, lg_cmp_eq, xlk, xs1, xs2, lv_args, Value.category, List.filter_cons, List.filter_nil, Nat.reduceAdd, Nat.reduceBEq, Nat.reduceEqDiff, Nat.reduceSub, Nat.sub_zero, beq_self_eq_true, Bool.not_true, Bool.not_false, Bool.and_true, Bool.and_false, Bool.true_and, Bool.false_and, reduceIte, reduceCtorEq, Bool.false_eq_true, Nat.one_ne_zero, Nat.zero_ne_one, Nat.zero_add, Option.toList_some, Option.toList_none, List.nil_append, List.cons_append, List.take_succ_cons, List.take_zero, List.take_nil, List.drop_succ_cons, List.drop_zero, List.length_cons, List.length_nil, List.reverse_cons, List.reverse_nil, List.head?_cons, List.map_cons, List.map_nil, List.sum_cons, List.sum_nil, true_and, and_true, List.getElem?_cons_zero, List.getElem?_cons_succ, Prod.eta, x_get, x_put, x_iald, x_iast, x_bald, x_bast, x_lald, x_last, x_alen, xup_s, xup_a1, xup_1a, xup_uu, nr_i, nr_l, nr_o, nr_a, ft_i, ft_l, ft_o, ft_a, Nat.reduceLT, i_cl0, i_cl1, i_n1, i_m1, List.set_cons_zero, List.set_cons_succ, Nat.reduceLeDiff, Nat.le_refl, Nat.zero_le, Nat.add_zero, b_J6_numberOfLeadingZeros_0f7a4_61, e1, e2, e4]
    exact ⟨fun q => nz_73 (Or.inl rfl) h0 q ⟨hn.1, by omega⟩ hQ, fun q => nz_73 (Or.inr rfl) (by omega) (by omega) ⟨by omega, by omega⟩ (key (by omega))⟩
  · simp only [x_c, x_iload, x_lload, x_aload, x_istore, x_lstore, x_astore, x_iinc, x_iadd, x_isub, x_imul, x_iand, x_ior, x_ixor, x_ladd, x_lsub, x_lmul, x_land, x_lor, x_lxor, x_idiv, x_irem, x_ldiv, x_lrem, x_ineg, x_lneg, x_ishl, x_ishr, x_iushr, x_lshl, x_lshr, x_lushr, x_i2l, x_l2i, x_i2b, x_i2c, x_lcmp, x_if_eq, x_if_ne, x_if_lt, x_if_ge, x_if_gt, x_if_le, x_icmp_eq, x_icmp_ne, x_icmp_lt, x_icmp_ge, x_icmp_gt, x_icmp_le, x_dup, x_pop, x_dup_x1, x_dup2, x_iret, x_zret, x_lret, x_aret, x_vret, x_call, x_callv, x_calli, x_oinit, x_mmax, x_mmin, x_mabs, x_mmaxL, x_mminL, x_mabsL, lg_cmp_ge, lg_cmp_le, lg_cmp_gt, lg_cmp_lt, lg_cmp_eq, xlk, xs1, xs2, lv_args, Value.category, List.filter_cons, List.filter_nil, Nat.reduceAdd, Nat.reduceBEq, Nat.reduceEqDiff, Nat.reduceSub, Nat.sub_zero, beq_self_eq_true, Bool.not_true, Bool.not_false, Bool.and_true, Bool.and_false, Bool.true_and, Bool.false_and, reduceIte, reduceCtorEq, Bool.false_eq_true, Nat.one_ne_zero, Nat.zero_ne_one, Nat.zero_add, Option.toList_some, Option.toList_none, List.nil_append, List.cons_append, List.take_succ_cons, List.take_zero, List.take_nil, List.drop_succ_cons, List.drop_zero, List.length_cons, List.length_nil, List.reverse_cons, List.reverse_nil, List.head?_cons, List.map_cons, List.map_nil, List.sum_cons, List.sum_nil, true_and, and_true, List.getElem?_cons_zero, List.getElem?_cons_succ, Prod.eta, x_get, x_put, x_iald, x_iast, x_bald, x_bast, x_lald, x_last, x_alen, xup_s, xup_a1, xup_1a, xup_uu, nr_i, nr_l, nr_o, nr_a, ft_i, ft_l, ft_o, ft_a, Nat.reduceLT, i_cl0, i_cl1, i_n1, i_m1, List.set_cons_zero, List.set_cons_succ, Nat.reduceLeDiff, Nat.le_refl, Nat.zero_le, Nat.add_zero, b_J6_numberOfLeadingZeros_0f7a4_61, e1, e2, e4]
    exact ⟨fun q => nz_73 (Or.inr rfl) h0 q ⟨hn.1, by omega⟩ hQ, fun q => nz_73 (Or.inr rfl) (by omega) (by omega) ⟨by omega, by omega⟩ (key (by omega))⟩
theorem nz_48 {m n : Nat} {lv : List (Nat × Value)} {S : xS} {Q : xQ} (hl : nzL m n lv) (h0 : 0 < m) (h1 : m < 256) (hn : n < 32 ∧ 7 ≤ n) (hQ : Q (some (.int (nI (n + 1 - nb m)))) S) : b_J6_numberOfLeadingZeros_0f7a4_48 Q lv [] S := by
  have e1 := nz_ushr (m := m) (by omega) 4 4 (by decide)
  have e2 := nz_dec n 4 (by omega) (z := -4) (by decide)
  have e4 : nI m < 16 ↔ m < 16 := nI_ltI (b := 16) (by omega) (by decide)
  have key : 16 ≤ m → Q (some (.int (nI (n - 4 + 1 - nb (m / 2 ^ 4))))) S := fun q => by
    have := nb_div (v := m) (k := 4) q
    rw [show n - 4 + 1 - nb (m / 2 ^ 4) = n + 1 - nb m by omega]; exact hQ
  rcases hl with rfl | rfl
  · simp only [x_c, x_iload, x_lload, x_aload, x_istore, x_lstore, x_astore, x_iinc, x_iadd, x_isub, x_imul, x_iand, x_ior, x_ixor, x_ladd, x_lsub, x_lmul, x_land, x_lor, x_lxor, x_idiv, x_irem, x_ldiv, x_lrem, x_ineg, x_lneg, x_ishl, x_ishr, x_iushr, x_lshl, x_lshr, x_lushr, x_i2l, x_l2i, x_i2b, x_i2c, x_lcmp, x_if_eq, x_if_ne, x_if_lt, x_if_ge, x_if_gt, x_if_le, x_icmp_eq, x_icmp_ne, x_icmp_lt, x_icmp_ge, x_icmp_gt, x_icmp_le, x_dup, x_pop, x_dup_x1, x_dup2, x_iret, x_zret, x_lret, x_aret, x_vret, x_call, x_callv, x_calli, x_oinit, x_mmax, x_mmin, x_mabs, x_mmaxL, x_mminL, x_mabsL, lg_cmp_ge, lg_cmp_le, lg_cmp_gt, lg_cmp_lt, lg_cmp_eq, xlk, xs1, xs2, lv_args, Value.category, List.filter_cons, List.filter_nil, Nat.reduceAdd, Nat.reduceBEq, Nat.reduceEqDiff, Nat.reduceSub, Nat.sub_zero, beq_self_eq_true, Bool.not_true, Bool.not_false, Bool.and_true, Bool.and_false, Bool.true_and, Bool.false_and, reduceIte, reduceCtorEq, Bool.false_eq_true, Nat.one_ne_zero, Nat.zero_ne_one, Nat.zero_add, Option.toList_some, Option.toList_none, List.nil_append, List.cons_append, List.take_succ_cons, List.take_zero, List.take_nil, List.drop_succ_cons, List.drop_zero, List.length_cons, List.length_nil, List.reverse_cons, List.reverse_nil, List.head?_cons, List.map_cons, List.map_nil, List.sum_cons, List.sum_nil, true_and, and_true, List.getElem?_cons_zero, List.getElem?_cons_succ, Prod.eta, x_get, x_put, x_iald, x_iast, x_bald, x_bast, x_lald, x_last, x_alen, xup_s, xup_a1, xup_1a, xup_uu, nr_i, nr_l, nr_o, nr_a, ft_i, ft_l, ft_o, ft_a, Nat.reduceLT, i_cl0, i_cl1, i_n1, i_m1, List.set_cons_zero, List.set_cons_succ, Nat.reduceLeDiff, Nat.le_refl, Nat.zero_le, Nat.add_zero, b_J6_numberOfLeadingZeros_0f7a4_48, e1, e2, e4]
    exact ⟨fun q => nz_61 (Or.inl rfl) h0 q ⟨hn.1, by omega⟩ hQ, fun q => nz_61 (Or.inr rfl) (by omega) (by omega) ⟨by omega, by omega⟩ (key (by omega))⟩
  · simp only [x_c, x_iload, x_lload, x_aload, x_istore, x_lstore, x_astore, x_iinc, x_iadd, x_isub, x_imul, x_iand, x_ior, x_ixor, x_ladd, x_lsub, x_lmul, x_land, x_lor, x_lxor, x_idiv, x_irem, x_ldiv, x_lrem, x_ineg, x_lneg, x_ishl, x_ishr, x_iushr, x_lshl, x_lshr, x_lushr, x_i2l, x_l2i, x_i2b, x_i2c, x_lcmp, x_if_eq, x_if_ne, x_if_lt, x_if_ge, x_if_gt, x_if_le, x_icmp_eq, x_icmp_ne, x_icmp_lt, x_icmp_ge, x_icmp_gt, x_icmp_le, x_dup, x_pop, x_dup_x1, x_dup2, x_iret, x_zret, x_lret, x_aret, x_vret, x_call, x_callv, x_calli, x_oinit, x_mmax, x_mmin, x_mabs, x_mmaxL, x_mminL, x_mabsL, lg_cmp_ge, lg_cmp_le, lg_cmp_gt, lg_cmp_lt, lg_cmp_eq, xlk, xs1, xs2, lv_args, Value.category, List.filter_cons, List.filter_nil, Nat.reduceAdd, Nat.reduceBEq, Nat.reduceEqDiff, Nat.reduceSub, Nat.sub_zero, beq_self_eq_true, Bool.not_true, Bool.not_false, Bool.and_true, Bool.and_false, Bool.true_and, Bool.false_and, reduceIte, reduceCtorEq, Bool.false_eq_true, Nat.one_ne_zero, Nat.zero_ne_one, Nat.zero_add, Option.toList_some, Option.toList_none, List.nil_append, List.cons_append, List.take_succ_cons, List.take_zero, List.take_nil, List.drop_succ_cons, List.drop_zero, List.length_cons, List.length_nil, List.reverse_cons, List.reverse_nil, List.head?_cons, List.map_cons, List.map_nil, List.sum_cons, List.sum_nil, true_and, and_true, List.getElem?_cons_zero, List.getElem?_cons_succ, Prod.eta, x_get, x_put, x_iald, x_iast, x_bald, x_bast, x_lald, x_last, x_alen, xup_s, xup_a1, xup_1a, xup_uu, nr_i, nr_l, nr_o, nr_a, ft_i, ft_l, ft_o, ft_a, Nat.reduceLT, i_cl0, i_cl1, i_n1, i_m1, List.set_cons_zero, List.set_cons_succ, Nat.reduceLeDiff, Nat.le_refl, Nat.zero_le, Nat.add_zero, b_J6_numberOfLeadingZeros_0f7a4_48, e1, e2, e4]
    exact ⟨fun q => nz_61 (Or.inr rfl) h0 q ⟨hn.1, by omega⟩ hQ, fun q => nz_61 (Or.inr rfl) (by omega) (by omega) ⟨by omega, by omega⟩ (key (by omega))⟩
theorem nz_33 {m n : Nat} {lv : List (Nat × Value)} {S : xS} {Q : xQ} (hl : nzL m n lv) (h0 : 0 < m) (h1 : m < 65536) (hn : n < 32 ∧ 15 ≤ n) (hQ : Q (some (.int (nI (n + 1 - nb m)))) S) : b_J6_numberOfLeadingZeros_0f7a4_33 Q lv [] S := by
  have e1 := nz_ushr (m := m) (by omega) 8 8 (by decide)
  have e2 := nz_dec n 8 (by omega) (z := -8) (by decide)
  have e4 : nI m < 256 ↔ m < 256 := nI_ltI (b := 256) (by omega) (by decide)
  have key : 256 ≤ m → Q (some (.int (nI (n - 8 + 1 - nb (m / 2 ^ 8))))) S := fun q => by
    have := nb_div (v := m) (k := 8) q
    rw [show n - 8 + 1 - nb (m / 2 ^ 8) = n + 1 - nb m by omega]; exact hQ
  rcases hl with rfl | rfl
  · simp only [x_c, x_iload, x_lload, x_aload, x_istore, x_lstore, x_astore, x_iinc, x_iadd, x_isub, x_imul, x_iand, x_ior, x_ixor, x_ladd, x_lsub, x_lmul, x_land, x_lor, x_lxor, x_idiv, x_irem, x_ldiv, x_lrem, x_ineg, x_lneg, x_ishl, x_ishr, x_iushr, x_lshl, x_lshr, x_lushr, x_i2l, x_l2i, x_i2b, x_i2c, x_lcmp, x_if_eq, x_if_ne, x_if_lt, x_if_ge, x_if_gt, x_if_le, x_icmp_eq, x_icmp_ne, x_icmp_lt, x_icmp_ge, x_icmp_gt, x_icmp_le, x_dup, x_pop, x_dup_x1, x_dup2, x_iret, x_zret, x_lret, x_aret, x_vret, x_call, x_callv, x_calli, x_oinit, x_mmax, x_mmin, x_mabs, x_mmaxL, x_mminL, x_mabsL, lg_cmp_ge, lg_cmp_le, lg_cmp_gt, lg_cmp_lt, lg_cmp_eq, xlk, xs1, xs2, lv_args, Value.category, List.filter_cons, List.filter_nil, Nat.reduceAdd, Nat.reduceBEq, Nat.reduceEqDiff, Nat.reduceSub, Nat.sub_zero, beq_self_eq_true, Bool.not_true, Bool.not_false, Bool.and_true, Bool.and_false, Bool.true_and, Bool.false_and, reduceIte, reduceCtorEq, Bool.false_eq_true, Nat.one_ne_zero, Nat.zero_ne_one, Nat.zero_add, Option.toList_some, Option.toList_none, List.nil_append, List.cons_append, List.take_succ_cons, List.take_zero, List.take_nil, List.drop_succ_cons, List.drop_zero, List.length_cons, List.length_nil, List.reverse_cons, List.reverse_nil, List.head?_cons, List.map_cons, List.map_nil, List.sum_cons, List.sum_nil, true_and, and_true, List.getElem?_cons_zero, List.getElem?_cons_succ, Prod.eta, x_get, x_put, x_iald, x_iast, x_bald, x_bast, x_lald, x_last, x_alen, xup_s, xup_a1, xup_1a, xup_uu, nr_i, nr_l, nr_o, nr_a, ft_i, ft_l, ft_o, ft_a, Nat.reduceLT, i_cl0, i_cl1, i_n1, i_m1, List.set_cons_zero, List.set_cons_succ, Nat.reduceLeDiff, Nat.le_refl, Nat.zero_le, Nat.add_zero, b_J6_numberOfLeadingZeros_0f7a4_33, e1, e2, e4]
    exact ⟨fun q => nz_48 (Or.inl rfl) h0 q ⟨hn.1, by omega⟩ hQ, fun q => nz_48 (Or.inr rfl) (by omega) (by omega) ⟨by omega, by omega⟩ (key (by omega))⟩
  · simp only [x_c, x_iload, x_lload, x_aload, x_istore, x_lstore, x_astore, x_iinc, x_iadd, x_isub, x_imul, x_iand, x_ior, x_ixor, x_ladd, x_lsub, x_lmul, x_land, x_lor, x_lxor, x_idiv, x_irem, x_ldiv, x_lrem, x_ineg, x_lneg, x_ishl, x_ishr, x_iushr, x_lshl, x_lshr, x_lushr, x_i2l, x_l2i, x_i2b, x_i2c, x_lcmp, x_if_eq, x_if_ne, x_if_lt, x_if_ge, x_if_gt, x_if_le, x_icmp_eq, x_icmp_ne, x_icmp_lt, x_icmp_ge, x_icmp_gt, x_icmp_le, x_dup, x_pop, x_dup_x1, x_dup2, x_iret, x_zret, x_lret, x_aret, x_vret, x_call, x_callv, x_calli, x_oinit, x_mmax, x_mmin, x_mabs, x_mmaxL, x_mminL, x_mabsL, lg_cmp_ge, lg_cmp_le, lg_cmp_gt, lg_cmp_lt, lg_cmp_eq, xlk, xs1, xs2, lv_args, Value.category, List.filter_cons, List.filter_nil, Nat.reduceAdd, Nat.reduceBEq, Nat.reduceEqDiff, Nat.reduceSub, Nat.sub_zero, beq_self_eq_true, Bool.not_true, Bool.not_false, Bool.and_true, Bool.and_false, Bool.true_and, Bool.false_and, reduceIte, reduceCtorEq, Bool.false_eq_true, Nat.one_ne_zero, Nat.zero_ne_one, Nat.zero_add, Option.toList_some, Option.toList_none, List.nil_append, List.cons_append, List.take_succ_cons, List.take_zero, List.take_nil, List.drop_succ_cons, List.drop_zero, List.length_cons, List.length_nil, List.reverse_cons, List.reverse_nil, List.head?_cons, List.map_cons, List.map_nil, List.sum_cons, List.sum_nil, true_and, and_true, List.getElem?_cons_zero, List.getElem?_cons_succ, Prod.eta, x_get, x_put, x_iald, x_iast, x_bald, x_bast, x_lald, x_last, x_alen, xup_s, xup_a1, xup_1a, xup_uu, nr_i, nr_l, nr_o, nr_a, ft_i, ft_l, ft_o, ft_a, Nat.reduceLT, i_cl0, i_cl1, i_n1, i_m1, List.set_cons_zero, List.set_cons_succ, Nat.reduceLeDiff, Nat.le_refl, Nat.zero_le, Nat.add_zero, b_J6_numberOfLeadingZeros_0f7a4_33, e1, e2, e4]
    exact ⟨fun q => nz_48 (Or.inr rfl) h0 q ⟨hn.1, by omega⟩ hQ, fun q => nz_48 (Or.inr rfl) (by omega) (by omega) ⟨by omega, by omega⟩ (key (by omega))⟩
theorem cM_J6_numberOfLeadingZeros_0f7a4 (G : xG) (l : Launch) : xM G l yJ6_numberOfLeadingZeros_0f7a4 cJ6_numberOfLeadingZeros_0f7a4 2 (some FieldType.int) r_J6_numberOfLeadingZeros_0f7a4 C_J6_numberOfLeadingZeros_0f7a4 := by
  refine xM_of (fun Q => b_J6_numberOfLeadingZeros_0f7a4_0 Q) RJ6 false (s_J6_numberOfLeadingZeros_0f7a4_0 G l) (by decide) rfl (by decide) ?_
  rintro av S Q ⟨x, rfl, hQ⟩
  refine ⟨Nat.le_of_ble_eq_true rfl, ?_⟩
  simp only [x_c, x_iload, x_lload, x_aload, x_istore, x_lstore, x_astore, x_iinc, x_iadd, x_isub, x_imul, x_iand, x_ior, x_ixor, x_ladd, x_lsub, x_lmul, x_land, x_lor, x_lxor, x_idiv, x_irem, x_ldiv, x_lrem, x_ineg, x_lneg, x_ishl, x_ishr, x_iushr, x_lshl, x_lshr, x_lushr, x_i2l, x_l2i, x_i2b, x_i2c, x_lcmp, x_if_eq, x_if_ne, x_if_lt, x_if_ge, x_if_gt, x_if_le, x_icmp_eq, x_icmp_ne, x_icmp_lt, x_icmp_ge, x_icmp_gt, x_icmp_le, x_dup, x_pop, x_dup_x1, x_dup2, x_iret, x_zret, x_lret, x_aret, x_vret, x_call, x_callv, x_calli, x_oinit, x_mmax, x_mmin, x_mabs, x_mmaxL, x_mminL, x_mabsL, lg_cmp_ge, lg_cmp_le, lg_cmp_gt, lg_cmp_lt, lg_cmp_eq, xlk, xs1, xs2, lv_args, Value.category, List.filter_cons, List.filter_nil, Nat.reduceAdd, Nat.reduceBEq, Nat.reduceEqDiff, Nat.reduceSub, Nat.sub_zero, beq_self_eq_true, Bool.not_true, Bool.not_false, Bool.and_true, Bool.and_false, Bool.true_and, Bool.false_and, reduceIte, reduceCtorEq, Bool.false_eq_true, Nat.one_ne_zero, Nat.zero_ne_one, Nat.zero_add, Option.toList_some, Option.toList_none, List.nil_append, List.cons_append, List.take_succ_cons, List.take_zero, List.take_nil, List.drop_succ_cons, List.drop_zero, List.length_cons, List.length_nil, List.reverse_cons, List.reverse_nil, List.head?_cons, List.map_cons, List.map_nil, List.sum_cons, List.sum_nil, true_and, and_true, List.getElem?_cons_zero, List.getElem?_cons_succ, Prod.eta, x_get, x_put, x_iald, x_iast, x_bald, x_bast, x_lald, x_last, x_alen, xup_s, xup_a1, xup_1a, xup_uu, nr_i, nr_l, nr_o, nr_a, ft_i, ft_l, ft_o, ft_a, Nat.reduceLT, i_cl0, i_cl1, i_n1, i_m1, List.set_cons_zero, List.set_cons_succ, Nat.reduceLeDiff, Nat.le_refl, Nat.zero_le, Nat.add_zero, b_J6_numberOfLeadingZeros_0f7a4_0, b_J6_numberOfLeadingZeros_0f7a4_14]
  refine ⟨fun q => ?_, fun q => ⟨fun z => ?_, fun z => ?_⟩⟩
  · rw [i_lt, i_0] at q
    obtain ⟨m, hm, rfl⟩ := nI_of (x := x) (by rw [i_lt, i_0]; omega)
    rw [nI_toInt hm] at q
    rw [wn_nI, Nat.mod_eq_of_lt (by omega)] at hQ
    have e1 := nz_ushr (m := m) (by omega) 16 16 (by decide)
    have e2 : (31 : Int32) + Int32.ofInt (-16) = nI (31 - 16) := nz_dec 31 16 (by omega) (z := -16) (by decide)
    have e4 : nI m < 65536 ↔ m < 65536 := nI_ltI (b := 65536) (by omega) (by decide)
    rw [e1, e2, e4]
    refine ⟨fun z => nz_33 (n := 31) (Or.inl rfl) (by omega) z ⟨by omega, by omega⟩ hQ, fun z => nz_33 (Or.inr rfl) (by omega) (by omega) ⟨by omega, by omega⟩ ?_⟩
    have := nb_div (v := m) (k := 16) (by omega)
    rw [show 31 - 16 + 1 - nb (m / 2 ^ 16) = 32 - nb m by omega]; exact hQ
  · rw [i_lt, i_0] at q
    have h1 : 2 ^ 31 ≤ wn x := by
      have h2 : x.toInt ≠ 0 := fun e => z (Int32.toInt_inj.mp (by rw [e]; decide))
      have h3 : x.toInt = if 2 * wn x < 2 ^ 32 then (wn x : Int) else (wn x : Int) - 2 ^ 32 := BitVec.toInt_eq_toNat_cond ..
      split at h3 <;> omega
    rw [nb_of (k := 31) h1 (wn_lt x)] at hQ
    exact hQ
  · rw [z, show wn 0 = 0 by decide, nb_0] at hQ
    exact hQ
theorem dX0_bits_0 : decode cX0_bits 0 = .ok (.aload_n 0, 1) := by decide +kernel
theorem dX0_bits_1 : decode cX0_bits 1 = .ok (.getfield 13, 3) := by decide +kernel
theorem dX0_bits_4 : decode cX0_bits 4 = .ok (.ifCond .ne 7, 3) := by decide +kernel
theorem dX0_bits_7 : decode cX0_bits 7 = .ok (.iconst 0, 1) := by decide +kernel
theorem dX0_bits_8 : decode cX0_bits 8 = .ok (.goto 25, 3) := by decide +kernel
theorem dX0_bits_11 : decode cX0_bits 11 = .ok (.bipush 32, 2) := by decide +kernel
theorem dX0_bits_13 : decode cX0_bits 13 = .ok (.aload_n 0, 1) := by decide +kernel
theorem dX0_bits_14 : decode cX0_bits 14 = .ok (.getfield 13, 3) := by decide +kernel
theorem dX0_bits_17 : decode cX0_bits 17 = .ok (.imul, 1) := by decide +kernel
theorem dX0_bits_18 : decode cX0_bits 18 = .ok (.aload_n 0, 1) := by decide +kernel
theorem dX0_bits_19 : decode cX0_bits 19 = .ok (.getfield 9, 3) := by decide +kernel
theorem dX0_bits_22 : decode cX0_bits 22 = .ok (.aload_n 0, 1) := by decide +kernel
theorem dX0_bits_23 : decode cX0_bits 23 = .ok (.getfield 13, 3) := by decide +kernel
theorem dX0_bits_26 : decode cX0_bits 26 = .ok (.iconst 1, 1) := by decide +kernel
theorem dX0_bits_27 : decode cX0_bits 27 = .ok (.isub, 1) := by decide +kernel
theorem dX0_bits_28 : decode cX0_bits 28 = .ok (.iaload, 1) := by decide +kernel
theorem dX0_bits_29 : decode cX0_bits 29 = .ok (.invokestatic 17, 3) := by decide +kernel
theorem dX0_bits_32 : decode cX0_bits 32 = .ok (.isub, 1) := by decide +kernel
theorem dX0_bits_33 : decode cX0_bits 33 = .ok (.ireturn, 1) := by decide +kernel
abbrev r_X0_bits : Room := { frames := 1, cells := 0, slots := 0, locals := 21 }
abbrev m_X0_bits : xMd := (cX0_bits, RX0, 1, (some FieldType.int), false, r_X0_bits)
def b_X0_bits_33 (Q : xQ) : xK := x_iret Q
def b_X0_bits_0 (Q : xQ) : xK := x_aload 0 <| x_get 1 1 <| x_if_ne (x_c (.int 32) <| x_aload 0 <| x_get 1 1 <| x_imul <| x_aload 0 <| x_get 1 0 <| x_aload 0 <| x_get 1 1 <| x_c (.int 1) <| x_isub <| x_iald <| x_call C_J6_numberOfLeadingZeros_0f7a4 1 0 0 <| x_isub <| (b_X0_bits_33 Q)) <| x_c (.int 0) <| (b_X0_bits_33 Q)
theorem s_X0_bits_33 (G : xG) (l : Launch) (Q : xQ) : xW G l m_X0_bits xX0 (xPm G Q r_X0_bits) 33 (b_X0_bits_33 Q) := xo_iret (pc := 33) rfl dX0_bits_33
theorem s_X0_bits_0 (G : xG) (l : Launch) (Q : xQ) : xW G l m_X0_bits xX0 (xPm G Q r_X0_bits) 0 (b_X0_bits_0 Q) := xo_aload_n (pc := 0) (i := 0) dX0_bits_0 rfl <| xo_get (pc := 1) (ci := 1) (i := 1) rfl ok1 (by decide) dX0_bits_1 kw77 <| xo_if_ne (pc := 4) (tgt := 11) dX0_bits_4 (by decide) (xo_bipush (pc := 11) dX0_bits_11 (by decide) <| xo_aload_n (pc := 13) (i := 0) dX0_bits_13 rfl <| xo_get (pc := 14) (ci := 1) (i := 1) rfl ok1 (by decide) dX0_bits_14 kw77 <| xo_imul (pc := 17) dX0_bits_17 <| xo_aload_n (pc := 18) (i := 0) dX0_bits_18 rfl <| xo_get (pc := 19) (ci := 1) (i := 0) rfl ok1 (by decide) dX0_bits_19 kw76 <| xo_aload_n (pc := 22) (i := 0) dX0_bits_22 rfl <| xo_get (pc := 23) (ci := 1) (i := 1) rfl ok1 (by decide) dX0_bits_23 kw77 <| xo_iconst (pc := 26) dX0_bits_26 (by decide) <| xo_isub (pc := 27) dX0_bits_27 <| xo_iald (pc := 28) dX0_bits_28 <| xo_callS (pc := 29) (np := 1) (cM_J6_numberOfLeadingZeros_0f7a4 G l) dX0_bits_29 kw626 kw624 kw625 kw26 (by decide +kernel) (by decide) <| xo_isub (pc := 32) dX0_bits_32 <| (s_X0_bits_33 G l Q)) <| xo_iconst (pc := 7) dX0_bits_7 (by decide) <| xo_goto (pc := 8) (tgt := 33) dX0_bits_8 (by decide) <| (s_X0_bits_33 G l Q)

def C_X0_bits : xC := fun av S Q => ∃ t u, av = [.ref t] ∧ bigV S.1 t u ∧ Q (some (.int (nI (nb u)))) S
theorem cM_X0_bits (G : xG) (l : Launch) : xM G l yX0_bits cX0_bits 1 (some FieldType.int) r_X0_bits C_X0_bits := by
  refine xM_of (fun Q => b_X0_bits_0 Q) RX0 false (s_X0_bits_0 G l) (by decide) rfl (by decide) ?_
  rintro av S Q ⟨t, u, rfl, ⟨f, n, r, rfl, z0⟩, hQ⟩
  refine ⟨Nat.le_of_ble_eq_true rfl, ?_⟩
  have n2 := r.2.2
  have en0 : nI n = 0 ↔ n = 0 := nI_eq (b := 0) (by omega) (by decide)
  cases n with
  | zero =>
    simp only [x_c, x_iload, x_lload, x_aload, x_istore, x_lstore, x_astore, x_iinc, x_iadd, x_isub, x_imul, x_iand, x_ior, x_ixor, x_ladd, x_lsub, x_lmul, x_land, x_lor, x_lxor, x_idiv, x_irem, x_ldiv, x_lrem, x_ineg, x_lneg, x_ishl, x_ishr, x_iushr, x_lshl, x_lshr, x_lushr, x_i2l, x_l2i, x_i2b, x_i2c, x_lcmp, x_if_eq, x_if_ne, x_if_lt, x_if_ge, x_if_gt, x_if_le, x_icmp_eq, x_icmp_ne, x_icmp_lt, x_icmp_ge, x_icmp_gt, x_icmp_le, x_dup, x_pop, x_dup_x1, x_dup2, x_iret, x_zret, x_lret, x_aret, x_vret, x_call, x_callv, x_calli, x_oinit, x_mmax, x_mmin, x_mabs, x_mmaxL, x_mminL, x_mabsL, lg_cmp_ge, lg_cmp_le, lg_cmp_gt, lg_cmp_lt, lg_cmp_eq, xlk, xs1, xs2, lv_args, Value.category, List.filter_cons, List.filter_nil, Nat.reduceAdd, Nat.reduceBEq, Nat.reduceEqDiff, Nat.reduceSub, Nat.sub_zero, beq_self_eq_true, Bool.not_true, Bool.not_false, Bool.and_true, Bool.and_false, Bool.true_and, Bool.false_and, reduceIte, reduceCtorEq, Bool.false_eq_true, Nat.one_ne_zero, Nat.zero_ne_one, Nat.zero_add, Option.toList_some, Option.toList_none, List.nil_append, List.cons_append, List.take_succ_cons, List.take_zero, List.take_nil, List.drop_succ_cons, List.drop_zero, List.length_cons, List.length_nil, List.reverse_cons, List.reverse_nil, List.head?_cons, List.map_cons, List.map_nil, List.sum_cons, List.sum_nil, true_and, and_true, List.getElem?_cons_zero, List.getElem?_cons_succ, Prod.eta, x_get, x_put, x_iald, x_iast, x_bald, x_bast, x_lald, x_last, x_alen, xup_s, xup_a1, xup_1a, xup_uu, nr_i, nr_l, nr_o, nr_a, ft_i, ft_l, ft_o, ft_a, Nat.reduceLT, i_cl0, i_cl1, i_n1, i_m1, List.set_cons_zero, List.set_cons_succ, Nat.reduceLeDiff, Nat.le_refl, Nat.zero_le, Nat.add_zero, b_X0_bits_0, b_X0_bits_33, r.1, r.2.1, en0]
    exact ⟨fun q => absurd trivial q, fun _ => hQ⟩
  | succ n =>
    have e1 : nI (n + 1) - 1 = nI n := nI_pred n
    have ci := nI_clamp (show n < 2 ^ 31 by omega)
    simp only [x_c, x_iload, x_lload, x_aload, x_istore, x_lstore, x_astore, x_iinc, x_iadd, x_isub, x_imul, x_iand, x_ior, x_ixor, x_ladd, x_lsub, x_lmul, x_land, x_lor, x_lxor, x_idiv, x_irem, x_ldiv, x_lrem, x_ineg, x_lneg, x_ishl, x_ishr, x_iushr, x_lshl, x_lshr, x_lushr, x_i2l, x_l2i, x_i2b, x_i2c, x_lcmp, x_if_eq, x_if_ne, x_if_lt, x_if_ge, x_if_gt, x_if_le, x_icmp_eq, x_icmp_ne, x_icmp_lt, x_icmp_ge, x_icmp_gt, x_icmp_le, x_dup, x_pop, x_dup_x1, x_dup2, x_iret, x_zret, x_lret, x_aret, x_vret, x_call, x_callv, x_calli, x_oinit, x_mmax, x_mmin, x_mabs, x_mmaxL, x_mminL, x_mabsL, lg_cmp_ge, lg_cmp_le, lg_cmp_gt, lg_cmp_lt, lg_cmp_eq, xlk, xs1, xs2, lv_args, Value.category, List.filter_cons, List.filter_nil, Nat.reduceAdd, Nat.reduceBEq, Nat.reduceEqDiff, Nat.reduceSub, Nat.sub_zero, beq_self_eq_true, Bool.not_true, Bool.not_false, Bool.and_true, Bool.and_false, Bool.true_and, Bool.false_and, reduceIte, reduceCtorEq, Bool.false_eq_true, Nat.one_ne_zero, Nat.zero_ne_one, Nat.zero_add, Option.toList_some, Option.toList_none, List.nil_append, List.cons_append, List.take_succ_cons, List.take_zero, List.take_nil, List.drop_succ_cons, List.drop_zero, List.length_cons, List.length_nil, List.reverse_cons, List.reverse_nil, List.head?_cons, List.map_cons, List.map_nil, List.sum_cons, List.sum_nil, true_and, and_true, List.getElem?_cons_zero, List.getElem?_cons_succ, Prod.eta, x_get, x_put, x_iald, x_iast, x_bald, x_bast, x_lald, x_last, x_alen, xup_s, xup_a1, xup_1a, xup_uu, nr_i, nr_l, nr_o, nr_a, ft_i, ft_l, ft_o, ft_a, Nat.reduceLT, i_cl0, i_cl1, i_n1, i_m1, List.set_cons_zero, List.set_cons_succ, Nat.reduceLeDiff, Nat.le_refl, Nat.zero_le, Nat.add_zero, b_X0_bits_0, b_X0_bits_33, r.1, r.2.1, en0, e1, ci]
    refine ⟨fun _ => ⟨vp_in_nI (by omega) (by decide), _, rfl, ?_⟩, fun q => q.elim⟩
    simp only [x_c, x_iload, x_lload, x_aload, x_istore, x_lstore, x_astore, x_iinc, x_iadd, x_isub, x_imul, x_iand, x_ior, x_ixor, x_ladd, x_lsub, x_lmul, x_land, x_lor, x_lxor, x_idiv, x_irem, x_ldiv, x_lrem, x_ineg, x_lneg, x_ishl, x_ishr, x_iushr, x_lshl, x_lshr, x_lushr, x_i2l, x_l2i, x_i2b, x_i2c, x_lcmp, x_if_eq, x_if_ne, x_if_lt, x_if_ge, x_if_gt, x_if_le, x_icmp_eq, x_icmp_ne, x_icmp_lt, x_icmp_ge, x_icmp_gt, x_icmp_le, x_dup, x_pop, x_dup_x1, x_dup2, x_iret, x_zret, x_lret, x_aret, x_vret, x_call, x_callv, x_calli, x_oinit, x_mmax, x_mmin, x_mabs, x_mmaxL, x_mminL, x_mabsL, lg_cmp_ge, lg_cmp_le, lg_cmp_gt, lg_cmp_lt, lg_cmp_eq, xlk, xs1, xs2, lv_args, Value.category, List.filter_cons, List.filter_nil, Nat.reduceAdd, Nat.reduceBEq, Nat.reduceEqDiff, Nat.reduceSub, Nat.sub_zero, beq_self_eq_true, Bool.not_true, Bool.not_false, Bool.and_true, Bool.and_false, Bool.true_and, Bool.false_and, reduceIte, reduceCtorEq, Bool.false_eq_true, Nat.one_ne_zero, Nat.zero_ne_one, Nat.zero_add, Option.toList_some, Option.toList_none, List.nil_append, List.cons_append, List.take_succ_cons, List.take_zero, List.take_nil, List.drop_succ_cons, List.drop_zero, List.length_cons, List.length_nil, List.reverse_cons, List.reverse_nil, List.head?_cons, List.map_cons, List.map_nil, List.sum_cons, List.sum_nil, true_and, and_true, List.getElem?_cons_zero, List.getElem?_cons_succ, Prod.eta, x_get, x_put, x_iald, x_iast, x_bald, x_bast, x_lald, x_last, x_alen, xup_s, xup_a1, xup_1a, xup_uu, nr_i, nr_l, nr_o, nr_a, ft_i, ft_l, ft_o, ft_a, Nat.reduceLT, i_cl0, i_cl1, i_n1, i_m1, List.set_cons_zero, List.set_cons_succ, Nat.reduceLeDiff, Nat.le_refl, Nat.zero_le, Nat.add_zero]
    have hw := z0 (by omega)
    rw [Nat.add_sub_cancel] at hw
    have hpos : 0 < wn (f n) := by
      rcases Nat.eq_zero_or_pos (wn (f n)) with q | q
      · exact absurd ((wn_0 _).mpr q) hw
      · exact q
    have h1 : nb (wn (f n)) ≤ 32 := by
      have h2 := wn_lt (f n)
      obtain ⟨b, c⟩ := nb_le hpos
      have d2 : nb (wn (f n)) - 1 < 32 := (Nat.pow_lt_pow_iff_right (a := 2) (by decide)).mp (Nat.lt_of_le_of_lt b h2)
      omega
    have e2 : (32 : Int32) * nI (n + 1) = nI (32 * (n + 1)) := pk_mul 32 (n + 1)
    rw [e2, pk_sub (by omega)]
    rw [bv, nb_top hpos (bv_lt f n)] at hQ
    rw [show 32 * (n + 1) - (32 - nb (wn (f n))) = nb (wn (f n)) + 32 * n by omega]
    exact hQ
theorem dX0_init_0 : decode cX0_init 0 = .ok (.aload_n 0, 1) := by decide +kernel
theorem dX0_init_1 : decode cX0_init 1 = .ok (.invokespecial 1, 3) := by decide +kernel
theorem dX0_init_4 : decode cX0_init 4 = .ok (.aload_n 0, 1) := by decide +kernel
theorem dX0_init_5 : decode cX0_init 5 = .ok (.sipush 200, 3) := by decide +kernel
theorem dX0_init_8 : decode cX0_init 8 = .ok (.newarray .int, 2) := by decide +kernel
theorem dX0_init_10 : decode cX0_init 10 = .ok (.putfield 9, 3) := by decide +kernel
theorem dX0_init_13 : decode cX0_init 13 = .ok (.return_, 1) := by decide +kernel
abbrev r_X0_init : Room := { frames := 1, cells := 1, slots := 200, locals := 12 }
abbrev m_X0_init : xMd := (cX0_init, RX0, 1, none, true, r_X0_init)
def b_X0_init_0 (Q : xQ) : xK := x_aload 0 <| x_oinit <| x_aload 0 <| x_c (.int 200) <| x_newi <| x_put 1 0 (.array .int) <| x_vret Q
theorem s_X0_init_0 (G : xG) (l : Launch) (Q : xQ) : xW G l m_X0_init xX0 (xPm G Q r_X0_init) 0 (b_X0_init_0 Q) := xo_aload_n (pc := 0) (i := 0) dX0_init_0 rfl <| xo_oinit (pc := 1) dX0_init_1 kw75 kw36 kw37 (by decide) <| xo_aload_n (pc := 4) (i := 0) dX0_init_4 rfl <| xo_sipush (pc := 5) dX0_init_5 (by decide) <| xo_newi (pc := 8) kw87 dX0_init_8 <| xo_putF (pc := 10) (ci := 1) (i := 0) rfl ok1 (by decide) rfl rfl rfl rfl dX0_init_10 kw76 <| xo_vret (pc := 13) rfl dX0_init_13

def C_X0_init : xC := fun av S Q => ∃ t, av = [.ref t] ∧ S.1 t = some (.inr (1, [.null, .int 0])) ∧ S.2.1 = t + 1 ∧ 1 ≤ S.2.2.1 ∧ 200 ≤ S.2.2.2 ∧ ∀ h', xoff h' S.1 t (t + 2) → bigV h' t 0 → Q none (h', t + 2, S.2.2.1 - 1, S.2.2.2 - 200)
theorem cM_X0_init (G : xG) (l : Launch) : xM G l yX0_init cX0_init 1 none r_X0_init C_X0_init := by
  refine xM_of (fun Q => b_X0_init_0 Q) RX0 true (s_X0_init_0 G l) (by decide) rfl (by decide) ?_
  rintro av S Q ⟨t, rfl, h1, h2, h3, h4, hQ⟩
  refine ⟨Nat.le_of_ble_eq_true rfl, ?_⟩
  have e200 : (200 : Int32).toNatClampNeg = 200 := by decide
  simp only [x_c, x_iload, x_lload, x_aload, x_istore, x_lstore, x_astore, x_iinc, x_iadd, x_isub, x_imul, x_iand, x_ior, x_ixor, x_ladd, x_lsub, x_lmul, x_land, x_lor, x_lxor, x_idiv, x_irem, x_ldiv, x_lrem, x_ineg, x_lneg, x_ishl, x_ishr, x_iushr, x_lshl, x_lshr, x_lushr, x_i2l, x_l2i, x_i2b, x_i2c, x_lcmp, x_if_eq, x_if_ne, x_if_lt, x_if_ge, x_if_gt, x_if_le, x_icmp_eq, x_icmp_ne, x_icmp_lt, x_icmp_ge, x_icmp_gt, x_icmp_le, x_dup, x_pop, x_dup_x1, x_dup2, x_iret, x_zret, x_lret, x_aret, x_vret, x_call, x_callv, x_calli, x_oinit, x_mmax, x_mmin, x_mabs, x_mmaxL, x_mminL, x_mabsL, lg_cmp_ge, lg_cmp_le, lg_cmp_gt, lg_cmp_lt, lg_cmp_eq, xlk, xs1, xs2, lv_args, Value.category, List.filter_cons, List.filter_nil, Nat.reduceAdd, Nat.reduceBEq, Nat.reduceEqDiff, Nat.reduceSub, Nat.sub_zero, beq_self_eq_true, Bool.not_true, Bool.not_false, Bool.and_true, Bool.and_false, Bool.true_and, Bool.false_and, reduceIte, reduceCtorEq, Bool.false_eq_true, Nat.one_ne_zero, Nat.zero_ne_one, Nat.zero_add, Option.toList_some, Option.toList_none, List.nil_append, List.cons_append, List.take_succ_cons, List.take_zero, List.take_nil, List.drop_succ_cons, List.drop_zero, List.length_cons, List.length_nil, List.reverse_cons, List.reverse_nil, List.head?_cons, List.map_cons, List.map_nil, List.sum_cons, List.sum_nil, true_and, and_true, List.getElem?_cons_zero, List.getElem?_cons_succ, Prod.eta, x_get, x_put, x_iald, x_iast, x_bald, x_bast, x_lald, x_last, x_alen, xup_s, xup_a1, xup_1a, xup_uu, nr_i, nr_l, nr_o, nr_a, ft_i, ft_l, ft_o, ft_a, Nat.reduceLT, i_cl0, i_cl1, i_n1, i_m1, List.set_cons_zero, List.set_cons_succ, Nat.reduceLeDiff, Nat.le_refl, Nat.zero_le, Nat.add_zero, b_X0_init_0, x_newi, e200, h1, h2]
  refine ⟨by decide, h3, h4, ?_⟩
  refine hQ _ (xoff_up (xoff_up xoff_rf (by omega) (by omega)) (by omega) (by omega)) ⟨_, 0, ⟨xup_s, by rw [xup_1a, xup_s], by omega⟩, rfl, by omega⟩
