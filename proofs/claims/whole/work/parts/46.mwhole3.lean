theorem foB_eq {a b : Int} (ha : oF a) (hb : oF b) : lN (foB a) = lN (foB b) ↔ a = b := by
  refine ⟨fun e => ?_, fun e => by rw [e]⟩
  have := congrArg uN e
  rw [uN_lN (foB_lt ha.1 ha.2), uN_lN (foB_lt hb.1 hb.2)] at this
  rw [← ordB_foB ha, ← ordB_foB hb, this]
theorem ofW_sp {T : Nat} (h : T ≤ 9007199254740992) : fv (ofW T) = (T : Rat) ∧ ofW T < 2 ^ 63 := by
  have ex : ∃ n, fv n = (T : Rat) ∧ n < 2 ^ 63 := by
    rcases Nat.eq_zero_or_pos T with rfl | hp
    · exact ⟨0, fv_0, by decide⟩
    · rcases Nat.lt_or_ge T 9007199254740992 with q | q
      · have l1 : 2 ^ T.log2 ≤ T := Nat.log2_self_le (by omega)
        have l2 : T < 2 ^ (T.log2 + 1) := Nat.lt_log2_self
        have l3 : T.log2 ≤ 52 := by
          rcases Nat.lt_or_ge 52 T.log2 with c | c
          · have : 2 ^ 53 ≤ 2 ^ T.log2 := Nat.pow_le_pow_right (by decide) c
            omega
          · exact c
        generalize T.log2 = L at *
        have p1 : 2 ^ L * 2 ^ (52 - L) = 2 ^ 52 := by rw [← Nat.pow_add, show L + (52 - L) = 52 by omega]
        have p2' : 2 ^ (L + 1) * 2 ^ (52 - L) = 2 ^ 53 := by rw [← Nat.pow_add, show L + 1 + (52 - L) = 53 by omega]
        have g1 : 2 ^ 52 ≤ T * 2 ^ (52 - L) := by rw [← p1]; exact Nat.mul_le_mul_right _ l1
        have g2 : T * 2 ^ (52 - L) < 2 ^ 53 := by rw [← p2']; exact Nat.mul_lt_mul_of_pos_right l2 (Nat.two_pow_pos _)
        have g5 : ((T * 2 ^ (52 - L) : Nat) : Rat) * p2 (-((52 - L : Nat) : Int)) = (T : Rat) := by
          rw [Rat.natCast_mul, ← p2_nat, Rat.mul_assoc, ← p2_add, show ((52 - L : Nat) : Int) + -((52 - L : Nat) : Int) = 0 by omega, p2_0, Rat.mul_one]
        generalize T * 2 ^ (52 - L) = w at *
        have v := ow_val (s := ((52 - L : Nat) : Int)) g1 g2 (by omega) (by omega) g5
        refine ⟨_, v, ?_⟩
        omega
      · obtain rfl : T = 9007199254740992 := by omega
        exact ⟨_, ow_val (w' := 4503599627370496) (s := -1) (by decide) (by decide) (by decide) (by decide) ow_53, by decide⟩
  exact Classical.epsilon_spec (p := fun n => fv n = (T : Rat) ∧ n < 2 ^ 63) ex
/-- a float to a whole number -/
def wT (u : Nat) : Nat := fP u / 2 ^ (shI u).toNat
def wA (u : Nat) (ng : Bool) (how : Nat) : Bool := if how = 0 then ng else if how = 1 then !ng else if how = 2 then false else decide (2 ^ ((shI u).toNat - 1) < fP u % 2 ^ (shI u).toNat ∨ fP u % 2 ^ (shI u).toNat = 2 ^ ((shI u).toNat - 1) ∧ wT u % 2 = 1)
noncomputable def wR (k : Int) (how : Nat) : Int := if (iN k || whB (foB k)) = true then k else sgZ k (ofW (wT (foB k) + (if wA (foB k) (decide (k < 0)) how = true then 1 else 0)))
theorem dX14_whole_0 : decode cX14_whole 0 = .ok (.lload_n 0, 1) := by decide +kernel
theorem dX14_whole_1 : decode cX14_whole 1 = .ok (.invokestatic 178, 3) := by decide +kernel
theorem dX14_whole_4 : decode cX14_whole 4 = .ok (.ifCond .ne 10, 3) := by decide +kernel
theorem dX14_whole_7 : decode cX14_whole 7 = .ok (.lload_n 0, 1) := by decide +kernel
theorem dX14_whole_8 : decode cX14_whole 8 = .ok (.invokestatic 232, 3) := by decide +kernel
theorem dX14_whole_11 : decode cX14_whole 11 = .ok (.ifCond .eq 8, 3) := by decide +kernel
theorem dX14_whole_14 : decode cX14_whole 14 = .ok (.lload_n 0, 1) := by decide +kernel
theorem dX14_whole_15 : decode cX14_whole 15 = .ok (.invokestatic 193, 3) := by decide +kernel
theorem dX14_whole_18 : decode cX14_whole 18 = .ok (.lreturn, 1) := by decide +kernel
theorem dX14_whole_19 : decode cX14_whole 19 = .ok (.lload_n 0, 1) := by decide +kernel
theorem dX14_whole_20 : decode cX14_whole 20 = .ok (.bipush 52, 2) := by decide +kernel
theorem dX14_whole_22 : decode cX14_whole 22 = .ok (.lushr, 1) := by decide +kernel
theorem dX14_whole_23 : decode cX14_whole 23 = .ok (.ldc2_w 222, 3) := by decide +kernel
theorem dX14_whole_26 : decode cX14_whole 26 = .ok (.land, 1) := by decide +kernel
theorem dX14_whole_27 : decode cX14_whole 27 = .ok (.lstore_n 3, 1) := by decide +kernel
theorem dX14_whole_28 : decode cX14_whole 28 = .ok (.lload_n 0, 1) := by decide +kernel
theorem dX14_whole_29 : decode cX14_whole 29 = .ok (.ldc2_w 224, 3) := by decide +kernel
theorem dX14_whole_32 : decode cX14_whole 32 = .ok (.land, 1) := by decide +kernel
theorem dX14_whole_33 : decode cX14_whole 33 = .ok (.ldc2_w 226, 3) := by decide +kernel
theorem dX14_whole_36 : decode cX14_whole 36 = .ok (.lor, 1) := by decide +kernel
theorem dX14_whole_37 : decode cX14_whole 37 = .ok (.lstore 5, 2) := by decide +kernel
theorem dX14_whole_39 : decode cX14_whole 39 = .ok (.ldc2_w 230, 3) := by decide +kernel
theorem dX14_whole_42 : decode cX14_whole 42 = .ok (.lload_n 3, 1) := by decide +kernel
theorem dX14_whole_43 : decode cX14_whole 43 = .ok (.lsub, 1) := by decide +kernel
theorem dX14_whole_44 : decode cX14_whole 44 = .ok (.l2i, 1) := by decide +kernel
theorem dX14_whole_45 : decode cX14_whole 45 = .ok (.istore 7, 2) := by decide +kernel
theorem dX14_whole_47 : decode cX14_whole 47 = .ok (.lload_n 0, 1) := by decide +kernel
theorem dX14_whole_48 : decode cX14_whole 48 = .ok (.lconst 0, 1) := by decide +kernel
theorem dX14_whole_49 : decode cX14_whole 49 = .ok (.lcmp, 1) := by decide +kernel
theorem dX14_whole_50 : decode cX14_whole 50 = .ok (.ifCond .ge 7, 3) := by decide +kernel
theorem dX14_whole_53 : decode cX14_whole 53 = .ok (.iconst 1, 1) := by decide +kernel
theorem dX14_whole_54 : decode cX14_whole 54 = .ok (.goto 4, 3) := by decide +kernel
theorem dX14_whole_57 : decode cX14_whole 57 = .ok (.iconst 0, 1) := by decide +kernel
theorem dX14_whole_58 : decode cX14_whole 58 = .ok (.istore 8, 2) := by decide +kernel
theorem dX14_whole_60 : decode cX14_whole 60 = .ok (.lload_n 3, 1) := by decide +kernel
theorem dX14_whole_61 : decode cX14_whole 61 = .ok (.lconst 0, 1) := by decide +kernel
theorem dX14_whole_62 : decode cX14_whole 62 = .ok (.lcmp, 1) := by decide +kernel
theorem dX14_whole_63 : decode cX14_whole 63 = .ok (.ifCond .eq 10, 3) := by decide +kernel
theorem dX14_whole_66 : decode cX14_whole 66 = .ok (.iload 7, 2) := by decide +kernel
theorem dX14_whole_68 : decode cX14_whole 68 = .ok (.bipush 53, 2) := by decide +kernel
theorem dX14_whole_70 : decode cX14_whole 70 = .ok (.if_icmp .le 7, 3) := by decide +kernel
theorem dX14_whole_73 : decode cX14_whole 73 = .ok (.lconst 0, 1) := by decide +kernel
theorem dX14_whole_74 : decode cX14_whole 74 = .ok (.goto 8, 3) := by decide +kernel
theorem dX14_whole_77 : decode cX14_whole 77 = .ok (.lload 5, 2) := by decide +kernel
theorem dX14_whole_79 : decode cX14_whole 79 = .ok (.iload 7, 2) := by decide +kernel
theorem dX14_whole_81 : decode cX14_whole 81 = .ok (.lshr, 1) := by decide +kernel
theorem dX14_whole_82 : decode cX14_whole 82 = .ok (.lstore 9, 2) := by decide +kernel
theorem dX14_whole_84 : decode cX14_whole 84 = .ok (.iload_n 2, 1) := by decide +kernel
theorem dX14_whole_85 : decode cX14_whole 85 = .ok (.ifCond .ne 8, 3) := by decide +kernel
theorem dX14_whole_88 : decode cX14_whole 88 = .ok (.iload 8, 2) := by decide +kernel
theorem dX14_whole_90 : decode cX14_whole 90 = .ok (.goto 22, 3) := by decide +kernel
theorem dX14_whole_93 : decode cX14_whole 93 = .ok (.iload_n 2, 1) := by decide +kernel
theorem dX14_whole_94 : decode cX14_whole 94 = .ok (.iconst 1, 1) := by decide +kernel
theorem dX14_whole_95 : decode cX14_whole 95 = .ok (.if_icmp .ne 16, 3) := by decide +kernel
theorem dX14_whole_98 : decode cX14_whole 98 = .ok (.iload 8, 2) := by decide +kernel
theorem dX14_whole_100 : decode cX14_whole 100 = .ok (.ifCond .ne 7, 3) := by decide +kernel
theorem dX14_whole_103 : decode cX14_whole 103 = .ok (.iconst 1, 1) := by decide +kernel
theorem dX14_whole_104 : decode cX14_whole 104 = .ok (.goto 8, 3) := by decide +kernel
theorem dX14_whole_107 : decode cX14_whole 107 = .ok (.iconst 0, 1) := by decide +kernel
theorem dX14_whole_108 : decode cX14_whole 108 = .ok (.goto 4, 3) := by decide +kernel
theorem dX14_whole_111 : decode cX14_whole 111 = .ok (.iconst 0, 1) := by decide +kernel
theorem dX14_whole_112 : decode cX14_whole 112 = .ok (.istore 11, 2) := by decide +kernel
theorem dX14_whole_114 : decode cX14_whole 114 = .ok (.iload_n 2, 1) := by decide +kernel
theorem dX14_whole_115 : decode cX14_whole 115 = .ok (.iconst 3, 1) := by decide +kernel
theorem dX14_whole_116 : decode cX14_whole 116 = .ok (.if_icmp .ne 69, 3) := by decide +kernel
theorem dX14_whole_119 : decode cX14_whole 119 = .ok (.lload_n 3, 1) := by decide +kernel
theorem dX14_whole_120 : decode cX14_whole 120 = .ok (.lconst 0, 1) := by decide +kernel
theorem dX14_whole_121 : decode cX14_whole 121 = .ok (.lcmp, 1) := by decide +kernel
theorem dX14_whole_122 : decode cX14_whole 122 = .ok (.ifCond .le 63, 3) := by decide +kernel
theorem dX14_whole_125 : decode cX14_whole 125 = .ok (.iload 7, 2) := by decide +kernel
theorem dX14_whole_127 : decode cX14_whole 127 = .ok (.bipush 54, 2) := by decide +kernel
theorem dX14_whole_129 : decode cX14_whole 129 = .ok (.if_icmp .ge 56, 3) := by decide +kernel
theorem dX14_whole_132 : decode cX14_whole 132 = .ok (.lload 5, 2) := by decide +kernel
theorem dX14_whole_134 : decode cX14_whole 134 = .ok (.lconst 1, 1) := by decide +kernel
theorem dX14_whole_135 : decode cX14_whole 135 = .ok (.iload 7, 2) := by decide +kernel
theorem dX14_whole_137 : decode cX14_whole 137 = .ok (.lshl, 1) := by decide +kernel
theorem dX14_whole_138 : decode cX14_whole 138 = .ok (.lconst 1, 1) := by decide +kernel
theorem dX14_whole_139 : decode cX14_whole 139 = .ok (.lsub, 1) := by decide +kernel
theorem dX14_whole_140 : decode cX14_whole 140 = .ok (.land, 1) := by decide +kernel
theorem dX14_whole_141 : decode cX14_whole 141 = .ok (.lstore 12, 2) := by decide +kernel
theorem dX14_whole_143 : decode cX14_whole 143 = .ok (.lconst 1, 1) := by decide +kernel
theorem dX14_whole_144 : decode cX14_whole 144 = .ok (.iload 7, 2) := by decide +kernel
theorem dX14_whole_146 : decode cX14_whole 146 = .ok (.iconst 1, 1) := by decide +kernel
theorem dX14_whole_147 : decode cX14_whole 147 = .ok (.isub, 1) := by decide +kernel
theorem dX14_whole_148 : decode cX14_whole 148 = .ok (.lshl, 1) := by decide +kernel
theorem dX14_whole_149 : decode cX14_whole 149 = .ok (.lstore 14, 2) := by decide +kernel
theorem dX14_whole_151 : decode cX14_whole 151 = .ok (.lload 12, 2) := by decide +kernel
theorem dX14_whole_153 : decode cX14_whole 153 = .ok (.lload 14, 2) := by decide +kernel
theorem dX14_whole_155 : decode cX14_whole 155 = .ok (.lcmp, 1) := by decide +kernel
theorem dX14_whole_156 : decode cX14_whole 156 = .ok (.ifCond .gt 22, 3) := by decide +kernel
theorem dX14_whole_159 : decode cX14_whole 159 = .ok (.lload 12, 2) := by decide +kernel
theorem dX14_whole_161 : decode cX14_whole 161 = .ok (.lload 14, 2) := by decide +kernel
theorem dX14_whole_163 : decode cX14_whole 163 = .ok (.lcmp, 1) := by decide +kernel
theorem dX14_whole_164 : decode cX14_whole 164 = .ok (.ifCond .ne 18, 3) := by decide +kernel
theorem dX14_whole_167 : decode cX14_whole 167 = .ok (.lload 9, 2) := by decide +kernel
theorem dX14_whole_169 : decode cX14_whole 169 = .ok (.ldc2_w 80, 3) := by decide +kernel
theorem dX14_whole_172 : decode cX14_whole 172 = .ok (.lrem, 1) := by decide +kernel
theorem dX14_whole_173 : decode cX14_whole 173 = .ok (.lconst 1, 1) := by decide +kernel
theorem dX14_whole_174 : decode cX14_whole 174 = .ok (.lcmp, 1) := by decide +kernel
theorem dX14_whole_175 : decode cX14_whole 175 = .ok (.ifCond .ne 7, 3) := by decide +kernel
theorem dX14_whole_178 : decode cX14_whole 178 = .ok (.iconst 1, 1) := by decide +kernel
theorem dX14_whole_179 : decode cX14_whole 179 = .ok (.goto 4, 3) := by decide +kernel
theorem dX14_whole_182 : decode cX14_whole 182 = .ok (.iconst 0, 1) := by decide +kernel
theorem dX14_whole_183 : decode cX14_whole 183 = .ok (.istore 11, 2) := by decide +kernel
theorem dX14_whole_185 : decode cX14_whole 185 = .ok (.iload 11, 2) := by decide +kernel
theorem dX14_whole_187 : decode cX14_whole 187 = .ok (.ifCond .eq 10, 3) := by decide +kernel
theorem dX14_whole_190 : decode cX14_whole 190 = .ok (.lload 9, 2) := by decide +kernel
theorem dX14_whole_192 : decode cX14_whole 192 = .ok (.lconst 1, 1) := by decide +kernel
theorem dX14_whole_193 : decode cX14_whole 193 = .ok (.ladd, 1) := by decide +kernel
theorem dX14_whole_194 : decode cX14_whole 194 = .ok (.goto 5, 3) := by decide +kernel
theorem dX14_whole_197 : decode cX14_whole 197 = .ok (.lload 9, 2) := by decide +kernel
theorem dX14_whole_199 : decode cX14_whole 199 = .ok (.lstore 9, 2) := by decide +kernel
theorem dX14_whole_201 : decode cX14_whole 201 = .ok (.iload 8, 2) := by decide +kernel
theorem dX14_whole_203 : decode cX14_whole 203 = .ok (.ifCond .eq 9, 3) := by decide +kernel
theorem dX14_whole_206 : decode cX14_whole 206 = .ok (.lload 9, 2) := by decide +kernel
theorem dX14_whole_208 : decode cX14_whole 208 = .ok (.lneg, 1) := by decide +kernel
theorem dX14_whole_209 : decode cX14_whole 209 = .ok (.goto 5, 3) := by decide +kernel
theorem dX14_whole_212 : decode cX14_whole 212 = .ok (.lload 9, 2) := by decide +kernel
theorem dX14_whole_214 : decode cX14_whole 214 = .ok (.invokestatic 235, 3) := by decide +kernel
theorem dX14_whole_217 : decode cX14_whole 217 = .ok (.lreturn, 1) := by decide +kernel
abbrev r_X14_whole : Room := { frames := 1, cells := 0, slots := 0, locals := 26 }
abbrev m_X14_whole : xMd := (cX14_whole, RX14, 16, (some FieldType.long), false, r_X14_whole)
def b_X14_whole_14 (Q : xQ) : xK := x_lload 0 <| x_call C_X14_plainZero 1 0 0 <| x_lret Q
def b_X14_whole_214 (Q : xQ) : xK := x_call C_X14_ofWhole 1 0 0 <| x_lret Q
def b_X14_whole_199 (Q : xQ) : xK := x_lstore 9 <| x_iload 8 <| x_if_eq (x_lload 9 <| (b_X14_whole_214 Q)) <| x_lload 9 <| x_lneg <| (b_X14_whole_214 Q)
def b_X14_whole_185 (Q : xQ) : xK := x_iload 11 <| x_if_eq (x_lload 9 <| (b_X14_whole_199 Q)) <| x_lload 9 <| x_c (.long 1) <| x_ladd <| (b_X14_whole_199 Q)
def b_X14_whole_183 (Q : xQ) : xK := x_istore 11 <| (b_X14_whole_185 Q)
def b_X14_whole_178 (Q : xQ) : xK := x_c (.int 1) <| (b_X14_whole_183 Q)
def b_X14_whole_182 (Q : xQ) : xK := x_c (.int 0) <| (b_X14_whole_183 Q)
def b_X14_whole_112 (Q : xQ) : xK := x_istore 11 <| x_iload 2 <| x_c (.int 3) <| x_icmp_ne ((b_X14_whole_185 Q)) <| x_lload 3 <| x_c (.long 0) <| x_lcmp <| x_if_le ((b_X14_whole_185 Q)) <| x_iload 7 <| x_c (.int 54) <| x_icmp_ge ((b_X14_whole_185 Q)) <| x_lload 5 <| x_c (.long 1) <| x_iload 7 <| x_lshl <| x_c (.long 1) <| x_lsub <| x_land <| x_lstore 12 <| x_c (.long 1) <| x_iload 7 <| x_c (.int 1) <| x_isub <| x_lshl <| x_lstore 14 <| x_lload 12 <| x_lload 14 <| x_lcmp <| x_if_gt ((b_X14_whole_178 Q)) <| x_lload 12 <| x_lload 14 <| x_lcmp <| x_if_ne ((b_X14_whole_182 Q)) <| x_lload 9 <| x_c (.long 2) <| x_lrem <| x_c (.long 1) <| x_lcmp <| x_if_ne ((b_X14_whole_182 Q)) <| (b_X14_whole_178 Q)
def b_X14_whole_82 (Q : xQ) : xK := x_lstore 9 <| x_iload 2 <| x_if_ne (x_iload 2 <| x_c (.int 1) <| x_icmp_ne (x_c (.int 0) <| (b_X14_whole_112 Q)) <| x_iload 8 <| x_if_ne (x_c (.int 0) <| (b_X14_whole_112 Q)) <| x_c (.int 1) <| (b_X14_whole_112 Q)) <| x_iload 8 <| (b_X14_whole_112 Q)
def b_X14_whole_73 (Q : xQ) : xK := x_c (.long 0) <| (b_X14_whole_82 Q)
def b_X14_whole_58 (Q : xQ) : xK := x_istore 8 <| x_lload 3 <| x_c (.long 0) <| x_lcmp <| x_if_eq ((b_X14_whole_73 Q)) <| x_iload 7 <| x_c (.int 53) <| x_icmp_le (x_lload 5 <| x_iload 7 <| x_lshr <| (b_X14_whole_82 Q)) <| (b_X14_whole_73 Q)
def b_X14_whole_0 (Q : xQ) : xK := x_lload 0 <| x_call C_X14_isInfinite 1 0 0 <| x_if_ne ((b_X14_whole_14 Q)) <| x_lload 0 <| x_call C_X14_isWhole 1 0 0 <| x_if_eq (x_lload 0 <| x_c (.int 52) <| x_lushr <| x_c (.long 2047) <| x_land <| x_lstore 3 <| x_lload 0 <| x_c (.long 4503599627370495) <| x_land <| x_c (.long 4503599627370496) <| x_lor <| x_lstore 5 <| x_c (.long 1075) <| x_lload 3 <| x_lsub <| x_l2i <| x_istore 7 <| x_lload 0 <| x_c (.long 0) <| x_lcmp <| x_if_ge (x_c (.int 0) <| (b_X14_whole_58 Q)) <| x_c (.int 1) <| (b_X14_whole_58 Q)) <| (b_X14_whole_14 Q)
theorem s_X14_whole_14 (G : xG) (l : Launch) (Q : xQ) : xW G l m_X14_whole xX0 (xPm G Q r_X14_whole) 14 (b_X14_whole_14 Q) := xo_lload_n (pc := 14) (i := 0) dX14_whole_14 rfl <| xo_callS (pc := 15) (np := 1) (cM_X14_plainZero G l) dX14_whole_15 kw1311 kw1309 kw1310 kw13 (by decide +kernel) (by decide) <| xo_lret (pc := 18) rfl dX14_whole_18
theorem s_X14_whole_214 (G : xG) (l : Launch) (Q : xQ) : xW G l m_X14_whole xX0 (xPm G Q r_X14_whole) 214 (b_X14_whole_214 Q) := xo_callS (pc := 214) (np := 1) (cM_X14_ofWhole G l) dX14_whole_214 kw1513 kw1511 kw1512 kw13 (by decide +kernel) (by decide) <| xo_lret (pc := 217) rfl dX14_whole_217
theorem s_X14_whole_199 (G : xG) (l : Launch) (Q : xQ) : xW G l m_X14_whole xX0 (xPm G Q r_X14_whole) 199 (b_X14_whole_199 Q) := xo_lstore (pc := 199) (i := 9) dX14_whole_199 (by decide) <| xo_iload (pc := 201) (i := 8) dX14_whole_201 <| xo_if_eq (pc := 203) (tgt := 212) dX14_whole_203 (by decide) (xo_lload (pc := 212) (i := 9) dX14_whole_212 <| (s_X14_whole_214 G l Q)) <| xo_lload (pc := 206) (i := 9) dX14_whole_206 <| xo_lneg (pc := 208) dX14_whole_208 <| xo_goto (pc := 209) (tgt := 214) dX14_whole_209 (by decide) <| (s_X14_whole_214 G l Q)
theorem s_X14_whole_185 (G : xG) (l : Launch) (Q : xQ) : xW G l m_X14_whole xX0 (xPm G Q r_X14_whole) 185 (b_X14_whole_185 Q) := xo_iload (pc := 185) (i := 11) dX14_whole_185 <| xo_if_eq (pc := 187) (tgt := 197) dX14_whole_187 (by decide) (xo_lload (pc := 197) (i := 9) dX14_whole_197 <| (s_X14_whole_199 G l Q)) <| xo_lload (pc := 190) (i := 9) dX14_whole_190 <| xo_lconst (pc := 192) dX14_whole_192 (by decide) <| xo_ladd (pc := 193) dX14_whole_193 <| xo_goto (pc := 194) (tgt := 199) dX14_whole_194 (by decide) <| (s_X14_whole_199 G l Q)
theorem s_X14_whole_183 (G : xG) (l : Launch) (Q : xQ) : xW G l m_X14_whole xX0 (xPm G Q r_X14_whole) 183 (b_X14_whole_183 Q) := xo_istore (pc := 183) (i := 11) dX14_whole_183 (by decide) <| (s_X14_whole_185 G l Q)
theorem s_X14_whole_178 (G : xG) (l : Launch) (Q : xQ) : xW G l m_X14_whole xX0 (xPm G Q r_X14_whole) 178 (b_X14_whole_178 Q) := xo_iconst (pc := 178) dX14_whole_178 (by decide) <| xo_goto (pc := 179) (tgt := 183) dX14_whole_179 (by decide) <| (s_X14_whole_183 G l Q)
theorem s_X14_whole_182 (G : xG) (l : Launch) (Q : xQ) : xW G l m_X14_whole xX0 (xPm G Q r_X14_whole) 182 (b_X14_whole_182 Q) := xo_iconst (pc := 182) dX14_whole_182 (by decide) <| (s_X14_whole_183 G l Q)
theorem s_X14_whole_112 (G : xG) (l : Launch) (Q : xQ) : xW G l m_X14_whole xX0 (xPm G Q r_X14_whole) 112 (b_X14_whole_112 Q) := xo_istore (pc := 112) (i := 11) dX14_whole_112 (by decide) <| xo_iload_n (pc := 114) (i := 2) dX14_whole_114 rfl <| xo_iconst (pc := 115) dX14_whole_115 (by decide) <| xo_icmp_ne (pc := 116) (tgt := 185) dX14_whole_116 (by decide) ((s_X14_whole_185 G l Q)) <| xo_lload_n (pc := 119) (i := 3) dX14_whole_119 rfl <| xo_lconst (pc := 120) dX14_whole_120 (by decide) <| xo_lcmp (pc := 121) dX14_whole_121 <| xo_if_le (pc := 122) (tgt := 185) dX14_whole_122 (by decide) ((s_X14_whole_185 G l Q)) <| xo_iload (pc := 125) (i := 7) dX14_whole_125 <| xo_bipush (pc := 127) dX14_whole_127 (by decide) <| xo_icmp_ge (pc := 129) (tgt := 185) dX14_whole_129 (by decide) ((s_X14_whole_185 G l Q)) <| xo_lload (pc := 132) (i := 5) dX14_whole_132 <| xo_lconst (pc := 134) dX14_whole_134 (by decide) <| xo_iload (pc := 135) (i := 7) dX14_whole_135 <| xo_lshl (pc := 137) dX14_whole_137 <| xo_lconst (pc := 138) dX14_whole_138 (by decide) <| xo_lsub (pc := 139) dX14_whole_139 <| xo_land (pc := 140) dX14_whole_140 <| xo_lstore (pc := 141) (i := 12) dX14_whole_141 (by decide) <| xo_lconst (pc := 143) dX14_whole_143 (by decide) <| xo_iload (pc := 144) (i := 7) dX14_whole_144 <| xo_iconst (pc := 146) dX14_whole_146 (by decide) <| xo_isub (pc := 147) dX14_whole_147 <| xo_lshl (pc := 148) dX14_whole_148 <| xo_lstore (pc := 149) (i := 14) dX14_whole_149 (by decide) <| xo_lload (pc := 151) (i := 12) dX14_whole_151 <| xo_lload (pc := 153) (i := 14) dX14_whole_153 <| xo_lcmp (pc := 155) dX14_whole_155 <| xo_if_gt (pc := 156) (tgt := 178) dX14_whole_156 (by decide) ((s_X14_whole_178 G l Q)) <| xo_lload (pc := 159) (i := 12) dX14_whole_159 <| xo_lload (pc := 161) (i := 14) dX14_whole_161 <| xo_lcmp (pc := 163) dX14_whole_163 <| xo_if_ne (pc := 164) (tgt := 182) dX14_whole_164 (by decide) ((s_X14_whole_182 G l Q)) <| xo_lload (pc := 167) (i := 9) dX14_whole_167 <| xo_ldc2_w (pc := 169) dX14_whole_169 kw1456 <| xo_lrem (pc := 172) dX14_whole_172 <| xo_lconst (pc := 173) dX14_whole_173 (by decide) <| xo_lcmp (pc := 174) dX14_whole_174 <| xo_if_ne (pc := 175) (tgt := 182) dX14_whole_175 (by decide) ((s_X14_whole_182 G l Q)) <| (s_X14_whole_178 G l Q)
theorem s_X14_whole_82 (G : xG) (l : Launch) (Q : xQ) : xW G l m_X14_whole xX0 (xPm G Q r_X14_whole) 82 (b_X14_whole_82 Q) := xo_lstore (pc := 82) (i := 9) dX14_whole_82 (by decide) <| xo_iload_n (pc := 84) (i := 2) dX14_whole_84 rfl <| xo_if_ne (pc := 85) (tgt := 93) dX14_whole_85 (by decide) (xo_iload_n (pc := 93) (i := 2) dX14_whole_93 rfl <| xo_iconst (pc := 94) dX14_whole_94 (by decide) <| xo_icmp_ne (pc := 95) (tgt := 111) dX14_whole_95 (by decide) (xo_iconst (pc := 111) dX14_whole_111 (by decide) <| (s_X14_whole_112 G l Q)) <| xo_iload (pc := 98) (i := 8) dX14_whole_98 <| xo_if_ne (pc := 100) (tgt := 107) dX14_whole_100 (by decide) (xo_iconst (pc := 107) dX14_whole_107 (by decide) <| xo_goto (pc := 108) (tgt := 112) dX14_whole_108 (by decide) <| (s_X14_whole_112 G l Q)) <| xo_iconst (pc := 103) dX14_whole_103 (by decide) <| xo_goto (pc := 104) (tgt := 112) dX14_whole_104 (by decide) <| (s_X14_whole_112 G l Q)) <| xo_iload (pc := 88) (i := 8) dX14_whole_88 <| xo_goto (pc := 90) (tgt := 112) dX14_whole_90 (by decide) <| (s_X14_whole_112 G l Q)
theorem s_X14_whole_73 (G : xG) (l : Launch) (Q : xQ) : xW G l m_X14_whole xX0 (xPm G Q r_X14_whole) 73 (b_X14_whole_73 Q) := xo_lconst (pc := 73) dX14_whole_73 (by decide) <| xo_goto (pc := 74) (tgt := 82) dX14_whole_74 (by decide) <| (s_X14_whole_82 G l Q)
theorem s_X14_whole_58 (G : xG) (l : Launch) (Q : xQ) : xW G l m_X14_whole xX0 (xPm G Q r_X14_whole) 58 (b_X14_whole_58 Q) := xo_istore (pc := 58) (i := 8) dX14_whole_58 (by decide) <| xo_lload_n (pc := 60) (i := 3) dX14_whole_60 rfl <| xo_lconst (pc := 61) dX14_whole_61 (by decide) <| xo_lcmp (pc := 62) dX14_whole_62 <| xo_if_eq (pc := 63) (tgt := 73) dX14_whole_63 (by decide) ((s_X14_whole_73 G l Q)) <| xo_iload (pc := 66) (i := 7) dX14_whole_66 <| xo_bipush (pc := 68) dX14_whole_68 (by decide) <| xo_icmp_le (pc := 70) (tgt := 77) dX14_whole_70 (by decide) (xo_lload (pc := 77) (i := 5) dX14_whole_77 <| xo_iload (pc := 79) (i := 7) dX14_whole_79 <| xo_lshr (pc := 81) dX14_whole_81 <| (s_X14_whole_82 G l Q)) <| (s_X14_whole_73 G l Q)
theorem s_X14_whole_0 (G : xG) (l : Launch) (Q : xQ) : xW G l m_X14_whole xX0 (xPm G Q r_X14_whole) 0 (b_X14_whole_0 Q) := xo_lload_n (pc := 0) (i := 0) dX14_whole_0 rfl <| xo_callS (pc := 1) (np := 1) (cM_X14_isInfinite G l) dX14_whole_1 kw1322 kw1320 kw1321 kw13 (by decide +kernel) (by decide) <| xo_if_ne (pc := 4) (tgt := 14) dX14_whole_4 (by decide) ((s_X14_whole_14 G l Q)) <| xo_lload_n (pc := 7) (i := 0) dX14_whole_7 rfl <| xo_callS (pc := 8) (np := 1) (cM_X14_isWhole G l) dX14_whole_8 kw1505 kw1503 kw1504 kw13 (by decide +kernel) (by decide) <| xo_if_eq (pc := 11) (tgt := 19) dX14_whole_11 (by decide) (xo_lload_n (pc := 19) (i := 0) dX14_whole_19 rfl <| xo_bipush (pc := 20) dX14_whole_20 (by decide) <| xo_lushr (pc := 22) dX14_whole_22 <| xo_ldc2_w (pc := 23) dX14_whole_23 kw1506 <| xo_land (pc := 26) dX14_whole_26 <| xo_lstore_n (pc := 27) (i := 3) dX14_whole_27 rfl (by decide) <| xo_lload_n (pc := 28) (i := 0) dX14_whole_28 rfl <| xo_ldc2_w (pc := 29) dX14_whole_29 kw1507 <| xo_land (pc := 32) dX14_whole_32 <| xo_ldc2_w (pc := 33) dX14_whole_33 kw1508 <| xo_lor (pc := 36) dX14_whole_36 <| xo_lstore (pc := 37) (i := 5) dX14_whole_37 (by decide) <| xo_ldc2_w (pc := 39) dX14_whole_39 kw1510 <| xo_lload_n (pc := 42) (i := 3) dX14_whole_42 rfl <| xo_lsub (pc := 43) dX14_whole_43 <| xo_l2i (pc := 44) dX14_whole_44 <| xo_istore (pc := 45) (i := 7) dX14_whole_45 (by decide) <| xo_lload_n (pc := 47) (i := 0) dX14_whole_47 rfl <| xo_lconst (pc := 48) dX14_whole_48 (by decide) <| xo_lcmp (pc := 49) dX14_whole_49 <| xo_if_ge (pc := 50) (tgt := 57) dX14_whole_50 (by decide) (xo_iconst (pc := 57) dX14_whole_57 (by decide) <| (s_X14_whole_58 G l Q)) <| xo_iconst (pc := 53) dX14_whole_53 (by decide) <| xo_goto (pc := 54) (tgt := 58) dX14_whole_54 (by decide) <| (s_X14_whole_58 G l Q)) <| (s_X14_whole_14 G l Q)

def C_X14_whole : xC := fun av S Q => ∃ (k : Int) (how : Nat), av = [.long (lN (foB k)), .int (nI how)] ∧ oF k ∧ how ≤ 3 ∧ Q (some (.long (lN (foB (wR k how))))) S
theorem whB_f {u : Nat} (h : whB u = false) : 1 ≤ shI u ∧ shI u ≤ 1074 ∧ fP u % 2 ^ (shI u).toNat ≠ 0 := by
  have h' : ¬ fP u % 2 ^ (shI u).toNat = 0 := of_decide_eq_false h
  refine ⟨?_, ?_, h'⟩
  · rcases Int.lt_or_le (shI u) 1 with c | c
    · rw [show (shI u).toNat = 0 by omega, Nat.pow_zero, Nat.mod_one] at h'
      exact absurd rfl h'
    · exact c
  · unfold shI
    split <;> omega
theorem wT_lt {u : Nat} (h : whB u = false) : wT u < 2 ^ 52 := by
  obtain ⟨h1, -, -⟩ := whB_f h
  unfold wT
  have := fP_lt u
  have p : 2 ^ 1 ≤ 2 ^ (shI u).toNat := Nat.pow_le_pow_right (by decide) (by omega)
  rw [Nat.div_lt_iff_lt_mul (Nat.two_pow_pos _)]
  have : 2 ^ 52 * 2 ^ 1 ≤ 2 ^ 52 * 2 ^ (shI u).toNat := Nat.mul_le_mul_left _ p
  omega
theorem wT_0 {u : Nat} (h : 53 ≤ shI u) : wT u = 0 := Nat.div_eq_of_lt (Nat.lt_of_lt_of_le (fP_lt u) (Nat.pow_le_pow_right (by decide) (by omega)))
theorem wA_3 {u : Nat} {ng : Bool} (h : 54 ≤ shI u) : wA u ng 3 = false := by
  have f := fP_lt u
  have p : 2 ^ 53 ≤ 2 ^ ((shI u).toNat - 1) := Nat.pow_le_pow_right (by decide) (by omega)
  have m := Nat.mod_le (fP u) (2 ^ (shI u).toNat)
  unfold wA
  rw [if_neg (by decide), if_neg (by decide), if_neg (by decide)]
  exact decide_eq_false (by omega)
set_option maxHeartbeats 4000000 in
theorem wh_58 {Q : xQ} {S : xS} {k : Int} {how u : Nat} (hh : how ≤ 3) (y : whB u = false) (hQ : Q (some (.long (lN (foB (sgZ k (ofW (wT u + (if wA u (decide (k < 0)) how = true then 1 else 0)))))))) S) : b_X14_whole_58 Q [(7, .int (iZ (1075 - (fE u : Int)))), (5, .long (lN (fF u + 1 * 2 ^ 52))), (3, .long (lN (fE u))), (0, .long (lN u)), (2, .int (nI how))] [.int (bI (decide (k < 0)))] S := by
  obtain ⟨s1, s2, s3⟩ := whB_f y
  have tl := wT_lt y
  have el := fE_lt u
  have b185 : ∀ (aw : Bool), aw = wA u (decide (k < 0)) how → ∀ pre : List (Nat × Value), (pre = [] ∨ ∃ x y, pre = [(14, .long x), (12, .long y)]) → b_X14_whole_185 Q ((11, .int (bI aw)) :: (pre ++ [(9, .long (lN (wT u))), (8, .int (bI (decide (k < 0)))), (7, .int (iZ (1075 - (fE u : Int)))), (5, .long (lN (fF u + 1 * 2 ^ 52))), (3, .long (lN (fE u))), (0, .long (lN u)), (2, .int (nI how))])) [] S := by
    intro aw ha
    have key : ∀ (P : Nat) (K : xQ), P = wT u + (if aw = true then 1 else 0) → K (some (.long (lN (foB (sgZ k (ofW P)))))) S → (decide (k < 0) = false → C_X14_ofWhole [.long (lN P)] S K) ∧ (¬ decide (k < 0) = false → C_X14_ofWhole [.long (-lN P)] S K) := by
      intro P K hP hK
      have Pb : P ≤ 2 ^ 52 := by
        rw [hP]
        split <;> omega
      refine ⟨fun hn => ?_, fun hn => ?_⟩
      · rw [← lZ_nat]
        refine ⟨P, rfl, by omega, by omega, fun _ _ => ?_⟩
        have k0 : ¬ k < 0 := of_decide_eq_false hn
        unfold sgZ at hK ⊢
        rw [if_neg k0] at hK
        rw [if_neg (by omega), Int.natAbs_natCast]
        exact hK
      · rw [← lZ_nat, lZ_neg]
        refine ⟨-(P : Int), rfl, by omega, by omega, fun _ _ => ?_⟩
        have k0 : k < 0 := of_decide_eq_true (eq_true_of_ne_false hn)
        unfold sgZ at hK ⊢
        rw [if_pos k0] at hK
        rw [Int.natAbs_neg, Int.natAbs_natCast]
        rcases Nat.eq_zero_or_pos P with q | q
        · rw [q, ofW_0] at hK ⊢
          exact hK
        · rw [if_pos (by omega)]
          exact hK
    have l1 : lN (wT u) + 1 = lN (wT u + 1) := lN_add _ 1
    rw [← ha] at hQ
    rintro pre (rfl | ⟨x, y, rfl⟩)
    all_goals
      simp only [q_c, x_iload, x_lload, x_aload, q_istore, q_lstore, q_astore, q_astore2, x_iinc, q_iadd, q_isub, q_imul, q_iand, q_ior, q_ixor, q_ladd, q_lsub, q_lmul, q_land, q_lor, q_lxor, q_idiv, q_irem, q_ldiv, q_lrem, q_ineg, q_lneg, q_ishl, q_ishr, q_iushr, q_lshl, q_lshr, q_lushr, q_i2l, q_l2i, q_i2b, q_i2c, q_lcmp, q_if_eq, q_if_ne, q_if_lt, q_if_ge, q_if_gt, q_if_le, q_icmp_eq, q_icmp_ne, q_icmp_lt, q_icmp_ge, q_icmp_gt, q_icmp_le, q_dup, q_pop, q_dup_x1, q_dup2, x_iret, x_zret, x_lret, x_aret, x_vret, x_call, x_callv, x_calli, x_oinit, x_mmax, x_mmin, x_mabs, x_mmaxL, x_mminL, x_mabsL, lg_cmp_ge, lg_cmp_le, lg_cmp_gt, lg_cmp_lt, lg_cmp_eq, xlk, q_xs1, q_xs2, lv_args, Value.category, List.filter_cons, List.filter_nil, Nat.reduceAdd, Nat.reduceBEq, Nat.reduceEqDiff, Nat.reduceSub, Nat.sub_zero, beq_self_eq_true, Bool.not_true, Bool.not_false, Bool.and_true, Bool.and_false, Bool.true_and, Bool.false_and, reduceIte, reduceCtorEq, Bool.false_eq_true, Nat.one_ne_zero, Nat.zero_ne_one, Nat.zero_add, Option.toList_some, Option.toList_none, List.nil_append, List.cons_append, List.take_succ_cons, List.take_zero, List.take_nil, List.drop_succ_cons, List.drop_zero, List.length_cons, List.length_nil, List.reverse_cons, List.reverse_nil, List.head?_cons, List.map_cons, List.map_nil, List.sum_cons, List.sum_nil, true_and, and_true, List.getElem?_cons_zero, List.getElem?_cons_succ, Prod.eta, x_get, x_put, x_iald, x_iast, x_bald, x_bast, x_lald, x_last, x_alen, xup_s, xup_a1, xup_1a, xup_uu, nr_i, nr_l, nr_o, nr_a, ft_i, ft_l, ft_o, ft_a, Nat.reduceLT, i_cl0, i_cl1, i_n1, i_m1, List.set_cons_zero, List.set_cons_succ, Nat.reduceLeDiff, Nat.le_refl, Nat.zero_le, Nat.add_zero, x_no, x_ifnull, x_ifnonnull, x_acmp_eq, x_acmp_ne, x_swl, x_tsw, x_castC, true_or, or_true, nr_z, ft_z, nr_z0, nr_z1, ft_z0, ft_z1, nr_on, nr_an, ft_on, ft_an, b_X14_whole_185, b_X14_whole_199, b_X14_whole_214, bI_e0, l1]
      refine ⟨fun q => key _ _ (by rw [q]; rfl) ?_, fun q => key _ _ (by rw [eq_true_of_ne_false q]; rfl) ?_⟩
      · rw [q, if_neg (by decide), Nat.add_zero] at hQ
        try simp only [q_c, x_iload, x_lload, x_aload, q_istore, q_lstore, q_astore, q_astore2, x_iinc, q_iadd, q_isub, q_imul, q_iand, q_ior, q_ixor, q_ladd, q_lsub, q_lmul, q_land, q_lor, q_lxor, q_idiv, q_irem, q_ldiv, q_lrem, q_ineg, q_lneg, q_ishl, q_ishr, q_iushr, q_lshl, q_lshr, q_lushr, q_i2l, q_l2i, q_i2b, q_i2c, q_lcmp, q_if_eq, q_if_ne, q_if_lt, q_if_ge, q_if_gt, q_if_le, q_icmp_eq, q_icmp_ne, q_icmp_lt, q_icmp_ge, q_icmp_gt, q_icmp_le, q_dup, q_pop, q_dup_x1, q_dup2, x_iret, x_zret, x_lret, x_aret, x_vret, x_call, x_callv, x_calli, x_oinit, x_mmax, x_mmin, x_mabs, x_mmaxL, x_mminL, x_mabsL, lg_cmp_ge, lg_cmp_le, lg_cmp_gt, lg_cmp_lt, lg_cmp_eq, xlk, q_xs1, q_xs2, lv_args, Value.category, List.filter_cons, List.filter_nil, Nat.reduceAdd, Nat.reduceBEq, Nat.reduceEqDiff, Nat.reduceSub, Nat.sub_zero, beq_self_eq_true, Bool.not_true, Bool.not_false, Bool.and_true, Bool.and_false, Bool.true_and, Bool.false_and, reduceIte, reduceCtorEq, Bool.false_eq_true, Nat.one_ne_zero, Nat.zero_ne_one, Nat.zero_add, Option.toList_some, Option.toList_none, List.nil_append, List.cons_append, List.take_succ_cons, List.take_zero, List.take_nil, List.drop_succ_cons, List.drop_zero, List.length_cons, List.length_nil, List.reverse_cons, List.reverse_nil, List.head?_cons, List.map_cons, List.map_nil, List.sum_cons, List.sum_nil, true_and, and_true, List.getElem?_cons_zero, List.getElem?_cons_succ, Prod.eta, x_get, x_put, x_iald, x_iast, x_bald, x_bast, x_lald, x_last, x_alen, xup_s, xup_a1, xup_1a, xup_uu, nr_i, nr_l, nr_o, nr_a, ft_i, ft_l, ft_o, ft_a, Nat.reduceLT, i_cl0, i_cl1, i_n1, i_m1, List.set_cons_zero, List.set_cons_succ, Nat.reduceLeDiff, Nat.le_refl, Nat.zero_le, Nat.add_zero, x_no, x_ifnull, x_ifnonnull, x_acmp_eq, x_acmp_ne, x_swl, x_tsw, x_castC, true_or, or_true, nr_z, ft_z, nr_z0, nr_z1, ft_z0, ft_z1, nr_on, nr_an, ft_on, ft_an]
        exact hQ
      · rw [eq_true_of_ne_false q, if_pos rfl] at hQ
        try simp only [q_c, x_iload, x_lload, x_aload, q_istore, q_lstore, q_astore, q_astore2, x_iinc, q_iadd, q_isub, q_imul, q_iand, q_ior, q_ixor, q_ladd, q_lsub, q_lmul, q_land, q_lor, q_lxor, q_idiv, q_irem, q_ldiv, q_lrem, q_ineg, q_lneg, q_ishl, q_ishr, q_iushr, q_lshl, q_lshr, q_lushr, q_i2l, q_l2i, q_i2b, q_i2c, q_lcmp, q_if_eq, q_if_ne, q_if_lt, q_if_ge, q_if_gt, q_if_le, q_icmp_eq, q_icmp_ne, q_icmp_lt, q_icmp_ge, q_icmp_gt, q_icmp_le, q_dup, q_pop, q_dup_x1, q_dup2, x_iret, x_zret, x_lret, x_aret, x_vret, x_call, x_callv, x_calli, x_oinit, x_mmax, x_mmin, x_mabs, x_mmaxL, x_mminL, x_mabsL, lg_cmp_ge, lg_cmp_le, lg_cmp_gt, lg_cmp_lt, lg_cmp_eq, xlk, q_xs1, q_xs2, lv_args, Value.category, List.filter_cons, List.filter_nil, Nat.reduceAdd, Nat.reduceBEq, Nat.reduceEqDiff, Nat.reduceSub, Nat.sub_zero, beq_self_eq_true, Bool.not_true, Bool.not_false, Bool.and_true, Bool.and_false, Bool.true_and, Bool.false_and, reduceIte, reduceCtorEq, Bool.false_eq_true, Nat.one_ne_zero, Nat.zero_ne_one, Nat.zero_add, Option.toList_some, Option.toList_none, List.nil_append, List.cons_append, List.take_succ_cons, List.take_zero, List.take_nil, List.drop_succ_cons, List.drop_zero, List.length_cons, List.length_nil, List.reverse_cons, List.reverse_nil, List.head?_cons, List.map_cons, List.map_nil, List.sum_cons, List.sum_nil, true_and, and_true, List.getElem?_cons_zero, List.getElem?_cons_succ, Prod.eta, x_get, x_put, x_iald, x_iast, x_bald, x_bast, x_lald, x_last, x_alen, xup_s, xup_a1, xup_1a, xup_uu, nr_i, nr_l, nr_o, nr_a, ft_i, ft_l, ft_o, ft_a, Nat.reduceLT, i_cl0, i_cl1, i_n1, i_m1, List.set_cons_zero, List.set_cons_succ, Nat.reduceLeDiff, Nat.le_refl, Nat.zero_le, Nat.add_zero, x_no, x_ifnull, x_ifnonnull, x_acmp_eq, x_acmp_ne, x_swl, x_tsw, x_castC, true_or, or_true, nr_z, ft_z, nr_z0, nr_z1, ft_z0, ft_z1, nr_on, nr_an, ft_on, ft_an]
        exact hQ
  have b112 : ∀ (aw : Bool), (how ≠ 3 → aw = wA u (decide (k < 0)) how) → (how = 3 → aw = false) → b_X14_whole_112 Q [(9, .long (lN (wT u))), (8, .int (bI (decide (k < 0)))), (7, .int (iZ (1075 - (fE u : Int)))), (5, .long (lN (fF u + 1 * 2 ^ 52))), (3, .long (lN (fE u))), (0, .long (lN u)), (2, .int (nI how))] [.int (bI aw)] S := by
    intro aw h1 h2
    have q3 : nI how = 3 ↔ how = 3 := nI_eq (b := 3) (by omega) (by decide)
    have qe : lN (fE u) ≤ 0 ↔ fE u ≤ 0 := pk_lLE (b := 0) (by omega) (by decide)
    have qs : (54 : Int32) ≤ iZ (1075 - (fE u : Int)) ↔ 54 ≤ 1075 - (fE u : Int) := iZ_geK 54 (by omega) (by omega) (by decide)
    unfold b_X14_whole_112 b_X14_whole_178 b_X14_whole_182 b_X14_whole_183
    generalize b_X14_whole_185 Q = J at *
    simp only [q_c, x_iload, x_lload, x_aload, q_istore, q_lstore, q_astore, q_astore2, x_iinc, q_iadd, q_isub, q_imul, q_iand, q_ior, q_ixor, q_ladd, q_lsub, q_lmul, q_land, q_lor, q_lxor, q_idiv, q_irem, q_ldiv, q_lrem, q_ineg, q_lneg, q_ishl, q_ishr, q_iushr, q_lshl, q_lshr, q_lushr, q_i2l, q_l2i, q_i2b, q_i2c, q_lcmp, q_if_eq, q_if_ne, q_if_lt, q_if_ge, q_if_gt, q_if_le, q_icmp_eq, q_icmp_ne, q_icmp_lt, q_icmp_ge, q_icmp_gt, q_icmp_le, q_dup, q_pop, q_dup_x1, q_dup2, x_iret, x_zret, x_lret, x_aret, x_vret, x_call, x_callv, x_calli, x_oinit, x_mmax, x_mmin, x_mabs, x_mmaxL, x_mminL, x_mabsL, lg_cmp_ge, lg_cmp_le, lg_cmp_gt, lg_cmp_lt, lg_cmp_eq, xlk, q_xs1, q_xs2, lv_args, Value.category, List.filter_cons, List.filter_nil, Nat.reduceAdd, Nat.reduceBEq, Nat.reduceEqDiff, Nat.reduceSub, Nat.sub_zero, beq_self_eq_true, Bool.not_true, Bool.not_false, Bool.and_true, Bool.and_false, Bool.true_and, Bool.false_and, reduceIte, reduceCtorEq, Bool.false_eq_true, Nat.one_ne_zero, Nat.zero_ne_one, Nat.zero_add, Option.toList_some, Option.toList_none, List.nil_append, List.cons_append, List.take_succ_cons, List.take_zero, List.take_nil, List.drop_succ_cons, List.drop_zero, List.length_cons, List.length_nil, List.reverse_cons, List.reverse_nil, List.head?_cons, List.map_cons, List.map_nil, List.sum_cons, List.sum_nil, true_and, and_true, List.getElem?_cons_zero, List.getElem?_cons_succ, Prod.eta, x_get, x_put, x_iald, x_iast, x_bald, x_bast, x_lald, x_last, x_alen, xup_s, xup_a1, xup_1a, xup_uu, nr_i, nr_l, nr_o, nr_a, ft_i, ft_l, ft_o, ft_a, Nat.reduceLT, i_cl0, i_cl1, i_n1, i_m1, List.set_cons_zero, List.set_cons_succ, Nat.reduceLeDiff, Nat.le_refl, Nat.zero_le, Nat.add_zero, x_no, x_ifnull, x_ifnonnull, x_acmp_eq, x_acmp_ne, x_swl, x_tsw, x_castC, true_or, or_true, nr_z, ft_z, nr_z0, nr_z1, ft_z0, ft_z1, nr_on, nr_an, ft_on, ft_an, q3, qe, qs]
    refine ⟨fun a => b185 aw (h1 a) [] (Or.inl rfl), fun a => ?_⟩
    have aw0 := h2 a
    subst aw0
    refine ⟨fun b => b185 false ?_ [] (Or.inl rfl), fun b => ?_⟩
    · rw [a, wA_3]
      unfold shI
      rw [if_pos (by omega)]
      decide
    have se : shI u = 1075 - (fE u : Int) := by unfold shI; rw [if_neg (by omega)]
    refine ⟨fun c => b185 false (by rw [a, wA_3 (by omega)]) [] (Or.inl rfl), fun c => ?_⟩
    have fe : fF u + 1 * 2 ^ 52 = fP u := by unfold fP; rw [if_neg (by omega), Nat.one_mul]
    have fl := fP_lt u
    obtain ⟨n, hn'⟩ : ∃ n : Nat, shI u = (n : Int) := ⟨(shI u).toNat, by omega⟩
    have nn : (shI u).toNat = n := by omega
    have e1 : iZ (1075 - (fE u : Int)) = nI n := by rw [← se, hn', iZ_nat]
    have e2 : (1 : Int64) <<< ((nI n).toInt64 &&& 63) - 1 = lN (2 ^ n - 1) := lsh1 (by omega)
    have e3 : lN (fP u) &&& lN (2 ^ n - 1) = lN (fP u % 2 ^ n) := wb_mask (by omega) (by omega)
    have e4 : nI n - 1 = nI (n - 1) := pk_sub (b := 1) (by omega)
    have e6 : (1 : Int64) <<< ((nI (n - 1)).toInt64 &&& 63) = lN (1 * 2 ^ (n - 1)) := wb_shl 1 (by omega)
    have m1 : fP u % 2 ^ n < 2 ^ 63 := Nat.lt_of_le_of_lt (Nat.mod_le _ _) (by omega)
    have m2 : 1 * 2 ^ (n - 1) < 2 ^ 63 := by rw [Nat.one_mul]; exact Nat.pow_lt_pow_right (by decide) (by omega)
    have c1 := pk_lLT m2 m1
    have c2 := pk_lEQ m1 m2
    have c3 : lN (wT u) - lN (wT u) / 2 * 2 = lN (wT u % 2) := pk_lRem (b := 2) (by omega) (by decide) (by decide)
    have c4 : lN (wT u % 2) = 1 ↔ wT u % 2 = 1 := pk_lEQ (b := 1) (by omega) (by decide)
    have n2 : ¬ (2 : Int64) = 0 := by decide
    have wa : wA u (decide (k < 0)) how = decide (1 * 2 ^ (n - 1) < fP u % 2 ^ n ∨ fP u % 2 ^ n = 1 * 2 ^ (n - 1) ∧ wT u % 2 = 1) := by
      unfold wA
      rw [a, if_neg (by decide), if_neg (by decide), if_neg (by decide), nn, Nat.one_mul]
    rw [fe, e1] at b185 ⊢
    simp only [q_c, x_iload, x_lload, x_aload, q_istore, q_lstore, q_astore, q_astore2, x_iinc, q_iadd, q_isub, q_imul, q_iand, q_ior, q_ixor, q_ladd, q_lsub, q_lmul, q_land, q_lor, q_lxor, q_idiv, q_irem, q_ldiv, q_lrem, q_ineg, q_lneg, q_ishl, q_ishr, q_iushr, q_lshl, q_lshr, q_lushr, q_i2l, q_l2i, q_i2b, q_i2c, q_lcmp, q_if_eq, q_if_ne, q_if_lt, q_if_ge, q_if_gt, q_if_le, q_icmp_eq, q_icmp_ne, q_icmp_lt, q_icmp_ge, q_icmp_gt, q_icmp_le, q_dup, q_pop, q_dup_x1, q_dup2, x_iret, x_zret, x_lret, x_aret, x_vret, x_call, x_callv, x_calli, x_oinit, x_mmax, x_mmin, x_mabs, x_mmaxL, x_mminL, x_mabsL, lg_cmp_ge, lg_cmp_le, lg_cmp_gt, lg_cmp_lt, lg_cmp_eq, xlk, q_xs1, q_xs2, lv_args, Value.category, List.filter_cons, List.filter_nil, Nat.reduceAdd, Nat.reduceBEq, Nat.reduceEqDiff, Nat.reduceSub, Nat.sub_zero, beq_self_eq_true, Bool.not_true, Bool.not_false, Bool.and_true, Bool.and_false, Bool.true_and, Bool.false_and, reduceIte, reduceCtorEq, Bool.false_eq_true, Nat.one_ne_zero, Nat.zero_ne_one, Nat.zero_add, Option.toList_some, Option.toList_none, List.nil_append, List.cons_append, List.take_succ_cons, List.take_zero, List.take_nil, List.drop_succ_cons, List.drop_zero, List.length_cons, List.length_nil, List.reverse_cons, List.reverse_nil, List.head?_cons, List.map_cons, List.map_nil, List.sum_cons, List.sum_nil, true_and, and_true, List.getElem?_cons_zero, List.getElem?_cons_succ, Prod.eta, x_get, x_put, x_iald, x_iast, x_bald, x_bast, x_lald, x_last, x_alen, xup_s, xup_a1, xup_1a, xup_uu, nr_i, nr_l, nr_o, nr_a, ft_i, ft_l, ft_o, ft_a, Nat.reduceLT, i_cl0, i_cl1, i_n1, i_m1, List.set_cons_zero, List.set_cons_succ, Nat.reduceLeDiff, Nat.le_refl, Nat.zero_le, Nat.add_zero, x_no, x_ifnull, x_ifnonnull, x_acmp_eq, x_acmp_ne, x_swl, x_tsw, x_castC, true_or, or_true, nr_z, ft_z, nr_z0, nr_z1, ft_z0, ft_z1, nr_on, nr_an, ft_on, ft_an, e2, e3, e4, e6, c1, c2, c3, c4, n2]
    have yes := fun (h : wA u (decide (k < 0)) how = true) x y => b185 true h.symm [(14, .long x), (12, .long y)] (Or.inr ⟨x, y, rfl⟩)
    have no := fun (h : wA u (decide (k < 0)) how = false) x y => b185 false h.symm [(14, .long x), (12, .long y)] (Or.inr ⟨x, y, rfl⟩)
    rw [wa] at yes no
    refine ⟨fun q => yes (decide_eq_true (Or.inl q)) _ _, fun q => ⟨fun r => no (decide_eq_false (by omega)) _ _, fun r => ⟨not_false, fun t => no (decide_eq_false (by omega)) _ _, fun t => yes (decide_eq_true (Or.inr ⟨r, t⟩)) _ _⟩⟩⟩
  have b82 : b_X14_whole_82 Q [(8, .int (bI (decide (k < 0)))), (7, .int (iZ (1075 - (fE u : Int)))), (5, .long (lN (fF u + 1 * 2 ^ 52))), (3, .long (lN (fE u))), (0, .long (lN u)), (2, .int (nI how))] [.long (lN (wT u))] S := by
    have q0 : nI how = 0 ↔ how = 0 := nI_eq (b := 0) (by omega) (by decide)
    have q1 : nI how = 1 ↔ how = 1 := nI_eq (b := 1) (by omega) (by decide)
    unfold b_X14_whole_82
    generalize b_X14_whole_112 Q = J at *
    simp only [q_c, x_iload, x_lload, x_aload, q_istore, q_lstore, q_astore, q_astore2, x_iinc, q_iadd, q_isub, q_imul, q_iand, q_ior, q_ixor, q_ladd, q_lsub, q_lmul, q_land, q_lor, q_lxor, q_idiv, q_irem, q_ldiv, q_lrem, q_ineg, q_lneg, q_ishl, q_ishr, q_iushr, q_lshl, q_lshr, q_lushr, q_i2l, q_l2i, q_i2b, q_i2c, q_lcmp, q_if_eq, q_if_ne, q_if_lt, q_if_ge, q_if_gt, q_if_le, q_icmp_eq, q_icmp_ne, q_icmp_lt, q_icmp_ge, q_icmp_gt, q_icmp_le, q_dup, q_pop, q_dup_x1, q_dup2, x_iret, x_zret, x_lret, x_aret, x_vret, x_call, x_callv, x_calli, x_oinit, x_mmax, x_mmin, x_mabs, x_mmaxL, x_mminL, x_mabsL, lg_cmp_ge, lg_cmp_le, lg_cmp_gt, lg_cmp_lt, lg_cmp_eq, xlk, q_xs1, q_xs2, lv_args, Value.category, List.filter_cons, List.filter_nil, Nat.reduceAdd, Nat.reduceBEq, Nat.reduceEqDiff, Nat.reduceSub, Nat.sub_zero, beq_self_eq_true, Bool.not_true, Bool.not_false, Bool.and_true, Bool.and_false, Bool.true_and, Bool.false_and, reduceIte, reduceCtorEq, Bool.false_eq_true, Nat.one_ne_zero, Nat.zero_ne_one, Nat.zero_add, Option.toList_some, Option.toList_none, List.nil_append, List.cons_append, List.take_succ_cons, List.take_zero, List.take_nil, List.drop_succ_cons, List.drop_zero, List.length_cons, List.length_nil, List.reverse_cons, List.reverse_nil, List.head?_cons, List.map_cons, List.map_nil, List.sum_cons, List.sum_nil, true_and, and_true, List.getElem?_cons_zero, List.getElem?_cons_succ, Prod.eta, x_get, x_put, x_iald, x_iast, x_bald, x_bast, x_lald, x_last, x_alen, xup_s, xup_a1, xup_1a, xup_uu, nr_i, nr_l, nr_o, nr_a, ft_i, ft_l, ft_o, ft_a, Nat.reduceLT, i_cl0, i_cl1, i_n1, i_m1, List.set_cons_zero, List.set_cons_succ, Nat.reduceLeDiff, Nat.le_refl, Nat.zero_le, Nat.add_zero, x_no, x_ifnull, x_ifnonnull, x_acmp_eq, x_acmp_ne, x_swl, x_tsw, x_castC, true_or, or_true, nr_z, ft_z, nr_z0, nr_z1, ft_z0, ft_z1, nr_on, nr_an, ft_on, ft_an, q0, q1, bI_e0]
    refine ⟨fun a => ⟨fun b => b112 false (fun c => ?_) (fun _ => rfl), fun b => ⟨fun c => b112 false (fun _ => ?_) (fun _ => rfl), fun c => b112 true (fun _ => ?_) (fun d => absurd d (by omega))⟩⟩, fun a => b112 _ (fun _ => ?_) (fun d => absurd d (by omega))⟩
    · unfold wA
      rw [if_neg a, if_neg b, if_pos (by omega)]
    · unfold wA
      rw [if_neg a, if_pos b, eq_true_of_ne_false c]
      rfl
    · unfold wA
      rw [if_neg a, if_pos b, c]
      rfl
    · unfold wA
      rw [if_pos a]
  have b58 : b_X14_whole_58 Q [(7, .int (iZ (1075 - (fE u : Int)))), (5, .long (lN (fF u + 1 * 2 ^ 52))), (3, .long (lN (fE u))), (0, .long (lN u)), (2, .int (nI how))] [.int (bI (decide (k < 0)))] S := by
    have qs : iZ (1075 - (fE u : Int)) ≤ 53 ↔ 1075 - (fE u : Int) ≤ 53 := by
      rw [i_le, iZ_toInt (by omega) (by omega)]
      exact Iff.rfl
    unfold b_X14_whole_58 b_X14_whole_73
    generalize b_X14_whole_82 Q = J at *
    simp only [q_c, x_iload, x_lload, x_aload, q_istore, q_lstore, q_astore, q_astore2, x_iinc, q_iadd, q_isub, q_imul, q_iand, q_ior, q_ixor, q_ladd, q_lsub, q_lmul, q_land, q_lor, q_lxor, q_idiv, q_irem, q_ldiv, q_lrem, q_ineg, q_lneg, q_ishl, q_ishr, q_iushr, q_lshl, q_lshr, q_lushr, q_i2l, q_l2i, q_i2b, q_i2c, q_lcmp, q_if_eq, q_if_ne, q_if_lt, q_if_ge, q_if_gt, q_if_le, q_icmp_eq, q_icmp_ne, q_icmp_lt, q_icmp_ge, q_icmp_gt, q_icmp_le, q_dup, q_pop, q_dup_x1, q_dup2, x_iret, x_zret, x_lret, x_aret, x_vret, x_call, x_callv, x_calli, x_oinit, x_mmax, x_mmin, x_mabs, x_mmaxL, x_mminL, x_mabsL, lg_cmp_ge, lg_cmp_le, lg_cmp_gt, lg_cmp_lt, lg_cmp_eq, xlk, q_xs1, q_xs2, lv_args, Value.category, List.filter_cons, List.filter_nil, Nat.reduceAdd, Nat.reduceBEq, Nat.reduceEqDiff, Nat.reduceSub, Nat.sub_zero, beq_self_eq_true, Bool.not_true, Bool.not_false, Bool.and_true, Bool.and_false, Bool.true_and, Bool.false_and, reduceIte, reduceCtorEq, Bool.false_eq_true, Nat.one_ne_zero, Nat.zero_ne_one, Nat.zero_add, Option.toList_some, Option.toList_none, List.nil_append, List.cons_append, List.take_succ_cons, List.take_zero, List.take_nil, List.drop_succ_cons, List.drop_zero, List.length_cons, List.length_nil, List.reverse_cons, List.reverse_nil, List.head?_cons, List.map_cons, List.map_nil, List.sum_cons, List.sum_nil, true_and, and_true, List.getElem?_cons_zero, List.getElem?_cons_succ, Prod.eta, x_get, x_put, x_iald, x_iast, x_bald, x_bast, x_lald, x_last, x_alen, xup_s, xup_a1, xup_1a, xup_uu, nr_i, nr_l, nr_o, nr_a, ft_i, ft_l, ft_o, ft_a, Nat.reduceLT, i_cl0, i_cl1, i_n1, i_m1, List.set_cons_zero, List.set_cons_succ, Nat.reduceLeDiff, Nat.le_refl, Nat.zero_le, Nat.add_zero, x_no, x_ifnull, x_ifnonnull, x_acmp_eq, x_acmp_ne, x_swl, x_tsw, x_castC, true_or, or_true, nr_z, ft_z, nr_z0, nr_z1, ft_z0, ft_z1, nr_on, nr_an, ft_on, ft_an, l_zE, qs]
    refine ⟨fun a => ?_, fun a => ⟨fun b => ?_, fun b => ?_⟩⟩
    · rw [wT_0 (by unfold shI; rw [if_pos a]; decide)] at b82
      exact b82
    · have se : shI u = 1075 - (fE u : Int) := by unfold shI; rw [if_neg a]
      have fe : fF u + 1 * 2 ^ 52 = fP u := by unfold fP; rw [if_neg a, Nat.one_mul]
      have e1 : iZ (1075 - (fE u : Int)) = nI (shI u).toNat := by rw [← se, ← iZ_nat]; congr 1; omega
      have fl := fP_lt u
      have e7 : lN (fF u + 1 * 2 ^ 52) >>> ((iZ (1075 - (fE u : Int))).toInt64 &&& 63) = lN (wT u) := by
        rw [fe, e1]
        exact sarK (by omega) (by omega)
      rw [e7]
      exact b82
    · rw [wT_0 (by unfold shI; rw [if_neg a]; omega)] at b82
      exact b82
  exact b58
theorem cM_X14_whole (G : xG) (l : Launch) : xM G l yX14_whole cX14_whole 16 (some FieldType.long) r_X14_whole C_X14_whole := by
  refine xM_of (fun Q => b_X14_whole_0 Q) RX14 false (s_X14_whole_0 G l) (by decide) rfl (by decide) ?_
  rintro av S Q ⟨k, how, rfl, hk, hh, hQ⟩
  refine ⟨Nat.le_of_ble_eq_true rfl, ?_⟩
  have hu := foB_lt hk.1 hk.2
  have ko := ordB_foB hk
  have hw : (iN k || whB (foB k)) = true → wR k how = k := fun e => if_pos e
  have hn : iN k = false → whB (foB k) = false → wR k how = sgZ k (ofW (wT (foB k) + (if wA (foB k) (decide (k < 0)) how = true then 1 else 0))) := fun a b => if_neg (by rw [a, b]; decide)
  have z0 := lN_neg0 hk
  have go : iN k = false → whB (foB k) = false → _ := fun a b => wh_58 (u := foB k) (S := S) hh b (by rw [hn a b] at hQ; exact hQ)
  have plain : (iN k || whB (foB k)) = true → b_X14_whole_14 Q [(0, .long (lN (foB k))), (2, .int (nI how))] [] S := by
    intro e
    simp only [q_c, x_iload, x_lload, x_aload, q_istore, q_lstore, q_astore, q_astore2, x_iinc, q_iadd, q_isub, q_imul, q_iand, q_ior, q_ixor, q_ladd, q_lsub, q_lmul, q_land, q_lor, q_lxor, q_idiv, q_irem, q_ldiv, q_lrem, q_ineg, q_lneg, q_ishl, q_ishr, q_iushr, q_lshl, q_lshr, q_lushr, q_i2l, q_l2i, q_i2b, q_i2c, q_lcmp, q_if_eq, q_if_ne, q_if_lt, q_if_ge, q_if_gt, q_if_le, q_icmp_eq, q_icmp_ne, q_icmp_lt, q_icmp_ge, q_icmp_gt, q_icmp_le, q_dup, q_pop, q_dup_x1, q_dup2, x_iret, x_zret, x_lret, x_aret, x_vret, x_call, x_callv, x_calli, x_oinit, x_mmax, x_mmin, x_mabs, x_mmaxL, x_mminL, x_mabsL, lg_cmp_ge, lg_cmp_le, lg_cmp_gt, lg_cmp_lt, lg_cmp_eq, xlk, q_xs1, q_xs2, lv_args, Value.category, List.filter_cons, List.filter_nil, Nat.reduceAdd, Nat.reduceBEq, Nat.reduceEqDiff, Nat.reduceSub, Nat.sub_zero, beq_self_eq_true, Bool.not_true, Bool.not_false, Bool.and_true, Bool.and_false, Bool.true_and, Bool.false_and, reduceIte, reduceCtorEq, Bool.false_eq_true, Nat.one_ne_zero, Nat.zero_ne_one, Nat.zero_add, Option.toList_some, Option.toList_none, List.nil_append, List.cons_append, List.take_succ_cons, List.take_zero, List.take_nil, List.drop_succ_cons, List.drop_zero, List.length_cons, List.length_nil, List.reverse_cons, List.reverse_nil, List.head?_cons, List.map_cons, List.map_nil, List.sum_cons, List.sum_nil, true_and, and_true, List.getElem?_cons_zero, List.getElem?_cons_succ, Prod.eta, x_get, x_put, x_iald, x_iast, x_bald, x_bast, x_lald, x_last, x_alen, xup_s, xup_a1, xup_1a, xup_uu, nr_i, nr_l, nr_o, nr_a, ft_i, ft_l, ft_o, ft_a, Nat.reduceLT, i_cl0, i_cl1, i_n1, i_m1, List.set_cons_zero, List.set_cons_succ, Nat.reduceLeDiff, Nat.le_refl, Nat.zero_le, Nat.add_zero, x_no, x_ifnull, x_ifnonnull, x_acmp_eq, x_acmp_ne, x_swl, x_tsw, x_castC, true_or, or_true, nr_z, ft_z, nr_z0, nr_z1, ft_z0, ft_z1, nr_on, nr_an, ft_on, ft_an, b_X14_whole_14]
    refine ⟨foB k, rfl, hu, ?_⟩
    rw [hw e] at hQ
    rw [ko]
    try simp only [q_c, x_iload, x_lload, x_aload, q_istore, q_lstore, q_astore, q_astore2, x_iinc, q_iadd, q_isub, q_imul, q_iand, q_ior, q_ixor, q_ladd, q_lsub, q_lmul, q_land, q_lor, q_lxor, q_idiv, q_irem, q_ldiv, q_lrem, q_ineg, q_lneg, q_ishl, q_ishr, q_iushr, q_lshl, q_lshr, q_lushr, q_i2l, q_l2i, q_i2b, q_i2c, q_lcmp, q_if_eq, q_if_ne, q_if_lt, q_if_ge, q_if_gt, q_if_le, q_icmp_eq, q_icmp_ne, q_icmp_lt, q_icmp_ge, q_icmp_gt, q_icmp_le, q_dup, q_pop, q_dup_x1, q_dup2, x_iret, x_zret, x_lret, x_aret, x_vret, x_call, x_callv, x_calli, x_oinit, x_mmax, x_mmin, x_mabs, x_mmaxL, x_mminL, x_mabsL, lg_cmp_ge, lg_cmp_le, lg_cmp_gt, lg_cmp_lt, lg_cmp_eq, xlk, q_xs1, q_xs2, lv_args, Value.category, List.filter_cons, List.filter_nil, Nat.reduceAdd, Nat.reduceBEq, Nat.reduceEqDiff, Nat.reduceSub, Nat.sub_zero, beq_self_eq_true, Bool.not_true, Bool.not_false, Bool.and_true, Bool.and_false, Bool.true_and, Bool.false_and, reduceIte, reduceCtorEq, Bool.false_eq_true, Nat.one_ne_zero, Nat.zero_ne_one, Nat.zero_add, Option.toList_some, Option.toList_none, List.nil_append, List.cons_append, List.take_succ_cons, List.take_zero, List.take_nil, List.drop_succ_cons, List.drop_zero, List.length_cons, List.length_nil, List.reverse_cons, List.reverse_nil, List.head?_cons, List.map_cons, List.map_nil, List.sum_cons, List.sum_nil, true_and, and_true, List.getElem?_cons_zero, List.getElem?_cons_succ, Prod.eta, x_get, x_put, x_iald, x_iast, x_bald, x_bast, x_lald, x_last, x_alen, xup_s, xup_a1, xup_1a, xup_uu, nr_i, nr_l, nr_o, nr_a, ft_i, ft_l, ft_o, ft_a, Nat.reduceLT, i_cl0, i_cl1, i_n1, i_m1, List.set_cons_zero, List.set_cons_succ, Nat.reduceLeDiff, Nat.le_refl, Nat.zero_le, Nat.add_zero, x_no, x_ifnull, x_ifnonnull, x_acmp_eq, x_acmp_ne, x_swl, x_tsw, x_castC, true_or, or_true, nr_z, ft_z, nr_z0, nr_z1, ft_z0, ft_z1, nr_on, nr_an, ft_on, ft_an]
    exact hQ
  have e5 : (1075 : Int64) - lN (fE (foB k)) = lZ (1075 - (fE (foB k) : Int)) := by rw [← lZ_nat]; exact lZ_sub 1075 _
  unfold b_X14_whole_0
  generalize b_X14_whole_58 Q = J at *
  generalize b_X14_whole_14 Q = J' at *
  try simp only [q_c, x_iload, x_lload, x_aload, q_istore, q_lstore, q_astore, q_astore2, x_iinc, q_iadd, q_isub, q_imul, q_iand, q_ior, q_ixor, q_ladd, q_lsub, q_lmul, q_land, q_lor, q_lxor, q_idiv, q_irem, q_ldiv, q_lrem, q_ineg, q_lneg, q_ishl, q_ishr, q_iushr, q_lshl, q_lshr, q_lushr, q_i2l, q_l2i, q_i2b, q_i2c, q_lcmp, q_if_eq, q_if_ne, q_if_lt, q_if_ge, q_if_gt, q_if_le, q_icmp_eq, q_icmp_ne, q_icmp_lt, q_icmp_ge, q_icmp_gt, q_icmp_le, q_dup, q_pop, q_dup_x1, q_dup2, x_iret, x_zret, x_lret, x_aret, x_vret, x_call, x_callv, x_calli, x_oinit, x_mmax, x_mmin, x_mabs, x_mmaxL, x_mminL, x_mabsL, lg_cmp_ge, lg_cmp_le, lg_cmp_gt, lg_cmp_lt, lg_cmp_eq, xlk, q_xs1, q_xs2, lv_args, Value.category, List.filter_cons, List.filter_nil, Nat.reduceAdd, Nat.reduceBEq, Nat.reduceEqDiff, Nat.reduceSub, Nat.sub_zero, beq_self_eq_true, Bool.not_true, Bool.not_false, Bool.and_true, Bool.and_false, Bool.true_and, Bool.false_and, reduceIte, reduceCtorEq, Bool.false_eq_true, Nat.one_ne_zero, Nat.zero_ne_one, Nat.zero_add, Option.toList_some, Option.toList_none, List.nil_append, List.cons_append, List.take_succ_cons, List.take_zero, List.take_nil, List.drop_succ_cons, List.drop_zero, List.length_cons, List.length_nil, List.reverse_cons, List.reverse_nil, List.head?_cons, List.map_cons, List.map_nil, List.sum_cons, List.sum_nil, true_and, and_true, List.getElem?_cons_zero, List.getElem?_cons_succ, Prod.eta, x_get, x_put, x_iald, x_iast, x_bald, x_bast, x_lald, x_last, x_alen, xup_s, xup_a1, xup_1a, xup_uu, nr_i, nr_l, nr_o, nr_a, ft_i, ft_l, ft_o, ft_a, Nat.reduceLT, i_cl0, i_cl1, i_n1, i_m1, List.set_cons_zero, List.set_cons_succ, Nat.reduceLeDiff, Nat.le_refl, Nat.zero_le, Nat.add_zero, x_no, x_ifnull, x_ifnonnull, x_acmp_eq, x_acmp_ne, x_swl, x_tsw, x_castC, true_or, or_true, nr_z, ft_z, nr_z0, nr_z1, ft_z0, ft_z1, nr_on, nr_an, ft_on, ft_an]
  refine ⟨foB k, rfl, hu, ?_⟩
  rw [ko]
  simp only [q_c, x_iload, x_lload, x_aload, q_istore, q_lstore, q_astore, q_astore2, x_iinc, q_iadd, q_isub, q_imul, q_iand, q_ior, q_ixor, q_ladd, q_lsub, q_lmul, q_land, q_lor, q_lxor, q_idiv, q_irem, q_ldiv, q_lrem, q_ineg, q_lneg, q_ishl, q_ishr, q_iushr, q_lshl, q_lshr, q_lushr, q_i2l, q_l2i, q_i2b, q_i2c, q_lcmp, q_if_eq, q_if_ne, q_if_lt, q_if_ge, q_if_gt, q_if_le, q_icmp_eq, q_icmp_ne, q_icmp_lt, q_icmp_ge, q_icmp_gt, q_icmp_le, q_dup, q_pop, q_dup_x1, q_dup2, x_iret, x_zret, x_lret, x_aret, x_vret, x_call, x_callv, x_calli, x_oinit, x_mmax, x_mmin, x_mabs, x_mmaxL, x_mminL, x_mabsL, lg_cmp_ge, lg_cmp_le, lg_cmp_gt, lg_cmp_lt, lg_cmp_eq, xlk, q_xs1, q_xs2, lv_args, Value.category, List.filter_cons, List.filter_nil, Nat.reduceAdd, Nat.reduceBEq, Nat.reduceEqDiff, Nat.reduceSub, Nat.sub_zero, beq_self_eq_true, Bool.not_true, Bool.not_false, Bool.and_true, Bool.and_false, Bool.true_and, Bool.false_and, reduceIte, reduceCtorEq, Bool.false_eq_true, Nat.one_ne_zero, Nat.zero_ne_one, Nat.zero_add, Option.toList_some, Option.toList_none, List.nil_append, List.cons_append, List.take_succ_cons, List.take_zero, List.take_nil, List.drop_succ_cons, List.drop_zero, List.length_cons, List.length_nil, List.reverse_cons, List.reverse_nil, List.head?_cons, List.map_cons, List.map_nil, List.sum_cons, List.sum_nil, true_and, and_true, List.getElem?_cons_zero, List.getElem?_cons_succ, Prod.eta, x_get, x_put, x_iald, x_iast, x_bald, x_bast, x_lald, x_last, x_alen, xup_s, xup_a1, xup_1a, xup_uu, nr_i, nr_l, nr_o, nr_a, ft_i, ft_l, ft_o, ft_a, Nat.reduceLT, i_cl0, i_cl1, i_n1, i_m1, List.set_cons_zero, List.set_cons_succ, Nat.reduceLeDiff, Nat.le_refl, Nat.zero_le, Nat.add_zero, x_no, x_ifnull, x_ifnonnull, x_acmp_eq, x_acmp_ne, x_swl, x_tsw, x_castC, true_or, or_true, nr_z, ft_z, nr_z0, nr_z1, ft_z0, ft_z1, nr_on, nr_an, ft_on, ft_an, bI_e0]
  refine ⟨fun z => plain (by rw [eq_true_of_ne_false z, Bool.true_or]), fun z => ⟨foB k, rfl, hu, ?_⟩⟩
  simp only [q_c, x_iload, x_lload, x_aload, q_istore, q_lstore, q_astore, q_astore2, x_iinc, q_iadd, q_isub, q_imul, q_iand, q_ior, q_ixor, q_ladd, q_lsub, q_lmul, q_land, q_lor, q_lxor, q_idiv, q_irem, q_ldiv, q_lrem, q_ineg, q_lneg, q_ishl, q_ishr, q_iushr, q_lshl, q_lshr, q_lushr, q_i2l, q_l2i, q_i2b, q_i2c, q_lcmp, q_if_eq, q_if_ne, q_if_lt, q_if_ge, q_if_gt, q_if_le, q_icmp_eq, q_icmp_ne, q_icmp_lt, q_icmp_ge, q_icmp_gt, q_icmp_le, q_dup, q_pop, q_dup_x1, q_dup2, x_iret, x_zret, x_lret, x_aret, x_vret, x_call, x_callv, x_calli, x_oinit, x_mmax, x_mmin, x_mabs, x_mmaxL, x_mminL, x_mabsL, lg_cmp_ge, lg_cmp_le, lg_cmp_gt, lg_cmp_lt, lg_cmp_eq, xlk, q_xs1, q_xs2, lv_args, Value.category, List.filter_cons, List.filter_nil, Nat.reduceAdd, Nat.reduceBEq, Nat.reduceEqDiff, Nat.reduceSub, Nat.sub_zero, beq_self_eq_true, Bool.not_true, Bool.not_false, Bool.and_true, Bool.and_false, Bool.true_and, Bool.false_and, reduceIte, reduceCtorEq, Bool.false_eq_true, Nat.one_ne_zero, Nat.zero_ne_one, Nat.zero_add, Option.toList_some, Option.toList_none, List.nil_append, List.cons_append, List.take_succ_cons, List.take_zero, List.take_nil, List.drop_succ_cons, List.drop_zero, List.length_cons, List.length_nil, List.reverse_cons, List.reverse_nil, List.head?_cons, List.map_cons, List.map_nil, List.sum_cons, List.sum_nil, true_and, and_true, List.getElem?_cons_zero, List.getElem?_cons_succ, Prod.eta, x_get, x_put, x_iald, x_iast, x_bald, x_bast, x_lald, x_last, x_alen, xup_s, xup_a1, xup_1a, xup_uu, nr_i, nr_l, nr_o, nr_a, ft_i, ft_l, ft_o, ft_a, Nat.reduceLT, i_cl0, i_cl1, i_n1, i_m1, List.set_cons_zero, List.set_cons_succ, Nat.reduceLeDiff, Nat.le_refl, Nat.zero_le, Nat.add_zero, x_no, x_ifnull, x_ifnonnull, x_acmp_eq, x_acmp_ne, x_swl, x_tsw, x_castC, true_or, or_true, nr_z, ft_z, nr_z0, nr_z1, ft_z0, ft_z1, nr_on, nr_an, ft_on, ft_an, bI_e0, l_E hu, l_F hu, l_oF, e5, lZ_l2i, z0]
  refine ⟨fun y => ?_, fun y => plain (by rw [eq_true_of_ne_false y, Bool.or_true])⟩
  have b58 := go z y
  refine ⟨fun q => ?_, fun q => ?_⟩
  · rw [show decide (k < 0) = false from decide_eq_false (by omega)] at b58
    exact b58
  · rw [show decide (k < 0) = true from decide_eq_true (by omega)] at b58
    exact b58
theorem dX14_stepless_0 : decode cX14_stepless 0 = .ok (.iload_n 0, 1) := by decide +kernel
theorem dX14_stepless_1 : decode cX14_stepless 1 = .ok (.bipush 9, 2) := by decide +kernel
theorem dX14_stepless_3 : decode cX14_stepless 3 = .ok (.if_icmp .ne 23, 3) := by decide +kernel
theorem dX14_stepless_6 : decode cX14_stepless 6 = .ok (.lload_n 1, 1) := by decide +kernel
theorem dX14_stepless_7 : decode cX14_stepless 7 = .ok (.invokestatic 278, 3) := by decide +kernel
theorem dX14_stepless_10 : decode cX14_stepless 10 = .ok (.ifCond .ne 14, 3) := by decide +kernel
theorem dX14_stepless_13 : decode cX14_stepless 13 = .ok (.lload_n 3, 1) := by decide +kernel
theorem dX14_stepless_14 : decode cX14_stepless 14 = .ok (.invokestatic 278, 3) := by decide +kernel
theorem dX14_stepless_17 : decode cX14_stepless 17 = .ok (.ifCond .ne 7, 3) := by decide +kernel
theorem dX14_stepless_20 : decode cX14_stepless 20 = .ok (.iconst 1, 1) := by decide +kernel
theorem dX14_stepless_21 : decode cX14_stepless 21 = .ok (.goto 4, 3) := by decide +kernel
theorem dX14_stepless_24 : decode cX14_stepless 24 = .ok (.iconst 0, 1) := by decide +kernel
theorem dX14_stepless_25 : decode cX14_stepless 25 = .ok (.ireturn, 1) := by decide +kernel
theorem dX14_stepless_26 : decode cX14_stepless 26 = .ok (.lload_n 1, 1) := by decide +kernel
theorem dX14_stepless_27 : decode cX14_stepless 27 = .ok (.invokestatic 232, 3) := by decide +kernel
theorem dX14_stepless_30 : decode cX14_stepless 30 = .ok (.ifCond .ne 28, 3) := by decide +kernel
theorem dX14_stepless_33 : decode cX14_stepless 33 = .ok (.lload_n 3, 1) := by decide +kernel
theorem dX14_stepless_34 : decode cX14_stepless 34 = .ok (.invokestatic 232, 3) := by decide +kernel
theorem dX14_stepless_37 : decode cX14_stepless 37 = .ok (.ifCond .ne 21, 3) := by decide +kernel
theorem dX14_stepless_40 : decode cX14_stepless 40 = .ok (.lload_n 1, 1) := by decide +kernel
theorem dX14_stepless_41 : decode cX14_stepless 41 = .ok (.iconst 0, 1) := by decide +kernel
theorem dX14_stepless_42 : decode cX14_stepless 42 = .ok (.invokestatic 263, 3) := by decide +kernel
theorem dX14_stepless_45 : decode cX14_stepless 45 = .ok (.lload_n 3, 1) := by decide +kernel
theorem dX14_stepless_46 : decode cX14_stepless 46 = .ok (.iconst 0, 1) := by decide +kernel
theorem dX14_stepless_47 : decode cX14_stepless 47 = .ok (.invokestatic 263, 3) := by decide +kernel
theorem dX14_stepless_50 : decode cX14_stepless 50 = .ok (.lcmp, 1) := by decide +kernel
theorem dX14_stepless_51 : decode cX14_stepless 51 = .ok (.ifCond .ne 7, 3) := by decide +kernel
theorem dX14_stepless_54 : decode cX14_stepless 54 = .ok (.iconst 1, 1) := by decide +kernel
theorem dX14_stepless_55 : decode cX14_stepless 55 = .ok (.goto 4, 3) := by decide +kernel
theorem dX14_stepless_58 : decode cX14_stepless 58 = .ok (.iconst 0, 1) := by decide +kernel
theorem dX14_stepless_59 : decode cX14_stepless 59 = .ok (.ireturn, 1) := by decide +kernel
abbrev r_X14_stepless : Room := { frames := 2, cells := 0, slots := 0, locals := 61 }
abbrev m_X14_stepless : xMd := (cX14_stepless, RX14, 5, (some FieldType.boolean), false, r_X14_stepless)
def b_X14_stepless_25 (Q : xQ) : xK := x_zret FieldType.boolean Q
def b_X14_stepless_59 (Q : xQ) : xK := x_zret FieldType.boolean Q
def b_X14_stepless_24 (Q : xQ) : xK := x_c (.int 0) <| (b_X14_stepless_25 Q)
def b_X14_stepless_58 (Q : xQ) : xK := x_c (.int 0) <| (b_X14_stepless_59 Q)
def b_X14_stepless_0 (Q : xQ) : xK := x_iload 0 <| x_c (.int 9) <| x_icmp_ne (x_lload 1 <| x_call C_X14_isWhole 1 0 0 <| x_if_ne ((b_X14_stepless_58 Q)) <| x_lload 3 <| x_call C_X14_isWhole 1 0 0 <| x_if_ne ((b_X14_stepless_58 Q)) <| x_lload 1 <| x_c (.int 0) <| x_call C_X14_whole 2 0 0 <| x_lload 3 <| x_c (.int 0) <| x_call C_X14_whole 2 0 0 <| x_lcmp <| x_if_ne ((b_X14_stepless_58 Q)) <| x_c (.int 1) <| (b_X14_stepless_59 Q)) <| x_lload 1 <| x_call C_X14_isHalf 1 0 0 <| x_if_ne ((b_X14_stepless_24 Q)) <| x_lload 3 <| x_call C_X14_isHalf 1 0 0 <| x_if_ne ((b_X14_stepless_24 Q)) <| x_c (.int 1) <| (b_X14_stepless_25 Q)
theorem s_X14_stepless_25 (G : xG) (l : Launch) (Q : xQ) : xW G l m_X14_stepless xX0 (xPm G Q r_X14_stepless) 25 (b_X14_stepless_25 Q) := xo_zret (pc := 25) rfl dX14_stepless_25
theorem s_X14_stepless_59 (G : xG) (l : Launch) (Q : xQ) : xW G l m_X14_stepless xX0 (xPm G Q r_X14_stepless) 59 (b_X14_stepless_59 Q) := xo_zret (pc := 59) rfl dX14_stepless_59
theorem s_X14_stepless_24 (G : xG) (l : Launch) (Q : xQ) : xW G l m_X14_stepless xX0 (xPm G Q r_X14_stepless) 24 (b_X14_stepless_24 Q) := xo_iconst (pc := 24) dX14_stepless_24 (by decide) <| (s_X14_stepless_25 G l Q)
theorem s_X14_stepless_58 (G : xG) (l : Launch) (Q : xQ) : xW G l m_X14_stepless xX0 (xPm G Q r_X14_stepless) 58 (b_X14_stepless_58 Q) := xo_iconst (pc := 58) dX14_stepless_58 (by decide) <| (s_X14_stepless_59 G l Q)
theorem s_X14_stepless_0 (G : xG) (l : Launch) (Q : xQ) : xW G l m_X14_stepless xX0 (xPm G Q r_X14_stepless) 0 (b_X14_stepless_0 Q) := xo_iload_n (pc := 0) (i := 0) dX14_stepless_0 rfl <| xo_bipush (pc := 1) dX14_stepless_1 (by decide) <| xo_icmp_ne (pc := 3) (tgt := 26) dX14_stepless_3 (by decide) (xo_lload_n (pc := 26) (i := 1) dX14_stepless_26 rfl <| xo_callS (pc := 27) (np := 1) (cM_X14_isWhole G l) dX14_stepless_27 kw1505 kw1503 kw1504 kw13 (by decide +kernel) (by decide) <| xo_if_ne (pc := 30) (tgt := 58) dX14_stepless_30 (by decide) ((s_X14_stepless_58 G l Q)) <| xo_lload_n (pc := 33) (i := 3) dX14_stepless_33 rfl <| xo_callS (pc := 34) (np := 1) (cM_X14_isWhole G l) dX14_stepless_34 kw1505 kw1503 kw1504 kw13 (by decide +kernel) (by decide) <| xo_if_ne (pc := 37) (tgt := 58) dX14_stepless_37 (by decide) ((s_X14_stepless_58 G l Q)) <| xo_lload_n (pc := 40) (i := 1) dX14_stepless_40 rfl <| xo_iconst (pc := 41) dX14_stepless_41 (by decide) <| xo_callS (pc := 42) (np := 2) (cM_X14_whole G l) dX14_stepless_42 kw1502 kw1500 kw1501 kw13 (by decide +kernel) (by decide) <| xo_lload_n (pc := 45) (i := 3) dX14_stepless_45 rfl <| xo_iconst (pc := 46) dX14_stepless_46 (by decide) <| xo_callS (pc := 47) (np := 2) (cM_X14_whole G l) dX14_stepless_47 kw1502 kw1500 kw1501 kw13 (by decide +kernel) (by decide) <| xo_lcmp (pc := 50) dX14_stepless_50 <| xo_if_ne (pc := 51) (tgt := 58) dX14_stepless_51 (by decide) ((s_X14_stepless_58 G l Q)) <| xo_iconst (pc := 54) dX14_stepless_54 (by decide) <| xo_goto (pc := 55) (tgt := 59) dX14_stepless_55 (by decide) <| (s_X14_stepless_59 G l Q)) <| xo_lload_n (pc := 6) (i := 1) dX14_stepless_6 rfl <| xo_callS (pc := 7) (np := 1) (cM_X14_isHalf G l) dX14_stepless_7 kw1523 kw1521 kw1522 kw13 (by decide +kernel) (by decide) <| xo_if_ne (pc := 10) (tgt := 24) dX14_stepless_10 (by decide) ((s_X14_stepless_24 G l Q)) <| xo_lload_n (pc := 13) (i := 3) dX14_stepless_13 rfl <| xo_callS (pc := 14) (np := 1) (cM_X14_isHalf G l) dX14_stepless_14 kw1523 kw1521 kw1522 kw13 (by decide +kernel) (by decide) <| xo_if_ne (pc := 17) (tgt := 24) dX14_stepless_17 (by decide) ((s_X14_stepless_24 G l Q)) <| xo_iconst (pc := 20) dX14_stepless_20 (by decide) <| xo_goto (pc := 21) (tgt := 25) dX14_stepless_21 (by decide) <| (s_X14_stepless_25 G l Q)

noncomputable def slB (op : Nat) (a b : Int) : Bool := if op = 9 then !hfB (foB a) && !hfB (foB b) else !whB (foB a) && !whB (foB b) && decide (wR a 0 = wR b 0)
theorem wR_o {k : Int} {how : Nat} (hk : oF k) : oF (wR k how) := by
  unfold wR
  split
  · exact hk
  · rename_i z
    have y : whB (foB k) = false := by
      rcases Bool.eq_false_or_eq_true (whB (foB k)) with c | c
      · exact absurd (by rw [c, Bool.or_true]) z
      · exact c
    have t := wT_lt y
    have w := (ofW_sp (T := wT (foB k) + (if wA (foB k) (decide (k < 0)) how = true then 1 else 0)) (by split <;> omega)).2
    generalize ofW _ = n at w
    unfold sgZ oF
    split <;> omega
def C_X14_stepless : xC := fun av S Q => ∃ (op : Nat) (a b : Int), av = [.int (nI op), .long (lN (foB a)), .long (lN (foB b))] ∧ op ≤ 9 ∧ -9218868437227405312 < a ∧ a < 9218868437227405312 ∧ -9218868437227405312 < b ∧ b < 9218868437227405312 ∧ Q (some (.int (bI (slB op a b)))) S
set_option maxHeartbeats 1000000 in
theorem cM_X14_stepless (G : xG) (l : Launch) : xM G l yX14_stepless cX14_stepless 5 (some FieldType.boolean) r_X14_stepless C_X14_stepless := by
  refine xM_of (fun Q => b_X14_stepless_0 Q) RX14 false (s_X14_stepless_0 G l) (by decide) rfl (by decide) ?_
  rintro av S Q ⟨op, a, b, rfl, ho, a1, a2, b1, b2, hQ⟩
  refine ⟨Nat.le_of_ble_eq_true rfl, ?_⟩
  have oa : oF a := ⟨by omega, by omega⟩
  have ob : oF b := ⟨by omega, by omega⟩
  have ha := foB_lt oa.1 oa.2
  have hb := foB_lt ob.1 ob.2
  have ha2 : foB a + 2 ^ 52 < 2 ^ 64 := by unfold foB; split <;> omega
  have hb2 : foB b + 2 ^ 52 < 2 ^ 64 := by unfold foB; split <;> omega
  have yes : slB op a b = true → Q (some (.int 1)) S := fun e => by rw [e] at hQ; exact hQ
  have no : slB op a b = false → Q (some (.int 0)) S := fun e => by rw [e] at hQ; exact hQ
  have q9 : nI op = 9 ↔ op = 9 := nI_eq (b := 9) (by omega) (by decide)
  simp only [q_c, x_iload, x_lload, x_aload, q_istore, q_lstore, q_astore, q_astore2, x_iinc, q_iadd, q_isub, q_imul, q_iand, q_ior, q_ixor, q_ladd, q_lsub, q_lmul, q_land, q_lor, q_lxor, q_idiv, q_irem, q_ldiv, q_lrem, q_ineg, q_lneg, q_ishl, q_ishr, q_iushr, q_lshl, q_lshr, q_lushr, q_i2l, q_l2i, q_i2b, q_i2c, q_lcmp, q_if_eq, q_if_ne, q_if_lt, q_if_ge, q_if_gt, q_if_le, q_icmp_eq, q_icmp_ne, q_icmp_lt, q_icmp_ge, q_icmp_gt, q_icmp_le, q_dup, q_pop, q_dup_x1, q_dup2, x_iret, x_zret, x_lret, x_aret, x_vret, x_call, x_callv, x_calli, x_oinit, x_mmax, x_mmin, x_mabs, x_mmaxL, x_mminL, x_mabsL, lg_cmp_ge, lg_cmp_le, lg_cmp_gt, lg_cmp_lt, lg_cmp_eq, xlk, q_xs1, q_xs2, lv_args, Value.category, List.filter_cons, List.filter_nil, Nat.reduceAdd, Nat.reduceBEq, Nat.reduceEqDiff, Nat.reduceSub, Nat.sub_zero, beq_self_eq_true, Bool.not_true, Bool.not_false, Bool.and_true, Bool.and_false, Bool.true_and, Bool.false_and, reduceIte, reduceCtorEq, Bool.false_eq_true, Nat.one_ne_zero, Nat.zero_ne_one, Nat.zero_add, Option.toList_some, Option.toList_none, List.nil_append, List.cons_append, List.take_succ_cons, List.take_zero, List.take_nil, List.drop_succ_cons, List.drop_zero, List.length_cons, List.length_nil, List.reverse_cons, List.reverse_nil, List.head?_cons, List.map_cons, List.map_nil, List.sum_cons, List.sum_nil, true_and, and_true, List.getElem?_cons_zero, List.getElem?_cons_succ, Prod.eta, x_get, x_put, x_iald, x_iast, x_bald, x_bast, x_lald, x_last, x_alen, xup_s, xup_a1, xup_1a, xup_uu, nr_i, nr_l, nr_o, nr_a, ft_i, ft_l, ft_o, ft_a, Nat.reduceLT, i_cl0, i_cl1, i_n1, i_m1, List.set_cons_zero, List.set_cons_succ, Nat.reduceLeDiff, Nat.le_refl, Nat.zero_le, Nat.add_zero, x_no, x_ifnull, x_ifnonnull, x_acmp_eq, x_acmp_ne, x_swl, x_tsw, x_castC, true_or, or_true, nr_z, ft_z, nr_z0, nr_z1, ft_z0, ft_z1, nr_on, nr_an, ft_on, ft_an, b_X14_stepless_0, b_X14_stepless_24, b_X14_stepless_25, b_X14_stepless_58, b_X14_stepless_59, q9]
  refine ⟨fun z => ⟨_, rfl, ha, ?_⟩, fun z => ⟨_, rfl, ha, ha2, ?_⟩⟩
  · have sl : slB op a b = (!whB (foB a) && !whB (foB b) && decide (wR a 0 = wR b 0)) := if_neg z
    rw [sl] at yes no
    simp only [q_c, x_iload, x_lload, x_aload, q_istore, q_lstore, q_astore, q_astore2, x_iinc, q_iadd, q_isub, q_imul, q_iand, q_ior, q_ixor, q_ladd, q_lsub, q_lmul, q_land, q_lor, q_lxor, q_idiv, q_irem, q_ldiv, q_lrem, q_ineg, q_lneg, q_ishl, q_ishr, q_iushr, q_lshl, q_lshr, q_lushr, q_i2l, q_l2i, q_i2b, q_i2c, q_lcmp, q_if_eq, q_if_ne, q_if_lt, q_if_ge, q_if_gt, q_if_le, q_icmp_eq, q_icmp_ne, q_icmp_lt, q_icmp_ge, q_icmp_gt, q_icmp_le, q_dup, q_pop, q_dup_x1, q_dup2, x_iret, x_zret, x_lret, x_aret, x_vret, x_call, x_callv, x_calli, x_oinit, x_mmax, x_mmin, x_mabs, x_mmaxL, x_mminL, x_mabsL, lg_cmp_ge, lg_cmp_le, lg_cmp_gt, lg_cmp_lt, lg_cmp_eq, xlk, q_xs1, q_xs2, lv_args, Value.category, List.filter_cons, List.filter_nil, Nat.reduceAdd, Nat.reduceBEq, Nat.reduceEqDiff, Nat.reduceSub, Nat.sub_zero, beq_self_eq_true, Bool.not_true, Bool.not_false, Bool.and_true, Bool.and_false, Bool.true_and, Bool.false_and, reduceIte, reduceCtorEq, Bool.false_eq_true, Nat.one_ne_zero, Nat.zero_ne_one, Nat.zero_add, Option.toList_some, Option.toList_none, List.nil_append, List.cons_append, List.take_succ_cons, List.take_zero, List.take_nil, List.drop_succ_cons, List.drop_zero, List.length_cons, List.length_nil, List.reverse_cons, List.reverse_nil, List.head?_cons, List.map_cons, List.map_nil, List.sum_cons, List.sum_nil, true_and, and_true, List.getElem?_cons_zero, List.getElem?_cons_succ, Prod.eta, x_get, x_put, x_iald, x_iast, x_bald, x_bast, x_lald, x_last, x_alen, xup_s, xup_a1, xup_1a, xup_uu, nr_i, nr_l, nr_o, nr_a, ft_i, ft_l, ft_o, ft_a, Nat.reduceLT, i_cl0, i_cl1, i_n1, i_m1, List.set_cons_zero, List.set_cons_succ, Nat.reduceLeDiff, Nat.le_refl, Nat.zero_le, Nat.add_zero, x_no, x_ifnull, x_ifnonnull, x_acmp_eq, x_acmp_ne, x_swl, x_tsw, x_castC, true_or, or_true, nr_z, ft_z, nr_z0, nr_z1, ft_z0, ft_z1, nr_on, nr_an, ft_on, ft_an, bI_e0]
    refine ⟨fun y => no (by rw [eq_true_of_ne_false y]; rfl), fun y => ⟨_, rfl, hb, ?_⟩⟩
    simp only [q_c, x_iload, x_lload, x_aload, q_istore, q_lstore, q_astore, q_astore2, x_iinc, q_iadd, q_isub, q_imul, q_iand, q_ior, q_ixor, q_ladd, q_lsub, q_lmul, q_land, q_lor, q_lxor, q_idiv, q_irem, q_ldiv, q_lrem, q_ineg, q_lneg, q_ishl, q_ishr, q_iushr, q_lshl, q_lshr, q_lushr, q_i2l, q_l2i, q_i2b, q_i2c, q_lcmp, q_if_eq, q_if_ne, q_if_lt, q_if_ge, q_if_gt, q_if_le, q_icmp_eq, q_icmp_ne, q_icmp_lt, q_icmp_ge, q_icmp_gt, q_icmp_le, q_dup, q_pop, q_dup_x1, q_dup2, x_iret, x_zret, x_lret, x_aret, x_vret, x_call, x_callv, x_calli, x_oinit, x_mmax, x_mmin, x_mabs, x_mmaxL, x_mminL, x_mabsL, lg_cmp_ge, lg_cmp_le, lg_cmp_gt, lg_cmp_lt, lg_cmp_eq, xlk, q_xs1, q_xs2, lv_args, Value.category, List.filter_cons, List.filter_nil, Nat.reduceAdd, Nat.reduceBEq, Nat.reduceEqDiff, Nat.reduceSub, Nat.sub_zero, beq_self_eq_true, Bool.not_true, Bool.not_false, Bool.and_true, Bool.and_false, Bool.true_and, Bool.false_and, reduceIte, reduceCtorEq, Bool.false_eq_true, Nat.one_ne_zero, Nat.zero_ne_one, Nat.zero_add, Option.toList_some, Option.toList_none, List.nil_append, List.cons_append, List.take_succ_cons, List.take_zero, List.take_nil, List.drop_succ_cons, List.drop_zero, List.length_cons, List.length_nil, List.reverse_cons, List.reverse_nil, List.head?_cons, List.map_cons, List.map_nil, List.sum_cons, List.sum_nil, true_and, and_true, List.getElem?_cons_zero, List.getElem?_cons_succ, Prod.eta, x_get, x_put, x_iald, x_iast, x_bald, x_bast, x_lald, x_last, x_alen, xup_s, xup_a1, xup_1a, xup_uu, nr_i, nr_l, nr_o, nr_a, ft_i, ft_l, ft_o, ft_a, Nat.reduceLT, i_cl0, i_cl1, i_n1, i_m1, List.set_cons_zero, List.set_cons_succ, Nat.reduceLeDiff, Nat.le_refl, Nat.zero_le, Nat.add_zero, x_no, x_ifnull, x_ifnonnull, x_acmp_eq, x_acmp_ne, x_swl, x_tsw, x_castC, true_or, or_true, nr_z, ft_z, nr_z0, nr_z1, ft_z0, ft_z1, nr_on, nr_an, ft_on, ft_an, bI_e0]
    refine ⟨fun x => no (by rw [eq_true_of_ne_false x, Bool.not_true, Bool.and_false, Bool.false_and]), fun x => ⟨a, 0, rfl, oa, by decide, ?_⟩⟩
    try simp only [q_c, x_iload, x_lload, x_aload, q_istore, q_lstore, q_astore, q_astore2, x_iinc, q_iadd, q_isub, q_imul, q_iand, q_ior, q_ixor, q_ladd, q_lsub, q_lmul, q_land, q_lor, q_lxor, q_idiv, q_irem, q_ldiv, q_lrem, q_ineg, q_lneg, q_ishl, q_ishr, q_iushr, q_lshl, q_lshr, q_lushr, q_i2l, q_l2i, q_i2b, q_i2c, q_lcmp, q_if_eq, q_if_ne, q_if_lt, q_if_ge, q_if_gt, q_if_le, q_icmp_eq, q_icmp_ne, q_icmp_lt, q_icmp_ge, q_icmp_gt, q_icmp_le, q_dup, q_pop, q_dup_x1, q_dup2, x_iret, x_zret, x_lret, x_aret, x_vret, x_call, x_callv, x_calli, x_oinit, x_mmax, x_mmin, x_mabs, x_mmaxL, x_mminL, x_mabsL, lg_cmp_ge, lg_cmp_le, lg_cmp_gt, lg_cmp_lt, lg_cmp_eq, xlk, q_xs1, q_xs2, lv_args, Value.category, List.filter_cons, List.filter_nil, Nat.reduceAdd, Nat.reduceBEq, Nat.reduceEqDiff, Nat.reduceSub, Nat.sub_zero, beq_self_eq_true, Bool.not_true, Bool.not_false, Bool.and_true, Bool.and_false, Bool.true_and, Bool.false_and, reduceIte, reduceCtorEq, Bool.false_eq_true, Nat.one_ne_zero, Nat.zero_ne_one, Nat.zero_add, Option.toList_some, Option.toList_none, List.nil_append, List.cons_append, List.take_succ_cons, List.take_zero, List.take_nil, List.drop_succ_cons, List.drop_zero, List.length_cons, List.length_nil, List.reverse_cons, List.reverse_nil, List.head?_cons, List.map_cons, List.map_nil, List.sum_cons, List.sum_nil, true_and, and_true, List.getElem?_cons_zero, List.getElem?_cons_succ, Prod.eta, x_get, x_put, x_iald, x_iast, x_bald, x_bast, x_lald, x_last, x_alen, xup_s, xup_a1, xup_1a, xup_uu, nr_i, nr_l, nr_o, nr_a, ft_i, ft_l, ft_o, ft_a, Nat.reduceLT, i_cl0, i_cl1, i_n1, i_m1, List.set_cons_zero, List.set_cons_succ, Nat.reduceLeDiff, Nat.le_refl, Nat.zero_le, Nat.add_zero, x_no, x_ifnull, x_ifnonnull, x_acmp_eq, x_acmp_ne, x_swl, x_tsw, x_castC, true_or, or_true, nr_z, ft_z, nr_z0, nr_z1, ft_z0, ft_z1, nr_on, nr_an, ft_on, ft_an]
    refine ⟨b, 0, rfl, ob, by decide, ?_⟩
    have q : lN (foB (wR a 0)) = lN (foB (wR b 0)) ↔ wR a 0 = wR b 0 := foB_eq (wR_o oa) (wR_o ob)
    simp only [q_c, x_iload, x_lload, x_aload, q_istore, q_lstore, q_astore, q_astore2, x_iinc, q_iadd, q_isub, q_imul, q_iand, q_ior, q_ixor, q_ladd, q_lsub, q_lmul, q_land, q_lor, q_lxor, q_idiv, q_irem, q_ldiv, q_lrem, q_ineg, q_lneg, q_ishl, q_ishr, q_iushr, q_lshl, q_lshr, q_lushr, q_i2l, q_l2i, q_i2b, q_i2c, q_lcmp, q_if_eq, q_if_ne, q_if_lt, q_if_ge, q_if_gt, q_if_le, q_icmp_eq, q_icmp_ne, q_icmp_lt, q_icmp_ge, q_icmp_gt, q_icmp_le, q_dup, q_pop, q_dup_x1, q_dup2, x_iret, x_zret, x_lret, x_aret, x_vret, x_call, x_callv, x_calli, x_oinit, x_mmax, x_mmin, x_mabs, x_mmaxL, x_mminL, x_mabsL, lg_cmp_ge, lg_cmp_le, lg_cmp_gt, lg_cmp_lt, lg_cmp_eq, xlk, q_xs1, q_xs2, lv_args, Value.category, List.filter_cons, List.filter_nil, Nat.reduceAdd, Nat.reduceBEq, Nat.reduceEqDiff, Nat.reduceSub, Nat.sub_zero, beq_self_eq_true, Bool.not_true, Bool.not_false, Bool.and_true, Bool.and_false, Bool.true_and, Bool.false_and, reduceIte, reduceCtorEq, Bool.false_eq_true, Nat.one_ne_zero, Nat.zero_ne_one, Nat.zero_add, Option.toList_some, Option.toList_none, List.nil_append, List.cons_append, List.take_succ_cons, List.take_zero, List.take_nil, List.drop_succ_cons, List.drop_zero, List.length_cons, List.length_nil, List.reverse_cons, List.reverse_nil, List.head?_cons, List.map_cons, List.map_nil, List.sum_cons, List.sum_nil, true_and, and_true, List.getElem?_cons_zero, List.getElem?_cons_succ, Prod.eta, x_get, x_put, x_iald, x_iast, x_bald, x_bast, x_lald, x_last, x_alen, xup_s, xup_a1, xup_1a, xup_uu, nr_i, nr_l, nr_o, nr_a, ft_i, ft_l, ft_o, ft_a, Nat.reduceLT, i_cl0, i_cl1, i_n1, i_m1, List.set_cons_zero, List.set_cons_succ, Nat.reduceLeDiff, Nat.le_refl, Nat.zero_le, Nat.add_zero, x_no, x_ifnull, x_ifnonnull, x_acmp_eq, x_acmp_ne, x_swl, x_tsw, x_castC, true_or, or_true, nr_z, ft_z, nr_z0, nr_z1, ft_z0, ft_z1, nr_on, nr_an, ft_on, ft_an, q]
    rw [y, x] at yes no
    exact ⟨fun t => no (by rw [decide_eq_false t]; rfl), fun t => yes (by rw [decide_eq_true t]; rfl)⟩
  · have sl : slB op a b = (!hfB (foB a) && !hfB (foB b)) := if_pos z
    rw [sl] at yes no
    simp only [q_c, x_iload, x_lload, x_aload, q_istore, q_lstore, q_astore, q_astore2, x_iinc, q_iadd, q_isub, q_imul, q_iand, q_ior, q_ixor, q_ladd, q_lsub, q_lmul, q_land, q_lor, q_lxor, q_idiv, q_irem, q_ldiv, q_lrem, q_ineg, q_lneg, q_ishl, q_ishr, q_iushr, q_lshl, q_lshr, q_lushr, q_i2l, q_l2i, q_i2b, q_i2c, q_lcmp, q_if_eq, q_if_ne, q_if_lt, q_if_ge, q_if_gt, q_if_le, q_icmp_eq, q_icmp_ne, q_icmp_lt, q_icmp_ge, q_icmp_gt, q_icmp_le, q_dup, q_pop, q_dup_x1, q_dup2, x_iret, x_zret, x_lret, x_aret, x_vret, x_call, x_callv, x_calli, x_oinit, x_mmax, x_mmin, x_mabs, x_mmaxL, x_mminL, x_mabsL, lg_cmp_ge, lg_cmp_le, lg_cmp_gt, lg_cmp_lt, lg_cmp_eq, xlk, q_xs1, q_xs2, lv_args, Value.category, List.filter_cons, List.filter_nil, Nat.reduceAdd, Nat.reduceBEq, Nat.reduceEqDiff, Nat.reduceSub, Nat.sub_zero, beq_self_eq_true, Bool.not_true, Bool.not_false, Bool.and_true, Bool.and_false, Bool.true_and, Bool.false_and, reduceIte, reduceCtorEq, Bool.false_eq_true, Nat.one_ne_zero, Nat.zero_ne_one, Nat.zero_add, Option.toList_some, Option.toList_none, List.nil_append, List.cons_append, List.take_succ_cons, List.take_zero, List.take_nil, List.drop_succ_cons, List.drop_zero, List.length_cons, List.length_nil, List.reverse_cons, List.reverse_nil, List.head?_cons, List.map_cons, List.map_nil, List.sum_cons, List.sum_nil, true_and, and_true, List.getElem?_cons_zero, List.getElem?_cons_succ, Prod.eta, x_get, x_put, x_iald, x_iast, x_bald, x_bast, x_lald, x_last, x_alen, xup_s, xup_a1, xup_1a, xup_uu, nr_i, nr_l, nr_o, nr_a, ft_i, ft_l, ft_o, ft_a, Nat.reduceLT, i_cl0, i_cl1, i_n1, i_m1, List.set_cons_zero, List.set_cons_succ, Nat.reduceLeDiff, Nat.le_refl, Nat.zero_le, Nat.add_zero, x_no, x_ifnull, x_ifnonnull, x_acmp_eq, x_acmp_ne, x_swl, x_tsw, x_castC, true_or, or_true, nr_z, ft_z, nr_z0, nr_z1, ft_z0, ft_z1, nr_on, nr_an, ft_on, ft_an, bI_e0]
    refine ⟨fun y => no (by rw [eq_true_of_ne_false y]; rfl), fun y => ⟨_, rfl, hb, hb2, ?_⟩⟩
    simp only [q_c, x_iload, x_lload, x_aload, q_istore, q_lstore, q_astore, q_astore2, x_iinc, q_iadd, q_isub, q_imul, q_iand, q_ior, q_ixor, q_ladd, q_lsub, q_lmul, q_land, q_lor, q_lxor, q_idiv, q_irem, q_ldiv, q_lrem, q_ineg, q_lneg, q_ishl, q_ishr, q_iushr, q_lshl, q_lshr, q_lushr, q_i2l, q_l2i, q_i2b, q_i2c, q_lcmp, q_if_eq, q_if_ne, q_if_lt, q_if_ge, q_if_gt, q_if_le, q_icmp_eq, q_icmp_ne, q_icmp_lt, q_icmp_ge, q_icmp_gt, q_icmp_le, q_dup, q_pop, q_dup_x1, q_dup2, x_iret, x_zret, x_lret, x_aret, x_vret, x_call, x_callv, x_calli, x_oinit, x_mmax, x_mmin, x_mabs, x_mmaxL, x_mminL, x_mabsL, lg_cmp_ge, lg_cmp_le, lg_cmp_gt, lg_cmp_lt, lg_cmp_eq, xlk, q_xs1, q_xs2, lv_args, Value.category, List.filter_cons, List.filter_nil, Nat.reduceAdd, Nat.reduceBEq, Nat.reduceEqDiff, Nat.reduceSub, Nat.sub_zero, beq_self_eq_true, Bool.not_true, Bool.not_false, Bool.and_true, Bool.and_false, Bool.true_and, Bool.false_and, reduceIte, reduceCtorEq, Bool.false_eq_true, Nat.one_ne_zero, Nat.zero_ne_one, Nat.zero_add, Option.toList_some, Option.toList_none, List.nil_append, List.cons_append, List.take_succ_cons, List.take_zero, List.take_nil, List.drop_succ_cons, List.drop_zero, List.length_cons, List.length_nil, List.reverse_cons, List.reverse_nil, List.head?_cons, List.map_cons, List.map_nil, List.sum_cons, List.sum_nil, true_and, and_true, List.getElem?_cons_zero, List.getElem?_cons_succ, Prod.eta, x_get, x_put, x_iald, x_iast, x_bald, x_bast, x_lald, x_last, x_alen, xup_s, xup_a1, xup_1a, xup_uu, nr_i, nr_l, nr_o, nr_a, ft_i, ft_l, ft_o, ft_a, Nat.reduceLT, i_cl0, i_cl1, i_n1, i_m1, List.set_cons_zero, List.set_cons_succ, Nat.reduceLeDiff, Nat.le_refl, Nat.zero_le, Nat.add_zero, x_no, x_ifnull, x_ifnonnull, x_acmp_eq, x_acmp_ne, x_swl, x_tsw, x_castC, true_or, or_true, nr_z, ft_z, nr_z0, nr_z1, ft_z0, ft_z1, nr_on, nr_an, ft_on, ft_an, bI_e0]
    exact ⟨fun x => no (by rw [eq_true_of_ne_false x, Bool.not_true, Bool.and_false]), fun x => yes (by rw [y, x]; rfl)⟩
