theorem bv_upd {f : Nat → Int32} {p m : Nat} {x : Int32} (h : p < m) : bv (upd f p x) m + wn (f p) * 2 ^ (32 * p) = bv f m + wn x * 2 ^ (32 * p) := by
  induction m with
  | zero => omega
  | succ m ih =>
    rw [bv, bv]
    rcases Nat.lt_or_ge p m with q | q
    · rw [pk_un (show m ≠ p by omega)]
      have := ih q
      omega
    · obtain rfl : p = m := by omega
      rw [bv_upd_hi (Nat.le_refl p), pk_us]
      omega
theorem dX0_becomeProduct_0 : decode cX0_becomeProduct 0 = .ok (.aload_n 1, 1) := by decide +kernel
theorem dX0_becomeProduct_1 : decode cX0_becomeProduct 1 = .ok (.getfield 13, 3) := by decide +kernel
theorem dX0_becomeProduct_4 : decode cX0_becomeProduct 4 = .ok (.aload_n 2, 1) := by decide +kernel
theorem dX0_becomeProduct_5 : decode cX0_becomeProduct 5 = .ok (.getfield 13, 3) := by decide +kernel
theorem dX0_becomeProduct_8 : decode cX0_becomeProduct 8 = .ok (.iadd, 1) := by decide +kernel
theorem dX0_becomeProduct_9 : decode cX0_becomeProduct 9 = .ok (.sipush 200, 3) := by decide +kernel
theorem dX0_becomeProduct_12 : decode cX0_becomeProduct 12 = .ok (.invokestatic 48, 3) := by decide +kernel
theorem dX0_becomeProduct_15 : decode cX0_becomeProduct 15 = .ok (.istore_n 3, 1) := by decide +kernel
theorem dX0_becomeProduct_16 : decode cX0_becomeProduct 16 = .ok (.iconst 0, 1) := by decide +kernel
theorem dX0_becomeProduct_17 : decode cX0_becomeProduct 17 = .ok (.istore 4, 2) := by decide +kernel
theorem dX0_becomeProduct_19 : decode cX0_becomeProduct 19 = .ok (.iload 4, 2) := by decide +kernel
theorem dX0_becomeProduct_21 : decode cX0_becomeProduct 21 = .ok (.iload_n 3, 1) := by decide +kernel
theorem dX0_becomeProduct_22 : decode cX0_becomeProduct 22 = .ok (.if_icmp .ge 17, 3) := by decide +kernel
theorem dX0_becomeProduct_25 : decode cX0_becomeProduct 25 = .ok (.aload_n 0, 1) := by decide +kernel
theorem dX0_becomeProduct_26 : decode cX0_becomeProduct 26 = .ok (.getfield 9, 3) := by decide +kernel
theorem dX0_becomeProduct_29 : decode cX0_becomeProduct 29 = .ok (.iload 4, 2) := by decide +kernel
theorem dX0_becomeProduct_31 : decode cX0_becomeProduct 31 = .ok (.iconst 0, 1) := by decide +kernel
theorem dX0_becomeProduct_32 : decode cX0_becomeProduct 32 = .ok (.iastore, 1) := by decide +kernel
theorem dX0_becomeProduct_33 : decode cX0_becomeProduct 33 = .ok (.iinc 4 1, 3) := by decide +kernel
theorem dX0_becomeProduct_36 : decode cX0_becomeProduct 36 = .ok (.goto (-17), 3) := by decide +kernel
theorem dX0_becomeProduct_39 : decode cX0_becomeProduct 39 = .ok (.iconst 0, 1) := by decide +kernel
theorem dX0_becomeProduct_40 : decode cX0_becomeProduct 40 = .ok (.istore 4, 2) := by decide +kernel
theorem dX0_becomeProduct_42 : decode cX0_becomeProduct 42 = .ok (.iload 4, 2) := by decide +kernel
theorem dX0_becomeProduct_44 : decode cX0_becomeProduct 44 = .ok (.aload_n 1, 1) := by decide +kernel
theorem dX0_becomeProduct_45 : decode cX0_becomeProduct 45 = .ok (.getfield 13, 3) := by decide +kernel
theorem dX0_becomeProduct_48 : decode cX0_becomeProduct 48 = .ok (.if_icmp .ge 137, 3) := by decide +kernel
theorem dX0_becomeProduct_51 : decode cX0_becomeProduct 51 = .ok (.lconst 0, 1) := by decide +kernel
theorem dX0_becomeProduct_52 : decode cX0_becomeProduct 52 = .ok (.lstore 5, 2) := by decide +kernel
theorem dX0_becomeProduct_54 : decode cX0_becomeProduct 54 = .ok (.aload_n 1, 1) := by decide +kernel
theorem dX0_becomeProduct_55 : decode cX0_becomeProduct 55 = .ok (.getfield 9, 3) := by decide +kernel
theorem dX0_becomeProduct_58 : decode cX0_becomeProduct 58 = .ok (.iload 4, 2) := by decide +kernel
theorem dX0_becomeProduct_60 : decode cX0_becomeProduct 60 = .ok (.iaload, 1) := by decide +kernel
theorem dX0_becomeProduct_61 : decode cX0_becomeProduct 61 = .ok (.i2l, 1) := by decide +kernel
theorem dX0_becomeProduct_62 : decode cX0_becomeProduct 62 = .ok (.ldc2_w 23, 3) := by decide +kernel
theorem dX0_becomeProduct_65 : decode cX0_becomeProduct 65 = .ok (.land, 1) := by decide +kernel
theorem dX0_becomeProduct_66 : decode cX0_becomeProduct 66 = .ok (.lstore 7, 2) := by decide +kernel
theorem dX0_becomeProduct_68 : decode cX0_becomeProduct 68 = .ok (.aload_n 2, 1) := by decide +kernel
theorem dX0_becomeProduct_69 : decode cX0_becomeProduct 69 = .ok (.getfield 13, 3) := by decide +kernel
theorem dX0_becomeProduct_72 : decode cX0_becomeProduct 72 = .ok (.sipush 200, 3) := by decide +kernel
theorem dX0_becomeProduct_75 : decode cX0_becomeProduct 75 = .ok (.iload 4, 2) := by decide +kernel
theorem dX0_becomeProduct_77 : decode cX0_becomeProduct 77 = .ok (.isub, 1) := by decide +kernel
theorem dX0_becomeProduct_78 : decode cX0_becomeProduct 78 = .ok (.invokestatic 48, 3) := by decide +kernel
theorem dX0_becomeProduct_81 : decode cX0_becomeProduct 81 = .ok (.istore 9, 2) := by decide +kernel
theorem dX0_becomeProduct_83 : decode cX0_becomeProduct 83 = .ok (.iconst 0, 1) := by decide +kernel
theorem dX0_becomeProduct_84 : decode cX0_becomeProduct 84 = .ok (.istore 10, 2) := by decide +kernel
theorem dX0_becomeProduct_86 : decode cX0_becomeProduct 86 = .ok (.iload 10, 2) := by decide +kernel
theorem dX0_becomeProduct_88 : decode cX0_becomeProduct 88 = .ok (.iload 9, 2) := by decide +kernel
theorem dX0_becomeProduct_90 : decode cX0_becomeProduct 90 = .ok (.if_icmp .ge 65, 3) := by decide +kernel
theorem dX0_becomeProduct_93 : decode cX0_becomeProduct 93 = .ok (.lload 5, 2) := by decide +kernel
theorem dX0_becomeProduct_95 : decode cX0_becomeProduct 95 = .ok (.lload 7, 2) := by decide +kernel
theorem dX0_becomeProduct_97 : decode cX0_becomeProduct 97 = .ok (.aload_n 2, 1) := by decide +kernel
theorem dX0_becomeProduct_98 : decode cX0_becomeProduct 98 = .ok (.getfield 9, 3) := by decide +kernel
theorem dX0_becomeProduct_101 : decode cX0_becomeProduct 101 = .ok (.iload 10, 2) := by decide +kernel
theorem dX0_becomeProduct_103 : decode cX0_becomeProduct 103 = .ok (.iaload, 1) := by decide +kernel
theorem dX0_becomeProduct_104 : decode cX0_becomeProduct 104 = .ok (.i2l, 1) := by decide +kernel
theorem dX0_becomeProduct_105 : decode cX0_becomeProduct 105 = .ok (.ldc2_w 23, 3) := by decide +kernel
theorem dX0_becomeProduct_108 : decode cX0_becomeProduct 108 = .ok (.land, 1) := by decide +kernel
theorem dX0_becomeProduct_109 : decode cX0_becomeProduct 109 = .ok (.lmul, 1) := by decide +kernel
theorem dX0_becomeProduct_110 : decode cX0_becomeProduct 110 = .ok (.aload_n 0, 1) := by decide +kernel
theorem dX0_becomeProduct_111 : decode cX0_becomeProduct 111 = .ok (.getfield 9, 3) := by decide +kernel
theorem dX0_becomeProduct_114 : decode cX0_becomeProduct 114 = .ok (.iload 4, 2) := by decide +kernel
theorem dX0_becomeProduct_116 : decode cX0_becomeProduct 116 = .ok (.iload 10, 2) := by decide +kernel
theorem dX0_becomeProduct_118 : decode cX0_becomeProduct 118 = .ok (.iadd, 1) := by decide +kernel
theorem dX0_becomeProduct_119 : decode cX0_becomeProduct 119 = .ok (.iaload, 1) := by decide +kernel
theorem dX0_becomeProduct_120 : decode cX0_becomeProduct 120 = .ok (.i2l, 1) := by decide +kernel
theorem dX0_becomeProduct_121 : decode cX0_becomeProduct 121 = .ok (.ldc2_w 23, 3) := by decide +kernel
theorem dX0_becomeProduct_124 : decode cX0_becomeProduct 124 = .ok (.land, 1) := by decide +kernel
theorem dX0_becomeProduct_125 : decode cX0_becomeProduct 125 = .ok (.ladd, 1) := by decide +kernel
theorem dX0_becomeProduct_126 : decode cX0_becomeProduct 126 = .ok (.ladd, 1) := by decide +kernel
theorem dX0_becomeProduct_127 : decode cX0_becomeProduct 127 = .ok (.lstore 5, 2) := by decide +kernel
theorem dX0_becomeProduct_129 : decode cX0_becomeProduct 129 = .ok (.aload_n 0, 1) := by decide +kernel
theorem dX0_becomeProduct_130 : decode cX0_becomeProduct 130 = .ok (.getfield 9, 3) := by decide +kernel
theorem dX0_becomeProduct_133 : decode cX0_becomeProduct 133 = .ok (.iload 4, 2) := by decide +kernel
theorem dX0_becomeProduct_135 : decode cX0_becomeProduct 135 = .ok (.iload 10, 2) := by decide +kernel
theorem dX0_becomeProduct_137 : decode cX0_becomeProduct 137 = .ok (.iadd, 1) := by decide +kernel
theorem dX0_becomeProduct_138 : decode cX0_becomeProduct 138 = .ok (.lload 5, 2) := by decide +kernel
theorem dX0_becomeProduct_140 : decode cX0_becomeProduct 140 = .ok (.l2i, 1) := by decide +kernel
theorem dX0_becomeProduct_141 : decode cX0_becomeProduct 141 = .ok (.iastore, 1) := by decide +kernel
theorem dX0_becomeProduct_142 : decode cX0_becomeProduct 142 = .ok (.lload 5, 2) := by decide +kernel
theorem dX0_becomeProduct_144 : decode cX0_becomeProduct 144 = .ok (.bipush 32, 2) := by decide +kernel
theorem dX0_becomeProduct_146 : decode cX0_becomeProduct 146 = .ok (.lushr, 1) := by decide +kernel
theorem dX0_becomeProduct_147 : decode cX0_becomeProduct 147 = .ok (.lstore 5, 2) := by decide +kernel
theorem dX0_becomeProduct_149 : decode cX0_becomeProduct 149 = .ok (.iinc 10 1, 3) := by decide +kernel
theorem dX0_becomeProduct_152 : decode cX0_becomeProduct 152 = .ok (.goto (-66), 3) := by decide +kernel
theorem dX0_becomeProduct_155 : decode cX0_becomeProduct 155 = .ok (.iload 4, 2) := by decide +kernel
theorem dX0_becomeProduct_157 : decode cX0_becomeProduct 157 = .ok (.iload 9, 2) := by decide +kernel
theorem dX0_becomeProduct_159 : decode cX0_becomeProduct 159 = .ok (.iadd, 1) := by decide +kernel
theorem dX0_becomeProduct_160 : decode cX0_becomeProduct 160 = .ok (.sipush 200, 3) := by decide +kernel
theorem dX0_becomeProduct_163 : decode cX0_becomeProduct 163 = .ok (.if_icmp .ge 16, 3) := by decide +kernel
theorem dX0_becomeProduct_166 : decode cX0_becomeProduct 166 = .ok (.aload_n 0, 1) := by decide +kernel
theorem dX0_becomeProduct_167 : decode cX0_becomeProduct 167 = .ok (.getfield 9, 3) := by decide +kernel
theorem dX0_becomeProduct_170 : decode cX0_becomeProduct 170 = .ok (.iload 4, 2) := by decide +kernel
theorem dX0_becomeProduct_172 : decode cX0_becomeProduct 172 = .ok (.iload 9, 2) := by decide +kernel
theorem dX0_becomeProduct_174 : decode cX0_becomeProduct 174 = .ok (.iadd, 1) := by decide +kernel
theorem dX0_becomeProduct_175 : decode cX0_becomeProduct 175 = .ok (.lload 5, 2) := by decide +kernel
theorem dX0_becomeProduct_177 : decode cX0_becomeProduct 177 = .ok (.l2i, 1) := by decide +kernel
theorem dX0_becomeProduct_178 : decode cX0_becomeProduct 178 = .ok (.iastore, 1) := by decide +kernel
theorem dX0_becomeProduct_179 : decode cX0_becomeProduct 179 = .ok (.iinc 4 1, 3) := by decide +kernel
theorem dX0_becomeProduct_182 : decode cX0_becomeProduct 182 = .ok (.goto (-140), 3) := by decide +kernel
theorem dX0_becomeProduct_185 : decode cX0_becomeProduct 185 = .ok (.aload_n 0, 1) := by decide +kernel
theorem dX0_becomeProduct_186 : decode cX0_becomeProduct 186 = .ok (.iload_n 3, 1) := by decide +kernel
theorem dX0_becomeProduct_187 : decode cX0_becomeProduct 187 = .ok (.putfield 13, 3) := by decide +kernel
theorem dX0_becomeProduct_190 : decode cX0_becomeProduct 190 = .ok (.aload_n 0, 1) := by decide +kernel
theorem dX0_becomeProduct_191 : decode cX0_becomeProduct 191 = .ok (.invokevirtual 45, 3) := by decide +kernel
theorem dX0_becomeProduct_194 : decode cX0_becomeProduct 194 = .ok (.return_, 1) := by decide +kernel
abbrev r_X0_becomeProduct : Room := { frames := 1, cells := 0, slots := 0, locals := 21 }
abbrev m_X0_becomeProduct : xMd := (cX0_becomeProduct, RX0, 11, none, false, r_X0_becomeProduct)
def b_X0_becomeProduct_0 (Q : xQ) (K19 : xK) (K42 : xK) (K86 : xK) : xK := x_aload 1 <| x_get 1 1 <| x_aload 2 <| x_get 1 1 <| x_iadd <| x_c (.int 200) <| x_mmin <| x_istore 3 <| x_c (.int 0) <| x_istore 4 <| K19
def b_X0_becomeProduct_19 (Q : xQ) (K19 : xK) (K42 : xK) (K86 : xK) : xK := x_iload 4 <| x_iload 3 <| x_icmp_ge (x_c (.int 0) <| x_istore 4 <| K42) <| x_aload 0 <| x_get 1 0 <| x_iload 4 <| x_c (.int 0) <| x_iast <| x_iinc 4 1 <| K19
def b_X0_becomeProduct_42 (Q : xQ) (K19 : xK) (K42 : xK) (K86 : xK) : xK := x_iload 4 <| x_aload 1 <| x_get 1 1 <| x_icmp_ge (x_aload 0 <| x_iload 3 <| x_put 1 1 .int <| x_aload 0 <| x_callv 1 C_X0_trim 1 0 0 <| x_vret Q) <| x_c (.long 0) <| x_lstore 5 <| x_aload 1 <| x_get 1 0 <| x_iload 4 <| x_iald <| x_i2l <| x_c (.long 4294967295) <| x_land <| x_lstore 7 <| x_aload 2 <| x_get 1 1 <| x_c (.int 200) <| x_iload 4 <| x_isub <| x_mmin <| x_istore 9 <| x_c (.int 0) <| x_istore 10 <| K86
def b_X0_becomeProduct_179 (Q : xQ) (K19 : xK) (K42 : xK) (K86 : xK) : xK := x_iinc 4 1 <| K42
def b_X0_becomeProduct_86 (Q : xQ) (K19 : xK) (K42 : xK) (K86 : xK) : xK := x_iload 10 <| x_iload 9 <| x_icmp_ge (x_iload 4 <| x_iload 9 <| x_iadd <| x_c (.int 200) <| x_icmp_ge ((b_X0_becomeProduct_179 Q K19 K42 K86)) <| x_aload 0 <| x_get 1 0 <| x_iload 4 <| x_iload 9 <| x_iadd <| x_lload 5 <| x_l2i <| x_iast <| (b_X0_becomeProduct_179 Q K19 K42 K86)) <| x_lload 5 <| x_lload 7 <| x_aload 2 <| x_get 1 0 <| x_iload 10 <| x_iald <| x_i2l <| x_c (.long 4294967295) <| x_land <| x_lmul <| x_aload 0 <| x_get 1 0 <| x_iload 4 <| x_iload 10 <| x_iadd <| x_iald <| x_i2l <| x_c (.long 4294967295) <| x_land <| x_ladd <| x_ladd <| x_lstore 5 <| x_aload 0 <| x_get 1 0 <| x_iload 4 <| x_iload 10 <| x_iadd <| x_lload 5 <| x_l2i <| x_iast <| x_lload 5 <| x_c (.int 32) <| x_lushr <| x_lstore 5 <| x_iinc 10 1 <| K86
theorem s_X0_becomeProduct_0 (G : xG) (l : Launch) (Q : xQ) (K19 : xK) (K42 : xK) (K86 : xK) (h19 : xW G l m_X0_becomeProduct xX0 (xPm G Q r_X0_becomeProduct) 19 K19) (h42 : xW G l m_X0_becomeProduct xX0 (xPm G Q r_X0_becomeProduct) 42 K42) (h86 : xW G l m_X0_becomeProduct xX0 (xPm G Q r_X0_becomeProduct) 86 K86) : xW G l m_X0_becomeProduct xX0 (xPm G Q r_X0_becomeProduct) 0 (b_X0_becomeProduct_0 Q K19 K42 K86) := xo_aload_n (pc := 0) (i := 1) dX0_becomeProduct_0 rfl <| xo_get (pc := 1) (ci := 1) (i := 1) rfl ok1 (by decide) dX0_becomeProduct_1 kw77 <| xo_aload_n (pc := 4) (i := 2) dX0_becomeProduct_4 rfl <| xo_get (pc := 5) (ci := 1) (i := 1) rfl ok1 (by decide) dX0_becomeProduct_5 kw77 <| xo_iadd (pc := 8) dX0_becomeProduct_8 <| xo_sipush (pc := 9) dX0_becomeProduct_9 (by decide) <| xo_mmin (pc := 12) dX0_becomeProduct_12 kw632 kw331 kw17 kw332 (by decide) <| xo_istore_n (pc := 15) (i := 3) dX0_becomeProduct_15 rfl (by decide) <| xo_iconst (pc := 16) dX0_becomeProduct_16 (by decide) <| xo_istore (pc := 17) (i := 4) dX0_becomeProduct_17 (by decide) <| h19
theorem s_X0_becomeProduct_19 (G : xG) (l : Launch) (Q : xQ) (K19 : xK) (K42 : xK) (K86 : xK) (h19 : xW G l m_X0_becomeProduct xX0 (xPm G Q r_X0_becomeProduct) 19 K19) (h42 : xW G l m_X0_becomeProduct xX0 (xPm G Q r_X0_becomeProduct) 42 K42) (h86 : xW G l m_X0_becomeProduct xX0 (xPm G Q r_X0_becomeProduct) 86 K86) : xW G l m_X0_becomeProduct xX0 (xPm G Q r_X0_becomeProduct) 19 (b_X0_becomeProduct_19 Q K19 K42 K86) := xo_iload (pc := 19) (i := 4) dX0_becomeProduct_19 <| xo_iload_n (pc := 21) (i := 3) dX0_becomeProduct_21 rfl <| xo_icmp_ge (pc := 22) (tgt := 39) dX0_becomeProduct_22 (by decide) (xo_iconst (pc := 39) dX0_becomeProduct_39 (by decide) <| xo_istore (pc := 40) (i := 4) dX0_becomeProduct_40 (by decide) <| h42) <| xo_aload_n (pc := 25) (i := 0) dX0_becomeProduct_25 rfl <| xo_get (pc := 26) (ci := 1) (i := 0) rfl ok1 (by decide) dX0_becomeProduct_26 kw76 <| xo_iload (pc := 29) (i := 4) dX0_becomeProduct_29 <| xo_iconst (pc := 31) dX0_becomeProduct_31 (by decide) <| xo_iast (pc := 32) dX0_becomeProduct_32 <| xo_iinc (pc := 33) dX0_becomeProduct_33 (by decide) <| xo_goto (pc := 36) (tgt := 19) dX0_becomeProduct_36 (by decide) <| h19
theorem s_X0_becomeProduct_42 (G : xG) (l : Launch) (Q : xQ) (K19 : xK) (K42 : xK) (K86 : xK) (h19 : xW G l m_X0_becomeProduct xX0 (xPm G Q r_X0_becomeProduct) 19 K19) (h42 : xW G l m_X0_becomeProduct xX0 (xPm G Q r_X0_becomeProduct) 42 K42) (h86 : xW G l m_X0_becomeProduct xX0 (xPm G Q r_X0_becomeProduct) 86 K86) : xW G l m_X0_becomeProduct xX0 (xPm G Q r_X0_becomeProduct) 42 (b_X0_becomeProduct_42 Q K19 K42 K86) := xo_iload (pc := 42) (i := 4) dX0_becomeProduct_42 <| xo_aload_n (pc := 44) (i := 1) dX0_becomeProduct_44 rfl <| xo_get (pc := 45) (ci := 1) (i := 1) rfl ok1 (by decide) dX0_becomeProduct_45 kw77 <| xo_icmp_ge (pc := 48) (tgt := 185) dX0_becomeProduct_48 (by decide) (xo_aload_n (pc := 185) (i := 0) dX0_becomeProduct_185 rfl <| xo_iload_n (pc := 186) (i := 3) dX0_becomeProduct_186 rfl <| xo_put (pc := 187) (ci := 1) (i := 1) rfl ok1 (by decide) rfl rfl dX0_becomeProduct_187 kw77 <| xo_aload_n (pc := 190) (i := 0) dX0_becomeProduct_190 rfl <| xo_callV (pc := 191) (np := 0) (ci := 1) rfl (cM_X0_trim G l) dX0_becomeProduct_191 kw591 kw588 kw590 ks17 kw6 (by decide +kernel) (by decide) <| xo_vret (pc := 194) rfl dX0_becomeProduct_194) <| xo_lconst (pc := 51) dX0_becomeProduct_51 (by decide) <| xo_lstore (pc := 52) (i := 5) dX0_becomeProduct_52 (by decide) <| xo_aload_n (pc := 54) (i := 1) dX0_becomeProduct_54 rfl <| xo_get (pc := 55) (ci := 1) (i := 0) rfl ok1 (by decide) dX0_becomeProduct_55 kw76 <| xo_iload (pc := 58) (i := 4) dX0_becomeProduct_58 <| xo_iald (pc := 60) dX0_becomeProduct_60 <| xo_i2l (pc := 61) dX0_becomeProduct_61 <| xo_ldc2_w (pc := 62) dX0_becomeProduct_62 kw531 <| xo_land (pc := 65) dX0_becomeProduct_65 <| xo_lstore (pc := 66) (i := 7) dX0_becomeProduct_66 (by decide) <| xo_aload_n (pc := 68) (i := 2) dX0_becomeProduct_68 rfl <| xo_get (pc := 69) (ci := 1) (i := 1) rfl ok1 (by decide) dX0_becomeProduct_69 kw77 <| xo_sipush (pc := 72) dX0_becomeProduct_72 (by decide) <| xo_iload (pc := 75) (i := 4) dX0_becomeProduct_75 <| xo_isub (pc := 77) dX0_becomeProduct_77 <| xo_mmin (pc := 78) dX0_becomeProduct_78 kw632 kw331 kw17 kw332 (by decide) <| xo_istore (pc := 81) (i := 9) dX0_becomeProduct_81 (by decide) <| xo_iconst (pc := 83) dX0_becomeProduct_83 (by decide) <| xo_istore (pc := 84) (i := 10) dX0_becomeProduct_84 (by decide) <| h86
theorem s_X0_becomeProduct_179 (G : xG) (l : Launch) (Q : xQ) (K19 : xK) (K42 : xK) (K86 : xK) (h19 : xW G l m_X0_becomeProduct xX0 (xPm G Q r_X0_becomeProduct) 19 K19) (h42 : xW G l m_X0_becomeProduct xX0 (xPm G Q r_X0_becomeProduct) 42 K42) (h86 : xW G l m_X0_becomeProduct xX0 (xPm G Q r_X0_becomeProduct) 86 K86) : xW G l m_X0_becomeProduct xX0 (xPm G Q r_X0_becomeProduct) 179 (b_X0_becomeProduct_179 Q K19 K42 K86) := xo_iinc (pc := 179) dX0_becomeProduct_179 (by decide) <| xo_goto (pc := 182) (tgt := 42) dX0_becomeProduct_182 (by decide) <| h42
theorem s_X0_becomeProduct_86 (G : xG) (l : Launch) (Q : xQ) (K19 : xK) (K42 : xK) (K86 : xK) (h19 : xW G l m_X0_becomeProduct xX0 (xPm G Q r_X0_becomeProduct) 19 K19) (h42 : xW G l m_X0_becomeProduct xX0 (xPm G Q r_X0_becomeProduct) 42 K42) (h86 : xW G l m_X0_becomeProduct xX0 (xPm G Q r_X0_becomeProduct) 86 K86) : xW G l m_X0_becomeProduct xX0 (xPm G Q r_X0_becomeProduct) 86 (b_X0_becomeProduct_86 Q K19 K42 K86) := xo_iload (pc := 86) (i := 10) dX0_becomeProduct_86 <| xo_iload (pc := 88) (i := 9) dX0_becomeProduct_88 <| xo_icmp_ge (pc := 90) (tgt := 155) dX0_becomeProduct_90 (by decide) (xo_iload (pc := 155) (i := 4) dX0_becomeProduct_155 <| xo_iload (pc := 157) (i := 9) dX0_becomeProduct_157 <| xo_iadd (pc := 159) dX0_becomeProduct_159 <| xo_sipush (pc := 160) dX0_becomeProduct_160 (by decide) <| xo_icmp_ge (pc := 163) (tgt := 179) dX0_becomeProduct_163 (by decide) ((s_X0_becomeProduct_179 G l Q K19 K42 K86 h19 h42 h86)) <| xo_aload_n (pc := 166) (i := 0) dX0_becomeProduct_166 rfl <| xo_get (pc := 167) (ci := 1) (i := 0) rfl ok1 (by decide) dX0_becomeProduct_167 kw76 <| xo_iload (pc := 170) (i := 4) dX0_becomeProduct_170 <| xo_iload (pc := 172) (i := 9) dX0_becomeProduct_172 <| xo_iadd (pc := 174) dX0_becomeProduct_174 <| xo_lload (pc := 175) (i := 5) dX0_becomeProduct_175 <| xo_l2i (pc := 177) dX0_becomeProduct_177 <| xo_iast (pc := 178) dX0_becomeProduct_178 <| (s_X0_becomeProduct_179 G l Q K19 K42 K86 h19 h42 h86)) <| xo_lload (pc := 93) (i := 5) dX0_becomeProduct_93 <| xo_lload (pc := 95) (i := 7) dX0_becomeProduct_95 <| xo_aload_n (pc := 97) (i := 2) dX0_becomeProduct_97 rfl <| xo_get (pc := 98) (ci := 1) (i := 0) rfl ok1 (by decide) dX0_becomeProduct_98 kw76 <| xo_iload (pc := 101) (i := 10) dX0_becomeProduct_101 <| xo_iald (pc := 103) dX0_becomeProduct_103 <| xo_i2l (pc := 104) dX0_becomeProduct_104 <| xo_ldc2_w (pc := 105) dX0_becomeProduct_105 kw531 <| xo_land (pc := 108) dX0_becomeProduct_108 <| xo_lmul (pc := 109) dX0_becomeProduct_109 <| xo_aload_n (pc := 110) (i := 0) dX0_becomeProduct_110 rfl <| xo_get (pc := 111) (ci := 1) (i := 0) rfl ok1 (by decide) dX0_becomeProduct_111 kw76 <| xo_iload (pc := 114) (i := 4) dX0_becomeProduct_114 <| xo_iload (pc := 116) (i := 10) dX0_becomeProduct_116 <| xo_iadd (pc := 118) dX0_becomeProduct_118 <| xo_iald (pc := 119) dX0_becomeProduct_119 <| xo_i2l (pc := 120) dX0_becomeProduct_120 <| xo_ldc2_w (pc := 121) dX0_becomeProduct_121 kw531 <| xo_land (pc := 124) dX0_becomeProduct_124 <| xo_ladd (pc := 125) dX0_becomeProduct_125 <| xo_ladd (pc := 126) dX0_becomeProduct_126 <| xo_lstore (pc := 127) (i := 5) dX0_becomeProduct_127 (by decide) <| xo_aload_n (pc := 129) (i := 0) dX0_becomeProduct_129 rfl <| xo_get (pc := 130) (ci := 1) (i := 0) rfl ok1 (by decide) dX0_becomeProduct_130 kw76 <| xo_iload (pc := 133) (i := 4) dX0_becomeProduct_133 <| xo_iload (pc := 135) (i := 10) dX0_becomeProduct_135 <| xo_iadd (pc := 137) dX0_becomeProduct_137 <| xo_lload (pc := 138) (i := 5) dX0_becomeProduct_138 <| xo_l2i (pc := 140) dX0_becomeProduct_140 <| xo_iast (pc := 141) dX0_becomeProduct_141 <| xo_lload (pc := 142) (i := 5) dX0_becomeProduct_142 <| xo_bipush (pc := 144) dX0_becomeProduct_144 (by decide) <| xo_lushr (pc := 146) dX0_becomeProduct_146 <| xo_lstore (pc := 147) (i := 5) dX0_becomeProduct_147 (by decide) <| xo_iinc (pc := 149) dX0_becomeProduct_149 (by decide) <| xo_goto (pc := 152) (tgt := 86) dX0_becomeProduct_152 (by decide) <| h86

def C_X0_becomeProduct : xC := fun av S Q => ∃ t a b u v, av = [.ref t, .ref a, .ref b] ∧ (a + 2 ≤ t ∨ t + 2 ≤ a) ∧ (b + 2 ≤ t ∨ t + 2 ≤ b) ∧ (∃ f n, bigR S.1 t f n) ∧ bigV S.1 a u ∧ bigV S.1 b v ∧ u * v < 2 ^ 6368 ∧ ∀ h', xoff h' S.1 t (t + 2) → bigV h' t (u * v) → Q none (h', S.2)
/-- what stays all the time: the operands and the target's size; what is asked at the end -/
def prdC (Q : xQ) (t a b : Nat) (fa fb : Nat → Int32) (na nb : Nat) (S : xS) : Prop := (a + 2 ≤ t ∨ t + 2 ≤ a) ∧ (b + 2 ≤ t ∨ t + 2 ≤ b) ∧ bigR S.1 a fa na ∧ bigR S.1 b fb nb ∧ na + nb ≤ 200 ∧ ∀ h', xoff h' S.1 t (t + 2) → bigV h' t (bv fa na * bv fb nb) → Q none (h', S.2)
theorem prdC.wr {Q : xQ} {t a b : Nat} {fa fb : Nat → Int32} {na nb : Nat} {S : xS} {c : xE} (h : prdC Q t a b fa fb na nb S) : prdC Q t a b fa fb na nb (xup S.1 (t + 1) c, S.2) := by
  obtain ⟨h1, h2, h3, h4, h5, h6⟩ := h
  exact ⟨h1, h2, h3.off off_wr (by omega), h4.off off_wr (by omega), h5, fun h' o' r' => h6 h' (xoff_tr o' off_wr) r'⟩
def cn_P1 : Nat × Nat × Nat × Nat × Nat → List (Nat × Value) := fun v => [(0, .ref v.1), (1, .ref v.2.1), (2, .ref v.2.2.1), (3, .int (nI v.2.2.2.1)), (4, .int (nI v.2.2.2.2))]
def I_P1 (Q : xQ) : Nat → Nat × Nat × Nat × Nat × Nat → xS → Prop := fun k v S => match v with
  | (t, a, b, L, i) => ∃ f n fa fb na nb, bigR S.1 t f n ∧ prdC Q t a b fa fb na nb S ∧ L = na + nb ∧ k + i = L ∧ ∀ j, j < i → f j = 0
def I_P2 (Q : xQ) : Nat → Nat × Nat × Nat × Nat × Nat → xS → Prop := fun k v S => match v with
  | (t, a, b, L, i) => ∃ f n fa fb na nb, bigR S.1 t f n ∧ prdC Q t a b fa fb na nb S ∧ L = na + nb ∧ k + i = na ∧ (∀ j, i + nb ≤ j → j < L → f j = 0) ∧ bv f L = bv fa i * bv fb nb
def cn_P3 : Nat × Nat × Nat × Nat × Nat × Nat × Nat × Nat × Nat → List (Nat × Value) := fun v => match v with
  | (t, a, b, L, i, c, w, M, j) => [(0, .ref t), (1, .ref a), (2, .ref b), (3, .int (nI L)), (4, .int (nI i)), (5, .long (lN c)), (7, .long (lN w)), (9, .int (nI M)), (10, .int (nI j))]
def I_P3 (Q : xQ) (K : xK) : Nat → Nat × Nat × Nat × Nat × Nat × Nat × Nat × Nat × Nat → xS → Prop := fun k v S => match v with
  | (t, a, b, L, i, c, w, M, j) => ∃ f n fa fb na nb, bigR S.1 t f n ∧ prdC Q t a b fa fb na nb S ∧ L = na + nb ∧ M = nb ∧ i < na ∧ k + j = nb ∧ w = wn (fa i) ∧ c < 2 ^ 32 ∧ (∀ q, i + nb ≤ q → q < L → f q = 0) ∧ bv f L + c * 2 ^ (32 * (i + j)) = bv fa i * bv fb nb + wn (fa i) * 2 ^ (32 * i) * bv fb j ∧
    ∀ (lv : List (Nat × Value)) (f' : Nat → Int32) (n' : Nat) (S' : xS), xsub (cn_P1 (t, a, b, L, i + 1)) lv → bigR S'.1 t f' n' → prdC Q t a b fa fb na nb S' → (∀ q, i + 1 + nb ≤ q → q < L → f' q = 0) → bv f' L = bv fa (i + 1) * bv fb nb → K lv [] S'
set_option maxHeartbeats 4000000 in
theorem prd_L3 (G : xG) (l : Launch) : ∀ Q K19 K42, xW G l m_X0_becomeProduct xX0 (xPm G Q r_X0_becomeProduct) 19 K19 → xW G l m_X0_becomeProduct xX0 (xPm G Q r_X0_becomeProduct) 42 K42 → xW G l m_X0_becomeProduct xX0 (xPm G Q r_X0_becomeProduct) 86 (xInv cn_P3 (I_P3 Q K42)) := by
  intro Q K19 K42 h19 h42
  refine xW.lp (b_X0_becomeProduct_86 Q K19 K42) (fun K hK => s_X0_becomeProduct_86 G l Q K19 K42 K h19 h42 hK) ?_
  rintro k ⟨t, a, b, L, i, c, w, M, j⟩ S ⟨f, n, fa, fb, na, nb, r, hC, rfl, rfl, hi, hk, rfl, hc, hz, hv, hK⟩
  obtain ⟨o1, o2, ra, rb, hsz, hQ⟩ := id hC
  have en := nI_leI (show M < 2 ^ 31 by omega) (show j < 2 ^ 31 by omega)
  have cj := nI_clamp (show j < 2 ^ 31 by omega)
  have g1 : nI i + nI M = nI (i + M) := nI_add i M
  have g2 : nI i + nI j = nI (i + j) := nI_add i j
  have c2 := nI_clamp (show i + j < 2 ^ 31 by omega)
  have c3 := nI_clamp (show i + M < 2 ^ 31 by omega)
  have e200 : (200 : Int32) ≤ nI (i + M) ↔ 200 ≤ i + M := nI_leI (a := 200) (by decide) (by omega)
  simp only [x_c, x_iload, x_lload, x_aload, x_istore, x_lstore, x_astore, x_iinc, x_iadd, x_isub, x_imul, x_iand, x_ior, x_ixor, x_ladd, x_lsub, x_lmul, x_land, x_lor, x_lxor, x_idiv, x_irem, x_ldiv, x_lrem, x_ineg, x_lneg, x_ishl, x_ishr, x_iushr, x_lshl, x_lshr, x_lushr, x_i2l, x_l2i, x_i2b, x_i2c, x_lcmp, x_if_eq, x_if_ne, x_if_lt, x_if_ge, x_if_gt, x_if_le, x_icmp_eq, x_icmp_ne, x_icmp_lt, x_icmp_ge, x_icmp_gt, x_icmp_le, x_dup, x_pop, x_dup_x1, x_dup2, x_iret, x_zret, x_lret, x_aret, x_vret, x_call, x_callv, x_calli, x_oinit, x_mmax, x_mmin, x_mabs, x_mmaxL, x_mminL, x_mabsL, lg_cmp_ge, lg_cmp_le, lg_cmp_gt, lg_cmp_lt, lg_cmp_eq, xlk, xs1, xs2, lv_args, Value.category, List.filter_cons, List.filter_nil, Nat.reduceAdd, Nat.reduceBEq, Nat.reduceEqDiff, Nat.reduceSub, Nat.sub_zero, beq_self_eq_true, Bool.not_true, Bool.not_false, Bool.and_true, Bool.and_false, Bool.true_and, Bool.false_and, reduceIte, reduceCtorEq, Bool.false_eq_true, Nat.one_ne_zero, Nat.zero_ne_one, Nat.zero_add, Option.toList_some, Option.toList_none, List.nil_append, List.cons_append, List.take_succ_cons, List.take_zero, List.take_nil, List.drop_succ_cons, List.drop_zero, List.length_cons, List.length_nil, List.reverse_cons, List.reverse_nil, List.head?_cons, List.map_cons, List.map_nil, List.sum_cons, List.sum_nil, true_and, and_true, List.getElem?_cons_zero, List.getElem?_cons_succ, Prod.eta, x_get, x_put, x_iald, x_iast, x_bald, x_bast, x_lald, x_last, x_alen, xup_s, xup_a1, xup_1a, xup_uu, nr_i, nr_l, nr_o, nr_a, ft_i, ft_l, ft_o, ft_a, Nat.reduceLT, i_cl0, i_cl1, i_n1, i_m1, List.set_cons_zero, List.set_cons_succ, Nat.reduceLeDiff, Nat.le_refl, Nat.zero_le, Nat.add_zero, b_X0_becomeProduct_86, b_X0_becomeProduct_179, cn_P3, en, r.1, r.2.1, rb.1, rb.2.1, wn_mask, cj, g1, g2, c2, c3, e200, lN_l2i]
  have wf := wn_lt (f (i + j))
  have wa := wn_lt (fa i)
  have wb := wn_lt (fb j)
  have hb : wn (fa i) * wn (fb j) ≤ (2 ^ 32 - 1) * (2 ^ 32 - 1) := Nat.mul_le_mul (by omega) (by omega)
  refine ⟨fun q => ⟨fun z => by omega, fun _ => ⟨vp_in_nI (by omega) (by decide), ?_⟩⟩, fun q => ⟨vp_in_nI (by omega) (by decide), vp_in_nI (by omega) (by decide), vp_in_nI (by omega) (by decide), ?_⟩⟩
  · obtain rfl : j = M := by omega
    refine hK _ _ n _ ⟨rfl, rfl, rfl, rfl, rfl, trivial⟩ (r.wr _) hC.wr (fun q h1 h2 => ?_) ?_
    · rw [pk_un (by omega)]; exact hz q (by omega) h2
    · have e1 := bv_upd (f := f) (x := nI c) (show i + j < na + j by omega)
      rw [hz (i + j) (Nat.le_refl _) (by omega), show wn 0 = 0 by decide, wn_nI, Nat.mod_eq_of_lt hc, Nat.zero_mul, Nat.add_zero] at e1
      rw [e1, hv, bv, Nat.add_mul]
  · rw [lN_mul, lN_add, lN_add, lN_l2i, lN_ush32 (by omega)]
    refine xInvL.mk (k - 1) (t, a, b, na + M, i, (c + (wn (fa i) * wn (fb j) + wn (f (i + j)))) / 2 ^ 32, wn (fa i), M, j + 1) (by omega) ⟨rfl, rfl, rfl, rfl, rfl, rfl, rfl, rfl, rfl, trivial⟩ ⟨_, n, fa, fb, na, M, r.wr _, hC.wr, rfl, rfl, hi, by omega, rfl, by omega, fun q h1 h2 => ?_, ?_, hK⟩
    · rw [pk_un (by omega)]; exact hz q h1 h2
    · have e1 := bv_upd (f := f) (x := nI (c + (wn (fa i) * wn (fb j) + wn (f (i + j))))) (show i + j < na + M by omega)
      rw [wn_nI] at e1
      have hp : 2 ^ (32 * (i + (j + 1))) = 2 ^ 32 * 2 ^ (32 * (i + j)) := by rw [← Nat.pow_add, show 32 + 32 * (i + j) = 32 * (i + (j + 1)) by omega]
      have hp2 : 2 ^ (32 * (i + j)) = 2 ^ (32 * i) * 2 ^ (32 * j) := by rw [Nat.mul_add, Nat.pow_add]
      have h9 : wn (fa i) * 2 ^ (32 * i) * (wn (fb j) * 2 ^ (32 * j)) = wn (fa i) * wn (fb j) * 2 ^ (32 * (i + j)) := by rw [hp2]; ac_rfl
      rw [bv, hp, Nat.mul_add (wn (fa i) * 2 ^ (32 * i)), h9]
      generalize 2 ^ (32 * (i + j)) = E at *
      generalize wn (fa i) * wn (fb j) = pr at *
      generalize wn (f (i + j)) = x0 at *
      generalize hz9 : c + (pr + x0) = z at *
      have h1 := Nat.div_add_mod z (2 ^ 32)
      have h2 : z * E = (2 ^ 32 * (z / 2 ^ 32) + z % 2 ^ 32) * E := by rw [h1]
      rw [Nat.add_mul] at h2
      have h3 : z / 2 ^ 32 * (2 ^ 32 * E) = 2 ^ 32 * (z / 2 ^ 32) * E := by ac_rfl
      have h4 : z * E = c * E + (pr * E + x0 * E) := by rw [← hz9, Nat.add_mul, Nat.add_mul]
      rw [h3]
      omega
set_option maxHeartbeats 4000000 in
theorem cM_X0_becomeProduct (G : xG) (l : Launch) : xM G l yX0_becomeProduct cX0_becomeProduct 11 none r_X0_becomeProduct C_X0_becomeProduct := by
  have L3 := prd_L3 G l
  have L2 : ∀ Q K19, xW G l m_X0_becomeProduct xX0 (xPm G Q r_X0_becomeProduct) 19 K19 → xW G l m_X0_becomeProduct xX0 (xPm G Q r_X0_becomeProduct) 42 (xInv cn_P1 (I_P2 Q)) := by
    intro Q K19 h19
    refine xW.lp (fun K => b_X0_becomeProduct_42 Q K19 K (xInv cn_P3 (I_P3 Q K))) (fun K hK => s_X0_becomeProduct_42 G l Q K19 K _ h19 hK (L3 Q K19 K h19 hK)) ?_
    rintro k ⟨t, a, b, L, i⟩ S ⟨f, n, fa, fb, na, nb, r, hC, rfl, hk, hz, hv⟩
    obtain ⟨o1, o2, ra, rb, hsz, hQ⟩ := id hC
    have en := nI_leI (show na < 2 ^ 31 by omega) (show i < 2 ^ 31 by omega)
    have ci := nI_clamp (show i < 2 ^ 31 by omega)
    simp only [x_c, x_iload, x_lload, x_aload, x_istore, x_lstore, x_astore, x_iinc, x_iadd, x_isub, x_imul, x_iand, x_ior, x_ixor, x_ladd, x_lsub, x_lmul, x_land, x_lor, x_lxor, x_idiv, x_irem, x_ldiv, x_lrem, x_ineg, x_lneg, x_ishl, x_ishr, x_iushr, x_lshl, x_lshr, x_lushr, x_i2l, x_l2i, x_i2b, x_i2c, x_lcmp, x_if_eq, x_if_ne, x_if_lt, x_if_ge, x_if_gt, x_if_le, x_icmp_eq, x_icmp_ne, x_icmp_lt, x_icmp_ge, x_icmp_gt, x_icmp_le, x_dup, x_pop, x_dup_x1, x_dup2, x_iret, x_zret, x_lret, x_aret, x_vret, x_call, x_callv, x_calli, x_oinit, x_mmax, x_mmin, x_mabs, x_mmaxL, x_mminL, x_mabsL, lg_cmp_ge, lg_cmp_le, lg_cmp_gt, lg_cmp_lt, lg_cmp_eq, xlk, xs1, xs2, lv_args, Value.category, List.filter_cons, List.filter_nil, Nat.reduceAdd, Nat.reduceBEq, Nat.reduceEqDiff, Nat.reduceSub, Nat.sub_zero, beq_self_eq_true, Bool.not_true, Bool.not_false, Bool.and_true, Bool.and_false, Bool.true_and, Bool.false_and, reduceIte, reduceCtorEq, Bool.false_eq_true, Nat.one_ne_zero, Nat.zero_ne_one, Nat.zero_add, Option.toList_some, Option.toList_none, List.nil_append, List.cons_append, List.take_succ_cons, List.take_zero, List.take_nil, List.drop_succ_cons, List.drop_zero, List.length_cons, List.length_nil, List.reverse_cons, List.reverse_nil, List.head?_cons, List.map_cons, List.map_nil, List.sum_cons, List.sum_nil, true_and, and_true, List.getElem?_cons_zero, List.getElem?_cons_succ, Prod.eta, x_get, x_put, x_iald, x_iast, x_bald, x_bast, x_lald, x_last, x_alen, xup_s, xup_a1, xup_1a, xup_uu, nr_i, nr_l, nr_o, nr_a, ft_i, ft_l, ft_o, ft_a, Nat.reduceLT, i_cl0, i_cl1, i_n1, i_m1, List.set_cons_zero, List.set_cons_succ, Nat.reduceLeDiff, Nat.le_refl, Nat.zero_le, Nat.add_zero, b_X0_becomeProduct_42, cn_P1, en, r.1, r.2.1, ra.1, ra.2.1, rb.1, wn_mask, ci]
    refine ⟨fun q => ?_, fun q => ⟨vp_in_nI (by omega) (by decide), ?_⟩⟩
    · obtain rfl : i = na := by omega
      have rM := r.sz (show i + nb ≤ 200 by omega)
      refine ⟨⟨t, _, rfl, rM.1⟩, t, f, i + nb, rfl, rM, fun h' o' r' => hQ h' (xoff_tr o' off_sz) ?_⟩
      rw [← hv]
      exact r'
    · have g1 : (200 : Int32) - nI i = nI (200 - i) := pk_sub (a := 200) (by omega)
      have e : (if nI (200 - i) < nI nb then nI (200 - i) else nI nb) = nI nb := if_neg (nI_nlt (by omega) (by omega))
      rw [g1, e]
      refine xInv.mk nb (t, a, b, na + nb, i, 0, wn (fa i), nb, 0) ⟨rfl, rfl, rfl, rfl, rfl, rfl, rfl, rfl, rfl, trivial⟩ ⟨f, n, fa, fb, na, nb, r, hC, rfl, rfl, by omega, rfl, rfl, by decide, hz, ?_, ?_⟩
      · rw [Nat.zero_mul, Nat.add_zero, hv, show bv fb 0 = 0 from rfl, Nat.mul_zero, Nat.add_zero]
      · intro lv f' n' S' hs r' hC' hz' hv'
        exact xInvL.mk (k - 1) (t, a, b, na + nb, i + 1) (by omega) hs ⟨f', n', fa, fb, na, nb, r', hC', rfl, by omega, hz', hv'⟩
  have L1 : ∀ Q, xW G l m_X0_becomeProduct xX0 (xPm G Q r_X0_becomeProduct) 19 (xInv cn_P1 (I_P1 Q)) := by
    intro Q
    refine xW.lp (fun K => b_X0_becomeProduct_19 Q K (xInv cn_P1 (I_P2 Q)) (xInv cn_P3 (I_P3 Q (xInv cn_P1 (I_P2 Q))))) (fun K hK => s_X0_becomeProduct_19 G l Q K _ _ hK (L2 Q K hK) (L3 Q K _ hK (L2 Q K hK))) ?_
    rintro k ⟨t, a, b, L, i⟩ S ⟨f, n, fa, fb, na, nb, r, hC, rfl, hk, hz⟩
    have hsz := hC.2.2.2.2.1
    have en := nI_leI (show na + nb < 2 ^ 31 by omega) (show i < 2 ^ 31 by omega)
    have ci := nI_clamp (show i < 2 ^ 31 by omega)
    simp only [x_c, x_iload, x_lload, x_aload, x_istore, x_lstore, x_astore, x_iinc, x_iadd, x_isub, x_imul, x_iand, x_ior, x_ixor, x_ladd, x_lsub, x_lmul, x_land, x_lor, x_lxor, x_idiv, x_irem, x_ldiv, x_lrem, x_ineg, x_lneg, x_ishl, x_ishr, x_iushr, x_lshl, x_lshr, x_lushr, x_i2l, x_l2i, x_i2b, x_i2c, x_lcmp, x_if_eq, x_if_ne, x_if_lt, x_if_ge, x_if_gt, x_if_le, x_icmp_eq, x_icmp_ne, x_icmp_lt, x_icmp_ge, x_icmp_gt, x_icmp_le, x_dup, x_pop, x_dup_x1, x_dup2, x_iret, x_zret, x_lret, x_aret, x_vret, x_call, x_callv, x_calli, x_oinit, x_mmax, x_mmin, x_mabs, x_mmaxL, x_mminL, x_mabsL, lg_cmp_ge, lg_cmp_le, lg_cmp_gt, lg_cmp_lt, lg_cmp_eq, xlk, xs1, xs2, lv_args, Value.category, List.filter_cons, List.filter_nil, Nat.reduceAdd, Nat.reduceBEq, Nat.reduceEqDiff, Nat.reduceSub, Nat.sub_zero, beq_self_eq_true, Bool.not_true, Bool.not_false, Bool.and_true, Bool.and_false, Bool.true_and, Bool.false_and, reduceIte, reduceCtorEq, Bool.false_eq_true, Nat.one_ne_zero, Nat.zero_ne_one, Nat.zero_add, Option.toList_some, Option.toList_none, List.nil_append, List.cons_append, List.take_succ_cons, List.take_zero, List.take_nil, List.drop_succ_cons, List.drop_zero, List.length_cons, List.length_nil, List.reverse_cons, List.reverse_nil, List.head?_cons, List.map_cons, List.map_nil, List.sum_cons, List.sum_nil, true_and, and_true, List.getElem?_cons_zero, List.getElem?_cons_succ, Prod.eta, x_get, x_put, x_iald, x_iast, x_bald, x_bast, x_lald, x_last, x_alen, xup_s, xup_a1, xup_1a, xup_uu, nr_i, nr_l, nr_o, nr_a, ft_i, ft_l, ft_o, ft_a, Nat.reduceLT, i_cl0, i_cl1, i_n1, i_m1, List.set_cons_zero, List.set_cons_succ, Nat.reduceLeDiff, Nat.le_refl, Nat.zero_le, Nat.add_zero, b_X0_becomeProduct_19, cn_P1, en, r.1, r.2.1, ci]
    refine ⟨fun q => ?_, fun q => ⟨vp_in_nI (by omega) (by decide), ?_⟩⟩
    · obtain rfl : i = na + nb := by omega
      refine xInv.mk na (t, a, b, na + nb, 0) ⟨rfl, rfl, rfl, rfl, rfl, trivial⟩ ⟨f, n, fa, fb, na, nb, r, hC, rfl, rfl, fun j h1 h2 => hz j h2, ?_⟩
      rw [bv_zero hz, show bv fa 0 = 0 from rfl, Nat.zero_mul]
    · refine xInvL.mk (k - 1) (t, a, b, na + nb, i + 1) (by omega) ⟨rfl, rfl, rfl, rfl, rfl, trivial⟩ ⟨_, n, fa, fb, na, nb, r.wr _, hC.wr, rfl, by omega, fun j hj => ?_⟩
      rcases Nat.lt_or_ge j i with c | c
      · rw [pk_un (by omega)]; exact hz j c
      · rw [show j = i by omega, pk_us]
  refine xM_of (fun Q => b_X0_becomeProduct_0 Q (xInv cn_P1 (I_P1 Q)) (xInv cn_P1 (I_P2 Q)) (xInv cn_P3 (I_P3 Q (xInv cn_P1 (I_P2 Q))))) RX0 false (fun Q => s_X0_becomeProduct_0 G l Q _ _ _ (L1 Q) (L2 Q _ (L1 Q)) (L3 Q _ _ (L1 Q) (L2 Q _ (L1 Q)))) (by decide) rfl (by decide) ?_
  rintro av S Q ⟨t, a, b, u, v, rfl, o1, o2, ⟨f, n, r⟩, ⟨fa, na, ra, rfl, za⟩, ⟨fb, nb, rb, rfl, zb⟩, hm, hQ⟩
  refine ⟨Nat.le_of_ble_eq_true rfl, ?_⟩
  have h1 := ra.2.2
  have h2 := rb.2.2
  have hsz : na + nb ≤ 200 := by
    rcases Nat.eq_zero_or_pos na with q | q
    · omega
    · rcases Nat.eq_zero_or_pos nb with p | p
      · omega
      · have k1 := Nat.mul_le_mul (bv_top q (za q)) (bv_top p (zb p))
        rw [← Nat.pow_add] at k1
        have k2 : 32 * (na - 1) + 32 * (nb - 1) < 6368 := (Nat.pow_lt_pow_iff_right (by decide)).mp (Nat.lt_of_le_of_lt k1 hm)
        omega
  have g1 : nI na + nI nb = nI (na + nb) := nI_add na nb
  have e : (if 200 < nI (na + nb) then (200 : Int32) else nI (na + nb)) = nI (na + nb) := if_neg (nI_nlt (a := 200) (by omega) (by omega))
  simp only [x_c, x_iload, x_lload, x_aload, x_istore, x_lstore, x_astore, x_iinc, x_iadd, x_isub, x_imul, x_iand, x_ior, x_ixor, x_ladd, x_lsub, x_lmul, x_land, x_lor, x_lxor, x_idiv, x_irem, x_ldiv, x_lrem, x_ineg, x_lneg, x_ishl, x_ishr, x_iushr, x_lshl, x_lshr, x_lushr, x_i2l, x_l2i, x_i2b, x_i2c, x_lcmp, x_if_eq, x_if_ne, x_if_lt, x_if_ge, x_if_gt, x_if_le, x_icmp_eq, x_icmp_ne, x_icmp_lt, x_icmp_ge, x_icmp_gt, x_icmp_le, x_dup, x_pop, x_dup_x1, x_dup2, x_iret, x_zret, x_lret, x_aret, x_vret, x_call, x_callv, x_calli, x_oinit, x_mmax, x_mmin, x_mabs, x_mmaxL, x_mminL, x_mabsL, lg_cmp_ge, lg_cmp_le, lg_cmp_gt, lg_cmp_lt, lg_cmp_eq, xlk, xs1, xs2, lv_args, Value.category, List.filter_cons, List.filter_nil, Nat.reduceAdd, Nat.reduceBEq, Nat.reduceEqDiff, Nat.reduceSub, Nat.sub_zero, beq_self_eq_true, Bool.not_true, Bool.not_false, Bool.and_true, Bool.and_false, Bool.true_and, Bool.false_and, reduceIte, reduceCtorEq, Bool.false_eq_true, Nat.one_ne_zero, Nat.zero_ne_one, Nat.zero_add, Option.toList_some, Option.toList_none, List.nil_append, List.cons_append, List.take_succ_cons, List.take_zero, List.take_nil, List.drop_succ_cons, List.drop_zero, List.length_cons, List.length_nil, List.reverse_cons, List.reverse_nil, List.head?_cons, List.map_cons, List.map_nil, List.sum_cons, List.sum_nil, true_and, and_true, List.getElem?_cons_zero, List.getElem?_cons_succ, Prod.eta, x_get, x_put, x_iald, x_iast, x_bald, x_bast, x_lald, x_last, x_alen, xup_s, xup_a1, xup_1a, xup_uu, nr_i, nr_l, nr_o, nr_a, ft_i, ft_l, ft_o, ft_a, Nat.reduceLT, i_cl0, i_cl1, i_n1, i_m1, List.set_cons_zero, List.set_cons_succ, Nat.reduceLeDiff, Nat.le_refl, Nat.zero_le, Nat.add_zero, b_X0_becomeProduct_0, ra.1, rb.1, g1, e]
  exact xInv.mk (na + nb) (t, a, b, na + nb, 0) ⟨rfl, rfl, rfl, rfl, rfl, trivial⟩ ⟨f, n, fa, fb, na, nb, r, ⟨o1, o2, ra, rb, hsz, hQ⟩, rfl, rfl, fun j hj => absurd hj (Nat.not_lt_zero j)⟩
