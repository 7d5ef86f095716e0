theorem dX3_size_0 : decode cX3_size 0 = .ok (.aload_n 0, 1) := by decide +kernel
theorem dX3_size_1 : decode cX3_size 1 = .ok (.iconst 0, 1) := by decide +kernel
theorem dX3_size_2 : decode cX3_size 2 = .ok (.putfield 87, 3) := by decide +kernel
theorem dX3_size_5 : decode cX3_size 5 = .ok (.aload_n 1, 1) := by decide +kernel
theorem dX3_size_6 : decode cX3_size 6 = .ok (.getfield 38, 3) := by decide +kernel
theorem dX3_size_9 : decode cX3_size 9 = .ok (.ifCond .eq 7, 3) := by decide +kernel
theorem dX3_size_12 : decode cX3_size 12 = .ok (.ldc2_w 74, 3) := by decide +kernel
theorem dX3_size_15 : decode cX3_size 15 = .ok (.lreturn, 1) := by decide +kernel
theorem dX3_size_16 : decode cX3_size 16 = .ok (.aload_n 1, 1) := by decide +kernel
theorem dX3_size_17 : decode cX3_size 17 = .ok (.getfield 28, 3) := by decide +kernel
theorem dX3_size_20 : decode cX3_size 20 = .ok (.ifCond .ne 5, 3) := by decide +kernel
theorem dX3_size_23 : decode cX3_size 23 = .ok (.lconst 0, 1) := by decide +kernel
theorem dX3_size_24 : decode cX3_size 24 = .ok (.lreturn, 1) := by decide +kernel
theorem dX3_size_25 : decode cX3_size 25 = .ok (.aload_n 1, 1) := by decide +kernel
theorem dX3_size_26 : decode cX3_size 26 = .ok (.getfield 71, 3) := by decide +kernel
theorem dX3_size_29 : decode cX3_size 29 = .ok (.ifCond .eq 9, 3) := by decide +kernel
theorem dX3_size_32 : decode cX3_size 32 = .ok (.aload_n 0, 1) := by decide +kernel
theorem dX3_size_33 : decode cX3_size 33 = .ok (.aload_n 1, 1) := by decide +kernel
theorem dX3_size_34 : decode cX3_size 34 = .ok (.invokevirtual 108, 3) := by decide +kernel
theorem dX3_size_37 : decode cX3_size 37 = .ok (.lreturn, 1) := by decide +kernel
theorem dX3_size_38 : decode cX3_size 38 = .ok (.aload_n 1, 1) := by decide +kernel
theorem dX3_size_39 : decode cX3_size 39 = .ok (.invokevirtual 111, 3) := by decide +kernel
theorem dX3_size_42 : decode cX3_size 42 = .ok (.istore_n 2, 1) := by decide +kernel
theorem dX3_size_43 : decode cX3_size 43 = .ok (.iload_n 2, 1) := by decide +kernel
theorem dX3_size_44 : decode cX3_size 44 = .ok (.bipush 54, 2) := by decide +kernel
theorem dX3_size_46 : decode cX3_size 46 = .ok (.isub, 1) := by decide +kernel
theorem dX3_size_47 : decode cX3_size 47 = .ok (.sipush (-1074), 3) := by decide +kernel
theorem dX3_size_50 : decode cX3_size 50 = .ok (.invokestatic 114, 3) := by decide +kernel
theorem dX3_size_53 : decode cX3_size 53 = .ok (.istore_n 3, 1) := by decide +kernel
theorem dX3_size_54 : decode cX3_size 54 = .ok (.aload_n 0, 1) := by decide +kernel
theorem dX3_size_55 : decode cX3_size 55 = .ok (.iconst 1, 1) := by decide +kernel
theorem dX3_size_56 : decode cX3_size 56 = .ok (.putfield 87, 3) := by decide +kernel
theorem dX3_size_59 : decode cX3_size 59 = .ok (.iload_n 2, 1) := by decide +kernel
theorem dX3_size_60 : decode cX3_size 60 = .ok (.sipush 1024, 3) := by decide +kernel
theorem dX3_size_63 : decode cX3_size 63 = .ok (.if_icmp .le 7, 3) := by decide +kernel
theorem dX3_size_66 : decode cX3_size 66 = .ok (.ldc2_w 119, 3) := by decide +kernel
theorem dX3_size_69 : decode cX3_size 69 = .ok (.lreturn, 1) := by decide +kernel
theorem dX3_size_70 : decode cX3_size 70 = .ok (.iload_n 2, 1) := by decide +kernel
theorem dX3_size_71 : decode cX3_size 71 = .ok (.sipush (-1074), 3) := by decide +kernel
theorem dX3_size_74 : decode cX3_size 74 = .ok (.if_icmp .ge 5, 3) := by decide +kernel
theorem dX3_size_77 : decode cX3_size 77 = .ok (.lconst 0, 1) := by decide +kernel
theorem dX3_size_78 : decode cX3_size 78 = .ok (.lreturn, 1) := by decide +kernel
theorem dX3_size_79 : decode cX3_size 79 = .ok (.aload_n 0, 1) := by decide +kernel
theorem dX3_size_80 : decode cX3_size 80 = .ok (.aload_n 1, 1) := by decide +kernel
theorem dX3_size_81 : decode cX3_size 81 = .ok (.iload_n 3, 1) := by decide +kernel
theorem dX3_size_82 : decode cX3_size 82 = .ok (.invokevirtual 121, 3) := by decide +kernel
theorem dX3_size_85 : decode cX3_size 85 = .ok (.lstore 4, 2) := by decide +kernel
theorem dX3_size_87 : decode cX3_size 87 = .ok (.iconst 0, 1) := by decide +kernel
theorem dX3_size_88 : decode cX3_size 88 = .ok (.istore 6, 2) := by decide +kernel
theorem dX3_size_90 : decode cX3_size 90 = .ok (.iload 6, 2) := by decide +kernel
theorem dX3_size_92 : decode cX3_size 92 = .ok (.iconst 3, 1) := by decide +kernel
theorem dX3_size_93 : decode cX3_size 93 = .ok (.if_icmp .ge 50, 3) := by decide +kernel
theorem dX3_size_96 : decode cX3_size 96 = .ok (.lload 4, 2) := by decide +kernel
theorem dX3_size_98 : decode cX3_size 98 = .ok (.ldc2_w 125, 3) := by decide +kernel
theorem dX3_size_101 : decode cX3_size 101 = .ok (.lcmp, 1) := by decide +kernel
theorem dX3_size_102 : decode cX3_size 102 = .ok (.ifCond .lt 41, 3) := by decide +kernel
theorem dX3_size_105 : decode cX3_size 105 = .ok (.aload_n 0, 1) := by decide +kernel
theorem dX3_size_106 : decode cX3_size 106 = .ok (.dup, 1) := by decide +kernel
theorem dX3_size_107 : decode cX3_size 107 = .ok (.getfield 87, 3) := by decide +kernel
theorem dX3_size_110 : decode cX3_size 110 = .ok (.lload 4, 2) := by decide +kernel
theorem dX3_size_112 : decode cX3_size 112 = .ok (.lconst 1, 1) := by decide +kernel
theorem dX3_size_113 : decode cX3_size 113 = .ok (.land, 1) := by decide +kernel
theorem dX3_size_114 : decode cX3_size 114 = .ok (.lconst 0, 1) := by decide +kernel
theorem dX3_size_115 : decode cX3_size 115 = .ok (.lcmp, 1) := by decide +kernel
theorem dX3_size_116 : decode cX3_size 116 = .ok (.ifCond .eq 7, 3) := by decide +kernel
theorem dX3_size_119 : decode cX3_size 119 = .ok (.iconst 1, 1) := by decide +kernel
theorem dX3_size_120 : decode cX3_size 120 = .ok (.goto 4, 3) := by decide +kernel
theorem dX3_size_123 : decode cX3_size 123 = .ok (.iconst 0, 1) := by decide +kernel
theorem dX3_size_124 : decode cX3_size 124 = .ok (.ior, 1) := by decide +kernel
theorem dX3_size_125 : decode cX3_size 125 = .ok (.putfield 87, 3) := by decide +kernel
theorem dX3_size_128 : decode cX3_size 128 = .ok (.lload 4, 2) := by decide +kernel
theorem dX3_size_130 : decode cX3_size 130 = .ok (.iconst 1, 1) := by decide +kernel
theorem dX3_size_131 : decode cX3_size 131 = .ok (.lshr, 1) := by decide +kernel
theorem dX3_size_132 : decode cX3_size 132 = .ok (.lstore 4, 2) := by decide +kernel
theorem dX3_size_134 : decode cX3_size 134 = .ok (.iinc 3 1, 3) := by decide +kernel
theorem dX3_size_137 : decode cX3_size 137 = .ok (.iinc 6 1, 3) := by decide +kernel
theorem dX3_size_140 : decode cX3_size 140 = .ok (.goto (-50), 3) := by decide +kernel
theorem dX3_size_143 : decode cX3_size 143 = .ok (.iload_n 3, 1) := by decide +kernel
theorem dX3_size_144 : decode cX3_size 144 = .ok (.i2l, 1) := by decide +kernel
theorem dX3_size_145 : decode cX3_size 145 = .ok (.ldc2_w 127, 3) := by decide +kernel
theorem dX3_size_148 : decode cX3_size 148 = .ok (.ladd, 1) := by decide +kernel
theorem dX3_size_149 : decode cX3_size 149 = .ok (.bipush 52, 2) := by decide +kernel
theorem dX3_size_151 : decode cX3_size 151 = .ok (.lshl, 1) := by decide +kernel
theorem dX3_size_152 : decode cX3_size 152 = .ok (.lload 4, 2) := by decide +kernel
theorem dX3_size_154 : decode cX3_size 154 = .ok (.ladd, 1) := by decide +kernel
theorem dX3_size_155 : decode cX3_size 155 = .ok (.lstore 6, 2) := by decide +kernel
theorem dX3_size_157 : decode cX3_size 157 = .ok (.aload_n 0, 1) := by decide +kernel
theorem dX3_size_158 : decode cX3_size 158 = .ok (.dup, 1) := by decide +kernel
theorem dX3_size_159 : decode cX3_size 159 = .ok (.getfield 87, 3) := by decide +kernel
theorem dX3_size_162 : decode cX3_size 162 = .ok (.lload 6, 2) := by decide +kernel
theorem dX3_size_164 : decode cX3_size 164 = .ok (.ldc2_w 119, 3) := by decide +kernel
theorem dX3_size_167 : decode cX3_size 167 = .ok (.lcmp, 1) := by decide +kernel
theorem dX3_size_168 : decode cX3_size 168 = .ok (.ifCond .le 7, 3) := by decide +kernel
theorem dX3_size_171 : decode cX3_size 171 = .ok (.iconst 1, 1) := by decide +kernel
theorem dX3_size_172 : decode cX3_size 172 = .ok (.goto 4, 3) := by decide +kernel
theorem dX3_size_175 : decode cX3_size 175 = .ok (.iconst 0, 1) := by decide +kernel
theorem dX3_size_176 : decode cX3_size 176 = .ok (.ior, 1) := by decide +kernel
theorem dX3_size_177 : decode cX3_size 177 = .ok (.putfield 87, 3) := by decide +kernel
theorem dX3_size_180 : decode cX3_size 180 = .ok (.lload 6, 2) := by decide +kernel
theorem dX3_size_182 : decode cX3_size 182 = .ok (.ldc2_w 119, 3) := by decide +kernel
theorem dX3_size_185 : decode cX3_size 185 = .ok (.invokestatic 129, 3) := by decide +kernel
theorem dX3_size_188 : decode cX3_size 188 = .ok (.lreturn, 1) := by decide +kernel
abbrev r_X3_size : Room := { frames := 3, cells := 0, slots := 0, locals := 77 }
abbrev m_X3_size : xMd := (cX3_size, RX3, 8, (some FieldType.long), false, r_X3_size)
def b_X3_size_0 (Q : xQ) (K90 : xK) : xK := x_aload 0 <| x_c (.int 0) <| x_put 4 3 .boolean <| x_aload 1 <| x_get 7 2 <| x_if_eq (x_aload 1 <| x_get 7 0 <| x_if_ne (x_aload 1 <| x_get 7 3 <| x_if_eq (x_aload 1 <| x_callv 7 C_X8_level 1 0 0 <| x_istore 2 <| x_iload 2 <| x_c (.int 54) <| x_isub <| x_c (.int (-1074)) <| x_mmax <| x_istore 3 <| x_aload 0 <| x_c (.int 1) <| x_put 4 3 .boolean <| x_iload 2 <| x_c (.int 1024) <| x_icmp_le (x_iload 2 <| x_c (.int (-1074)) <| x_icmp_ge (x_aload 0 <| x_aload 1 <| x_iload 3 <| x_callv 4 C_X3_whole 3 0 0 <| x_lstore 4 <| x_c (.int 0) <| x_istore 6 <| K90) <| x_c (.long 0) <| x_lret Q) <| x_c (.long 9218868437227405311) <| x_lret Q) <| x_aload 0 <| x_aload 1 <| x_callv 4 C_X3_rootSize 2 0 0 <| x_lret Q) <| x_c (.long 0) <| x_lret Q) <| x_c (.long 9218868437227405312) <| x_lret Q
def b_X3_size_124 (Q : xQ) (K90 : xK) : xK := x_ior <| x_put 4 3 .boolean <| x_lload 4 <| x_c (.int 1) <| x_lshr <| x_lstore 4 <| x_iinc 3 1 <| x_iinc 6 1 <| K90
def b_X3_size_176 (Q : xQ) (K90 : xK) : xK := x_ior <| x_put 4 3 .boolean <| x_lload 6 <| x_c (.long 9218868437227405311) <| x_mminL <| x_lret Q
def b_X3_size_143 (Q : xQ) (K90 : xK) : xK := x_iload 3 <| x_i2l <| x_c (.long 1074) <| x_ladd <| x_c (.int 52) <| x_lshl <| x_lload 4 <| x_ladd <| x_lstore 6 <| x_aload 0 <| x_dup <| x_get 4 3 <| x_lload 6 <| x_c (.long 9218868437227405311) <| x_lcmp <| x_if_le (x_c (.int 0) <| (b_X3_size_176 Q K90)) <| x_c (.int 1) <| (b_X3_size_176 Q K90)
def b_X3_size_90 (Q : xQ) (K90 : xK) : xK := x_iload 6 <| x_c (.int 3) <| x_icmp_ge ((b_X3_size_143 Q K90)) <| x_lload 4 <| x_c (.long 9007199254740992) <| x_lcmp <| x_if_lt ((b_X3_size_143 Q K90)) <| x_aload 0 <| x_dup <| x_get 4 3 <| x_lload 4 <| x_c (.long 1) <| x_land <| x_c (.long 0) <| x_lcmp <| x_if_eq (x_c (.int 0) <| (b_X3_size_124 Q K90)) <| x_c (.int 1) <| (b_X3_size_124 Q K90)
theorem s_X3_size_0 (G : xG) (l : Launch) (Q : xQ) (K90 : xK) (h90 : xW G l m_X3_size xX0 (xPm G Q r_X3_size) 90 K90) : xW G l m_X3_size xX0 (xPm G Q r_X3_size) 0 (b_X3_size_0 Q K90) := xo_aload_n (pc := 0) (i := 0) dX3_size_0 rfl <| xo_iconst (pc := 1) dX3_size_1 (by decide) <| xo_put (pc := 2) (ci := 4) (i := 3) rfl ok4 (by decide) rfl rfl dX3_size_2 kw130 <| xo_aload_n (pc := 5) (i := 1) dX3_size_5 rfl <| xo_getN (pc := 6) (ci := 7) (i := 2) rfl ok7 (by decide) dX3_size_6 kw104 <| xo_if_eq (pc := 9) (tgt := 16) dX3_size_9 (by decide) (xo_aload_n (pc := 16) (i := 1) dX3_size_16 rfl <| xo_getN (pc := 17) (ci := 7) (i := 0) rfl ok7 (by decide) dX3_size_17 kw96 <| xo_if_ne (pc := 20) (tgt := 25) dX3_size_20 (by decide) (xo_aload_n (pc := 25) (i := 1) dX3_size_25 rfl <| xo_getN (pc := 26) (ci := 7) (i := 3) rfl ok7 (by decide) dX3_size_26 kw106 <| xo_if_eq (pc := 29) (tgt := 38) dX3_size_29 (by decide) (xo_aload_n (pc := 38) (i := 1) dX3_size_38 rfl <| xo_callV (pc := 39) (np := 0) (ci := 7) rfl (cM_X8_level G l) dX3_size_39 kw669 kw666 kw667 kw668 kw7 (by decide +kernel) (by decide) <| xo_istore_n (pc := 42) (i := 2) dX3_size_42 rfl (by decide) <| xo_iload_n (pc := 43) (i := 2) dX3_size_43 rfl <| xo_bipush (pc := 44) dX3_size_44 (by decide) <| xo_isub (pc := 46) dX3_size_46 <| xo_sipush (pc := 47) dX3_size_47 (by decide) <| xo_mmax (pc := 50) dX3_size_50 kw671 kw537 kw17 kw538 (by decide) <| xo_istore_n (pc := 53) (i := 3) dX3_size_53 rfl (by decide) <| xo_aload_n (pc := 54) (i := 0) dX3_size_54 rfl <| xo_iconst (pc := 55) dX3_size_55 (by decide) <| xo_put (pc := 56) (ci := 4) (i := 3) rfl ok4 (by decide) rfl rfl dX3_size_56 kw130 <| xo_iload_n (pc := 59) (i := 2) dX3_size_59 rfl <| xo_sipush (pc := 60) dX3_size_60 (by decide) <| xo_icmp_le (pc := 63) (tgt := 70) dX3_size_63 (by decide) (xo_iload_n (pc := 70) (i := 2) dX3_size_70 rfl <| xo_sipush (pc := 71) dX3_size_71 (by decide) <| xo_icmp_ge (pc := 74) (tgt := 79) dX3_size_74 (by decide) (xo_aload_n (pc := 79) (i := 0) dX3_size_79 rfl <| xo_aload_n (pc := 80) (i := 1) dX3_size_80 rfl <| xo_iload_n (pc := 81) (i := 3) dX3_size_81 rfl <| xo_callV (pc := 82) (np := 2) (ci := 4) rfl (cM_X3_whole G l) dX3_size_82 kw676 kw673 kw674 kw675 kw5 (by decide +kernel) (by decide) <| xo_lstore (pc := 85) (i := 4) dX3_size_85 (by decide) <| xo_iconst (pc := 87) dX3_size_87 (by decide) <| xo_istore (pc := 88) (i := 6) dX3_size_88 (by decide) <| h90) <| xo_lconst (pc := 77) dX3_size_77 (by decide) <| xo_lret (pc := 78) rfl dX3_size_78) <| xo_ldc2_w (pc := 66) dX3_size_66 kw672 <| xo_lret (pc := 69) rfl dX3_size_69) <| xo_aload_n (pc := 32) (i := 0) dX3_size_32 rfl <| xo_aload_n (pc := 33) (i := 1) dX3_size_33 rfl <| xo_callV (pc := 34) (np := 1) (ci := 4) rfl (cM_X3_rootSize G l) dX3_size_34 kw657 kw654 kw656 ks20 kw5 (by decide +kernel) (by decide) <| xo_lret (pc := 37) rfl dX3_size_37) <| xo_lconst (pc := 23) dX3_size_23 (by decide) <| xo_lret (pc := 24) rfl dX3_size_24) <| xo_ldc2_w (pc := 12) dX3_size_12 kw653 <| xo_lret (pc := 15) rfl dX3_size_15
theorem s_X3_size_124 (G : xG) (l : Launch) (Q : xQ) (K90 : xK) (h90 : xW G l m_X3_size xX0 (xPm G Q r_X3_size) 90 K90) : xW G l m_X3_size xX0 (xPm G Q r_X3_size) 124 (b_X3_size_124 Q K90) := xo_ior (pc := 124) dX3_size_124 <| xo_put (pc := 125) (ci := 4) (i := 3) rfl ok4 (by decide) rfl rfl dX3_size_125 kw130 <| xo_lload (pc := 128) (i := 4) dX3_size_128 <| xo_iconst (pc := 130) dX3_size_130 (by decide) <| xo_lshr (pc := 131) dX3_size_131 <| xo_lstore (pc := 132) (i := 4) dX3_size_132 (by decide) <| xo_iinc (pc := 134) dX3_size_134 (by decide) <| xo_iinc (pc := 137) dX3_size_137 (by decide) <| xo_goto (pc := 140) (tgt := 90) dX3_size_140 (by decide) <| h90
theorem s_X3_size_176 (G : xG) (l : Launch) (Q : xQ) (K90 : xK) (h90 : xW G l m_X3_size xX0 (xPm G Q r_X3_size) 90 K90) : xW G l m_X3_size xX0 (xPm G Q r_X3_size) 176 (b_X3_size_176 Q K90) := xo_ior (pc := 176) dX3_size_176 <| xo_put (pc := 177) (ci := 4) (i := 3) rfl ok4 (by decide) rfl rfl dX3_size_177 kw130 <| xo_lload (pc := 180) (i := 6) dX3_size_180 <| xo_ldc2_w (pc := 182) dX3_size_182 kw672 <| xo_mminL (pc := 185) dX3_size_185 kw693 kw694 kw17 kw695 (by decide) <| xo_lret (pc := 188) rfl dX3_size_188
theorem s_X3_size_143 (G : xG) (l : Launch) (Q : xQ) (K90 : xK) (h90 : xW G l m_X3_size xX0 (xPm G Q r_X3_size) 90 K90) : xW G l m_X3_size xX0 (xPm G Q r_X3_size) 143 (b_X3_size_143 Q K90) := xo_iload_n (pc := 143) (i := 3) dX3_size_143 rfl <| xo_i2l (pc := 144) dX3_size_144 <| xo_ldc2_w (pc := 145) dX3_size_145 kw665 <| xo_ladd (pc := 148) dX3_size_148 <| xo_bipush (pc := 149) dX3_size_149 (by decide) <| xo_lshl (pc := 151) dX3_size_151 <| xo_lload (pc := 152) (i := 4) dX3_size_152 <| xo_ladd (pc := 154) dX3_size_154 <| xo_lstore (pc := 155) (i := 6) dX3_size_155 (by decide) <| xo_aload_n (pc := 157) (i := 0) dX3_size_157 rfl <| xo_dup (pc := 158) dX3_size_158 <| xo_get (pc := 159) (ci := 4) (i := 3) rfl ok4 (by decide) dX3_size_159 kw130 <| xo_lload (pc := 162) (i := 6) dX3_size_162 <| xo_ldc2_w (pc := 164) dX3_size_164 kw672 <| xo_lcmp (pc := 167) dX3_size_167 <| xo_if_le (pc := 168) (tgt := 175) dX3_size_168 (by decide) (xo_iconst (pc := 175) dX3_size_175 (by decide) <| (s_X3_size_176 G l Q K90 h90)) <| xo_iconst (pc := 171) dX3_size_171 (by decide) <| xo_goto (pc := 172) (tgt := 176) dX3_size_172 (by decide) <| (s_X3_size_176 G l Q K90 h90)
theorem s_X3_size_90 (G : xG) (l : Launch) (Q : xQ) (K90 : xK) (h90 : xW G l m_X3_size xX0 (xPm G Q r_X3_size) 90 K90) : xW G l m_X3_size xX0 (xPm G Q r_X3_size) 90 (b_X3_size_90 Q K90) := xo_iload (pc := 90) (i := 6) dX3_size_90 <| xo_iconst (pc := 92) dX3_size_92 (by decide) <| xo_icmp_ge (pc := 93) (tgt := 143) dX3_size_93 (by decide) ((s_X3_size_143 G l Q K90 h90)) <| xo_lload (pc := 96) (i := 4) dX3_size_96 <| xo_ldc2_w (pc := 98) dX3_size_98 kw692 <| xo_lcmp (pc := 101) dX3_size_101 <| xo_if_lt (pc := 102) (tgt := 143) dX3_size_102 (by decide) ((s_X3_size_143 G l Q K90 h90)) <| xo_aload_n (pc := 105) (i := 0) dX3_size_105 rfl <| xo_dup (pc := 106) dX3_size_106 <| xo_get (pc := 107) (ci := 4) (i := 3) rfl ok4 (by decide) dX3_size_107 kw130 <| xo_lload (pc := 110) (i := 4) dX3_size_110 <| xo_lconst (pc := 112) dX3_size_112 (by decide) <| xo_land (pc := 113) dX3_size_113 <| xo_lconst (pc := 114) dX3_size_114 (by decide) <| xo_lcmp (pc := 115) dX3_size_115 <| xo_if_eq (pc := 116) (tgt := 123) dX3_size_116 (by decide) (xo_iconst (pc := 123) dX3_size_123 (by decide) <| (s_X3_size_124 G l Q K90 h90)) <| xo_iconst (pc := 119) dX3_size_119 (by decide) <| xo_goto (pc := 120) (tgt := 124) dX3_size_120 (by decide) <| (s_X3_size_124 G l Q K90 h90)

theorem p2_le {a b : Int} (h : a ≤ b) : p2 a ≤ p2 b := by
  rw [p2_split h]
  have l : (1 : Rat) ≤ ((2 ^ (b - a).toNat : Nat) : Rat) := Rat.natCast_le_natCast.mpr (Nat.two_pow_pos _)
  have := Rat.mul_le_mul_of_nonneg_right l (Rat.le_of_lt (p2_pos a))
  rw [Rat.one_mul] at this
  exact this
theorem iZ_mx {x y : Int} (hx : -2147483648 ≤ x ∧ x < 2147483648) (hy : -2147483648 ≤ y ∧ y < 2147483648) : (if iZ x < iZ y then iZ y else iZ x) = iZ (max x y) := by
  split <;> rename_i c <;> rw [i_lt, iZ_toInt hx.1 hx.2, iZ_toInt hy.1 hy.2] at c
  · rw [Int.max_eq_right (by omega)]
  · rw [Int.max_eq_left (by omega)]
theorem bI_or (a b : Bool) : bI a ||| bI b = bI (a || b) := by cases a <;> cases b <;> decide
def szQ (s e : Int) (i t : Bool) (p q N : Nat) (y : Bool) : Prop := (i = true → N = 9218868437227405312 ∧ y = false) ∧ (i = false → s = 0 → N = 0 ∧ y = false) ∧ (i = false → s ≠ 0 → t = false → szS (sv e p q) N y) ∧ (i = false → s ≠ 0 → t = true → rtZ ((p : Rat) * p2 e) N y)
def szP (s e : Int) (i t : Bool) (p q : Nat) : Prop := (i = true → s ≠ 0) ∧ (i = false → s ≠ 0 → p ≠ 0 ∧ q ≠ 0 ∧ (t = false → nb p ≤ 6200 ∧ nb q ≤ 6200) ∧ (t = true → s = 1 ∧ q = 1 ∧ p < 2 ^ 53 ∧ -1074 ≤ e ∧ e ≤ 972))
def cn_X3_size : Nat × Nat × Int × Int × Nat × Nat → List (Nat × Value) := fun v => [(0, .ref v.1), (1, .ref v.2.1), (2, .int (iZ v.2.2.1)), (3, .int (iZ v.2.2.2.1)), (4, .long (lN v.2.2.2.2.1)), (6, .int (nI v.2.2.2.2.2))]
def I_X3_size (Q : xQ) : Nat → Nat × Nat × Int × Int × Nat × Nat → xS → Prop := fun k v S => match v with
  | (x, _, _, un, w, j) => k + j = 3 ∧ j ≤ 2 ∧ (-1074 ≤ un ∧ un ≤ 970 + j) ∧ w < 2 ^ (55 - j) ∧ (2 ^ 52 ≤ w ∨ un = -1074) ∧ ∃ (y : Bool) (v : Rat), exR S.1 x y ∧ whS v un w y ∧ ∀ h' N y, xoff h' S.1 x (x + 5) → exR h' x y → szS v N y → Q (some (.long (lN N))) (h', S.2)
def C_X3_size : xC := fun av S Q => ∃ (x a : Nat) (n : Bool) (s e : Int) (i t : Bool) (p q : Nat), av = [.ref x, .ref a] ∧ exR S.1 x n ∧ (a + 5 ≤ x ∨ x + 5 ≤ a) ∧ reR S.1 a s e i t p q ∧ szP s e i t p q ∧ ∀ h' N y, xoff h' S.1 x (x + 5) → exR h' x y → szQ s e i t p q N y → Q (some (.long (lN N))) (h', S.2)
theorem exR.up {h : xH} {x : Nat} {n : Bool} (w : exR h x n) (y : Bool) : exR (xup h x (exC x y)) x y := ⟨xup_s, ⟨_, w.2.1.choose_spec.off (off1 (r := x)) (by omega)⟩, ⟨_, w.2.2.1.choose_spec.off (off1 (r := x)) (by omega)⟩, w.2.2.2.off (off1 (r := x)) (by omega)⟩
theorem cM_X3_size (G : xG) (l : Launch) : xM G l yX3_size cX3_size 8 (some FieldType.long) r_X3_size C_X3_size := by
  refine xM_of (fun Q => b_X3_size_0 Q (xInv cn_X3_size (I_X3_size Q))) RX3 false (fun Q => s_X3_size_0 G l Q _ (xW.lp (b_X3_size_90 Q) (fun K hK => s_X3_size_90 G l Q K hK) ?_)) (by decide) rfl (by decide) ?_
  · rintro c ⟨x, a, z, un, w, j⟩ ⟨h, S2⟩ ⟨hk, hj, hun, hw, hlo, y, v, ex, wh, hQ⟩
    dsimp only at *
    have c1 : cn_X3_size (x, a, z, un, w, j) = [(0, .ref x), (1, .ref a), (2, .int (iZ z)), (3, .int (iZ un)), (4, .long (lN w)), (6, .int (nI j))] := rfl
    rw [c1]
    have wb : w < 2 ^ 55 := Nat.lt_of_lt_of_le hw (Nat.pow_le_pow_right (by decide) (by omega))
    have q1 : (3 : Int32) ≤ nI j ↔ 3 ≤ j := nc_le (a := 3) (by decide) (by omega)
    have q2 : lN w < (9007199254740992 : Int64) ↔ w < 9007199254740992 := lN_ltN (b := 9007199254740992) (by omega) (by decide)
    have q3 : lN w &&& 1 = (0 : Int64) ↔ w % 2 = 0 := by
      rw [wb_a1 (by omega), ← lZ_nat, lz_e0 ⟨by omega, by omega⟩]; omega
    obtain ⟨n, hn⟩ : ∃ n, n = (un + 1074).toNat * 2 ^ 52 + w := ⟨_, rfl⟩
    have e1 : (lZ un + 1074) <<< ((52 : Int32).toInt64 &&& 63) + lN w = lN n := by
      have e0 : lN (un + 1074).toNat <<< ((52 : Int32).toInt64 &&& 63) = lN ((un + 1074).toNat * 2 ^ 52) := wb_shl _ (k := 52) (by decide)
      rw [show (1074 : Int64) = lZ 1074 from rfl, lZ_add, lZ_pos (by omega), e0, lN_add, hn]
    have g143 : w < 9007199254740992 → ∀ K, b_X3_size_143 Q K [(0, .ref x), (1, .ref a), (2, .int (iZ z)), (3, .int (iZ un)), (4, .long (lN w)), (6, .int (nI j))] [] (h, S2) := by
      intro w3 K
      have nl : n < 2 ^ 63 := by omega
      have sz := sz_of wh hun.1 (by omega) (by omega) hlo
      rw [← hn] at sz
      have q4 : lN n ≤ (9218868437227405311 : Int64) ↔ n ≤ 9218868437227405311 := by
        have := lZ_leI (a := (n : Int)) (b := 9218868437227405311) ⟨by omega, by omega⟩ ⟨by decide, by decide⟩
        rw [lZ_nat] at this
        rw [show (9218868437227405311 : Int64) = lZ 9218868437227405311 from rfl, this]
        omega
      have q5 : (if (9218868437227405311 : Int64) < lN n then 9218868437227405311 else lN n) = lN (min n 9218868437227405311) := by
        have := lN_ltN (a := 9218868437227405311) (b := n) (by decide) nl
        split <;> rename_i c
        · rw [Nat.min_eq_right (by have := this.mp c; omega)]; rfl
        · rw [Nat.min_eq_left (by rcases Nat.lt_or_ge 9218868437227405311 n with d | d; exact absurd (this.mpr d) c; exact d)]
      have f176 : ∀ u, u = decide (9218868437227405311 < n) → b_X3_size_176 Q K [(6, .long (lN n)), (0, .ref x), (1, .ref a), (2, .int (iZ z)), (3, .int (iZ un)), (4, .long (lN w))] [.int (bI u), .int (bI y), .ref x] (h, S2) := by
        rintro u rfl
        simp only [q_c, x_iload, x_lload, x_aload, q_istore, q_lstore, q_astore, q_astore2, x_iinc, q_iadd, q_isub, q_imul, q_iand, q_ior, q_ixor, q_ladd, q_lsub, q_lmul, q_land, q_lor, q_lxor, q_idiv, q_irem, q_ldiv, q_lrem, q_ineg, q_lneg, q_ishl, q_ishr, q_iushr, q_lshl, q_lshr, q_lushr, q_i2l, q_l2i, q_i2b, q_i2c, q_lcmp, q_if_eq, q_if_ne, q_if_lt, q_if_ge, q_if_gt, q_if_le, q_icmp_eq, q_icmp_ne, q_icmp_lt, q_icmp_ge, q_icmp_gt, q_icmp_le, q_dup, q_pop, q_dup_x1, q_dup2, x_iret, x_zret, x_lret, x_aret, x_vret, x_call, x_callv, x_calli, x_oinit, x_mmax, x_mmin, x_mabs, x_mmaxL, x_mminL, x_mabsL, lg_cmp_ge, lg_cmp_le, lg_cmp_gt, lg_cmp_lt, lg_cmp_eq, xlk, q_xs1, q_xs2, lv_args, Value.category, List.filter_cons, List.filter_nil, Nat.reduceAdd, Nat.reduceBEq, Nat.reduceEqDiff, Nat.reduceSub, Nat.sub_zero, beq_self_eq_true, Bool.not_true, Bool.not_false, Bool.and_true, Bool.and_false, Bool.true_and, Bool.false_and, reduceIte, reduceCtorEq, Bool.false_eq_true, Nat.one_ne_zero, Nat.zero_ne_one, Nat.zero_add, Option.toList_some, Option.toList_none, List.nil_append, List.cons_append, List.take_succ_cons, List.take_zero, List.take_nil, List.drop_succ_cons, List.drop_zero, List.length_cons, List.length_nil, List.reverse_cons, List.reverse_nil, List.head?_cons, List.map_cons, List.map_nil, List.sum_cons, List.sum_nil, true_and, and_true, List.getElem?_cons_zero, List.getElem?_cons_succ, Prod.eta, x_iast, x_bald, x_bast, x_last, x_alen, xup_s, xup_a1, xup_1a, xup_uu, nr_i, nr_l, nr_o, nr_a, ft_i, ft_l, ft_o, ft_a, Nat.reduceLT, i_cl0, i_cl1, i_n1, i_m1, List.set_cons_zero, List.set_cons_succ, Nat.reduceLeDiff, Nat.le_refl, Nat.zero_le, Nat.add_zero, x_no, x_ifnull, x_ifnonnull, x_acmp_eq, x_acmp_ne, x_swl, x_tsw, x_castC, true_or, or_true, nr_z, ft_z, nr_z0, nr_z1, ft_z0, ft_z1, nr_on, nr_an, ft_on, ft_an, b_X3_size_176, exO.g0 ex.1, exO.g1 ex.1, exO.g2 ex.1, exO.g3 ex.1, exO.p3 ex.1, exO.p3a ex.1, exO.p3b ex.1, bI_or, q5]
        exact hQ _ _ _ (xoff_wd off1 (by omega) (by omega)) (ex.up _) sz
      unfold b_X3_size_143
      generalize b_X3_size_176 Q K = J at *
      simp only [q_c, x_iload, x_lload, x_aload, q_istore, q_lstore, q_astore, q_astore2, x_iinc, q_iadd, q_isub, q_imul, q_iand, q_ior, q_ixor, q_ladd, q_lsub, q_lmul, q_land, q_lor, q_lxor, q_idiv, q_irem, q_ldiv, q_lrem, q_ineg, q_lneg, q_ishl, q_ishr, q_iushr, q_lshl, q_lshr, q_lushr, q_i2l, q_l2i, q_i2b, q_i2c, q_lcmp, q_if_eq, q_if_ne, q_if_lt, q_if_ge, q_if_gt, q_if_le, q_icmp_eq, q_icmp_ne, q_icmp_lt, q_icmp_ge, q_icmp_gt, q_icmp_le, q_dup, q_pop, q_dup_x1, q_dup2, x_iret, x_zret, x_lret, x_aret, x_vret, x_call, x_callv, x_calli, x_oinit, x_mmax, x_mmin, x_mabs, x_mmaxL, x_mminL, x_mabsL, lg_cmp_ge, lg_cmp_le, lg_cmp_gt, lg_cmp_lt, lg_cmp_eq, xlk, q_xs1, q_xs2, lv_args, Value.category, List.filter_cons, List.filter_nil, Nat.reduceAdd, Nat.reduceBEq, Nat.reduceEqDiff, Nat.reduceSub, Nat.sub_zero, beq_self_eq_true, Bool.not_true, Bool.not_false, Bool.and_true, Bool.and_false, Bool.true_and, Bool.false_and, reduceIte, reduceCtorEq, Bool.false_eq_true, Nat.one_ne_zero, Nat.zero_ne_one, Nat.zero_add, Option.toList_some, Option.toList_none, List.nil_append, List.cons_append, List.take_succ_cons, List.take_zero, List.take_nil, List.drop_succ_cons, List.drop_zero, List.length_cons, List.length_nil, List.reverse_cons, List.reverse_nil, List.head?_cons, List.map_cons, List.map_nil, List.sum_cons, List.sum_nil, true_and, and_true, List.getElem?_cons_zero, List.getElem?_cons_succ, Prod.eta, x_iast, x_bald, x_bast, x_last, x_alen, xup_s, xup_a1, xup_1a, xup_uu, nr_i, nr_l, nr_o, nr_a, ft_i, ft_l, ft_o, ft_a, Nat.reduceLT, i_cl0, i_cl1, i_n1, i_m1, List.set_cons_zero, List.set_cons_succ, Nat.reduceLeDiff, Nat.le_refl, Nat.zero_le, Nat.add_zero, x_no, x_ifnull, x_ifnonnull, x_acmp_eq, x_acmp_ne, x_swl, x_tsw, x_castC, true_or, or_true, nr_z, ft_z, nr_z0, nr_z1, ft_z0, ft_z1, nr_on, nr_an, ft_on, ft_an, iZ_l (s := un) (by omega) (by omega), e1, exO.g0 ex.1, exO.g1 ex.1, exO.g2 ex.1, exO.g3 ex.1, exO.p3 ex.1, exO.p3a ex.1, exO.p3b ex.1, q4]
      exact ⟨fun u => f176 false (decide_eq_false (by omega)).symm, fun u => f176 true (decide_eq_true (by omega)).symm⟩
    have nx : 9007199254740992 ≤ w → ∀ u, u = decide (w % 2 = 1) → b_X3_size_124 Q (xInvL cn_X3_size (I_X3_size Q) c) [(0, .ref x), (1, .ref a), (2, .int (iZ z)), (3, .int (iZ un)), (4, .long (lN w)), (6, .int (nI j))] [.int (bI u), .int (bI y), .ref x] (h, S2) := by
      rintro w3 u rfl
      have jl : j ≤ 1 := by
        rcases (show j = 2 ∨ j ≤ 1 by omega) with d | d
        · subst d
          rw [show (2 : Nat) ^ (55 - 2) = 9007199254740992 by decide] at hw
          omega
        · exact d
      have e2 : lN w >>> ((1 : Int32).toInt64 &&& 63) = lN (w / 2) := sarK (k := 1) (by omega) (by decide)
      have e3 : iZ un + Int32.ofInt 1 = iZ (un + 1) := by rw [show Int32.ofInt 1 = iZ 1 from rfl, iZ_add]
      have of : xoff (xup h x (exC x (y || decide (w % 2 = 1)))) h x (x + 5) := xoff_wd off1 (by omega) (by omega)
      have w2 := ex.up (y || decide (w % 2 = 1))
      simp only [q_c, x_iload, x_lload, x_aload, q_istore, q_lstore, q_astore, q_astore2, x_iinc, q_iadd, q_isub, q_imul, q_iand, q_ior, q_ixor, q_ladd, q_lsub, q_lmul, q_land, q_lor, q_lxor, q_idiv, q_irem, q_ldiv, q_lrem, q_ineg, q_lneg, q_ishl, q_ishr, q_iushr, q_lshl, q_lshr, q_lushr, q_i2l, q_l2i, q_i2b, q_i2c, q_lcmp, q_if_eq, q_if_ne, q_if_lt, q_if_ge, q_if_gt, q_if_le, q_icmp_eq, q_icmp_ne, q_icmp_lt, q_icmp_ge, q_icmp_gt, q_icmp_le, q_dup, q_pop, q_dup_x1, q_dup2, x_iret, x_zret, x_lret, x_aret, x_vret, x_call, x_callv, x_calli, x_oinit, x_mmax, x_mmin, x_mabs, x_mmaxL, x_mminL, x_mabsL, lg_cmp_ge, lg_cmp_le, lg_cmp_gt, lg_cmp_lt, lg_cmp_eq, xlk, q_xs1, q_xs2, lv_args, Value.category, List.filter_cons, List.filter_nil, Nat.reduceAdd, Nat.reduceBEq, Nat.reduceEqDiff, Nat.reduceSub, Nat.sub_zero, beq_self_eq_true, Bool.not_true, Bool.not_false, Bool.and_true, Bool.and_false, Bool.true_and, Bool.false_and, reduceIte, reduceCtorEq, Bool.false_eq_true, Nat.one_ne_zero, Nat.zero_ne_one, Nat.zero_add, Option.toList_some, Option.toList_none, List.nil_append, List.cons_append, List.take_succ_cons, List.take_zero, List.take_nil, List.drop_succ_cons, List.drop_zero, List.length_cons, List.length_nil, List.reverse_cons, List.reverse_nil, List.head?_cons, List.map_cons, List.map_nil, List.sum_cons, List.sum_nil, true_and, and_true, List.getElem?_cons_zero, List.getElem?_cons_succ, Prod.eta, x_iast, x_bald, x_bast, x_last, x_alen, xup_s, xup_a1, xup_1a, xup_uu, nr_i, nr_l, nr_o, nr_a, ft_i, ft_l, ft_o, ft_a, Nat.reduceLT, i_cl0, i_cl1, i_n1, i_m1, List.set_cons_zero, List.set_cons_succ, Nat.reduceLeDiff, Nat.le_refl, Nat.zero_le, Nat.add_zero, x_no, x_ifnull, x_ifnonnull, x_acmp_eq, x_acmp_ne, x_swl, x_tsw, x_castC, true_or, or_true, nr_z, ft_z, nr_z0, nr_z1, ft_z0, ft_z1, nr_on, nr_an, ft_on, ft_an, b_X3_size_124, exO.g0 ex.1, exO.g1 ex.1, exO.g2 ex.1, exO.g3 ex.1, exO.p3 ex.1, exO.p3a ex.1, exO.p3b ex.1, bI_or, e2, e3]
      have hw2 : w / 2 < 2 ^ (55 - (j + 1)) := by
        rw [Nat.div_lt_iff_lt_mul (by decide), ← Nat.pow_succ, Nat.succ_eq_add_one, show 55 - (j + 1) + 1 = 55 - j by omega]
        exact hw
      generalize xup h x (exC x (y || decide (w % 2 = 1))) = hh at *
      exact xInvL.mk (c - 1) (x, a, z, un + 1, w / 2, j + 1) (by omega) ⟨rfl, rfl, rfl, rfl, rfl, rfl, trivial⟩ ⟨by omega, by omega, by omega, hw2, Or.inl (by omega), _, v, w2, wh_half wh, fun h3 N y3 oB r => hQ h3 N y3 (xoff_tr oB of) r⟩
    unfold b_X3_size_90
    have g := fun w3 => g143 w3 (xInvL cn_X3_size (I_X3_size Q) c)
    generalize xInvL cn_X3_size (I_X3_size Q) c = K at *
    generalize b_X3_size_143 Q K = J143 at *
    generalize b_X3_size_124 Q K = J124 at *
    simp only [q_c, x_iload, x_lload, x_aload, q_istore, q_lstore, q_astore, q_astore2, x_iinc, q_iadd, q_isub, q_imul, q_iand, q_ior, q_ixor, q_ladd, q_lsub, q_lmul, q_land, q_lor, q_lxor, q_idiv, q_irem, q_ldiv, q_lrem, q_ineg, q_lneg, q_ishl, q_ishr, q_iushr, q_lshl, q_lshr, q_lushr, q_i2l, q_l2i, q_i2b, q_i2c, q_lcmp, q_if_eq, q_if_ne, q_if_lt, q_if_ge, q_if_gt, q_if_le, q_icmp_eq, q_icmp_ne, q_icmp_lt, q_icmp_ge, q_icmp_gt, q_icmp_le, q_dup, q_pop, q_dup_x1, q_dup2, x_iret, x_zret, x_lret, x_aret, x_vret, x_call, x_callv, x_calli, x_oinit, x_mmax, x_mmin, x_mabs, x_mmaxL, x_mminL, x_mabsL, lg_cmp_ge, lg_cmp_le, lg_cmp_gt, lg_cmp_lt, lg_cmp_eq, xlk, q_xs1, q_xs2, lv_args, Value.category, List.filter_cons, List.filter_nil, Nat.reduceAdd, Nat.reduceBEq, Nat.reduceEqDiff, Nat.reduceSub, Nat.sub_zero, beq_self_eq_true, Bool.not_true, Bool.not_false, Bool.and_true, Bool.and_false, Bool.true_and, Bool.false_and, reduceIte, reduceCtorEq, Bool.false_eq_true, Nat.one_ne_zero, Nat.zero_ne_one, Nat.zero_add, Option.toList_some, Option.toList_none, List.nil_append, List.cons_append, List.take_succ_cons, List.take_zero, List.take_nil, List.drop_succ_cons, List.drop_zero, List.length_cons, List.length_nil, List.reverse_cons, List.reverse_nil, List.head?_cons, List.map_cons, List.map_nil, List.sum_cons, List.sum_nil, true_and, and_true, List.getElem?_cons_zero, List.getElem?_cons_succ, Prod.eta, x_iast, x_bald, x_bast, x_last, x_alen, xup_s, xup_a1, xup_1a, xup_uu, nr_i, nr_l, nr_o, nr_a, ft_i, ft_l, ft_o, ft_a, Nat.reduceLT, i_cl0, i_cl1, i_n1, i_m1, List.set_cons_zero, List.set_cons_succ, Nat.reduceLeDiff, Nat.le_refl, Nat.zero_le, Nat.add_zero, x_no, x_ifnull, x_ifnonnull, x_acmp_eq, x_acmp_ne, x_swl, x_tsw, x_castC, true_or, or_true, nr_z, ft_z, nr_z0, nr_z1, ft_z0, ft_z1, nr_on, nr_an, ft_on, ft_an, q1, q2, q3, exO.g0 ex.1, exO.g1 ex.1, exO.g2 ex.1, exO.g3 ex.1, exO.p3 ex.1, exO.p3a ex.1, exO.p3b ex.1]
    refine ⟨fun d => by omega, fun d => ⟨fun u => g u, fun u => ⟨fun m => nx (by omega) false (decide_eq_false (by omega)).symm, fun m => nx (by omega) true (decide_eq_true (by omega)).symm⟩⟩⟩
  · rintro av ⟨h, S2⟩ Q ⟨x, a, n, s, e, i, t, p, q, rfl, ex, da, v, ⟨hi, hf⟩, hQ⟩
    dsimp only at *
    refine ⟨Nat.le_of_ble_eq_true rfl, ?_⟩
    have ss := v.2.2.2.1
    have ee := v.2.2.2.2
    have z1 := iz_e0 (show -2147483648 ≤ s by omega) (show s < 2147483648 by omega)
    have b1 := v.2.1.nb
    have b2 := v.2.2.1.nb
    obtain ⟨lv, hlv⟩ : ∃ lv : Int, lv = (nb p : Int) - nb q + e := ⟨_, rfl⟩
    obtain ⟨un, hun⟩ : ∃ un : Int, un = max (lv - 54) (-1074) := ⟨_, rfl⟩
    have e1 : (if iZ lv - 54 < (-1074 : Int32) then -1074 else iZ lv - 54) = iZ un := by
      rw [show (54 : Int32) = iZ 54 from rfl, iZ_sub, hun]
      exact iZ_mx (x := lv - 54) (y := -1074) (by omega) (by omega)
    have q1 : iZ lv ≤ (1024 : Int32) ↔ lv ≤ 1024 := by rw [i_le, iZ_toInt (by omega) (by omega)]; exact Iff.rfl
    have q2 : (-1074 : Int32) ≤ iZ lv ↔ -1074 ≤ lv := by rw [i_le, iZ_toInt (by omega) (by omega)]; exact Iff.rfl
    have goal : i = false → s ≠ 0 → t = false → lv ≤ 1024 → -1074 ≤ lv → ∀ h2 L R, L = p * 2 ^ (e - un).toNat → R = q * 2 ^ (un - e).toNat → xoff h2 h x (x + 5) → exR h2 x (decide (L % R ≠ 0)) → (xInv cn_X3_size (I_X3_size Q)) [(6, .int 0), (4, .long (lN (L / R))), (3, .int (iZ un)), (2, .int (iZ lv)), (0, .ref x), (1, .ref a)] [] (h2, S2) := by
      intro hi0 hs0 ht0 l1 l2 h2 L R hL hR of w
      obtain ⟨p0, q0, hb, -⟩ := hf hi0 hs0
      have R0 : R ≠ 0 := by rw [hR]; exact Nat.mul_ne_zero q0 (Nat.ne_of_gt (Nat.two_pow_pos _))
      have wh := wh_S (u := un) (L := L) (R := R) R0
      rw [hL, hR, ← sv_unit q0, ← hL, ← hR] at wh
      have lo := lev_lo (e := e) p0 q0
      have hi2 := lev_hi (e := e) (p := p) q0
      rw [← hlv] at lo hi2
      have u1 : L / R < 2 ^ 55 := by
        have a1 := wh.1
        have a2 := p2_le (show lv + 1 ≤ un + 55 by omega)
        rw [p2_split (show un ≤ un + 55 by omega), show (un + 55 - un).toNat = 55 by omega] at a2
        exact (rq_lt un).mp (by grind)
      have u2 : 2 ^ 52 ≤ L / R ∨ un = -1074 := by
        rcases (show un = lv - 54 ∨ un = -1074 by omega) with d | d
        · left
          have a1 := wh.2.1
          have a2 : p2 (lv - 1) = ((2 ^ 53 : Nat) : Rat) * p2 un := by rw [p2_split (show un ≤ lv - 1 by omega), show (lv - 1 - un).toNat = 53 by omega]
          rw [a2] at lo
          have := (rq_lt (a := 2 ^ 53) (b := L / R + 1) un).mp (by grind)
          omega
        · exact Or.inr d
      exact ⟨rfl, 3, (x, a, lv, un, L / R, 0), ⟨rfl, rfl, rfl, rfl, rfl, rfl, trivial⟩, rfl, by omega, by omega, u1, u2, _, _, w, wh, fun h3 N y3 oB r sz => hQ h3 N y3 (xoff_tr oB of) r ⟨fun w => (by rw [w] at hi0; exact absurd hi0 (by decide)), fun _ w => absurd w hs0, fun _ _ _ => sz, fun _ _ w => (by rw [w] at ht0; exact absurd ht0 (by decide))⟩⟩
    generalize hK : xInv cn_X3_size (I_X3_size Q) = K at *
    unfold b_X3_size_0
    have ex1 := ex.up false
    have of1 : xoff (xup h x (exC x false)) h x (x + 5) := xoff_wd off1 (by omega) (by omega)
    have v1 := v.off (off1 (r := x) (c := exC x false)) (by omega)
    simp only [q_c, x_iload, x_lload, x_aload, q_istore, q_lstore, q_astore, q_astore2, x_iinc, q_iadd, q_isub, q_imul, q_iand, q_ior, q_ixor, q_ladd, q_lsub, q_lmul, q_land, q_lor, q_lxor, q_idiv, q_irem, q_ldiv, q_lrem, q_ineg, q_lneg, q_ishl, q_ishr, q_iushr, q_lshl, q_lshr, q_lushr, q_i2l, q_l2i, q_i2b, q_i2c, q_lcmp, q_if_eq, q_if_ne, q_if_lt, q_if_ge, q_if_gt, q_if_le, q_icmp_eq, q_icmp_ne, q_icmp_lt, q_icmp_ge, q_icmp_gt, q_icmp_le, q_dup, q_pop, q_dup_x1, q_dup2, x_iret, x_zret, x_lret, x_aret, x_vret, x_call, x_callv, x_calli, x_oinit, x_mmax, x_mmin, x_mabs, x_mmaxL, x_mminL, x_mabsL, lg_cmp_ge, lg_cmp_le, lg_cmp_gt, lg_cmp_lt, lg_cmp_eq, xlk, q_xs1, q_xs2, lv_args, Value.category, List.filter_cons, List.filter_nil, Nat.reduceAdd, Nat.reduceBEq, Nat.reduceEqDiff, Nat.reduceSub, Nat.sub_zero, beq_self_eq_true, Bool.not_true, Bool.not_false, Bool.and_true, Bool.and_false, Bool.true_and, Bool.false_and, reduceIte, reduceCtorEq, Bool.false_eq_true, Nat.one_ne_zero, Nat.zero_ne_one, Nat.zero_add, Option.toList_some, Option.toList_none, List.nil_append, List.cons_append, List.take_succ_cons, List.take_zero, List.take_nil, List.drop_succ_cons, List.drop_zero, List.length_cons, List.length_nil, List.reverse_cons, List.reverse_nil, List.head?_cons, List.map_cons, List.map_nil, List.sum_cons, List.sum_nil, true_and, and_true, List.getElem?_cons_zero, List.getElem?_cons_succ, Prod.eta, x_iast, x_bald, x_bast, x_last, x_alen, xup_s, xup_a1, xup_1a, xup_uu, nr_i, nr_l, nr_o, nr_a, ft_i, ft_l, ft_o, ft_a, Nat.reduceLT, i_cl0, i_cl1, i_n1, i_m1, List.set_cons_zero, List.set_cons_succ, Nat.reduceLeDiff, Nat.le_refl, Nat.zero_le, Nat.add_zero, x_no, x_ifnull, x_ifnonnull, x_acmp_eq, x_acmp_ne, x_swl, x_tsw, x_castC, true_or, or_true, nr_z, ft_z, nr_z0, nr_z1, ft_z0, ft_z1, nr_on, nr_an, ft_on, ft_an, exO.g0 ex.1, exO.g1 ex.1, exO.g2 ex.1, exO.g3 ex.1, exO.p3 ex.1, exO.p3a ex.1, exO.p3b ex.1]
    generalize xup h x (exC x false) = hh at *
    simp only [q_c, x_iload, x_lload, x_aload, q_istore, q_lstore, q_astore, q_astore2, x_iinc, q_iadd, q_isub, q_imul, q_iand, q_ior, q_ixor, q_ladd, q_lsub, q_lmul, q_land, q_lor, q_lxor, q_idiv, q_irem, q_ldiv, q_lrem, q_ineg, q_lneg, q_ishl, q_ishr, q_iushr, q_lshl, q_lshr, q_lushr, q_i2l, q_l2i, q_i2b, q_i2c, q_lcmp, q_if_eq, q_if_ne, q_if_lt, q_if_ge, q_if_gt, q_if_le, q_icmp_eq, q_icmp_ne, q_icmp_lt, q_icmp_ge, q_icmp_gt, q_icmp_le, q_dup, q_pop, q_dup_x1, q_dup2, x_iret, x_zret, x_lret, x_aret, x_vret, x_call, x_callv, x_calli, x_oinit, x_mmax, x_mmin, x_mabs, x_mmaxL, x_mminL, x_mabsL, lg_cmp_ge, lg_cmp_le, lg_cmp_gt, lg_cmp_lt, lg_cmp_eq, xlk, q_xs1, q_xs2, lv_args, Value.category, List.filter_cons, List.filter_nil, Nat.reduceAdd, Nat.reduceBEq, Nat.reduceEqDiff, Nat.reduceSub, Nat.sub_zero, beq_self_eq_true, Bool.not_true, Bool.not_false, Bool.and_true, Bool.and_false, Bool.true_and, Bool.false_and, reduceIte, reduceCtorEq, Bool.false_eq_true, Nat.one_ne_zero, Nat.zero_ne_one, Nat.zero_add, Option.toList_some, Option.toList_none, List.nil_append, List.cons_append, List.take_succ_cons, List.take_zero, List.take_nil, List.drop_succ_cons, List.drop_zero, List.length_cons, List.length_nil, List.reverse_cons, List.reverse_nil, List.head?_cons, List.map_cons, List.map_nil, List.sum_cons, List.sum_nil, true_and, and_true, List.getElem?_cons_zero, List.getElem?_cons_succ, Prod.eta, x_iast, x_bald, x_bast, x_last, x_alen, xup_s, xup_a1, xup_1a, xup_uu, nr_i, nr_l, nr_o, nr_a, ft_i, ft_l, ft_o, ft_a, Nat.reduceLT, i_cl0, i_cl1, i_n1, i_m1, List.set_cons_zero, List.set_cons_succ, Nat.reduceLeDiff, Nat.le_refl, Nat.zero_le, Nat.add_zero, x_no, x_ifnull, x_ifnonnull, x_acmp_eq, x_acmp_ne, x_swl, x_tsw, x_castC, true_or, or_true, nr_z, ft_z, nr_z0, nr_z1, ft_z0, ft_z1, nr_on, nr_an, ft_on, ft_an, reO.g0 v1.1, reO.g1 v1.1, reO.g2 v1.1, reO.g3 v1.1, reO.g4 v1.1, reO.g5 v1.1, reO.p0 v1.1, reO.p1 v1.1, reO.p2 v1.1, reO.p2a v1.1, reO.p2b v1.1, reO.p3 v1.1, reO.p3a v1.1, reO.p3b v1.1, bI_e0, z1]
    refine ⟨fun i0 => ⟨fun s0 => ⟨fun t0 => ?_, fun t0 => ?_⟩, fun s0 => ?_⟩, fun i0 => ?_⟩
    · refine ⟨v1.rc, a, s, e, i, t, p, q, rfl, v1, ?_⟩
      rw [← hlv]
      have ex2 := ex1.up true
      have of2 : xoff (xup hh x (exC x true)) h x (x + 5) := xoff_tr (xoff_wd off1 (by omega) (by omega)) of1
      have v2 := v1.off (off1 (r := x) (c := exC x true)) (by omega)
      obtain ⟨p0, q0, hb, -⟩ := hf i0 s0
      obtain ⟨hb1, hb2⟩ := hb t0
      have lo := lev_lo (e := e) p0 q0
      have hi2 := lev_hi (e := e) (p := p) q0
      rw [← hlv] at lo hi2
      have qs : ∀ N, szS (sv e p q) N true → Q (some (.long (lN N))) (xup hh x (exC x true), S2) := fun N sz => hQ _ N true of2 ex2 ⟨fun w => (by rw [w] at i0; exact absurd i0 (by decide)), fun _ w => absurd w s0, fun _ _ _ => sz, fun _ _ w => (by rw [w] at t0; exact absurd t0 (by decide))⟩
      simp only [q_c, x_iload, x_lload, x_aload, q_istore, q_lstore, q_astore, q_astore2, x_iinc, q_iadd, q_isub, q_imul, q_iand, q_ior, q_ixor, q_ladd, q_lsub, q_lmul, q_land, q_lor, q_lxor, q_idiv, q_irem, q_ldiv, q_lrem, q_ineg, q_lneg, q_ishl, q_ishr, q_iushr, q_lshl, q_lshr, q_lushr, q_i2l, q_l2i, q_i2b, q_i2c, q_lcmp, q_if_eq, q_if_ne, q_if_lt, q_if_ge, q_if_gt, q_if_le, q_icmp_eq, q_icmp_ne, q_icmp_lt, q_icmp_ge, q_icmp_gt, q_icmp_le, q_dup, q_pop, q_dup_x1, q_dup2, x_iret, x_zret, x_lret, x_aret, x_vret, x_call, x_callv, x_calli, x_oinit, x_mmax, x_mmin, x_mabs, x_mmaxL, x_mminL, x_mabsL, lg_cmp_ge, lg_cmp_le, lg_cmp_gt, lg_cmp_lt, lg_cmp_eq, xlk, q_xs1, q_xs2, lv_args, Value.category, List.filter_cons, List.filter_nil, Nat.reduceAdd, Nat.reduceBEq, Nat.reduceEqDiff, Nat.reduceSub, Nat.sub_zero, beq_self_eq_true, Bool.not_true, Bool.not_false, Bool.and_true, Bool.and_false, Bool.true_and, Bool.false_and, reduceIte, reduceCtorEq, Bool.false_eq_true, Nat.one_ne_zero, Nat.zero_ne_one, Nat.zero_add, Option.toList_some, Option.toList_none, List.nil_append, List.cons_append, List.take_succ_cons, List.take_zero, List.take_nil, List.drop_succ_cons, List.drop_zero, List.length_cons, List.length_nil, List.reverse_cons, List.reverse_nil, List.head?_cons, List.map_cons, List.map_nil, List.sum_cons, List.sum_nil, true_and, and_true, List.getElem?_cons_zero, List.getElem?_cons_succ, Prod.eta, x_iast, x_bald, x_bast, x_last, x_alen, xup_s, xup_a1, xup_1a, xup_uu, nr_i, nr_l, nr_o, nr_a, ft_i, ft_l, ft_o, ft_a, Nat.reduceLT, i_cl0, i_cl1, i_n1, i_m1, List.set_cons_zero, List.set_cons_succ, Nat.reduceLeDiff, Nat.le_refl, Nat.zero_le, Nat.add_zero, x_no, x_ifnull, x_ifnonnull, x_acmp_eq, x_acmp_ne, x_swl, x_tsw, x_castC, true_or, or_true, nr_z, ft_z, nr_z0, nr_z1, ft_z0, ft_z1, nr_on, nr_an, ft_on, ft_an, e1, exO.g0 ex1.1, exO.g1 ex1.1, exO.g2 ex1.1, exO.g3 ex1.1, exO.p3 ex1.1, exO.p3a ex1.1, exO.p3b ex1.1, q1, q2]
      generalize xup hh x (exC x true) = h2 at *
      refine ⟨fun l1 => ⟨fun l2 => ?_, fun l2 => qs 0 (sz_small (sv_pos p0 q0) (rt_ll hi2 (p2_le (by omega))))⟩, fun l1 => qs _ (sz_big (by have := p2_le (show (1024 : Int) ≤ lv - 1 by omega); grind))⟩
      obtain ⟨L, hL⟩ : ∃ L, L = p * 2 ^ (e - un).toNat := ⟨_, rfl⟩
      obtain ⟨R, hR⟩ : ∃ R, R = q * 2 ^ (un - e).toNat := ⟨_, rfl⟩
      have R0 : R ≠ 0 := by rw [hR]; exact Nat.mul_ne_zero q0 (Nat.ne_of_gt (Nat.two_pow_pos _))
      refine ⟨ex2.rc, x, a, true, s, e, un, i, t, p, q, L, R, rfl, ex2, da, v2, by omega, q0, hL, hR, ?_, fun _ => ⟨?_, ?_⟩, fun h3 oB w => ?_⟩
      · have a1 := hi2
        rw [sv_unit (u := un) q0, ← hL, ← hR, sv_lt R0] at a1
        have a2 := p2_le (show lv + 1 ≤ un + 63 by omega)
        rw [p2_split (show un ≤ un + 63 by omega), show (un + 63 - un).toNat = 63 by omega] at a2
        have a3 := Rat.mul_le_mul_of_nonneg_right a2 (Rat.le_of_lt (q_pos R0))
        rw [show ((2 ^ 63 : Nat) : Rat) * p2 un * (R : Rat) = ((2 ^ 63 * R : Nat) : Rat) * p2 un by rw [Rat.natCast_mul]; grind] at a3
        exact (rq_lt un).mp (rt_ll a1 a3)
      · rw [hL]; exact nb_pw (by omega)
      · rw [hR]; exact nb_pw (by omega)
      · try simp only [q_c, x_iload, x_lload, x_aload, q_istore, q_lstore, q_astore, q_astore2, x_iinc, q_iadd, q_isub, q_imul, q_iand, q_ior, q_ixor, q_ladd, q_lsub, q_lmul, q_land, q_lor, q_lxor, q_idiv, q_irem, q_ldiv, q_lrem, q_ineg, q_lneg, q_ishl, q_ishr, q_iushr, q_lshl, q_lshr, q_lushr, q_i2l, q_l2i, q_i2b, q_i2c, q_lcmp, q_if_eq, q_if_ne, q_if_lt, q_if_ge, q_if_gt, q_if_le, q_icmp_eq, q_icmp_ne, q_icmp_lt, q_icmp_ge, q_icmp_gt, q_icmp_le, q_dup, q_pop, q_dup_x1, q_dup2, x_iret, x_zret, x_lret, x_aret, x_vret, x_call, x_callv, x_calli, x_oinit, x_mmax, x_mmin, x_mabs, x_mmaxL, x_mminL, x_mabsL, lg_cmp_ge, lg_cmp_le, lg_cmp_gt, lg_cmp_lt, lg_cmp_eq, xlk, q_xs1, q_xs2, lv_args, Value.category, List.filter_cons, List.filter_nil, Nat.reduceAdd, Nat.reduceBEq, Nat.reduceEqDiff, Nat.reduceSub, Nat.sub_zero, beq_self_eq_true, Bool.not_true, Bool.not_false, Bool.and_true, Bool.and_false, Bool.true_and, Bool.false_and, reduceIte, reduceCtorEq, Bool.false_eq_true, Nat.one_ne_zero, Nat.zero_ne_one, Nat.zero_add, Option.toList_some, Option.toList_none, List.nil_append, List.cons_append, List.take_succ_cons, List.take_zero, List.take_nil, List.drop_succ_cons, List.drop_zero, List.length_cons, List.length_nil, List.reverse_cons, List.reverse_nil, List.head?_cons, List.map_cons, List.map_nil, List.sum_cons, List.sum_nil, true_and, and_true, List.getElem?_cons_zero, List.getElem?_cons_succ, Prod.eta, x_iast, x_bald, x_bast, x_last, x_alen, xup_s, xup_a1, xup_1a, xup_uu, nr_i, nr_l, nr_o, nr_a, ft_i, ft_l, ft_o, ft_a, Nat.reduceLT, i_cl0, i_cl1, i_n1, i_m1, List.set_cons_zero, List.set_cons_succ, Nat.reduceLeDiff, Nat.le_refl, Nat.zero_le, Nat.add_zero, x_no, x_ifnull, x_ifnonnull, x_acmp_eq, x_acmp_ne, x_swl, x_tsw, x_castC, true_or, or_true, nr_z, ft_z, nr_z0, nr_z1, ft_z0, ft_z1, nr_on, nr_an, ft_on, ft_an]
        exact goal i0 s0 t0 l1 l2 h3 L R hL hR (xoff_tr oB of2) w
    · obtain ⟨p0, q0, -, hr⟩ := hf i0 s0
      obtain ⟨-, -, r1, r2, r3⟩ := hr (eq_true_of_ne_false t0)
      refine ⟨ex1.rc, x, a, false, s, e, i, t, p, q, rfl, ex1, da, v1, by omega, r1, ⟨r2, r3⟩, fun h3 N y oB w rz => ?_⟩
      try simp only [q_c, x_iload, x_lload, x_aload, q_istore, q_lstore, q_astore, q_astore2, x_iinc, q_iadd, q_isub, q_imul, q_iand, q_ior, q_ixor, q_ladd, q_lsub, q_lmul, q_land, q_lor, q_lxor, q_idiv, q_irem, q_ldiv, q_lrem, q_ineg, q_lneg, q_ishl, q_ishr, q_iushr, q_lshl, q_lshr, q_lushr, q_i2l, q_l2i, q_i2b, q_i2c, q_lcmp, q_if_eq, q_if_ne, q_if_lt, q_if_ge, q_if_gt, q_if_le, q_icmp_eq, q_icmp_ne, q_icmp_lt, q_icmp_ge, q_icmp_gt, q_icmp_le, q_dup, q_pop, q_dup_x1, q_dup2, x_iret, x_zret, x_lret, x_aret, x_vret, x_call, x_callv, x_calli, x_oinit, x_mmax, x_mmin, x_mabs, x_mmaxL, x_mminL, x_mabsL, lg_cmp_ge, lg_cmp_le, lg_cmp_gt, lg_cmp_lt, lg_cmp_eq, xlk, q_xs1, q_xs2, lv_args, Value.category, List.filter_cons, List.filter_nil, Nat.reduceAdd, Nat.reduceBEq, Nat.reduceEqDiff, Nat.reduceSub, Nat.sub_zero, beq_self_eq_true, Bool.not_true, Bool.not_false, Bool.and_true, Bool.and_false, Bool.true_and, Bool.false_and, reduceIte, reduceCtorEq, Bool.false_eq_true, Nat.one_ne_zero, Nat.zero_ne_one, Nat.zero_add, Option.toList_some, Option.toList_none, List.nil_append, List.cons_append, List.take_succ_cons, List.take_zero, List.take_nil, List.drop_succ_cons, List.drop_zero, List.length_cons, List.length_nil, List.reverse_cons, List.reverse_nil, List.head?_cons, List.map_cons, List.map_nil, List.sum_cons, List.sum_nil, true_and, and_true, List.getElem?_cons_zero, List.getElem?_cons_succ, Prod.eta, x_iast, x_bald, x_bast, x_last, x_alen, xup_s, xup_a1, xup_1a, xup_uu, nr_i, nr_l, nr_o, nr_a, ft_i, ft_l, ft_o, ft_a, Nat.reduceLT, i_cl0, i_cl1, i_n1, i_m1, List.set_cons_zero, List.set_cons_succ, Nat.reduceLeDiff, Nat.le_refl, Nat.zero_le, Nat.add_zero, x_no, x_ifnull, x_ifnonnull, x_acmp_eq, x_acmp_ne, x_swl, x_tsw, x_castC, true_or, or_true, nr_z, ft_z, nr_z0, nr_z1, ft_z0, ft_z1, nr_on, nr_an, ft_on, ft_an]
      exact hQ h3 N y (xoff_tr oB of1) w ⟨fun w => (by rw [w] at i0; exact absurd i0 (by decide)), fun _ w => absurd w s0, fun _ _ w => absurd w t0, fun _ _ _ => rz⟩
    · exact hQ hh 0 false of1 ex1 ⟨fun w => (by rw [w] at i0; exact absurd i0 (by decide)), fun _ _ => ⟨rfl, rfl⟩, fun _ w => absurd s0 w, fun _ w => absurd s0 w⟩
    · exact hQ hh _ false of1 ex1 ⟨fun _ => ⟨rfl, rfl⟩, fun w => absurd w i0, fun w => absurd w i0, fun w => absurd w i0⟩
theorem dX3_down_0 : decode cX3_down 0 = .ok (.aload_n 0, 1) := by decide +kernel
theorem dX3_down_1 : decode cX3_down 1 = .ok (.aload_n 1, 1) := by decide +kernel
theorem dX3_down_2 : decode cX3_down 2 = .ok (.invokevirtual 83, 3) := by decide +kernel
theorem dX3_down_5 : decode cX3_down 5 = .ok (.lstore_n 2, 1) := by decide +kernel
theorem dX3_down_6 : decode cX3_down 6 = .ok (.aload_n 1, 1) := by decide +kernel
theorem dX3_down_7 : decode cX3_down 7 = .ok (.getfield 28, 3) := by decide +kernel
theorem dX3_down_10 : decode cX3_down 10 = .ok (.ifCond .ge 20, 3) := by decide +kernel
theorem dX3_down_13 : decode cX3_down 13 = .ok (.aload_n 0, 1) := by decide +kernel
theorem dX3_down_14 : decode cX3_down 14 = .ok (.getfield 87, 3) := by decide +kernel
theorem dX3_down_17 : decode cX3_down 17 = .ok (.ifCond .eq 10, 3) := by decide +kernel
theorem dX3_down_20 : decode cX3_down 20 = .ok (.lload_n 2, 1) := by decide +kernel
theorem dX3_down_21 : decode cX3_down 21 = .ok (.lneg, 1) := by decide +kernel
theorem dX3_down_22 : decode cX3_down 22 = .ok (.lconst 1, 1) := by decide +kernel
theorem dX3_down_23 : decode cX3_down 23 = .ok (.lsub, 1) := by decide +kernel
theorem dX3_down_24 : decode cX3_down 24 = .ok (.goto 5, 3) := by decide +kernel
theorem dX3_down_27 : decode cX3_down 27 = .ok (.lload_n 2, 1) := by decide +kernel
theorem dX3_down_28 : decode cX3_down 28 = .ok (.lneg, 1) := by decide +kernel
theorem dX3_down_29 : decode cX3_down 29 = .ok (.lreturn, 1) := by decide +kernel
theorem dX3_down_30 : decode cX3_down 30 = .ok (.lload_n 2, 1) := by decide +kernel
theorem dX3_down_31 : decode cX3_down 31 = .ok (.lreturn, 1) := by decide +kernel
abbrev r_X3_down : Room := { frames := 4, cells := 0, slots := 0, locals := 104 }
abbrev m_X3_down : xMd := (cX3_down, RX3, 4, (some FieldType.long), false, r_X3_down)
def b_X3_down_29 (Q : xQ) : xK := x_lret Q
def b_X3_down_0 (Q : xQ) : xK := x_aload 0 <| x_aload 1 <| x_callv 4 C_X3_size 2 0 0 <| x_lstore 2 <| x_aload 1 <| x_get 7 0 <| x_if_ge (x_lload 2 <| x_lret Q) <| x_aload 0 <| x_get 4 3 <| x_if_eq (x_lload 2 <| x_lneg <| (b_X3_down_29 Q)) <| x_lload 2 <| x_lneg <| x_c (.long 1) <| x_lsub <| (b_X3_down_29 Q)
theorem s_X3_down_29 (G : xG) (l : Launch) (Q : xQ) : xW G l m_X3_down xX0 (xPm G Q r_X3_down) 29 (b_X3_down_29 Q) := xo_lret (pc := 29) rfl dX3_down_29
theorem s_X3_down_0 (G : xG) (l : Launch) (Q : xQ) : xW G l m_X3_down xX0 (xPm G Q r_X3_down) 0 (b_X3_down_0 Q) := xo_aload_n (pc := 0) (i := 0) dX3_down_0 rfl <| xo_aload_n (pc := 1) (i := 1) dX3_down_1 rfl <| xo_callV (pc := 2) (np := 1) (ci := 4) rfl (cM_X3_size G l) dX3_down_2 kw652 kw649 kw650 kw651 kw5 (by decide +kernel) (by decide) <| xo_lstore_n (pc := 5) (i := 2) dX3_down_5 rfl (by decide) <| xo_aload_n (pc := 6) (i := 1) dX3_down_6 rfl <| xo_getN (pc := 7) (ci := 7) (i := 0) rfl ok7 (by decide) dX3_down_7 kw96 <| xo_if_ge (pc := 10) (tgt := 30) dX3_down_10 (by decide) (xo_lload_n (pc := 30) (i := 2) dX3_down_30 rfl <| xo_lret (pc := 31) rfl dX3_down_31) <| xo_aload_n (pc := 13) (i := 0) dX3_down_13 rfl <| xo_get (pc := 14) (ci := 4) (i := 3) rfl ok4 (by decide) dX3_down_14 kw130 <| xo_if_eq (pc := 17) (tgt := 27) dX3_down_17 (by decide) (xo_lload_n (pc := 27) (i := 2) dX3_down_27 rfl <| xo_lneg (pc := 28) dX3_down_28 <| (s_X3_down_29 G l Q)) <| xo_lload_n (pc := 20) (i := 2) dX3_down_20 rfl <| xo_lneg (pc := 21) dX3_down_21 <| xo_lconst (pc := 22) dX3_down_22 (by decide) <| xo_lsub (pc := 23) dX3_down_23 <| xo_goto (pc := 24) (tgt := 29) dX3_down_24 (by decide) <| (s_X3_down_29 G l Q)

noncomputable def dnR (s e : Int) (i t : Bool) (p q : Nat) : Int := if i = true then s * 9218868437227405312 else if s = 0 then 0 else if t = true then rdF ((p : Rat) * p2 e) else dnF (rv s e p q)
noncomputable def upR (s e : Int) (i t : Bool) (p q : Nat) : Int := if i = true then s * 9218868437227405312 else if s = 0 then 0 else if t = true then ruF ((p : Rat) * p2 e) else upF (rv s e p q)
def C_X3_down : xC := fun av S Q => ∃ (x a : Nat) (n : Bool) (s e : Int) (i t : Bool) (p q : Nat), av = [.ref x, .ref a] ∧ exR S.1 x n ∧ (a + 5 ≤ x ∨ x + 5 ≤ a) ∧ reR S.1 a s e i t p q ∧ szP s e i t p q ∧ ∀ h' y, xoff h' S.1 x (x + 5) → exR h' x y → Q (some (.long (lZ (dnR s e i t p q)))) (h', S.2)
theorem dn_of {s e : Int} {i t y : Bool} {p q N : Nat} (hs : -1 ≤ s ∧ s ≤ 1) (pr : szP s e i t p q) (z : szQ s e i t p q N y) : dnR s e i t p q = if s < 0 then (if y = true then -(N : Int) - 1 else -(N : Int)) else N := by
  obtain ⟨z1, z2, z3, z4⟩ := z
  unfold dnR
  rcases Bool.eq_false_or_eq_true i with c | c
  · obtain ⟨rfl, rfl⟩ := z1 c
    have := pr.1 c
    rw [if_pos c, if_neg Bool.false_ne_true]
    split <;> omega
  · rw [if_neg (by rw [c]; decide)]
    rcases Decidable.em (s = 0) with d | d
    · obtain ⟨rfl, rfl⟩ := z2 c d
      rw [if_pos d, if_neg (by omega)]
      rfl
    · rw [if_neg d]
      rcases Bool.eq_false_or_eq_true t with g | g
      · have := (pr.2 c d).2.2.2 g
        rw [if_pos g, if_neg (by omega)]
        exact (rz_dn (z4 c d g)).symm
      · rw [if_neg (by rw [g]; decide)]
        have sz := z3 c d g
        rcases (show s = 1 ∨ s = -1 by omega) with rfl | rfl
        · rw [rv_1, if_neg (by decide)]
          exact (sz_dn sz).symm
        · rw [rv_m, if_pos (by decide)]
          exact (sz_dm sz).symm
theorem up_of {s e : Int} {i t y : Bool} {p q N : Nat} (hs : -1 ≤ s ∧ s ≤ 1) (pr : szP s e i t p q) (z : szQ s e i t p q N y) : upR s e i t p q = if s < 0 then -(N : Int) else (if y = true then (N : Int) + 1 else N) := by
  obtain ⟨z1, z2, z3, z4⟩ := z
  unfold upR
  rcases Bool.eq_false_or_eq_true i with c | c
  · obtain ⟨rfl, rfl⟩ := z1 c
    have := pr.1 c
    rw [if_pos c, if_neg Bool.false_ne_true]
    split <;> omega
  · rw [if_neg (by rw [c]; decide)]
    rcases Decidable.em (s = 0) with d | d
    · obtain ⟨rfl, rfl⟩ := z2 c d
      rw [if_pos d, if_neg (by omega), if_neg Bool.false_ne_true]
      rfl
    · rw [if_neg d]
      rcases Bool.eq_false_or_eq_true t with g | g
      · have := (pr.2 c d).2.2.2 g
        rw [if_pos g, if_neg (by omega)]
        exact (rz_up (z4 c d g)).symm
      · rw [if_neg (by rw [g]; decide)]
        have sz := z3 c d g
        rcases (show s = 1 ∨ s = -1 by omega) with rfl | rfl
        · rw [rv_1, if_neg (by decide)]
          exact (sz_up sz).symm
        · rw [rv_m, if_pos (by decide)]
          exact (sz_um sz).symm
theorem cM_X3_down (G : xG) (l : Launch) : xM G l yX3_down cX3_down 4 (some FieldType.long) r_X3_down C_X3_down := by
  refine xM_of (fun Q => b_X3_down_0 Q) RX3 false (s_X3_down_0 G l) (by decide) rfl (by decide) ?_
  rintro av ⟨h, S2⟩ Q ⟨x, a, n, s, e, i, t, p, q, rfl, ex, da, v, pr, hQ⟩
  dsimp only at *
  refine ⟨Nat.le_of_ble_eq_true rfl, ?_⟩
  have ss := v.2.2.2.1
  have s0 : (0 : Int32) ≤ iZ s ↔ 0 ≤ s := by rw [i_le, iZ_toInt (by omega) (by omega), i_0]
  simp only [q_c, x_iload, x_lload, x_aload, q_istore, q_lstore, q_astore, q_astore2, x_iinc, q_iadd, q_isub, q_imul, q_iand, q_ior, q_ixor, q_ladd, q_lsub, q_lmul, q_land, q_lor, q_lxor, q_idiv, q_irem, q_ldiv, q_lrem, q_ineg, q_lneg, q_ishl, q_ishr, q_iushr, q_lshl, q_lshr, q_lushr, q_i2l, q_l2i, q_i2b, q_i2c, q_lcmp, q_if_eq, q_if_ne, q_if_lt, q_if_ge, q_if_gt, q_if_le, q_icmp_eq, q_icmp_ne, q_icmp_lt, q_icmp_ge, q_icmp_gt, q_icmp_le, q_dup, q_pop, q_dup_x1, q_dup2, x_iret, x_zret, x_lret, x_aret, x_vret, x_call, x_callv, x_calli, x_oinit, x_mmax, x_mmin, x_mabs, x_mmaxL, x_mminL, x_mabsL, lg_cmp_ge, lg_cmp_le, lg_cmp_gt, lg_cmp_lt, lg_cmp_eq, xlk, q_xs1, q_xs2, lv_args, Value.category, List.filter_cons, List.filter_nil, Nat.reduceAdd, Nat.reduceBEq, Nat.reduceEqDiff, Nat.reduceSub, Nat.sub_zero, beq_self_eq_true, Bool.not_true, Bool.not_false, Bool.and_true, Bool.and_false, Bool.true_and, Bool.false_and, reduceIte, reduceCtorEq, Bool.false_eq_true, Nat.one_ne_zero, Nat.zero_ne_one, Nat.zero_add, Option.toList_some, Option.toList_none, List.nil_append, List.cons_append, List.take_succ_cons, List.take_zero, List.take_nil, List.drop_succ_cons, List.drop_zero, List.length_cons, List.length_nil, List.reverse_cons, List.reverse_nil, List.head?_cons, List.map_cons, List.map_nil, List.sum_cons, List.sum_nil, true_and, and_true, List.getElem?_cons_zero, List.getElem?_cons_succ, Prod.eta, x_iast, x_bald, x_bast, x_last, x_alen, xup_s, xup_a1, xup_1a, xup_uu, nr_i, nr_l, nr_o, nr_a, ft_i, ft_l, ft_o, ft_a, Nat.reduceLT, i_cl0, i_cl1, i_n1, i_m1, List.set_cons_zero, List.set_cons_succ, Nat.reduceLeDiff, Nat.le_refl, Nat.zero_le, Nat.add_zero, x_no, x_ifnull, x_ifnonnull, x_acmp_eq, x_acmp_ne, x_swl, x_tsw, x_castC, true_or, or_true, nr_z, ft_z, nr_z0, nr_z1, ft_z0, ft_z1, nr_on, nr_an, ft_on, ft_an, b_X3_down_0, b_X3_down_29]
  refine ⟨ex.rc, x, a, n, s, e, i, t, p, q, rfl, ex, da, v, pr, fun h2 N y oA w sz => ?_⟩
  have e1 := dn_of ss pr sz
  have hq := hQ h2 y oA w
  rw [e1] at hq
  have v2 := v.off oA (by omega)
  simp only [q_c, x_iload, x_lload, x_aload, q_istore, q_lstore, q_astore, q_astore2, x_iinc, q_iadd, q_isub, q_imul, q_iand, q_ior, q_ixor, q_ladd, q_lsub, q_lmul, q_land, q_lor, q_lxor, q_idiv, q_irem, q_ldiv, q_lrem, q_ineg, q_lneg, q_ishl, q_ishr, q_iushr, q_lshl, q_lshr, q_lushr, q_i2l, q_l2i, q_i2b, q_i2c, q_lcmp, q_if_eq, q_if_ne, q_if_lt, q_if_ge, q_if_gt, q_if_le, q_icmp_eq, q_icmp_ne, q_icmp_lt, q_icmp_ge, q_icmp_gt, q_icmp_le, q_dup, q_pop, q_dup_x1, q_dup2, x_iret, x_zret, x_lret, x_aret, x_vret, x_call, x_callv, x_calli, x_oinit, x_mmax, x_mmin, x_mabs, x_mmaxL, x_mminL, x_mabsL, lg_cmp_ge, lg_cmp_le, lg_cmp_gt, lg_cmp_lt, lg_cmp_eq, xlk, q_xs1, q_xs2, lv_args, Value.category, List.filter_cons, List.filter_nil, Nat.reduceAdd, Nat.reduceBEq, Nat.reduceEqDiff, Nat.reduceSub, Nat.sub_zero, beq_self_eq_true, Bool.not_true, Bool.not_false, Bool.and_true, Bool.and_false, Bool.true_and, Bool.false_and, reduceIte, reduceCtorEq, Bool.false_eq_true, Nat.one_ne_zero, Nat.zero_ne_one, Nat.zero_add, Option.toList_some, Option.toList_none, List.nil_append, List.cons_append, List.take_succ_cons, List.take_zero, List.take_nil, List.drop_succ_cons, List.drop_zero, List.length_cons, List.length_nil, List.reverse_cons, List.reverse_nil, List.head?_cons, List.map_cons, List.map_nil, List.sum_cons, List.sum_nil, true_and, and_true, List.getElem?_cons_zero, List.getElem?_cons_succ, Prod.eta, x_iast, x_bald, x_bast, x_last, x_alen, xup_s, xup_a1, xup_1a, xup_uu, nr_i, nr_l, nr_o, nr_a, ft_i, ft_l, ft_o, ft_a, Nat.reduceLT, i_cl0, i_cl1, i_n1, i_m1, List.set_cons_zero, List.set_cons_succ, Nat.reduceLeDiff, Nat.le_refl, Nat.zero_le, Nat.add_zero, x_no, x_ifnull, x_ifnonnull, x_acmp_eq, x_acmp_ne, x_swl, x_tsw, x_castC, true_or, or_true, nr_z, ft_z, nr_z0, nr_z1, ft_z0, ft_z1, nr_on, nr_an, ft_on, ft_an, reO.g0 v2.1, reO.g1 v2.1, reO.g2 v2.1, reO.g3 v2.1, reO.g4 v2.1, reO.g5 v2.1, reO.p0 v2.1, reO.p1 v2.1, reO.p2 v2.1, reO.p2a v2.1, reO.p2b v2.1, reO.p3 v2.1, reO.p3a v2.1, reO.p3b v2.1, s0, exO.g0 w.1, exO.g1 w.1, exO.g2 w.1, exO.g3 w.1, exO.p3 w.1, exO.p3a w.1, exO.p3b w.1, bI_e0]
  refine ⟨fun c => ?_, fun c => ⟨fun d => ?_, fun d => ?_⟩⟩
  · rw [if_neg (by omega), lZ_nat] at hq; exact hq
  · rw [if_pos (by omega), if_neg (by rw [d]; decide), ← lZ_neg, lZ_nat] at hq; exact hq
  · rw [if_pos (by omega), if_pos (eq_true_of_ne_false d), ← lZ_sub, ← lZ_neg, lZ_nat] at hq; exact hq
theorem dX3_up_0 : decode cX3_up 0 = .ok (.aload_n 0, 1) := by decide +kernel
theorem dX3_up_1 : decode cX3_up 1 = .ok (.aload_n 1, 1) := by decide +kernel
theorem dX3_up_2 : decode cX3_up 2 = .ok (.invokevirtual 83, 3) := by decide +kernel
theorem dX3_up_5 : decode cX3_up 5 = .ok (.lstore_n 2, 1) := by decide +kernel
theorem dX3_up_6 : decode cX3_up 6 = .ok (.aload_n 1, 1) := by decide +kernel
theorem dX3_up_7 : decode cX3_up 7 = .ok (.getfield 28, 3) := by decide +kernel
theorem dX3_up_10 : decode cX3_up 10 = .ok (.ifCond .ge 6, 3) := by decide +kernel
theorem dX3_up_13 : decode cX3_up 13 = .ok (.lload_n 2, 1) := by decide +kernel
theorem dX3_up_14 : decode cX3_up 14 = .ok (.lneg, 1) := by decide +kernel
theorem dX3_up_15 : decode cX3_up 15 = .ok (.lreturn, 1) := by decide +kernel
theorem dX3_up_16 : decode cX3_up 16 = .ok (.aload_n 0, 1) := by decide +kernel
theorem dX3_up_17 : decode cX3_up 17 = .ok (.getfield 87, 3) := by decide +kernel
theorem dX3_up_20 : decode cX3_up 20 = .ok (.ifCond .eq 9, 3) := by decide +kernel
theorem dX3_up_23 : decode cX3_up 23 = .ok (.lload_n 2, 1) := by decide +kernel
theorem dX3_up_24 : decode cX3_up 24 = .ok (.lconst 1, 1) := by decide +kernel
theorem dX3_up_25 : decode cX3_up 25 = .ok (.ladd, 1) := by decide +kernel
theorem dX3_up_26 : decode cX3_up 26 = .ok (.goto 4, 3) := by decide +kernel
theorem dX3_up_29 : decode cX3_up 29 = .ok (.lload_n 2, 1) := by decide +kernel
theorem dX3_up_30 : decode cX3_up 30 = .ok (.lreturn, 1) := by decide +kernel
abbrev r_X3_up : Room := { frames := 4, cells := 0, slots := 0, locals := 104 }
abbrev m_X3_up : xMd := (cX3_up, RX3, 4, (some FieldType.long), false, r_X3_up)
def b_X3_up_30 (Q : xQ) : xK := x_lret Q
def b_X3_up_0 (Q : xQ) : xK := x_aload 0 <| x_aload 1 <| x_callv 4 C_X3_size 2 0 0 <| x_lstore 2 <| x_aload 1 <| x_get 7 0 <| x_if_ge (x_aload 0 <| x_get 4 3 <| x_if_eq (x_lload 2 <| (b_X3_up_30 Q)) <| x_lload 2 <| x_c (.long 1) <| x_ladd <| (b_X3_up_30 Q)) <| x_lload 2 <| x_lneg <| x_lret Q
theorem s_X3_up_30 (G : xG) (l : Launch) (Q : xQ) : xW G l m_X3_up xX0 (xPm G Q r_X3_up) 30 (b_X3_up_30 Q) := xo_lret (pc := 30) rfl dX3_up_30
theorem s_X3_up_0 (G : xG) (l : Launch) (Q : xQ) : xW G l m_X3_up xX0 (xPm G Q r_X3_up) 0 (b_X3_up_0 Q) := xo_aload_n (pc := 0) (i := 0) dX3_up_0 rfl <| xo_aload_n (pc := 1) (i := 1) dX3_up_1 rfl <| xo_callV (pc := 2) (np := 1) (ci := 4) rfl (cM_X3_size G l) dX3_up_2 kw652 kw649 kw650 kw651 kw5 (by decide +kernel) (by decide) <| xo_lstore_n (pc := 5) (i := 2) dX3_up_5 rfl (by decide) <| xo_aload_n (pc := 6) (i := 1) dX3_up_6 rfl <| xo_getN (pc := 7) (ci := 7) (i := 0) rfl ok7 (by decide) dX3_up_7 kw96 <| xo_if_ge (pc := 10) (tgt := 16) dX3_up_10 (by decide) (xo_aload_n (pc := 16) (i := 0) dX3_up_16 rfl <| xo_get (pc := 17) (ci := 4) (i := 3) rfl ok4 (by decide) dX3_up_17 kw130 <| xo_if_eq (pc := 20) (tgt := 29) dX3_up_20 (by decide) (xo_lload_n (pc := 29) (i := 2) dX3_up_29 rfl <| (s_X3_up_30 G l Q)) <| xo_lload_n (pc := 23) (i := 2) dX3_up_23 rfl <| xo_lconst (pc := 24) dX3_up_24 (by decide) <| xo_ladd (pc := 25) dX3_up_25 <| xo_goto (pc := 26) (tgt := 30) dX3_up_26 (by decide) <| (s_X3_up_30 G l Q)) <| xo_lload_n (pc := 13) (i := 2) dX3_up_13 rfl <| xo_lneg (pc := 14) dX3_up_14 <| xo_lret (pc := 15) rfl dX3_up_15

def C_X3_up : xC := fun av S Q => ∃ (x a : Nat) (n : Bool) (s e : Int) (i t : Bool) (p q : Nat), av = [.ref x, .ref a] ∧ exR S.1 x n ∧ (a + 5 ≤ x ∨ x + 5 ≤ a) ∧ reR S.1 a s e i t p q ∧ szP s e i t p q ∧ ∀ h' y, xoff h' S.1 x (x + 5) → exR h' x y → Q (some (.long (lZ (upR s e i t p q)))) (h', S.2)
theorem cM_X3_up (G : xG) (l : Launch) : xM G l yX3_up cX3_up 4 (some FieldType.long) r_X3_up C_X3_up := by
  refine xM_of (fun Q => b_X3_up_0 Q) RX3 false (s_X3_up_0 G l) (by decide) rfl (by decide) ?_
  rintro av ⟨h, S2⟩ Q ⟨x, a, n, s, e, i, t, p, q, rfl, ex, da, v, pr, hQ⟩
  dsimp only at *
  refine ⟨Nat.le_of_ble_eq_true rfl, ?_⟩
  have ss := v.2.2.2.1
  have s0 : (0 : Int32) ≤ iZ s ↔ 0 ≤ s := by rw [i_le, iZ_toInt (by omega) (by omega), i_0]
  simp only [q_c, x_iload, x_lload, x_aload, q_istore, q_lstore, q_astore, q_astore2, x_iinc, q_iadd, q_isub, q_imul, q_iand, q_ior, q_ixor, q_ladd, q_lsub, q_lmul, q_land, q_lor, q_lxor, q_idiv, q_irem, q_ldiv, q_lrem, q_ineg, q_lneg, q_ishl, q_ishr, q_iushr, q_lshl, q_lshr, q_lushr, q_i2l, q_l2i, q_i2b, q_i2c, q_lcmp, q_if_eq, q_if_ne, q_if_lt, q_if_ge, q_if_gt, q_if_le, q_icmp_eq, q_icmp_ne, q_icmp_lt, q_icmp_ge, q_icmp_gt, q_icmp_le, q_dup, q_pop, q_dup_x1, q_dup2, x_iret, x_zret, x_lret, x_aret, x_vret, x_call, x_callv, x_calli, x_oinit, x_mmax, x_mmin, x_mabs, x_mmaxL, x_mminL, x_mabsL, lg_cmp_ge, lg_cmp_le, lg_cmp_gt, lg_cmp_lt, lg_cmp_eq, xlk, q_xs1, q_xs2, lv_args, Value.category, List.filter_cons, List.filter_nil, Nat.reduceAdd, Nat.reduceBEq, Nat.reduceEqDiff, Nat.reduceSub, Nat.sub_zero, beq_self_eq_true, Bool.not_true, Bool.not_false, Bool.and_true, Bool.and_false, Bool.true_and, Bool.false_and, reduceIte, reduceCtorEq, Bool.false_eq_true, Nat.one_ne_zero, Nat.zero_ne_one, Nat.zero_add, Option.toList_some, Option.toList_none, List.nil_append, List.cons_append, List.take_succ_cons, List.take_zero, List.take_nil, List.drop_succ_cons, List.drop_zero, List.length_cons, List.length_nil, List.reverse_cons, List.reverse_nil, List.head?_cons, List.map_cons, List.map_nil, List.sum_cons, List.sum_nil, true_and, and_true, List.getElem?_cons_zero, List.getElem?_cons_succ, Prod.eta, x_iast, x_bald, x_bast, x_last, x_alen, xup_s, xup_a1, xup_1a, xup_uu, nr_i, nr_l, nr_o, nr_a, ft_i, ft_l, ft_o, ft_a, Nat.reduceLT, i_cl0, i_cl1, i_n1, i_m1, List.set_cons_zero, List.set_cons_succ, Nat.reduceLeDiff, Nat.le_refl, Nat.zero_le, Nat.add_zero, x_no, x_ifnull, x_ifnonnull, x_acmp_eq, x_acmp_ne, x_swl, x_tsw, x_castC, true_or, or_true, nr_z, ft_z, nr_z0, nr_z1, ft_z0, ft_z1, nr_on, nr_an, ft_on, ft_an, b_X3_up_0, b_X3_up_30]
  refine ⟨ex.rc, x, a, n, s, e, i, t, p, q, rfl, ex, da, v, pr, fun h2 N y oA w sz => ?_⟩
  have e1 := up_of ss pr sz
  have hq := hQ h2 y oA w
  rw [e1] at hq
  have v2 := v.off oA (by omega)
  simp only [q_c, x_iload, x_lload, x_aload, q_istore, q_lstore, q_astore, q_astore2, x_iinc, q_iadd, q_isub, q_imul, q_iand, q_ior, q_ixor, q_ladd, q_lsub, q_lmul, q_land, q_lor, q_lxor, q_idiv, q_irem, q_ldiv, q_lrem, q_ineg, q_lneg, q_ishl, q_ishr, q_iushr, q_lshl, q_lshr, q_lushr, q_i2l, q_l2i, q_i2b, q_i2c, q_lcmp, q_if_eq, q_if_ne, q_if_lt, q_if_ge, q_if_gt, q_if_le, q_icmp_eq, q_icmp_ne, q_icmp_lt, q_icmp_ge, q_icmp_gt, q_icmp_le, q_dup, q_pop, q_dup_x1, q_dup2, x_iret, x_zret, x_lret, x_aret, x_vret, x_call, x_callv, x_calli, x_oinit, x_mmax, x_mmin, x_mabs, x_mmaxL, x_mminL, x_mabsL, lg_cmp_ge, lg_cmp_le, lg_cmp_gt, lg_cmp_lt, lg_cmp_eq, xlk, q_xs1, q_xs2, lv_args, Value.category, List.filter_cons, List.filter_nil, Nat.reduceAdd, Nat.reduceBEq, Nat.reduceEqDiff, Nat.reduceSub, Nat.sub_zero, beq_self_eq_true, Bool.not_true, Bool.not_false, Bool.and_true, Bool.and_false, Bool.true_and, Bool.false_and, reduceIte, reduceCtorEq, Bool.false_eq_true, Nat.one_ne_zero, Nat.zero_ne_one, Nat.zero_add, Option.toList_some, Option.toList_none, List.nil_append, List.cons_append, List.take_succ_cons, List.take_zero, List.take_nil, List.drop_succ_cons, List.drop_zero, List.length_cons, List.length_nil, List.reverse_cons, List.reverse_nil, List.head?_cons, List.map_cons, List.map_nil, List.sum_cons, List.sum_nil, true_and, and_true, List.getElem?_cons_zero, List.getElem?_cons_succ, Prod.eta, x_iast, x_bald, x_bast, x_last, x_alen, xup_s, xup_a1, xup_1a, xup_uu, nr_i, nr_l, nr_o, nr_a, ft_i, ft_l, ft_o, ft_a, Nat.reduceLT, i_cl0, i_cl1, i_n1, i_m1, List.set_cons_zero, List.set_cons_succ, Nat.reduceLeDiff, Nat.le_refl, Nat.zero_le, Nat.add_zero, x_no, x_ifnull, x_ifnonnull, x_acmp_eq, x_acmp_ne, x_swl, x_tsw, x_castC, true_or, or_true, nr_z, ft_z, nr_z0, nr_z1, ft_z0, ft_z1, nr_on, nr_an, ft_on, ft_an, reO.g0 v2.1, reO.g1 v2.1, reO.g2 v2.1, reO.g3 v2.1, reO.g4 v2.1, reO.g5 v2.1, reO.p0 v2.1, reO.p1 v2.1, reO.p2 v2.1, reO.p2a v2.1, reO.p2b v2.1, reO.p3 v2.1, reO.p3a v2.1, reO.p3b v2.1, s0, exO.g0 w.1, exO.g1 w.1, exO.g2 w.1, exO.g3 w.1, exO.p3 w.1, exO.p3a w.1, exO.p3b w.1, bI_e0]
  refine ⟨fun c => ⟨fun d => ?_, fun d => ?_⟩, fun c => ?_⟩
  · rw [if_neg (by omega), if_neg (by rw [d]; decide), lZ_nat] at hq; exact hq
  · rw [if_neg (by omega), if_pos (eq_true_of_ne_false d), ← lZ_add, lZ_nat] at hq; exact hq
  · rw [if_pos (by omega), ← lZ_neg, lZ_nat] at hq; exact hq
theorem dX3_orderRank_0 : decode cX3_orderRank 0 = .ok (.aload_n 0, 1) := by decide +kernel
theorem dX3_orderRank_1 : decode cX3_orderRank 1 = .ok (.getfield 24, 3) := by decide +kernel
theorem dX3_orderRank_4 : decode cX3_orderRank 4 = .ok (.lload_n 1, 1) := by decide +kernel
theorem dX3_orderRank_5 : decode cX3_orderRank 5 = .ok (.invokevirtual 67, 3) := by decide +kernel
theorem dX3_orderRank_8 : decode cX3_orderRank 8 = .ok (.aload_n 3, 1) := by decide +kernel
theorem dX3_orderRank_9 : decode cX3_orderRank 9 = .ok (.getfield 71, 3) := by decide +kernel
theorem dX3_orderRank_12 : decode cX3_orderRank 12 = .ok (.ifCond .eq 24, 3) := by decide +kernel
theorem dX3_orderRank_15 : decode cX3_orderRank 15 = .ok (.aload_n 3, 1) := by decide +kernel
theorem dX3_orderRank_16 : decode cX3_orderRank 16 = .ok (.getfield 38, 3) := by decide +kernel
theorem dX3_orderRank_19 : decode cX3_orderRank 19 = .ok (.ifCond .ne 17, 3) := by decide +kernel
theorem dX3_orderRank_22 : decode cX3_orderRank 22 = .ok (.lload_n 1, 1) := by decide +kernel
theorem dX3_orderRank_23 : decode cX3_orderRank 23 = .ok (.lconst 0, 1) := by decide +kernel
theorem dX3_orderRank_24 : decode cX3_orderRank 24 = .ok (.lcmp, 1) := by decide +kernel
theorem dX3_orderRank_25 : decode cX3_orderRank 25 = .ok (.ifCond .le 11, 3) := by decide +kernel
theorem dX3_orderRank_28 : decode cX3_orderRank 28 = .ok (.lload_n 1, 1) := by decide +kernel
theorem dX3_orderRank_29 : decode cX3_orderRank 29 = .ok (.ldc2_w 74, 3) := by decide +kernel
theorem dX3_orderRank_32 : decode cX3_orderRank 32 = .ok (.lcmp, 1) := by decide +kernel
theorem dX3_orderRank_33 : decode cX3_orderRank 33 = .ok (.ifCond .ne 13, 3) := by decide +kernel
theorem dX3_orderRank_36 : decode cX3_orderRank 36 = .ok (.aload_n 0, 1) := by decide +kernel
theorem dX3_orderRank_37 : decode cX3_orderRank 37 = .ok (.aload_n 0, 1) := by decide +kernel
theorem dX3_orderRank_38 : decode cX3_orderRank 38 = .ok (.getfield 24, 3) := by decide +kernel
theorem dX3_orderRank_41 : decode cX3_orderRank 41 = .ok (.aload_n 3, 1) := by decide +kernel
theorem dX3_orderRank_42 : decode cX3_orderRank 42 = .ok (.invokevirtual 76, 3) := by decide +kernel
theorem dX3_orderRank_45 : decode cX3_orderRank 45 = .ok (.ireturn, 1) := by decide +kernel
theorem dX3_orderRank_46 : decode cX3_orderRank 46 = .ok (.aload_n 0, 1) := by decide +kernel
theorem dX3_orderRank_47 : decode cX3_orderRank 47 = .ok (.getfield 12, 3) := by decide +kernel
theorem dX3_orderRank_50 : decode cX3_orderRank 50 = .ok (.aload_n 0, 1) := by decide +kernel
theorem dX3_orderRank_51 : decode cX3_orderRank 51 = .ok (.getfield 24, 3) := by decide +kernel
theorem dX3_orderRank_54 : decode cX3_orderRank 54 = .ok (.getfield 45, 3) := by decide +kernel
theorem dX3_orderRank_57 : decode cX3_orderRank 57 = .ok (.aload_n 0, 1) := by decide +kernel
theorem dX3_orderRank_58 : decode cX3_orderRank 58 = .ok (.getfield 24, 3) := by decide +kernel
theorem dX3_orderRank_61 : decode cX3_orderRank 61 = .ok (.getfield 45, 3) := by decide +kernel
theorem dX3_orderRank_64 : decode cX3_orderRank 64 = .ok (.invokevirtual 55, 3) := by decide +kernel
theorem dX3_orderRank_67 : decode cX3_orderRank 67 = .ok (.aload_n 0, 1) := by decide +kernel
theorem dX3_orderRank_68 : decode cX3_orderRank 68 = .ok (.getfield 24, 3) := by decide +kernel
theorem dX3_orderRank_71 : decode cX3_orderRank 71 = .ok (.getfield 45, 3) := by decide +kernel
theorem dX3_orderRank_74 : decode cX3_orderRank 74 = .ok (.aload_n 0, 1) := by decide +kernel
theorem dX3_orderRank_75 : decode cX3_orderRank 75 = .ok (.getfield 12, 3) := by decide +kernel
theorem dX3_orderRank_78 : decode cX3_orderRank 78 = .ok (.invokevirtual 79, 3) := by decide +kernel
theorem dX3_orderRank_81 : decode cX3_orderRank 81 = .ok (.aload_n 0, 1) := by decide +kernel
theorem dX3_orderRank_82 : decode cX3_orderRank 82 = .ok (.getfield 24, 3) := by decide +kernel
theorem dX3_orderRank_85 : decode cX3_orderRank 85 = .ok (.dup, 1) := by decide +kernel
theorem dX3_orderRank_86 : decode cX3_orderRank 86 = .ok (.getfield 42, 3) := by decide +kernel
theorem dX3_orderRank_89 : decode cX3_orderRank 89 = .ok (.iconst 2, 1) := by decide +kernel
theorem dX3_orderRank_90 : decode cX3_orderRank 90 = .ok (.imul, 1) := by decide +kernel
theorem dX3_orderRank_91 : decode cX3_orderRank 91 = .ok (.putfield 42, 3) := by decide +kernel
theorem dX3_orderRank_94 : decode cX3_orderRank 94 = .ok (.aload_n 0, 1) := by decide +kernel
theorem dX3_orderRank_95 : decode cX3_orderRank 95 = .ok (.aload_n 0, 1) := by decide +kernel
theorem dX3_orderRank_96 : decode cX3_orderRank 96 = .ok (.getfield 24, 3) := by decide +kernel
theorem dX3_orderRank_99 : decode cX3_orderRank 99 = .ok (.aload_n 3, 1) := by decide +kernel
theorem dX3_orderRank_100 : decode cX3_orderRank 100 = .ok (.invokevirtual 76, 3) := by decide +kernel
theorem dX3_orderRank_103 : decode cX3_orderRank 103 = .ok (.ireturn, 1) := by decide +kernel
abbrev r_X3_orderRank : Room := { frames := 3, cells := 0, slots := 0, locals := 75 }
abbrev m_X3_orderRank : xMd := (cX3_orderRank, RX3, 4, (some FieldType.int), false, r_X3_orderRank)
def b_X3_orderRank_36 (Q : xQ) : xK := x_aload 0 <| x_aload 0 <| x_get 4 2 <| x_aload 3 <| x_callv 4 C_X3_order 3 0 0 <| x_iret Q
def b_X3_orderRank_0 (Q : xQ) : xK := x_aload 0 <| x_get 4 2 <| x_lload 1 <| x_callv 7 C_X8_becomeRank 2 0 0 <| x_aload 3 <| x_get 7 3 <| x_if_eq ((b_X3_orderRank_36 Q)) <| x_aload 3 <| x_get 7 2 <| x_if_ne ((b_X3_orderRank_36 Q)) <| x_lload 1 <| x_c (.long 0) <| x_lcmp <| x_if_le ((b_X3_orderRank_36 Q)) <| x_lload 1 <| x_c (.long 9218868437227405312) <| x_lcmp <| x_if_ne (x_aload 0 <| x_get 4 0 <| x_aload 0 <| x_get 4 2 <| x_get 7 4 <| x_aload 0 <| x_get 4 2 <| x_get 7 4 <| x_callv 1 C_X0_becomeProduct 3 0 0 <| x_aload 0 <| x_get 4 2 <| x_get 7 4 <| x_aload 0 <| x_get 4 0 <| x_callv 1 C_X0_copy 2 0 0 <| x_aload 0 <| x_get 4 2 <| x_dup <| x_get 7 1 <| x_c (.int 2) <| x_imul <| x_put 7 1 .int <| x_aload 0 <| x_aload 0 <| x_get 4 2 <| x_aload 3 <| x_callv 4 C_X3_order 3 0 0 <| x_iret Q) <| (b_X3_orderRank_36 Q)
theorem s_X3_orderRank_36 (G : xG) (l : Launch) (Q : xQ) : xW G l m_X3_orderRank xX0 (xPm G Q r_X3_orderRank) 36 (b_X3_orderRank_36 Q) := xo_aload_n (pc := 36) (i := 0) dX3_orderRank_36 rfl <| xo_aload_n (pc := 37) (i := 0) dX3_orderRank_37 rfl <| xo_get (pc := 38) (ci := 4) (i := 2) rfl ok4 (by decide) dX3_orderRank_38 kw129 <| xo_aload_n (pc := 41) (i := 3) dX3_orderRank_41 rfl <| xo_callV (pc := 42) (np := 2) (ci := 4) rfl (cM_X3_order G l) dX3_orderRank_42 kw616 kw1030 kw614 kw615 kw5 (by decide +kernel) (by decide) <| xo_iret (pc := 45) rfl dX3_orderRank_45
theorem s_X3_orderRank_0 (G : xG) (l : Launch) (Q : xQ) : xW G l m_X3_orderRank xX0 (xPm G Q r_X3_orderRank) 0 (b_X3_orderRank_0 Q) := xo_aload_n (pc := 0) (i := 0) dX3_orderRank_0 rfl <| xo_get (pc := 1) (ci := 4) (i := 2) rfl ok4 (by decide) dX3_orderRank_1 kw129 <| xo_lload_n (pc := 4) (i := 1) dX3_orderRank_4 rfl <| xo_callV (pc := 5) (np := 1) (ci := 7) rfl (cM_X8_becomeRank G l) dX3_orderRank_5 kw473 kw1154 kw471 kw472 kw7 (by decide +kernel) (by decide) <| xo_aload_n (pc := 8) (i := 3) dX3_orderRank_8 rfl <| xo_getN (pc := 9) (ci := 7) (i := 3) rfl ok7 (by decide) dX3_orderRank_9 kw106 <| xo_if_eq (pc := 12) (tgt := 36) dX3_orderRank_12 (by decide) ((s_X3_orderRank_36 G l Q)) <| xo_aload_n (pc := 15) (i := 3) dX3_orderRank_15 rfl <| xo_getN (pc := 16) (ci := 7) (i := 2) rfl ok7 (by decide) dX3_orderRank_16 kw104 <| xo_if_ne (pc := 19) (tgt := 36) dX3_orderRank_19 (by decide) ((s_X3_orderRank_36 G l Q)) <| xo_lload_n (pc := 22) (i := 1) dX3_orderRank_22 rfl <| xo_lconst (pc := 23) dX3_orderRank_23 (by decide) <| xo_lcmp (pc := 24) dX3_orderRank_24 <| xo_if_le (pc := 25) (tgt := 36) dX3_orderRank_25 (by decide) ((s_X3_orderRank_36 G l Q)) <| xo_lload_n (pc := 28) (i := 1) dX3_orderRank_28 rfl <| xo_ldc2_w (pc := 29) dX3_orderRank_29 kw653 <| xo_lcmp (pc := 32) dX3_orderRank_32 <| xo_if_ne (pc := 33) (tgt := 46) dX3_orderRank_33 (by decide) (xo_aload_n (pc := 46) (i := 0) dX3_orderRank_46 rfl <| xo_get (pc := 47) (ci := 4) (i := 0) rfl ok4 (by decide) dX3_orderRank_47 kw127 <| xo_aload_n (pc := 50) (i := 0) dX3_orderRank_50 rfl <| xo_get (pc := 51) (ci := 4) (i := 2) rfl ok4 (by decide) dX3_orderRank_51 kw129 <| xo_getN (pc := 54) (ci := 7) (i := 4) rfl ok7 (by decide) dX3_orderRank_54 kw109 <| xo_aload_n (pc := 57) (i := 0) dX3_orderRank_57 rfl <| xo_get (pc := 58) (ci := 4) (i := 2) rfl ok4 (by decide) dX3_orderRank_58 kw129 <| xo_getN (pc := 61) (ci := 7) (i := 4) rfl ok7 (by decide) dX3_orderRank_61 kw109 <| xo_callV (pc := 64) (np := 2) (ci := 1) rfl (cM_X0_becomeProduct G l) dX3_orderRank_64 kw631 kw628 kw629 kw630 kw6 (by decide +kernel) (by decide) <| xo_aload_n (pc := 67) (i := 0) dX3_orderRank_67 rfl <| xo_get (pc := 68) (ci := 4) (i := 2) rfl ok4 (by decide) dX3_orderRank_68 kw129 <| xo_getN (pc := 71) (ci := 7) (i := 4) rfl ok7 (by decide) dX3_orderRank_71 kw109 <| xo_aload_n (pc := 74) (i := 0) dX3_orderRank_74 rfl <| xo_get (pc := 75) (ci := 4) (i := 0) rfl ok4 (by decide) dX3_orderRank_75 kw127 <| xo_callV (pc := 78) (np := 1) (ci := 1) rfl (cM_X0_copy G l) dX3_orderRank_78 kw565 kw686 kw563 kw564 kw6 (by decide +kernel) (by decide) <| xo_aload_n (pc := 81) (i := 0) dX3_orderRank_81 rfl <| xo_get (pc := 82) (ci := 4) (i := 2) rfl ok4 (by decide) dX3_orderRank_82 kw129 <| xo_dup (pc := 85) dX3_orderRank_85 <| xo_getN (pc := 86) (ci := 7) (i := 1) rfl ok7 (by decide) dX3_orderRank_86 kw100 <| xo_iconst (pc := 89) dX3_orderRank_89 (by decide) <| xo_imul (pc := 90) dX3_orderRank_90 <| xo_putN (pc := 91) (ci := 7) (i := 1) rfl ok7 (by decide) rfl rfl dX3_orderRank_91 kw100 <| xo_aload_n (pc := 94) (i := 0) dX3_orderRank_94 rfl <| xo_aload_n (pc := 95) (i := 0) dX3_orderRank_95 rfl <| xo_get (pc := 96) (ci := 4) (i := 2) rfl ok4 (by decide) dX3_orderRank_96 kw129 <| xo_aload_n (pc := 99) (i := 3) dX3_orderRank_99 rfl <| xo_callV (pc := 100) (np := 2) (ci := 4) rfl (cM_X3_order G l) dX3_orderRank_100 kw616 kw1030 kw614 kw615 kw5 (by decide +kernel) (by decide) <| xo_iret (pc := 103) rfl dX3_orderRank_103) <| (s_X3_orderRank_36 G l Q)

theorem fv_rv {k : Int} (hk : bF k) : rv k.sign (fX k.natAbs) (fP k.natAbs) 1 = fval k := by
  rw [fval_ab]
  have e1 : sv (fX k.natAbs) (fP k.natAbs) 1 = fv k.natAbs := by
    unfold sv fv
    rw [Rat.div_def, show ((1 : Nat) : Rat)⁻¹ = 1 from Rat.inv_eq_of_mul_eq_one (Rat.one_mul 1), Rat.mul_one]
  rcases (show k < 0 ∨ k = 0 ∨ 0 < k by omega) with c | c | c
  · rw [sgn_n c, rv_m, e1, if_pos c]
  · subst c
    rw [if_neg (by decide)]
    show rv 0 _ _ _ = fv 0
    rw [rv_0, fv_0]
  · rw [sgn_p c, rv_1, e1, if_neg (by omega)]
theorem sv_sq (u : Nat) : sv (fX u * 2) (fP u * fP u) 1 = fv u * fv u := by
  unfold sv fv
  rw [Rat.div_def, show ((1 : Nat) : Rat)⁻¹ = 1 from Rat.inv_eq_of_mul_eq_one (Rat.one_mul 1), Rat.mul_one, Rat.natCast_mul, show fX u * 2 = fX u + fX u by omega, p2_add]
  grind
theorem fP_nz {k : Int} (hk : bF k) (h : k ≠ 0) : fP k.natAbs ≠ 0 := by
  intro e
  have h1 := hk.1
  have h2 := hk.2
  have := fv_lt (m := 0) (n := k.natAbs) (by omega) (by omega)
  rw [fv_0] at this
  unfold fv at this
  rw [e] at this
  rw [show ((0 : Nat) : Rat) = 0 from rfl, Rat.zero_mul] at this
  exact Rat.lt_irrefl this
def orK (k s : Int) (i t : Bool) (v : Rat) : Int32 := if t = true ∧ i = false ∧ 0 < k ∧ k ≠ 9218868437227405312 then orX 1 s false false (fval k * fval k) v else orX k.sign s (decide (k.natAbs = 9218868437227405312)) i (fval k) v
def C_X3_orderRank : xC := fun av S Q => ∃ (x a : Nat) (n : Bool) (k s e : Int) (i t : Bool) (p q : Nat), av = [.ref x, .long (lZ k), .ref a] ∧ exR S.1 x n ∧ (a + 5 ≤ x ∨ x + 10 ≤ a) ∧ bF k ∧ reR S.1 a s e i t p q ∧ (s ≠ 0 → i = false → p ≠ 0 ∧ q ≠ 0 ∧ nb p ≤ 6200 ∧ nb q ≤ 6200) ∧ ∀ h' y, xoff h' S.1 (x + 1) (x + 10) → exR h' x y → Q (some (.int (orK k s i t (rv s e p q)))) (h', S.2)
theorem ko_order {h : xH} {T : Nat × Nat × Nat} {K : xQ} {x a b : Nat} {n : Bool} {s e s2 e2 : Int} {i t i2 t2 : Bool} {p q p2 q2 : Nat} (ex : exR h x n) (da : a + 5 ≤ x ∨ x + 5 ≤ a) (db : b + 5 ≤ x ∨ x + 5 ≤ b) (v : reR h a s e i t p q) (u : reR h b s2 e2 i2 t2 p2 q2) (hR : s = s2 → s ≠ 0 → (i || i2) = false → p ≠ 0 ∧ q ≠ 0 ∧ p2 ≠ 0 ∧ q2 ≠ 0 ∧ (¬ 1 < gapI e e2 p q p2 q2 → ¬ gapI e e2 p q p2 q2 < -1 → nb p + nb q2 ≤ 6360 ∧ nb p2 + nb q ≤ 6360)) (c : ∀ h2, xoff h2 h (x + 1) (x + 5) → exR h2 x n → K (some (.int (orX s s2 i i2 (rv s e p q) (rv s2 e2 p2 q2)))) (h2, T)) : rce h x ∧ C_X3_order [.ref x, .ref a, .ref b] (h, T) K :=
  ⟨ex.rc, x, a, b, n, s, e, s2, e2, i, t, i2, t2, p, q, p2, q2, rfl, ex, da, db, v, u, hR, fun h2 o1 b1 b2 => c h2 o1 ⟨(o1 x (by omega)).trans ex.1, b1, b2, ex.2.2.2.off o1 (by omega)⟩⟩
theorem cM_X3_orderRank (G : xG) (l : Launch) : xM G l yX3_orderRank cX3_orderRank 4 (some FieldType.int) r_X3_orderRank C_X3_orderRank := by
  refine xM_of (fun Q => b_X3_orderRank_0 Q) RX3 false (s_X3_orderRank_0 G l) (by decide) rfl (by decide) ?_
  rintro av ⟨h, S2⟩ Q ⟨x, a, n, k, s, e, i, t, p, q, rfl, ex, da, hk, v, pr, hQ⟩
  dsimp only at *
  refine ⟨Nat.le_of_ble_eq_true rfl, ?_⟩
  have ss := v.2.2.2.1
  have nP : nb (fP k.natAbs) ≤ 53 := nb_mono_lt (fP_lt _)
  have n1 : nb 1 = 1 := by decide
  have l0 := lz_le0 (iN_o hk)
  have lI : lZ k = (9218868437227405312 : Int64) ↔ k = 9218868437227405312 := by
    rw [lZpI]; exact lZ_inj (iN_o hk) ⟨by decide, by decide⟩
  have g36 : ¬ (t = true ∧ i = false ∧ 0 < k ∧ k ≠ 9218868437227405312) → ∀ h2, xoff h2 h (x + 5) (x + 5 + 5) → reR h2 (x + 5) k.sign (fX k.natAbs) (decide (k.natAbs = 9218868437227405312)) false (fP k.natAbs) 1 → b_X3_orderRank_36 Q [(0, .ref x), (1, .long (lZ k)), (3, .ref a)] [] (h2, S2) := by
    intro c h2 oA w
    have v2 := v.off oA (by omega)
    have ex2 : exR h2 x n := ⟨(oA x (by omega)).trans ex.1, ⟨_, ex.2.1.choose_spec.off oA (by omega)⟩, ⟨_, ex.2.2.1.choose_spec.off oA (by omega)⟩, _, _, _, _, _, _, w⟩
    simp only [q_c, x_iload, x_lload, x_aload, q_istore, q_lstore, q_astore, q_astore2, x_iinc, q_iadd, q_isub, q_imul, q_iand, q_ior, q_ixor, q_ladd, q_lsub, q_lmul, q_land, q_lor, q_lxor, q_idiv, q_irem, q_ldiv, q_lrem, q_ineg, q_lneg, q_ishl, q_ishr, q_iushr, q_lshl, q_lshr, q_lushr, q_i2l, q_l2i, q_i2b, q_i2c, q_lcmp, q_if_eq, q_if_ne, q_if_lt, q_if_ge, q_if_gt, q_if_le, q_icmp_eq, q_icmp_ne, q_icmp_lt, q_icmp_ge, q_icmp_gt, q_icmp_le, q_dup, q_pop, q_dup_x1, q_dup2, x_iret, x_zret, x_lret, x_aret, x_vret, x_call, x_callv, x_calli, x_oinit, x_mmax, x_mmin, x_mabs, x_mmaxL, x_mminL, x_mabsL, lg_cmp_ge, lg_cmp_le, lg_cmp_gt, lg_cmp_lt, lg_cmp_eq, xlk, q_xs1, q_xs2, lv_args, Value.category, List.filter_cons, List.filter_nil, Nat.reduceAdd, Nat.reduceBEq, Nat.reduceEqDiff, Nat.reduceSub, Nat.sub_zero, beq_self_eq_true, Bool.not_true, Bool.not_false, Bool.and_true, Bool.and_false, Bool.true_and, Bool.false_and, reduceIte, reduceCtorEq, Bool.false_eq_true, Nat.one_ne_zero, Nat.zero_ne_one, Nat.zero_add, Option.toList_some, Option.toList_none, List.nil_append, List.cons_append, List.take_succ_cons, List.take_zero, List.take_nil, List.drop_succ_cons, List.drop_zero, List.length_cons, List.length_nil, List.reverse_cons, List.reverse_nil, List.head?_cons, List.map_cons, List.map_nil, List.sum_cons, List.sum_nil, true_and, and_true, List.getElem?_cons_zero, List.getElem?_cons_succ, Prod.eta, x_iast, x_bald, x_bast, x_last, x_alen, xup_s, xup_a1, xup_1a, xup_uu, nr_i, nr_l, nr_o, nr_a, ft_i, ft_l, ft_o, ft_a, Nat.reduceLT, i_cl0, i_cl1, i_n1, i_m1, List.set_cons_zero, List.set_cons_succ, Nat.reduceLeDiff, Nat.le_refl, Nat.zero_le, Nat.add_zero, x_no, x_ifnull, x_ifnonnull, x_acmp_eq, x_acmp_ne, x_swl, x_tsw, x_castC, true_or, or_true, nr_z, ft_z, nr_z0, nr_z1, ft_z0, ft_z1, nr_on, nr_an, ft_on, ft_an, b_X3_orderRank_36, exO.g0 ex2.1, exO.g1 ex2.1, exO.g2 ex2.1, exO.g3 ex2.1, exO.p3 ex2.1, exO.p3a ex2.1, exO.p3b ex2.1]
    refine ko_order ex2 (by omega) (by omega) w v2 (fun c1 c2 c3 => ?_) fun h3 oB ex3 => ?_
    · rw [Bool.or_eq_false_iff] at c3
      obtain ⟨r1, r2, r3, r4⟩ := pr (by omega) c3.2
      exact ⟨fP_nz hk (fun z => c2 (by rw [z]; rfl)), by decide, r1, r2, fun _ _ => by omega⟩
    · try simp only [q_c, x_iload, x_lload, x_aload, q_istore, q_lstore, q_astore, q_astore2, x_iinc, q_iadd, q_isub, q_imul, q_iand, q_ior, q_ixor, q_ladd, q_lsub, q_lmul, q_land, q_lor, q_lxor, q_idiv, q_irem, q_ldiv, q_lrem, q_ineg, q_lneg, q_ishl, q_ishr, q_iushr, q_lshl, q_lshr, q_lushr, q_i2l, q_l2i, q_i2b, q_i2c, q_lcmp, q_if_eq, q_if_ne, q_if_lt, q_if_ge, q_if_gt, q_if_le, q_icmp_eq, q_icmp_ne, q_icmp_lt, q_icmp_ge, q_icmp_gt, q_icmp_le, q_dup, q_pop, q_dup_x1, q_dup2, x_iret, x_zret, x_lret, x_aret, x_vret, x_call, x_callv, x_calli, x_oinit, x_mmax, x_mmin, x_mabs, x_mmaxL, x_mminL, x_mabsL, lg_cmp_ge, lg_cmp_le, lg_cmp_gt, lg_cmp_lt, lg_cmp_eq, xlk, q_xs1, q_xs2, lv_args, Value.category, List.filter_cons, List.filter_nil, Nat.reduceAdd, Nat.reduceBEq, Nat.reduceEqDiff, Nat.reduceSub, Nat.sub_zero, beq_self_eq_true, Bool.not_true, Bool.not_false, Bool.and_true, Bool.and_false, Bool.true_and, Bool.false_and, reduceIte, reduceCtorEq, Bool.false_eq_true, Nat.one_ne_zero, Nat.zero_ne_one, Nat.zero_add, Option.toList_some, Option.toList_none, List.nil_append, List.cons_append, List.take_succ_cons, List.take_zero, List.take_nil, List.drop_succ_cons, List.drop_zero, List.length_cons, List.length_nil, List.reverse_cons, List.reverse_nil, List.head?_cons, List.map_cons, List.map_nil, List.sum_cons, List.sum_nil, true_and, and_true, List.getElem?_cons_zero, List.getElem?_cons_succ, Prod.eta, x_iast, x_bald, x_bast, x_last, x_alen, xup_s, xup_a1, xup_1a, xup_uu, nr_i, nr_l, nr_o, nr_a, ft_i, ft_l, ft_o, ft_a, Nat.reduceLT, i_cl0, i_cl1, i_n1, i_m1, List.set_cons_zero, List.set_cons_succ, Nat.reduceLeDiff, Nat.le_refl, Nat.zero_le, Nat.add_zero, x_no, x_ifnull, x_ifnonnull, x_acmp_eq, x_acmp_ne, x_swl, x_tsw, x_castC, true_or, or_true, nr_z, ft_z, nr_z0, nr_z1, ft_z0, ft_z1, nr_on, nr_an, ft_on, ft_an]
      have hq := hQ h3 n (fun z hz => (oB z (by omega)).trans (oA z (by omega))) ex3
      unfold orK at hq
      rw [if_neg c] at hq
      rw [fv_rv hk]
      exact hq
  unfold b_X3_orderRank_0
  generalize b_X3_orderRank_36 Q = J at *
  simp only [q_c, x_iload, x_lload, x_aload, q_istore, q_lstore, q_astore, q_astore2, x_iinc, q_iadd, q_isub, q_imul, q_iand, q_ior, q_ixor, q_ladd, q_lsub, q_lmul, q_land, q_lor, q_lxor, q_idiv, q_irem, q_ldiv, q_lrem, q_ineg, q_lneg, q_ishl, q_ishr, q_iushr, q_lshl, q_lshr, q_lushr, q_i2l, q_l2i, q_i2b, q_i2c, q_lcmp, q_if_eq, q_if_ne, q_if_lt, q_if_ge, q_if_gt, q_if_le, q_icmp_eq, q_icmp_ne, q_icmp_lt, q_icmp_ge, q_icmp_gt, q_icmp_le, q_dup, q_pop, q_dup_x1, q_dup2, x_iret, x_zret, x_lret, x_aret, x_vret, x_call, x_callv, x_calli, x_oinit, x_mmax, x_mmin, x_mabs, x_mmaxL, x_mminL, x_mabsL, lg_cmp_ge, lg_cmp_le, lg_cmp_gt, lg_cmp_lt, lg_cmp_eq, xlk, q_xs1, q_xs2, lv_args, Value.category, List.filter_cons, List.filter_nil, Nat.reduceAdd, Nat.reduceBEq, Nat.reduceEqDiff, Nat.reduceSub, Nat.sub_zero, beq_self_eq_true, Bool.not_true, Bool.not_false, Bool.and_true, Bool.and_false, Bool.true_and, Bool.false_and, reduceIte, reduceCtorEq, Bool.false_eq_true, Nat.one_ne_zero, Nat.zero_ne_one, Nat.zero_add, Option.toList_some, Option.toList_none, List.nil_append, List.cons_append, List.take_succ_cons, List.take_zero, List.take_nil, List.drop_succ_cons, List.drop_zero, List.length_cons, List.length_nil, List.reverse_cons, List.reverse_nil, List.head?_cons, List.map_cons, List.map_nil, List.sum_cons, List.sum_nil, true_and, and_true, List.getElem?_cons_zero, List.getElem?_cons_succ, Prod.eta, x_iast, x_bald, x_bast, x_last, x_alen, xup_s, xup_a1, xup_1a, xup_uu, nr_i, nr_l, nr_o, nr_a, ft_i, ft_l, ft_o, ft_a, Nat.reduceLT, i_cl0, i_cl1, i_n1, i_m1, List.set_cons_zero, List.set_cons_succ, Nat.reduceLeDiff, Nat.le_refl, Nat.zero_le, Nat.add_zero, x_no, x_ifnull, x_ifnonnull, x_acmp_eq, x_acmp_ne, x_swl, x_tsw, x_castC, true_or, or_true, nr_z, ft_z, nr_z0, nr_z1, ft_z0, ft_z1, nr_on, nr_an, ft_on, ft_an, exO.g0 ex.1, exO.g1 ex.1, exO.g2 ex.1, exO.g3 ex.1, exO.p3 ex.1, exO.p3a ex.1, exO.p3b ex.1]
  refine kr_rank ex.2.2.2 hk fun h2 oA w => ?_
  have v2 := v.off oA (by omega)
  have ex2 : exR h2 x n := ⟨(oA x (by omega)).trans ex.1, ⟨_, ex.2.1.choose_spec.off oA (by omega)⟩, ⟨_, ex.2.2.1.choose_spec.off oA (by omega)⟩, _, _, _, _, _, _, w⟩
  have g := fun c => g36 c h2 oA w
  simp only [q_c, x_iload, x_lload, x_aload, q_istore, q_lstore, q_astore, q_astore2, x_iinc, q_iadd, q_isub, q_imul, q_iand, q_ior, q_ixor, q_ladd, q_lsub, q_lmul, q_land, q_lor, q_lxor, q_idiv, q_irem, q_ldiv, q_lrem, q_ineg, q_lneg, q_ishl, q_ishr, q_iushr, q_lshl, q_lshr, q_lushr, q_i2l, q_l2i, q_i2b, q_i2c, q_lcmp, q_if_eq, q_if_ne, q_if_lt, q_if_ge, q_if_gt, q_if_le, q_icmp_eq, q_icmp_ne, q_icmp_lt, q_icmp_ge, q_icmp_gt, q_icmp_le, q_dup, q_pop, q_dup_x1, q_dup2, x_iret, x_zret, x_lret, x_aret, x_vret, x_call, x_callv, x_calli, x_oinit, x_mmax, x_mmin, x_mabs, x_mmaxL, x_mminL, x_mabsL, lg_cmp_ge, lg_cmp_le, lg_cmp_gt, lg_cmp_lt, lg_cmp_eq, xlk, q_xs1, q_xs2, lv_args, Value.category, List.filter_cons, List.filter_nil, Nat.reduceAdd, Nat.reduceBEq, Nat.reduceEqDiff, Nat.reduceSub, Nat.sub_zero, beq_self_eq_true, Bool.not_true, Bool.not_false, Bool.and_true, Bool.and_false, Bool.true_and, Bool.false_and, reduceIte, reduceCtorEq, Bool.false_eq_true, Nat.one_ne_zero, Nat.zero_ne_one, Nat.zero_add, Option.toList_some, Option.toList_none, List.nil_append, List.cons_append, List.take_succ_cons, List.take_zero, List.take_nil, List.drop_succ_cons, List.drop_zero, List.length_cons, List.length_nil, List.reverse_cons, List.reverse_nil, List.head?_cons, List.map_cons, List.map_nil, List.sum_cons, List.sum_nil, true_and, and_true, List.getElem?_cons_zero, List.getElem?_cons_succ, Prod.eta, x_iast, x_bald, x_bast, x_last, x_alen, xup_s, xup_a1, xup_1a, xup_uu, nr_i, nr_l, nr_o, nr_a, ft_i, ft_l, ft_o, ft_a, Nat.reduceLT, i_cl0, i_cl1, i_n1, i_m1, List.set_cons_zero, List.set_cons_succ, Nat.reduceLeDiff, Nat.le_refl, Nat.zero_le, Nat.add_zero, x_no, x_ifnull, x_ifnonnull, x_acmp_eq, x_acmp_ne, x_swl, x_tsw, x_castC, true_or, or_true, nr_z, ft_z, nr_z0, nr_z1, ft_z0, ft_z1, nr_on, nr_an, ft_on, ft_an, reO.g0 v2.1, reO.g1 v2.1, reO.g2 v2.1, reO.g3 v2.1, reO.g4 v2.1, reO.g5 v2.1, reO.p0 v2.1, reO.p1 v2.1, reO.p2 v2.1, reO.p2a v2.1, reO.p2b v2.1, reO.p3 v2.1, reO.p3a v2.1, reO.p3b v2.1, bI_e0, l0, lI, exO.g0 ex2.1, exO.g1 ex2.1, exO.g2 ex2.1, exO.g3 ex2.1, exO.p3 ex2.1, exO.p3a ex2.1, exO.p3b ex2.1, reO.g0 w.1, reO.g1 w.1, reO.g2 w.1, reO.g3 w.1, reO.g4 w.1, reO.g5 w.1, reO.p0 w.1, reO.p1 w.1, reO.p2 w.1, reO.p2a w.1, reO.p2b w.1, reO.p3 w.1, reO.p3a w.1, reO.p3b w.1]
  refine ⟨fun c => g (by rw [c]; simp), fun c => ⟨fun d => g (fun z => d z.2.1), fun d => ⟨fun m => g (by omega), fun m => ⟨fun o => ?_, fun o => g (fun z => z.2.2.2 o)⟩⟩⟩⟩
  have k2 := hk.2
  obtain ⟨u0, hu⟩ := ex2.2.1
  have pb : fP k.natAbs * fP k.natAbs < 2 ^ 6368 := by
    have := Nat.mul_lt_mul_of_lt_of_lt (fP_lt k.natAbs) (fP_lt k.natAbs)
    rw [← Nat.pow_add] at this
    exact Nat.lt_of_lt_of_le this (Nat.pow_le_pow_right (by decide) (by decide))
  refine kb_prod hu w.2.1 w.2.1 (by omega) (by omega) pb fun h3 oB w1 => ?_
  have ex3 := (oB x (by omega)).trans ex2.1
  have w3 := w.off oB (by omega)
  simp only [q_c, x_iload, x_lload, x_aload, q_istore, q_lstore, q_astore, q_astore2, x_iinc, q_iadd, q_isub, q_imul, q_iand, q_ior, q_ixor, q_ladd, q_lsub, q_lmul, q_land, q_lor, q_lxor, q_idiv, q_irem, q_ldiv, q_lrem, q_ineg, q_lneg, q_ishl, q_ishr, q_iushr, q_lshl, q_lshr, q_lushr, q_i2l, q_l2i, q_i2b, q_i2c, q_lcmp, q_if_eq, q_if_ne, q_if_lt, q_if_ge, q_if_gt, q_if_le, q_icmp_eq, q_icmp_ne, q_icmp_lt, q_icmp_ge, q_icmp_gt, q_icmp_le, q_dup, q_pop, q_dup_x1, q_dup2, x_iret, x_zret, x_lret, x_aret, x_vret, x_call, x_callv, x_calli, x_oinit, x_mmax, x_mmin, x_mabs, x_mmaxL, x_mminL, x_mabsL, lg_cmp_ge, lg_cmp_le, lg_cmp_gt, lg_cmp_lt, lg_cmp_eq, xlk, q_xs1, q_xs2, lv_args, Value.category, List.filter_cons, List.filter_nil, Nat.reduceAdd, Nat.reduceBEq, Nat.reduceEqDiff, Nat.reduceSub, Nat.sub_zero, beq_self_eq_true, Bool.not_true, Bool.not_false, Bool.and_true, Bool.and_false, Bool.true_and, Bool.false_and, reduceIte, reduceCtorEq, Bool.false_eq_true, Nat.one_ne_zero, Nat.zero_ne_one, Nat.zero_add, Option.toList_some, Option.toList_none, List.nil_append, List.cons_append, List.take_succ_cons, List.take_zero, List.take_nil, List.drop_succ_cons, List.drop_zero, List.length_cons, List.length_nil, List.reverse_cons, List.reverse_nil, List.head?_cons, List.map_cons, List.map_nil, List.sum_cons, List.sum_nil, true_and, and_true, List.getElem?_cons_zero, List.getElem?_cons_succ, Prod.eta, x_iast, x_bald, x_bast, x_last, x_alen, xup_s, xup_a1, xup_1a, xup_uu, nr_i, nr_l, nr_o, nr_a, ft_i, ft_l, ft_o, ft_a, Nat.reduceLT, i_cl0, i_cl1, i_n1, i_m1, List.set_cons_zero, List.set_cons_succ, Nat.reduceLeDiff, Nat.le_refl, Nat.zero_le, Nat.add_zero, x_no, x_ifnull, x_ifnonnull, x_acmp_eq, x_acmp_ne, x_swl, x_tsw, x_castC, true_or, or_true, nr_z, ft_z, nr_z0, nr_z1, ft_z0, ft_z1, nr_on, nr_an, ft_on, ft_an, exO.g0 ex3, exO.g1 ex3, exO.g2 ex3, exO.g3 ex3, exO.p3 ex3, exO.p3a ex3, exO.p3b ex3, reO.g0 w3.1, reO.g1 w3.1, reO.g2 w3.1, reO.g3 w3.1, reO.g4 w3.1, reO.g5 w3.1, reO.p0 w3.1, reO.p1 w3.1, reO.p2 w3.1, reO.p2a w3.1, reO.p2b w3.1, reO.p3 w3.1, reO.p3a w3.1, reO.p3b w3.1]
  refine kb_copy w3.2.1 w1 (by omega) fun h4 oC w4 => ?_
  have ex4 := (oC x (by omega)).trans ex3
  have w5 := (oC (x + 5) (by omega)).trans w3.1
  have fx := fX_rng k.natAbs
  have e2 : iZ (fX k.natAbs) * 2 = iZ (fX k.natAbs * 2) := by rw [show (2 : Int32) = iZ 2 from rfl, iZ_mul]
  have v4 := ((v2.off oB (by omega)).off oC (by omega)).off (off1 (r := x + 5) (c := reC (x + 5) k.sign (fX k.natAbs * 2) (decide (k.natAbs = 9218868437227405312)) false)) (by omega)
  have oD : xoff (xup h4 (x + 5) (reC (x + 5) k.sign (fX k.natAbs * 2) (decide (k.natAbs = 9218868437227405312)) false)) h4 (x + 5) (x + 6) := off1
  have w6 : reR (xup h4 (x + 5) (reC (x + 5) k.sign (fX k.natAbs * 2) (decide (k.natAbs = 9218868437227405312)) false)) (x + 5) k.sign (fX k.natAbs * 2) (decide (k.natAbs = 9218868437227405312)) false (fP k.natAbs * fP k.natAbs) 1 := ⟨xup_s, w4.off oD (by omega), (w3.2.2.1.off oC (by omega)).off oD (by omega), w3.2.2.2.1, by omega, by omega⟩
  have ex6 : exR (xup h4 (x + 5) (reC (x + 5) k.sign (fX k.natAbs * 2) (decide (k.natAbs = 9218868437227405312)) false)) x n := ⟨(oD x (by omega)).trans ex4, ⟨_, (w1.off oC (by omega)).off oD (by omega)⟩, ⟨_, ((ex2.2.2.1.choose_spec.off oB (by omega)).off oC (by omega)).off oD (by omega)⟩, _, _, _, _, _, _, w6⟩
  simp only [q_c, x_iload, x_lload, x_aload, q_istore, q_lstore, q_astore, q_astore2, x_iinc, q_iadd, q_isub, q_imul, q_iand, q_ior, q_ixor, q_ladd, q_lsub, q_lmul, q_land, q_lor, q_lxor, q_idiv, q_irem, q_ldiv, q_lrem, q_ineg, q_lneg, q_ishl, q_ishr, q_iushr, q_lshl, q_lshr, q_lushr, q_i2l, q_l2i, q_i2b, q_i2c, q_lcmp, q_if_eq, q_if_ne, q_if_lt, q_if_ge, q_if_gt, q_if_le, q_icmp_eq, q_icmp_ne, q_icmp_lt, q_icmp_ge, q_icmp_gt, q_icmp_le, q_dup, q_pop, q_dup_x1, q_dup2, x_iret, x_zret, x_lret, x_aret, x_vret, x_call, x_callv, x_calli, x_oinit, x_mmax, x_mmin, x_mabs, x_mmaxL, x_mminL, x_mabsL, lg_cmp_ge, lg_cmp_le, lg_cmp_gt, lg_cmp_lt, lg_cmp_eq, xlk, q_xs1, q_xs2, lv_args, Value.category, List.filter_cons, List.filter_nil, Nat.reduceAdd, Nat.reduceBEq, Nat.reduceEqDiff, Nat.reduceSub, Nat.sub_zero, beq_self_eq_true, Bool.not_true, Bool.not_false, Bool.and_true, Bool.and_false, Bool.true_and, Bool.false_and, reduceIte, reduceCtorEq, Bool.false_eq_true, Nat.one_ne_zero, Nat.zero_ne_one, Nat.zero_add, Option.toList_some, Option.toList_none, List.nil_append, List.cons_append, List.take_succ_cons, List.take_zero, List.take_nil, List.drop_succ_cons, List.drop_zero, List.length_cons, List.length_nil, List.reverse_cons, List.reverse_nil, List.head?_cons, List.map_cons, List.map_nil, List.sum_cons, List.sum_nil, true_and, and_true, List.getElem?_cons_zero, List.getElem?_cons_succ, Prod.eta, x_iast, x_bald, x_bast, x_last, x_alen, xup_s, xup_a1, xup_1a, xup_uu, nr_i, nr_l, nr_o, nr_a, ft_i, ft_l, ft_o, ft_a, Nat.reduceLT, i_cl0, i_cl1, i_n1, i_m1, List.set_cons_zero, List.set_cons_succ, Nat.reduceLeDiff, Nat.le_refl, Nat.zero_le, Nat.add_zero, x_no, x_ifnull, x_ifnonnull, x_acmp_eq, x_acmp_ne, x_swl, x_tsw, x_castC, true_or, or_true, nr_z, ft_z, nr_z0, nr_z1, ft_z0, ft_z1, nr_on, nr_an, ft_on, ft_an, exO.g0 ex4, exO.g1 ex4, exO.g2 ex4, exO.g3 ex4, exO.p3 ex4, exO.p3a ex4, exO.p3b ex4, reO.g0 w5, reO.g1 w5, reO.g2 w5, reO.g3 w5, reO.g4 w5, reO.g5 w5, reO.p0 w5, reO.p1 w5, reO.p2 w5, reO.p2a w5, reO.p2b w5, reO.p3 w5, reO.p3a w5, reO.p3b w5, e2]
  generalize xup h4 (x + 5) (reC (x + 5) k.sign (fX k.natAbs * 2) (decide (k.natAbs = 9218868437227405312)) false) = h5 at *
  simp only [q_c, x_iload, x_lload, x_aload, q_istore, q_lstore, q_astore, q_astore2, x_iinc, q_iadd, q_isub, q_imul, q_iand, q_ior, q_ixor, q_ladd, q_lsub, q_lmul, q_land, q_lor, q_lxor, q_idiv, q_irem, q_ldiv, q_lrem, q_ineg, q_lneg, q_ishl, q_ishr, q_iushr, q_lshl, q_lshr, q_lushr, q_i2l, q_l2i, q_i2b, q_i2c, q_lcmp, q_if_eq, q_if_ne, q_if_lt, q_if_ge, q_if_gt, q_if_le, q_icmp_eq, q_icmp_ne, q_icmp_lt, q_icmp_ge, q_icmp_gt, q_icmp_le, q_dup, q_pop, q_dup_x1, q_dup2, x_iret, x_zret, x_lret, x_aret, x_vret, x_call, x_callv, x_calli, x_oinit, x_mmax, x_mmin, x_mabs, x_mmaxL, x_mminL, x_mabsL, lg_cmp_ge, lg_cmp_le, lg_cmp_gt, lg_cmp_lt, lg_cmp_eq, xlk, q_xs1, q_xs2, lv_args, Value.category, List.filter_cons, List.filter_nil, Nat.reduceAdd, Nat.reduceBEq, Nat.reduceEqDiff, Nat.reduceSub, Nat.sub_zero, beq_self_eq_true, Bool.not_true, Bool.not_false, Bool.and_true, Bool.and_false, Bool.true_and, Bool.false_and, reduceIte, reduceCtorEq, Bool.false_eq_true, Nat.one_ne_zero, Nat.zero_ne_one, Nat.zero_add, Option.toList_some, Option.toList_none, List.nil_append, List.cons_append, List.take_succ_cons, List.take_zero, List.take_nil, List.drop_succ_cons, List.drop_zero, List.length_cons, List.length_nil, List.reverse_cons, List.reverse_nil, List.head?_cons, List.map_cons, List.map_nil, List.sum_cons, List.sum_nil, true_and, and_true, List.getElem?_cons_zero, List.getElem?_cons_succ, Prod.eta, x_iast, x_bald, x_bast, x_last, x_alen, xup_s, xup_a1, xup_1a, xup_uu, nr_i, nr_l, nr_o, nr_a, ft_i, ft_l, ft_o, ft_a, Nat.reduceLT, i_cl0, i_cl1, i_n1, i_m1, List.set_cons_zero, List.set_cons_succ, Nat.reduceLeDiff, Nat.le_refl, Nat.zero_le, Nat.add_zero, x_no, x_ifnull, x_ifnonnull, x_acmp_eq, x_acmp_ne, x_swl, x_tsw, x_castC, true_or, or_true, nr_z, ft_z, nr_z0, nr_z1, ft_z0, ft_z1, nr_on, nr_an, ft_on, ft_an, exO.g0 ex6.1, exO.g1 ex6.1, exO.g2 ex6.1, exO.g3 ex6.1, exO.p3 ex6.1, exO.p3a ex6.1, exO.p3b ex6.1]
  have i0 : i = false := d
  have nq : nb (fP k.natAbs * fP k.natAbs) ≤ 106 := by
    have := Nat.mul_lt_mul_of_lt_of_lt (fP_lt k.natAbs) (fP_lt k.natAbs)
    rw [← Nat.pow_add] at this
    exact nb_mono_lt this
  refine ko_order ex6 (by omega) (by omega) w6 v4 (fun c1 c2 c3 => ?_) fun h6 oE ex7 => ?_
  · rw [Bool.or_eq_false_iff] at c3
    obtain ⟨r1, r2, r3, r4⟩ := pr (by omega) c3.2
    have := fP_nz hk (fun z => c2 (by rw [z]; rfl))
    exact ⟨Nat.mul_ne_zero this this, by decide, r1, r2, fun _ _ => by omega⟩
  · try simp only [q_c, x_iload, x_lload, x_aload, q_istore, q_lstore, q_astore, q_astore2, x_iinc, q_iadd, q_isub, q_imul, q_iand, q_ior, q_ixor, q_ladd, q_lsub, q_lmul, q_land, q_lor, q_lxor, q_idiv, q_irem, q_ldiv, q_lrem, q_ineg, q_lneg, q_ishl, q_ishr, q_iushr, q_lshl, q_lshr, q_lushr, q_i2l, q_l2i, q_i2b, q_i2c, q_lcmp, q_if_eq, q_if_ne, q_if_lt, q_if_ge, q_if_gt, q_if_le, q_icmp_eq, q_icmp_ne, q_icmp_lt, q_icmp_ge, q_icmp_gt, q_icmp_le, q_dup, q_pop, q_dup_x1, q_dup2, x_iret, x_zret, x_lret, x_aret, x_vret, x_call, x_callv, x_calli, x_oinit, x_mmax, x_mmin, x_mabs, x_mmaxL, x_mminL, x_mabsL, lg_cmp_ge, lg_cmp_le, lg_cmp_gt, lg_cmp_lt, lg_cmp_eq, xlk, q_xs1, q_xs2, lv_args, Value.category, List.filter_cons, List.filter_nil, Nat.reduceAdd, Nat.reduceBEq, Nat.reduceEqDiff, Nat.reduceSub, Nat.sub_zero, beq_self_eq_true, Bool.not_true, Bool.not_false, Bool.and_true, Bool.and_false, Bool.true_and, Bool.false_and, reduceIte, reduceCtorEq, Bool.false_eq_true, Nat.one_ne_zero, Nat.zero_ne_one, Nat.zero_add, Option.toList_some, Option.toList_none, List.nil_append, List.cons_append, List.take_succ_cons, List.take_zero, List.take_nil, List.drop_succ_cons, List.drop_zero, List.length_cons, List.length_nil, List.reverse_cons, List.reverse_nil, List.head?_cons, List.map_cons, List.map_nil, List.sum_cons, List.sum_nil, true_and, and_true, List.getElem?_cons_zero, List.getElem?_cons_succ, Prod.eta, x_iast, x_bald, x_bast, x_last, x_alen, xup_s, xup_a1, xup_1a, xup_uu, nr_i, nr_l, nr_o, nr_a, ft_i, ft_l, ft_o, ft_a, Nat.reduceLT, i_cl0, i_cl1, i_n1, i_m1, List.set_cons_zero, List.set_cons_succ, Nat.reduceLeDiff, Nat.le_refl, Nat.zero_le, Nat.add_zero, x_no, x_ifnull, x_ifnonnull, x_acmp_eq, x_acmp_ne, x_swl, x_tsw, x_castC, true_or, or_true, nr_z, ft_z, nr_z0, nr_z1, ft_z0, ft_z1, nr_on, nr_an, ft_on, ft_an]
    have hq := hQ h6 n (fun z hz => (oE z (by omega)).trans ((oD z (by omega)).trans ((oC z (by omega)).trans ((oB z (by omega)).trans (oA z (by omega)))))) ex7
    unfold orK at hq
    rw [if_pos ⟨eq_true_of_ne_false c, i0, by omega, o⟩, show fval k = fv k.natAbs by rw [fval_ab, if_neg (by omega)], ← sv_sq, ← rv_1] at hq
    rw [sgn_p (show 0 < k by omega), decide_eq_false (by omega), i0]
    exact hq
theorem dX3_nearest_0 : decode cX3_nearest 0 = .ok (.aload_n 0, 1) := by decide +kernel
theorem dX3_nearest_1 : decode cX3_nearest 1 = .ok (.aload_n 1, 1) := by decide +kernel
theorem dX3_nearest_2 : decode cX3_nearest 2 = .ok (.invokevirtual 83, 3) := by decide +kernel
theorem dX3_nearest_5 : decode cX3_nearest 5 = .ok (.lstore_n 2, 1) := by decide +kernel
theorem dX3_nearest_6 : decode cX3_nearest 6 = .ok (.aload_n 0, 1) := by decide +kernel
theorem dX3_nearest_7 : decode cX3_nearest 7 = .ok (.getfield 87, 3) := by decide +kernel
theorem dX3_nearest_10 : decode cX3_nearest 10 = .ok (.ifCond .ne 17, 3) := by decide +kernel
theorem dX3_nearest_13 : decode cX3_nearest 13 = .ok (.aload_n 1, 1) := by decide +kernel
theorem dX3_nearest_14 : decode cX3_nearest 14 = .ok (.getfield 28, 3) := by decide +kernel
theorem dX3_nearest_17 : decode cX3_nearest 17 = .ok (.ifCond .ge 8, 3) := by decide +kernel
theorem dX3_nearest_20 : decode cX3_nearest 20 = .ok (.lload_n 2, 1) := by decide +kernel
theorem dX3_nearest_21 : decode cX3_nearest 21 = .ok (.lneg, 1) := by decide +kernel
theorem dX3_nearest_22 : decode cX3_nearest 22 = .ok (.goto 4, 3) := by decide +kernel
theorem dX3_nearest_25 : decode cX3_nearest 25 = .ok (.lload_n 2, 1) := by decide +kernel
theorem dX3_nearest_26 : decode cX3_nearest 26 = .ok (.lreturn, 1) := by decide +kernel
theorem dX3_nearest_27 : decode cX3_nearest 27 = .ok (.aload_n 0, 1) := by decide +kernel
theorem dX3_nearest_28 : decode cX3_nearest 28 = .ok (.getfield 24, 3) := by decide +kernel
theorem dX3_nearest_31 : decode cX3_nearest 31 = .ok (.aload_n 1, 1) := by decide +kernel
theorem dX3_nearest_32 : decode cX3_nearest 32 = .ok (.getfield 28, 3) := by decide +kernel
theorem dX3_nearest_35 : decode cX3_nearest 35 = .ok (.lload_n 2, 1) := by decide +kernel
theorem dX3_nearest_36 : decode cX3_nearest 36 = .ok (.invokestatic 90, 3) := by decide +kernel
theorem dX3_nearest_39 : decode cX3_nearest 39 = .ok (.iconst 1, 1) := by decide +kernel
theorem dX3_nearest_40 : decode cX3_nearest 40 = .ok (.isub, 1) := by decide +kernel
theorem dX3_nearest_41 : decode cX3_nearest 41 = .ok (.invokevirtual 95, 3) := by decide +kernel
theorem dX3_nearest_44 : decode cX3_nearest 44 = .ok (.aload_n 0, 1) := by decide +kernel
theorem dX3_nearest_45 : decode cX3_nearest 45 = .ok (.getfield 24, 3) := by decide +kernel
theorem dX3_nearest_48 : decode cX3_nearest 48 = .ok (.getfield 45, 3) := by decide +kernel
theorem dX3_nearest_51 : decode cX3_nearest 51 = .ok (.ldc2_w 99, 3) := by decide +kernel
theorem dX3_nearest_54 : decode cX3_nearest 54 = .ok (.lload_n 2, 1) := by decide +kernel
theorem dX3_nearest_55 : decode cX3_nearest 55 = .ok (.invokestatic 101, 3) := by decide +kernel
theorem dX3_nearest_58 : decode cX3_nearest 58 = .ok (.lmul, 1) := by decide +kernel
theorem dX3_nearest_59 : decode cX3_nearest 59 = .ok (.lconst 1, 1) := by decide +kernel
theorem dX3_nearest_60 : decode cX3_nearest 60 = .ok (.ladd, 1) := by decide +kernel
theorem dX3_nearest_61 : decode cX3_nearest 61 = .ok (.invokevirtual 105, 3) := by decide +kernel
theorem dX3_nearest_64 : decode cX3_nearest 64 = .ok (.aload_n 1, 1) := by decide +kernel
theorem dX3_nearest_65 : decode cX3_nearest 65 = .ok (.getfield 28, 3) := by decide +kernel
theorem dX3_nearest_68 : decode cX3_nearest 68 = .ok (.aload_n 0, 1) := by decide +kernel
theorem dX3_nearest_69 : decode cX3_nearest 69 = .ok (.aload_n 1, 1) := by decide +kernel
theorem dX3_nearest_70 : decode cX3_nearest 70 = .ok (.aload_n 0, 1) := by decide +kernel
theorem dX3_nearest_71 : decode cX3_nearest 71 = .ok (.getfield 24, 3) := by decide +kernel
theorem dX3_nearest_74 : decode cX3_nearest 74 = .ok (.invokevirtual 76, 3) := by decide +kernel
theorem dX3_nearest_77 : decode cX3_nearest 77 = .ok (.imul, 1) := by decide +kernel
theorem dX3_nearest_78 : decode cX3_nearest 78 = .ok (.istore 4, 2) := by decide +kernel
theorem dX3_nearest_80 : decode cX3_nearest 80 = .ok (.iload 4, 2) := by decide +kernel
theorem dX3_nearest_82 : decode cX3_nearest 82 = .ok (.ifCond .gt 16, 3) := by decide +kernel
theorem dX3_nearest_85 : decode cX3_nearest 85 = .ok (.iload 4, 2) := by decide +kernel
theorem dX3_nearest_87 : decode cX3_nearest 87 = .ok (.ifCond .ne 15, 3) := by decide +kernel
theorem dX3_nearest_90 : decode cX3_nearest 90 = .ok (.lload_n 2, 1) := by decide +kernel
theorem dX3_nearest_91 : decode cX3_nearest 91 = .ok (.lconst 1, 1) := by decide +kernel
theorem dX3_nearest_92 : decode cX3_nearest 92 = .ok (.land, 1) := by decide +kernel
theorem dX3_nearest_93 : decode cX3_nearest 93 = .ok (.lconst 0, 1) := by decide +kernel
theorem dX3_nearest_94 : decode cX3_nearest 94 = .ok (.lcmp, 1) := by decide +kernel
theorem dX3_nearest_95 : decode cX3_nearest 95 = .ok (.ifCond .eq 7, 3) := by decide +kernel
theorem dX3_nearest_98 : decode cX3_nearest 98 = .ok (.lload_n 2, 1) := by decide +kernel
theorem dX3_nearest_99 : decode cX3_nearest 99 = .ok (.lconst 1, 1) := by decide +kernel
theorem dX3_nearest_100 : decode cX3_nearest 100 = .ok (.ladd, 1) := by decide +kernel
theorem dX3_nearest_101 : decode cX3_nearest 101 = .ok (.lstore_n 2, 1) := by decide +kernel
theorem dX3_nearest_102 : decode cX3_nearest 102 = .ok (.aload_n 1, 1) := by decide +kernel
theorem dX3_nearest_103 : decode cX3_nearest 103 = .ok (.getfield 28, 3) := by decide +kernel
theorem dX3_nearest_106 : decode cX3_nearest 106 = .ok (.ifCond .ge 8, 3) := by decide +kernel
theorem dX3_nearest_109 : decode cX3_nearest 109 = .ok (.lload_n 2, 1) := by decide +kernel
theorem dX3_nearest_110 : decode cX3_nearest 110 = .ok (.lneg, 1) := by decide +kernel
theorem dX3_nearest_111 : decode cX3_nearest 111 = .ok (.goto 4, 3) := by decide +kernel
theorem dX3_nearest_114 : decode cX3_nearest 114 = .ok (.lload_n 2, 1) := by decide +kernel
theorem dX3_nearest_115 : decode cX3_nearest 115 = .ok (.lreturn, 1) := by decide +kernel
abbrev r_X3_nearest : Room := { frames := 4, cells := 0, slots := 0, locals := 104 }
abbrev m_X3_nearest : xMd := (cX3_nearest, RX3, 5, (some FieldType.long), false, r_X3_nearest)
def b_X3_nearest_26 (Q : xQ) : xK := x_lret Q
def b_X3_nearest_115 (Q : xQ) : xK := x_lret Q
def b_X3_nearest_102 (Q : xQ) : xK := x_aload 1 <| x_get 7 0 <| x_if_ge (x_lload 2 <| (b_X3_nearest_115 Q)) <| x_lload 2 <| x_lneg <| (b_X3_nearest_115 Q)
def b_X3_nearest_98 (Q : xQ) : xK := x_lload 2 <| x_c (.long 1) <| x_ladd <| x_lstore 2 <| (b_X3_nearest_102 Q)
def b_X3_nearest_0 (Q : xQ) : xK := x_aload 0 <| x_aload 1 <| x_callv 4 C_X3_size 2 0 0 <| x_lstore 2 <| x_aload 0 <| x_get 4 3 <| x_if_ne (x_aload 0 <| x_get 4 2 <| x_aload 1 <| x_get 7 0 <| x_lload 2 <| x_call C_X4_exponent 1 0 0 <| x_c (.int 1) <| x_isub <| x_callv 7 C_X8_becomeWhole 3 0 0 <| x_aload 0 <| x_get 4 2 <| x_get 7 4 <| x_c (.long 2) <| x_lload 2 <| x_call C_X4_significand 1 0 0 <| x_lmul <| x_c (.long 1) <| x_ladd <| x_callv 1 C_X0_become 2 0 0 <| x_aload 1 <| x_get 7 0 <| x_aload 0 <| x_aload 1 <| x_aload 0 <| x_get 4 2 <| x_callv 4 C_X3_order 3 0 0 <| x_imul <| x_istore 4 <| x_iload 4 <| x_if_gt ((b_X3_nearest_98 Q)) <| x_iload 4 <| x_if_ne ((b_X3_nearest_102 Q)) <| x_lload 2 <| x_c (.long 1) <| x_land <| x_c (.long 0) <| x_lcmp <| x_if_eq ((b_X3_nearest_102 Q)) <| (b_X3_nearest_98 Q)) <| x_aload 1 <| x_get 7 0 <| x_if_ge (x_lload 2 <| (b_X3_nearest_26 Q)) <| x_lload 2 <| x_lneg <| (b_X3_nearest_26 Q)
theorem s_X3_nearest_26 (G : xG) (l : Launch) (Q : xQ) : xW G l m_X3_nearest xX0 (xPm G Q r_X3_nearest) 26 (b_X3_nearest_26 Q) := xo_lret (pc := 26) rfl dX3_nearest_26
theorem s_X3_nearest_115 (G : xG) (l : Launch) (Q : xQ) : xW G l m_X3_nearest xX0 (xPm G Q r_X3_nearest) 115 (b_X3_nearest_115 Q) := xo_lret (pc := 115) rfl dX3_nearest_115
theorem s_X3_nearest_102 (G : xG) (l : Launch) (Q : xQ) : xW G l m_X3_nearest xX0 (xPm G Q r_X3_nearest) 102 (b_X3_nearest_102 Q) := xo_aload_n (pc := 102) (i := 1) dX3_nearest_102 rfl <| xo_getN (pc := 103) (ci := 7) (i := 0) rfl ok7 (by decide) dX3_nearest_103 kw96 <| xo_if_ge (pc := 106) (tgt := 114) dX3_nearest_106 (by decide) (xo_lload_n (pc := 114) (i := 2) dX3_nearest_114 rfl <| (s_X3_nearest_115 G l Q)) <| xo_lload_n (pc := 109) (i := 2) dX3_nearest_109 rfl <| xo_lneg (pc := 110) dX3_nearest_110 <| xo_goto (pc := 111) (tgt := 115) dX3_nearest_111 (by decide) <| (s_X3_nearest_115 G l Q)
theorem s_X3_nearest_98 (G : xG) (l : Launch) (Q : xQ) : xW G l m_X3_nearest xX0 (xPm G Q r_X3_nearest) 98 (b_X3_nearest_98 Q) := xo_lload_n (pc := 98) (i := 2) dX3_nearest_98 rfl <| xo_lconst (pc := 99) dX3_nearest_99 (by decide) <| xo_ladd (pc := 100) dX3_nearest_100 <| xo_lstore_n (pc := 101) (i := 2) dX3_nearest_101 rfl (by decide) <| (s_X3_nearest_102 G l Q)
theorem s_X3_nearest_0 (G : xG) (l : Launch) (Q : xQ) : xW G l m_X3_nearest xX0 (xPm G Q r_X3_nearest) 0 (b_X3_nearest_0 Q) := xo_aload_n (pc := 0) (i := 0) dX3_nearest_0 rfl <| xo_aload_n (pc := 1) (i := 1) dX3_nearest_1 rfl <| xo_callV (pc := 2) (np := 1) (ci := 4) rfl (cM_X3_size G l) dX3_nearest_2 kw652 kw649 kw650 kw651 kw5 (by decide +kernel) (by decide) <| xo_lstore_n (pc := 5) (i := 2) dX3_nearest_5 rfl (by decide) <| xo_aload_n (pc := 6) (i := 0) dX3_nearest_6 rfl <| xo_get (pc := 7) (ci := 4) (i := 3) rfl ok4 (by decide) dX3_nearest_7 kw130 <| xo_if_ne (pc := 10) (tgt := 27) dX3_nearest_10 (by decide) (xo_aload_n (pc := 27) (i := 0) dX3_nearest_27 rfl <| xo_get (pc := 28) (ci := 4) (i := 2) rfl ok4 (by decide) dX3_nearest_28 kw129 <| xo_aload_n (pc := 31) (i := 1) dX3_nearest_31 rfl <| xo_getN (pc := 32) (ci := 7) (i := 0) rfl ok7 (by decide) dX3_nearest_32 kw96 <| xo_lload_n (pc := 35) (i := 2) dX3_nearest_35 rfl <| xo_callS (pc := 36) (np := 1) (cM_X4_exponent G l) dX3_nearest_36 kw482 kw1025 kw481 kw25 (by decide +kernel) (by decide) <| xo_iconst (pc := 39) dX3_nearest_39 (by decide) <| xo_isub (pc := 40) dX3_nearest_40 <| xo_callV (pc := 41) (np := 2) (ci := 7) rfl (cM_X8_becomeWhole G l) dX3_nearest_41 kw542 kw1026 kw540 kw541 kw7 (by decide +kernel) (by decide) <| xo_aload_n (pc := 44) (i := 0) dX3_nearest_44 rfl <| xo_get (pc := 45) (ci := 4) (i := 2) rfl ok4 (by decide) dX3_nearest_45 kw129 <| xo_getN (pc := 48) (ci := 7) (i := 4) rfl ok7 (by decide) dX3_nearest_48 kw109 <| xo_ldc2_w (pc := 51) dX3_nearest_51 kw1027 <| xo_lload_n (pc := 54) (i := 2) dX3_nearest_54 rfl <| xo_callS (pc := 55) (np := 1) (cM_X4_significand G l) dX3_nearest_55 kw487 kw1028 kw486 kw25 (by decide +kernel) (by decide) <| xo_lmul (pc := 58) dX3_nearest_58 <| xo_lconst (pc := 59) dX3_nearest_59 (by decide) <| xo_ladd (pc := 60) dX3_nearest_60 <| xo_callV (pc := 61) (np := 1) (ci := 1) rfl (cM_X0_become G l) dX3_nearest_61 kw492 kw1029 kw490 kw491 kw6 (by decide +kernel) (by decide) <| xo_aload_n (pc := 64) (i := 1) dX3_nearest_64 rfl <| xo_getN (pc := 65) (ci := 7) (i := 0) rfl ok7 (by decide) dX3_nearest_65 kw96 <| xo_aload_n (pc := 68) (i := 0) dX3_nearest_68 rfl <| xo_aload_n (pc := 69) (i := 1) dX3_nearest_69 rfl <| xo_aload_n (pc := 70) (i := 0) dX3_nearest_70 rfl <| xo_get (pc := 71) (ci := 4) (i := 2) rfl ok4 (by decide) dX3_nearest_71 kw129 <| xo_callV (pc := 74) (np := 2) (ci := 4) rfl (cM_X3_order G l) dX3_nearest_74 kw616 kw1030 kw614 kw615 kw5 (by decide +kernel) (by decide) <| xo_imul (pc := 77) dX3_nearest_77 <| xo_istore (pc := 78) (i := 4) dX3_nearest_78 (by decide) <| xo_iload (pc := 80) (i := 4) dX3_nearest_80 <| xo_if_gt (pc := 82) (tgt := 98) dX3_nearest_82 (by decide) ((s_X3_nearest_98 G l Q)) <| xo_iload (pc := 85) (i := 4) dX3_nearest_85 <| xo_if_ne (pc := 87) (tgt := 102) dX3_nearest_87 (by decide) ((s_X3_nearest_102 G l Q)) <| xo_lload_n (pc := 90) (i := 2) dX3_nearest_90 rfl <| xo_lconst (pc := 91) dX3_nearest_91 (by decide) <| xo_land (pc := 92) dX3_nearest_92 <| xo_lconst (pc := 93) dX3_nearest_93 (by decide) <| xo_lcmp (pc := 94) dX3_nearest_94 <| xo_if_eq (pc := 95) (tgt := 102) dX3_nearest_95 (by decide) ((s_X3_nearest_102 G l Q)) <| (s_X3_nearest_98 G l Q)) <| xo_aload_n (pc := 13) (i := 1) dX3_nearest_13 rfl <| xo_getN (pc := 14) (ci := 7) (i := 0) rfl ok7 (by decide) dX3_nearest_14 kw96 <| xo_if_ge (pc := 17) (tgt := 25) dX3_nearest_17 (by decide) (xo_lload_n (pc := 25) (i := 2) dX3_nearest_25 rfl <| (s_X3_nearest_26 G l Q)) <| xo_lload_n (pc := 20) (i := 2) dX3_nearest_20 rfl <| xo_lneg (pc := 21) dX3_nearest_21 <| xo_goto (pc := 22) (tgt := 26) dX3_nearest_22 (by decide) <| (s_X3_nearest_26 G l Q)

theorem sv_mid {n : Nat} (h : n + 1 < 2 ^ 63) : sv (fX n - 1) (2 * fP n + 1) 1 = (fv n + fv (n + 1)) / 2 := by
  rw [fv_succ h]
  have e : p2 (fX n) = 2 * p2 (fX n - 1) := by
    rw [p2_split (show fX n - 1 ≤ fX n by omega), show (fX n - (fX n - 1)).toNat = 1 by omega]
    rfl
  unfold sv fv
  rw [e, Rat.div_def, Rat.div_def, show ((1 : Nat) : Rat)⁻¹ = 1 from Rat.inv_eq_of_mul_eq_one (Rat.one_mul 1), Rat.mul_one, Rat.natCast_add, Rat.natCast_mul]
  have i2 : (2 : Rat) * (2 : Rat)⁻¹ = 1 := Rat.mul_inv_cancel 2 (by decide)
  have c2 : ((2 : Nat) : Rat) = 2 := rfl
  have c1 : ((1 : Nat) : Rat) = 1 := rfl
  rw [c2, c1]
  generalize (2 : Rat)⁻¹ = j at *
  generalize p2 (fX n - 1) = d
  generalize (fP n : Rat) = f
  grind
theorem nr_t {v : Rat} {n : Nat} (sz : szS v n true) (hn : n < 9218868437227405311) : nrF v = (if (fv n + fv (n + 1)) / 2 < v ∨ v = (fv n + fv (n + 1)) / 2 ∧ n % 2 = 1 then (n : Int) + 1 else n) ∧ nrF (-v) = -(if (fv n + fv (n + 1)) / 2 < v ∨ v = (fv n + fv (n + 1)) / 2 ∧ n % 2 = 1 then (n : Int) + 1 else n) := by
  have d1 := sz_dn sz
  have d2 := sz_up sz
  have d3 := sz_dm sz
  have d4 := sz_um sz
  rw [if_pos rfl] at d2 d3
  have f1 : fval (n : Int) = fv n := fval_nn' n
  have f2 : fval ((n : Int) + 1) = fv (n + 1) := fval_nn' (n + 1)
  have f3 : fval (-(n : Int) - 1) = -fv (n + 1) := by rw [show -(n : Int) - 1 = -((n + 1 : Nat) : Int) by omega, fval_ng]
  have f4 : fval (-(n : Int)) = -fv n := fval_ng n
  have m : (-fv (n + 1) + -fv n) / 2 = -((fv n + fv (n + 1)) / 2) := by
    rw [Rat.div_def, Rat.div_def]; grind
  unfold nrF
  rw [← d1, ← d2, ← d3, ← d4, f1, f2, f3, f4, m]
  generalize (fv n + fv (n + 1)) / 2 = M
  rw [if_neg (show ¬ (n : Int) = (n : Int) + 1 by omega), if_neg (show ¬ -(n : Int) - 1 = -(n : Int) by omega)]
  rcases Decidable.em (M < v) with c | c
  · rw [if_neg (show ¬ v < M by grind), if_pos c, if_pos (Or.inl c), if_pos (show -v < -M by grind)]
    omega
  · rw [if_neg c]
    rcases Decidable.em (v = M) with g | g
    · rw [if_neg (show ¬ v < M by grind), if_neg (show ¬ -v < -M by grind), if_neg (show ¬ -M < -v by grind)]
      rcases Nat.mod_two_eq_zero_or_one n with o | o
      · rw [if_neg (show ¬ (M < v ∨ v = M ∧ n % 2 = 1) by rintro (q | q); exact c q; omega), if_pos (by omega), if_neg (by omega)]
        omega
      · rw [if_pos (Or.inr ⟨g, o⟩), if_neg (by omega), if_pos (by omega)]
        omega
    · rw [if_pos (show v < M by grind), if_neg (show ¬ (M < v ∨ v = M ∧ n % 2 = 1) by rintro (q | q); exact c q; exact g q.1), if_neg (show ¬ -v < -M by grind), if_pos (show -M < -v by grind)]
      omega
theorem nr_f {v : Rat} {n : Nat} (sz : szS v n false) : nrF v = n ∧ nrF (-v) = -(n : Int) := by
  have d1 := sz_dn sz
  have d2 := sz_up sz
  have d3 := sz_dm sz
  have d4 := sz_um sz
  rw [if_neg Bool.false_ne_true] at d2 d3
  unfold nrF
  rw [← d1, ← d2, ← d3, ← d4, if_pos rfl, if_pos rfl]
  exact ⟨rfl, rfl⟩
theorem nr_0 : nrF 0 = 0 := (nr_f sz_zero).1
def C_X3_nearest : xC := fun av S Q => ∃ (x a : Nat) (n : Bool) (s e : Int) (p : Nat), av = [.ref x, .ref a] ∧ exR S.1 x n ∧ (a + 5 ≤ x ∨ x + 10 ≤ a) ∧ reR S.1 a s e false false p 1 ∧ (s ≠ 0 → p ≠ 0 ∧ nb p ≤ 6200 ∧ sv e p 1 ≤ fv 9218868437227405311) ∧ ∀ h' y, xoff h' S.1 x (x + 10) → exR h' x y → Q (some (.long (lZ (nrF (rv s e p 1))))) (h', S.2)
theorem cM_X3_nearest (G : xG) (l : Launch) : xM G l yX3_nearest cX3_nearest 5 (some FieldType.long) r_X3_nearest C_X3_nearest := by
  refine xM_of (fun Q => b_X3_nearest_0 Q) RX3 false (s_X3_nearest_0 G l) (by decide) rfl (by decide) ?_
  rintro av ⟨h, S2⟩ Q ⟨x, a, n, s, e, p, rfl, ex, da, v, pr, hQ⟩
  dsimp only at *
  refine ⟨Nat.le_of_ble_eq_true rfl, ?_⟩
  have ss := v.2.2.2.1
  have s0 : (0 : Int32) ≤ iZ s ↔ 0 ≤ s := by rw [i_le, iZ_toInt (by omega) (by omega), i_0]
  have n1 : nb 1 = 1 := by decide
  have sp : szP s e false false p 1 := ⟨fun z => absurd z (by decide), fun _ z => ⟨(pr z).1, by decide, fun _ => ⟨(pr z).2.1, by omega⟩, fun z => absurd z (by decide)⟩⟩
  unfold b_X3_nearest_0
  generalize h102 : b_X3_nearest_102 Q = J102 at *
  generalize h98 : b_X3_nearest_98 Q = J98 at *
  simp only [q_c, x_iload, x_lload, x_aload, q_istore, q_lstore, q_astore, q_astore2, x_iinc, q_iadd, q_isub, q_imul, q_iand, q_ior, q_ixor, q_ladd, q_lsub, q_lmul, q_land, q_lor, q_lxor, q_idiv, q_irem, q_ldiv, q_lrem, q_ineg, q_lneg, q_ishl, q_ishr, q_iushr, q_lshl, q_lshr, q_lushr, q_i2l, q_l2i, q_i2b, q_i2c, q_lcmp, q_if_eq, q_if_ne, q_if_lt, q_if_ge, q_if_gt, q_if_le, q_icmp_eq, q_icmp_ne, q_icmp_lt, q_icmp_ge, q_icmp_gt, q_icmp_le, q_dup, q_pop, q_dup_x1, q_dup2, x_iret, x_zret, x_lret, x_aret, x_vret, x_call, x_callv, x_calli, x_oinit, x_mmax, x_mmin, x_mabs, x_mmaxL, x_mminL, x_mabsL, lg_cmp_ge, lg_cmp_le, lg_cmp_gt, lg_cmp_lt, lg_cmp_eq, xlk, q_xs1, q_xs2, lv_args, Value.category, List.filter_cons, List.filter_nil, Nat.reduceAdd, Nat.reduceBEq, Nat.reduceEqDiff, Nat.reduceSub, Nat.sub_zero, beq_self_eq_true, Bool.not_true, Bool.not_false, Bool.and_true, Bool.and_false, Bool.true_and, Bool.false_and, reduceIte, reduceCtorEq, Bool.false_eq_true, Nat.one_ne_zero, Nat.zero_ne_one, Nat.zero_add, Option.toList_some, Option.toList_none, List.nil_append, List.cons_append, List.take_succ_cons, List.take_zero, List.take_nil, List.drop_succ_cons, List.drop_zero, List.length_cons, List.length_nil, List.reverse_cons, List.reverse_nil, List.head?_cons, List.map_cons, List.map_nil, List.sum_cons, List.sum_nil, true_and, and_true, List.getElem?_cons_zero, List.getElem?_cons_succ, Prod.eta, x_iast, x_bald, x_bast, x_last, x_alen, xup_s, xup_a1, xup_1a, xup_uu, nr_i, nr_l, nr_o, nr_a, ft_i, ft_l, ft_o, ft_a, Nat.reduceLT, i_cl0, i_cl1, i_n1, i_m1, List.set_cons_zero, List.set_cons_succ, Nat.reduceLeDiff, Nat.le_refl, Nat.zero_le, Nat.add_zero, x_no, x_ifnull, x_ifnonnull, x_acmp_eq, x_acmp_ne, x_swl, x_tsw, x_castC, true_or, or_true, nr_z, ft_z, nr_z0, nr_z1, ft_z0, ft_z1, nr_on, nr_an, ft_on, ft_an, b_X3_nearest_26]
  refine ⟨ex.rc, x, a, n, s, e, false, false, p, 1, rfl, ex, (by omega), v, sp, fun h2 N y oA w sz => ?_⟩
  have v2 := v.off oA (by omega)
  simp only [q_c, x_iload, x_lload, x_aload, q_istore, q_lstore, q_astore, q_astore2, x_iinc, q_iadd, q_isub, q_imul, q_iand, q_ior, q_ixor, q_ladd, q_lsub, q_lmul, q_land, q_lor, q_lxor, q_idiv, q_irem, q_ldiv, q_lrem, q_ineg, q_lneg, q_ishl, q_ishr, q_iushr, q_lshl, q_lshr, q_lushr, q_i2l, q_l2i, q_i2b, q_i2c, q_lcmp, q_if_eq, q_if_ne, q_if_lt, q_if_ge, q_if_gt, q_if_le, q_icmp_eq, q_icmp_ne, q_icmp_lt, q_icmp_ge, q_icmp_gt, q_icmp_le, q_dup, q_pop, q_dup_x1, q_dup2, x_iret, x_zret, x_lret, x_aret, x_vret, x_call, x_callv, x_calli, x_oinit, x_mmax, x_mmin, x_mabs, x_mmaxL, x_mminL, x_mabsL, lg_cmp_ge, lg_cmp_le, lg_cmp_gt, lg_cmp_lt, lg_cmp_eq, xlk, q_xs1, q_xs2, lv_args, Value.category, List.filter_cons, List.filter_nil, Nat.reduceAdd, Nat.reduceBEq, Nat.reduceEqDiff, Nat.reduceSub, Nat.sub_zero, beq_self_eq_true, Bool.not_true, Bool.not_false, Bool.and_true, Bool.and_false, Bool.true_and, Bool.false_and, reduceIte, reduceCtorEq, Bool.false_eq_true, Nat.one_ne_zero, Nat.zero_ne_one, Nat.zero_add, Option.toList_some, Option.toList_none, List.nil_append, List.cons_append, List.take_succ_cons, List.take_zero, List.take_nil, List.drop_succ_cons, List.drop_zero, List.length_cons, List.length_nil, List.reverse_cons, List.reverse_nil, List.head?_cons, List.map_cons, List.map_nil, List.sum_cons, List.sum_nil, true_and, and_true, List.getElem?_cons_zero, List.getElem?_cons_succ, Prod.eta, x_iast, x_bald, x_bast, x_last, x_alen, xup_s, xup_a1, xup_1a, xup_uu, nr_i, nr_l, nr_o, nr_a, ft_i, ft_l, ft_o, ft_a, Nat.reduceLT, i_cl0, i_cl1, i_n1, i_m1, List.set_cons_zero, List.set_cons_succ, Nat.reduceLeDiff, Nat.le_refl, Nat.zero_le, Nat.add_zero, x_no, x_ifnull, x_ifnonnull, x_acmp_eq, x_acmp_ne, x_swl, x_tsw, x_castC, true_or, or_true, nr_z, ft_z, nr_z0, nr_z1, ft_z0, ft_z1, nr_on, nr_an, ft_on, ft_an, reO.g0 v2.1, reO.g1 v2.1, reO.g2 v2.1, reO.g3 v2.1, reO.g4 v2.1, reO.g5 v2.1, reO.p0 v2.1, reO.p1 v2.1, reO.p2 v2.1, reO.p2a v2.1, reO.p2b v2.1, reO.p3 v2.1, reO.p3a v2.1, reO.p3b v2.1, s0, exO.g0 w.1, exO.g1 w.1, exO.g2 w.1, exO.g3 w.1, exO.p3 w.1, exO.p3a w.1, exO.p3b w.1, bI_e0]
  have rvv : s ≠ 0 → nrF (rv s e p 1) = if s < 0 then nrF (-sv e p 1) else nrF (sv e p 1) := fun z => by
    rcases (show s = 1 ∨ s = -1 by omega) with rfl | rfl
    · rw [rv_1, if_neg (by decide)]
    · rw [rv_m, if_pos (by decide)]
  refine ⟨fun y1 => ?_, fun y0 => ⟨fun c => ?_, fun c => ?_⟩⟩
  · have sn0 : s ≠ 0 := fun z => y1 (sz.2.1 rfl z).2
    have y1' : y = true := eq_true_of_ne_false y1
    have zz := sz.2.2.1 rfl sn0 rfl
    rw [y1'] at zz
    obtain ⟨pn, pl, pm⟩ := pr sn0
    have Nl : N < 9218868437227405311 := by
      rcases Nat.lt_or_ge N 9218868437227405311 with q | q
      · exact q
      · have e1 : N = 9218868437227405311 := Nat.le_antisymm zz.1 q
        have := zz.2.2.2.mp rfl
        have l := zz.2.1
        rw [e1] at this l
        exact absurd (Rat.le_antisymm l pm) this
    have nr := nr_t zz Nl
    have fx := fX_rng N
    have fp := fP_lt N
    refine ⟨N, rfl, by omega, ?_⟩
    have e1 : iZ (fX N) - 1 = iZ (fX N - 1) := by rw [show (1 : Int32) = iZ 1 from rfl, iZ_sub]
    obtain ⟨s5, e5, i5, t5, p5, q5, w5⟩ := w.2.2.2
    simp only [q_c, x_iload, x_lload, x_aload, q_istore, q_lstore, q_astore, q_astore2, x_iinc, q_iadd, q_isub, q_imul, q_iand, q_ior, q_ixor, q_ladd, q_lsub, q_lmul, q_land, q_lor, q_lxor, q_idiv, q_irem, q_ldiv, q_lrem, q_ineg, q_lneg, q_ishl, q_ishr, q_iushr, q_lshl, q_lshr, q_lushr, q_i2l, q_l2i, q_i2b, q_i2c, q_lcmp, q_if_eq, q_if_ne, q_if_lt, q_if_ge, q_if_gt, q_if_le, q_icmp_eq, q_icmp_ne, q_icmp_lt, q_icmp_ge, q_icmp_gt, q_icmp_le, q_dup, q_pop, q_dup_x1, q_dup2, x_iret, x_zret, x_lret, x_aret, x_vret, x_call, x_callv, x_calli, x_oinit, x_mmax, x_mmin, x_mabs, x_mmaxL, x_mminL, x_mabsL, lg_cmp_ge, lg_cmp_le, lg_cmp_gt, lg_cmp_lt, lg_cmp_eq, xlk, q_xs1, q_xs2, lv_args, Value.category, List.filter_cons, List.filter_nil, Nat.reduceAdd, Nat.reduceBEq, Nat.reduceEqDiff, Nat.reduceSub, Nat.sub_zero, beq_self_eq_true, Bool.not_true, Bool.not_false, Bool.and_true, Bool.and_false, Bool.true_and, Bool.false_and, reduceIte, reduceCtorEq, Bool.false_eq_true, Nat.one_ne_zero, Nat.zero_ne_one, Nat.zero_add, Option.toList_some, Option.toList_none, List.nil_append, List.cons_append, List.take_succ_cons, List.take_zero, List.take_nil, List.drop_succ_cons, List.drop_zero, List.length_cons, List.length_nil, List.reverse_cons, List.reverse_nil, List.head?_cons, List.map_cons, List.map_nil, List.sum_cons, List.sum_nil, true_and, and_true, List.getElem?_cons_zero, List.getElem?_cons_succ, Prod.eta, x_iast, x_bald, x_bast, x_last, x_alen, xup_s, xup_a1, xup_1a, xup_uu, nr_i, nr_l, nr_o, nr_a, ft_i, ft_l, ft_o, ft_a, Nat.reduceLT, i_cl0, i_cl1, i_n1, i_m1, List.set_cons_zero, List.set_cons_succ, Nat.reduceLeDiff, Nat.le_refl, Nat.zero_le, Nat.add_zero, x_no, x_ifnull, x_ifnonnull, x_acmp_eq, x_acmp_ne, x_swl, x_tsw, x_castC, true_or, or_true, nr_z, ft_z, nr_z0, nr_z1, ft_z0, ft_z1, nr_on, nr_an, ft_on, ft_an, e1, exO.g0 w.1, exO.g1 w.1, exO.g2 w.1, exO.g3 w.1, exO.p3 w.1, exO.p3a w.1, exO.p3b w.1]
    refine kr_whole w5 (by omega) (by omega) fun h3 oB w6 => ?_
    have wx3 := (oB x (by omega)).trans w.1
    have v3 := v2.off oB (by omega)
    simp only [q_c, x_iload, x_lload, x_aload, q_istore, q_lstore, q_astore, q_astore2, x_iinc, q_iadd, q_isub, q_imul, q_iand, q_ior, q_ixor, q_ladd, q_lsub, q_lmul, q_land, q_lor, q_lxor, q_idiv, q_irem, q_ldiv, q_lrem, q_ineg, q_lneg, q_ishl, q_ishr, q_iushr, q_lshl, q_lshr, q_lushr, q_i2l, q_l2i, q_i2b, q_i2c, q_lcmp, q_if_eq, q_if_ne, q_if_lt, q_if_ge, q_if_gt, q_if_le, q_icmp_eq, q_icmp_ne, q_icmp_lt, q_icmp_ge, q_icmp_gt, q_icmp_le, q_dup, q_pop, q_dup_x1, q_dup2, x_iret, x_zret, x_lret, x_aret, x_vret, x_call, x_callv, x_calli, x_oinit, x_mmax, x_mmin, x_mabs, x_mmaxL, x_mminL, x_mabsL, lg_cmp_ge, lg_cmp_le, lg_cmp_gt, lg_cmp_lt, lg_cmp_eq, xlk, q_xs1, q_xs2, lv_args, Value.category, List.filter_cons, List.filter_nil, Nat.reduceAdd, Nat.reduceBEq, Nat.reduceEqDiff, Nat.reduceSub, Nat.sub_zero, beq_self_eq_true, Bool.not_true, Bool.not_false, Bool.and_true, Bool.and_false, Bool.true_and, Bool.false_and, reduceIte, reduceCtorEq, Bool.false_eq_true, Nat.one_ne_zero, Nat.zero_ne_one, Nat.zero_add, Option.toList_some, Option.toList_none, List.nil_append, List.cons_append, List.take_succ_cons, List.take_zero, List.take_nil, List.drop_succ_cons, List.drop_zero, List.length_cons, List.length_nil, List.reverse_cons, List.reverse_nil, List.head?_cons, List.map_cons, List.map_nil, List.sum_cons, List.sum_nil, true_and, and_true, List.getElem?_cons_zero, List.getElem?_cons_succ, Prod.eta, x_iast, x_bald, x_bast, x_last, x_alen, xup_s, xup_a1, xup_1a, xup_uu, nr_i, nr_l, nr_o, nr_a, ft_i, ft_l, ft_o, ft_a, Nat.reduceLT, i_cl0, i_cl1, i_n1, i_m1, List.set_cons_zero, List.set_cons_succ, Nat.reduceLeDiff, Nat.le_refl, Nat.zero_le, Nat.add_zero, x_no, x_ifnull, x_ifnonnull, x_acmp_eq, x_acmp_ne, x_swl, x_tsw, x_castC, true_or, or_true, nr_z, ft_z, nr_z0, nr_z1, ft_z0, ft_z1, nr_on, nr_an, ft_on, ft_an, exO.g0 wx3, exO.g1 wx3, exO.g2 wx3, exO.g3 wx3, exO.p3 wx3, exO.p3a wx3, exO.p3b wx3, reO.g0 w6.1, reO.g1 w6.1, reO.g2 w6.1, reO.g3 w6.1, reO.g4 w6.1, reO.g5 w6.1, reO.p0 w6.1, reO.p1 w6.1, reO.p2 w6.1, reO.p2a w6.1, reO.p2b w6.1, reO.p3 w6.1, reO.p3a w6.1, reO.p3b w6.1]
    refine ⟨N, rfl, by omega, ?_⟩
    have e2 : (2 : Int64) * lN (fP N) + 1 = lN (2 * fP N + 1) := by rw [show (2 : Int64) = lN 2 from rfl, show (1 : Int64) = lN 1 from rfl, lN_mul, lN_add]
    simp only [q_c, x_iload, x_lload, x_aload, q_istore, q_lstore, q_astore, q_astore2, x_iinc, q_iadd, q_isub, q_imul, q_iand, q_ior, q_ixor, q_ladd, q_lsub, q_lmul, q_land, q_lor, q_lxor, q_idiv, q_irem, q_ldiv, q_lrem, q_ineg, q_lneg, q_ishl, q_ishr, q_iushr, q_lshl, q_lshr, q_lushr, q_i2l, q_l2i, q_i2b, q_i2c, q_lcmp, q_if_eq, q_if_ne, q_if_lt, q_if_ge, q_if_gt, q_if_le, q_icmp_eq, q_icmp_ne, q_icmp_lt, q_icmp_ge, q_icmp_gt, q_icmp_le, q_dup, q_pop, q_dup_x1, q_dup2, x_iret, x_zret, x_lret, x_aret, x_vret, x_call, x_callv, x_calli, x_oinit, x_mmax, x_mmin, x_mabs, x_mmaxL, x_mminL, x_mabsL, lg_cmp_ge, lg_cmp_le, lg_cmp_gt, lg_cmp_lt, lg_cmp_eq, xlk, q_xs1, q_xs2, lv_args, Value.category, List.filter_cons, List.filter_nil, Nat.reduceAdd, Nat.reduceBEq, Nat.reduceEqDiff, Nat.reduceSub, Nat.sub_zero, beq_self_eq_true, Bool.not_true, Bool.not_false, Bool.and_true, Bool.and_false, Bool.true_and, Bool.false_and, reduceIte, reduceCtorEq, Bool.false_eq_true, Nat.one_ne_zero, Nat.zero_ne_one, Nat.zero_add, Option.toList_some, Option.toList_none, List.nil_append, List.cons_append, List.take_succ_cons, List.take_zero, List.take_nil, List.drop_succ_cons, List.drop_zero, List.length_cons, List.length_nil, List.reverse_cons, List.reverse_nil, List.head?_cons, List.map_cons, List.map_nil, List.sum_cons, List.sum_nil, true_and, and_true, List.getElem?_cons_zero, List.getElem?_cons_succ, Prod.eta, x_iast, x_bald, x_bast, x_last, x_alen, xup_s, xup_a1, xup_1a, xup_uu, nr_i, nr_l, nr_o, nr_a, ft_i, ft_l, ft_o, ft_a, Nat.reduceLT, i_cl0, i_cl1, i_n1, i_m1, List.set_cons_zero, List.set_cons_succ, Nat.reduceLeDiff, Nat.le_refl, Nat.zero_le, Nat.add_zero, x_no, x_ifnull, x_ifnonnull, x_acmp_eq, x_acmp_ne, x_swl, x_tsw, x_castC, true_or, or_true, nr_z, ft_z, nr_z0, nr_z1, ft_z0, ft_z1, nr_on, nr_an, ft_on, ft_an, e2]
    refine kb_become w6.2.1 (w := 2 * fP N + 1) (uN_lN (by omega)) fun h4 oC w7 => ?_
    have wx4 := (oC x (by omega)).trans wx3
    have v4 := v3.off oC (by omega)
    have w8 : reR h4 (x + 5) s (fX N - 1) false false (2 * fP N + 1) 1 := ⟨(oC (x + 5) (by omega)).trans w6.1, w7, w6.2.2.1.off oC (by omega), w6.2.2.2⟩
    have ex4 : exR h4 x y := ⟨wx4, ⟨_, (w.2.1.choose_spec.off oB (by omega)).off oC (by omega)⟩, ⟨_, (w.2.2.1.choose_spec.off oB (by omega)).off oC (by omega)⟩, _, _, _, _, _, _, w8⟩
    have nq : nb (2 * fP N + 1) ≤ 54 := nb_mono_lt (by omega)
    simp only [q_c, x_iload, x_lload, x_aload, q_istore, q_lstore, q_astore, q_astore2, x_iinc, q_iadd, q_isub, q_imul, q_iand, q_ior, q_ixor, q_ladd, q_lsub, q_lmul, q_land, q_lor, q_lxor, q_idiv, q_irem, q_ldiv, q_lrem, q_ineg, q_lneg, q_ishl, q_ishr, q_iushr, q_lshl, q_lshr, q_lushr, q_i2l, q_l2i, q_i2b, q_i2c, q_lcmp, q_if_eq, q_if_ne, q_if_lt, q_if_ge, q_if_gt, q_if_le, q_icmp_eq, q_icmp_ne, q_icmp_lt, q_icmp_ge, q_icmp_gt, q_icmp_le, q_dup, q_pop, q_dup_x1, q_dup2, x_iret, x_zret, x_lret, x_aret, x_vret, x_call, x_callv, x_calli, x_oinit, x_mmax, x_mmin, x_mabs, x_mmaxL, x_mminL, x_mabsL, lg_cmp_ge, lg_cmp_le, lg_cmp_gt, lg_cmp_lt, lg_cmp_eq, xlk, q_xs1, q_xs2, lv_args, Value.category, List.filter_cons, List.filter_nil, Nat.reduceAdd, Nat.reduceBEq, Nat.reduceEqDiff, Nat.reduceSub, Nat.sub_zero, beq_self_eq_true, Bool.not_true, Bool.not_false, Bool.and_true, Bool.and_false, Bool.true_and, Bool.false_and, reduceIte, reduceCtorEq, Bool.false_eq_true, Nat.one_ne_zero, Nat.zero_ne_one, Nat.zero_add, Option.toList_some, Option.toList_none, List.nil_append, List.cons_append, List.take_succ_cons, List.take_zero, List.take_nil, List.drop_succ_cons, List.drop_zero, List.length_cons, List.length_nil, List.reverse_cons, List.reverse_nil, List.head?_cons, List.map_cons, List.map_nil, List.sum_cons, List.sum_nil, true_and, and_true, List.getElem?_cons_zero, List.getElem?_cons_succ, Prod.eta, x_iast, x_bald, x_bast, x_last, x_alen, xup_s, xup_a1, xup_1a, xup_uu, nr_i, nr_l, nr_o, nr_a, ft_i, ft_l, ft_o, ft_a, Nat.reduceLT, i_cl0, i_cl1, i_n1, i_m1, List.set_cons_zero, List.set_cons_succ, Nat.reduceLeDiff, Nat.le_refl, Nat.zero_le, Nat.add_zero, x_no, x_ifnull, x_ifnonnull, x_acmp_eq, x_acmp_ne, x_swl, x_tsw, x_castC, true_or, or_true, nr_z, ft_z, nr_z0, nr_z1, ft_z0, ft_z1, nr_on, nr_an, ft_on, ft_an, exO.g0 wx4, exO.g1 wx4, exO.g2 wx4, exO.g3 wx4, exO.p3 wx4, exO.p3a wx4, exO.p3b wx4, reO.g0 v4.1, reO.g1 v4.1, reO.g2 v4.1, reO.g3 v4.1, reO.g4 v4.1, reO.g5 v4.1, reO.p0 v4.1, reO.p1 v4.1, reO.p2 v4.1, reO.p2a v4.1, reO.p2b v4.1, reO.p3 v4.1, reO.p3a v4.1, reO.p3b v4.1]
    refine ko_order ex4 (by omega) (by omega) v4 w8 (fun c1 c2 c3 => ⟨pn, by decide, by omega, by decide, fun _ _ => by omega⟩) fun h5 oD ex5 => ?_
    have oz : orX s s false false (rv s e p 1) (rv s (fX N - 1) (2 * fP N + 1) 1) = iZ s * cmpR (sv e p 1) (sv (fX N - 1) (2 * fP N + 1) 1) := by
      unfold orX
      rw [if_neg (by omega), if_neg (by decide), rv_cmp (by omega)]
    have sq : iZ s * (iZ s * cmpR (sv e p 1) ((fv N + fv (N + 1)) / 2)) = cmpR (sv e p 1) ((fv N + fv (N + 1)) / 2) := by
      rw [← Int32.mul_assoc, iZ_mul, show s * s = 1 by rcases (show s = 1 ∨ s = -1 by omega) with rfl | rfl <;> rfl]
      exact Int32.one_mul _
    rw [oz, sv_mid (by omega)]
    simp only [q_c, x_iload, x_lload, x_aload, q_istore, q_lstore, q_astore, q_astore2, x_iinc, q_iadd, q_isub, q_imul, q_iand, q_ior, q_ixor, q_ladd, q_lsub, q_lmul, q_land, q_lor, q_lxor, q_idiv, q_irem, q_ldiv, q_lrem, q_ineg, q_lneg, q_ishl, q_ishr, q_iushr, q_lshl, q_lshr, q_lushr, q_i2l, q_l2i, q_i2b, q_i2c, q_lcmp, q_if_eq, q_if_ne, q_if_lt, q_if_ge, q_if_gt, q_if_le, q_icmp_eq, q_icmp_ne, q_icmp_lt, q_icmp_ge, q_icmp_gt, q_icmp_le, q_dup, q_pop, q_dup_x1, q_dup2, x_iret, x_zret, x_lret, x_aret, x_vret, x_call, x_callv, x_calli, x_oinit, x_mmax, x_mmin, x_mabs, x_mmaxL, x_mminL, x_mabsL, lg_cmp_ge, lg_cmp_le, lg_cmp_gt, lg_cmp_lt, lg_cmp_eq, xlk, q_xs1, q_xs2, lv_args, Value.category, List.filter_cons, List.filter_nil, Nat.reduceAdd, Nat.reduceBEq, Nat.reduceEqDiff, Nat.reduceSub, Nat.sub_zero, beq_self_eq_true, Bool.not_true, Bool.not_false, Bool.and_true, Bool.and_false, Bool.true_and, Bool.false_and, reduceIte, reduceCtorEq, Bool.false_eq_true, Nat.one_ne_zero, Nat.zero_ne_one, Nat.zero_add, Option.toList_some, Option.toList_none, List.nil_append, List.cons_append, List.take_succ_cons, List.take_zero, List.take_nil, List.drop_succ_cons, List.drop_zero, List.length_cons, List.length_nil, List.reverse_cons, List.reverse_nil, List.head?_cons, List.map_cons, List.map_nil, List.sum_cons, List.sum_nil, true_and, and_true, List.getElem?_cons_zero, List.getElem?_cons_succ, Prod.eta, x_iast, x_bald, x_bast, x_last, x_alen, xup_s, xup_a1, xup_1a, xup_uu, nr_i, nr_l, nr_o, nr_a, ft_i, ft_l, ft_o, ft_a, Nat.reduceLT, i_cl0, i_cl1, i_n1, i_m1, List.set_cons_zero, List.set_cons_succ, Nat.reduceLeDiff, Nat.le_refl, Nat.zero_le, Nat.add_zero, x_no, x_ifnull, x_ifnonnull, x_acmp_eq, x_acmp_ne, x_swl, x_tsw, x_castC, true_or, or_true, nr_z, ft_z, nr_z0, nr_z1, ft_z0, ft_z1, nr_on, nr_an, ft_on, ft_an, sq]
    have hq := hQ h5 y (fun z hz => (oD z (by omega)).trans ((oC z (by omega)).trans ((oB z (by omega)).trans (oA z (by omega))))) ex5
    rw [rvv sn0, nr.1, nr.2] at hq
    have v5 := v4.off oD (by omega)
    generalize (fv N + fv (N + 1)) / 2 = M at *
    have cp := cmpR_p (x := sv e p 1) (y := M)
    have c0 := cmpR_0 (x := sv e p 1) (y := M)
    generalize sv e p 1 = V at *
    have q3 : lN N &&& 1 = (0 : Int64) ↔ N % 2 = 0 := by
      rw [wb_a1 (by omega), ← lZ_nat, lz_e0 ⟨by omega, by omega⟩]; omega
    have f102 : ∀ m : Nat, (m : Int) = (if M < V ∨ V = M ∧ N % 2 = 1 then (N : Int) + 1 else N) → ∀ z, b_X3_nearest_102 Q [(2, .long (lN m)), (4, z), (0, .ref x), (1, .ref a)] [] (h5, S2) := by
      intro m hm z
      rw [← hm] at hq
      simp only [q_c, x_iload, x_lload, x_aload, q_istore, q_lstore, q_astore, q_astore2, x_iinc, q_iadd, q_isub, q_imul, q_iand, q_ior, q_ixor, q_ladd, q_lsub, q_lmul, q_land, q_lor, q_lxor, q_idiv, q_irem, q_ldiv, q_lrem, q_ineg, q_lneg, q_ishl, q_ishr, q_iushr, q_lshl, q_lshr, q_lushr, q_i2l, q_l2i, q_i2b, q_i2c, q_lcmp, q_if_eq, q_if_ne, q_if_lt, q_if_ge, q_if_gt, q_if_le, q_icmp_eq, q_icmp_ne, q_icmp_lt, q_icmp_ge, q_icmp_gt, q_icmp_le, q_dup, q_pop, q_dup_x1, q_dup2, x_iret, x_zret, x_lret, x_aret, x_vret, x_call, x_callv, x_calli, x_oinit, x_mmax, x_mmin, x_mabs, x_mmaxL, x_mminL, x_mabsL, lg_cmp_ge, lg_cmp_le, lg_cmp_gt, lg_cmp_lt, lg_cmp_eq, xlk, q_xs1, q_xs2, lv_args, Value.category, List.filter_cons, List.filter_nil, Nat.reduceAdd, Nat.reduceBEq, Nat.reduceEqDiff, Nat.reduceSub, Nat.sub_zero, beq_self_eq_true, Bool.not_true, Bool.not_false, Bool.and_true, Bool.and_false, Bool.true_and, Bool.false_and, reduceIte, reduceCtorEq, Bool.false_eq_true, Nat.one_ne_zero, Nat.zero_ne_one, Nat.zero_add, Option.toList_some, Option.toList_none, List.nil_append, List.cons_append, List.take_succ_cons, List.take_zero, List.take_nil, List.drop_succ_cons, List.drop_zero, List.length_cons, List.length_nil, List.reverse_cons, List.reverse_nil, List.head?_cons, List.map_cons, List.map_nil, List.sum_cons, List.sum_nil, true_and, and_true, List.getElem?_cons_zero, List.getElem?_cons_succ, Prod.eta, x_iast, x_bald, x_bast, x_last, x_alen, xup_s, xup_a1, xup_1a, xup_uu, nr_i, nr_l, nr_o, nr_a, ft_i, ft_l, ft_o, ft_a, Nat.reduceLT, i_cl0, i_cl1, i_n1, i_m1, List.set_cons_zero, List.set_cons_succ, Nat.reduceLeDiff, Nat.le_refl, Nat.zero_le, Nat.add_zero, x_no, x_ifnull, x_ifnonnull, x_acmp_eq, x_acmp_ne, x_swl, x_tsw, x_castC, true_or, or_true, nr_z, ft_z, nr_z0, nr_z1, ft_z0, ft_z1, nr_on, nr_an, ft_on, ft_an, b_X3_nearest_102, b_X3_nearest_115, reO.g0 v5.1, reO.g1 v5.1, reO.g2 v5.1, reO.g3 v5.1, reO.g4 v5.1, reO.g5 v5.1, reO.p0 v5.1, reO.p1 v5.1, reO.p2 v5.1, reO.p2a v5.1, reO.p2b v5.1, reO.p3 v5.1, reO.p3a v5.1, reO.p3b v5.1, s0]
      refine ⟨fun c => ?_, fun c => ?_⟩
      · rw [if_neg (by omega), lZ_nat] at hq; exact hq
      · rw [if_pos (by omega), ← lZ_neg, lZ_nat] at hq; exact hq
    have f102' : (N : Int) = (if M < V ∨ V = M ∧ N % 2 = 1 then (N : Int) + 1 else N) → ∀ z, b_X3_nearest_102 Q [(4, z), (2, .long (lN N)), (0, .ref x), (1, .ref a)] [] (h5, S2) := by
      intro hm z
      rw [← hm] at hq
      simp only [q_c, x_iload, x_lload, x_aload, q_istore, q_lstore, q_astore, q_astore2, x_iinc, q_iadd, q_isub, q_imul, q_iand, q_ior, q_ixor, q_ladd, q_lsub, q_lmul, q_land, q_lor, q_lxor, q_idiv, q_irem, q_ldiv, q_lrem, q_ineg, q_lneg, q_ishl, q_ishr, q_iushr, q_lshl, q_lshr, q_lushr, q_i2l, q_l2i, q_i2b, q_i2c, q_lcmp, q_if_eq, q_if_ne, q_if_lt, q_if_ge, q_if_gt, q_if_le, q_icmp_eq, q_icmp_ne, q_icmp_lt, q_icmp_ge, q_icmp_gt, q_icmp_le, q_dup, q_pop, q_dup_x1, q_dup2, x_iret, x_zret, x_lret, x_aret, x_vret, x_call, x_callv, x_calli, x_oinit, x_mmax, x_mmin, x_mabs, x_mmaxL, x_mminL, x_mabsL, lg_cmp_ge, lg_cmp_le, lg_cmp_gt, lg_cmp_lt, lg_cmp_eq, xlk, q_xs1, q_xs2, lv_args, Value.category, List.filter_cons, List.filter_nil, Nat.reduceAdd, Nat.reduceBEq, Nat.reduceEqDiff, Nat.reduceSub, Nat.sub_zero, beq_self_eq_true, Bool.not_true, Bool.not_false, Bool.and_true, Bool.and_false, Bool.true_and, Bool.false_and, reduceIte, reduceCtorEq, Bool.false_eq_true, Nat.one_ne_zero, Nat.zero_ne_one, Nat.zero_add, Option.toList_some, Option.toList_none, List.nil_append, List.cons_append, List.take_succ_cons, List.take_zero, List.take_nil, List.drop_succ_cons, List.drop_zero, List.length_cons, List.length_nil, List.reverse_cons, List.reverse_nil, List.head?_cons, List.map_cons, List.map_nil, List.sum_cons, List.sum_nil, true_and, and_true, List.getElem?_cons_zero, List.getElem?_cons_succ, Prod.eta, x_iast, x_bald, x_bast, x_last, x_alen, xup_s, xup_a1, xup_1a, xup_uu, nr_i, nr_l, nr_o, nr_a, ft_i, ft_l, ft_o, ft_a, Nat.reduceLT, i_cl0, i_cl1, i_n1, i_m1, List.set_cons_zero, List.set_cons_succ, Nat.reduceLeDiff, Nat.le_refl, Nat.zero_le, Nat.add_zero, x_no, x_ifnull, x_ifnonnull, x_acmp_eq, x_acmp_ne, x_swl, x_tsw, x_castC, true_or, or_true, nr_z, ft_z, nr_z0, nr_z1, ft_z0, ft_z1, nr_on, nr_an, ft_on, ft_an, b_X3_nearest_102, b_X3_nearest_115, reO.g0 v5.1, reO.g1 v5.1, reO.g2 v5.1, reO.g3 v5.1, reO.g4 v5.1, reO.g5 v5.1, reO.p0 v5.1, reO.p1 v5.1, reO.p2 v5.1, reO.p2a v5.1, reO.p2b v5.1, reO.p3 v5.1, reO.p3a v5.1, reO.p3b v5.1, s0]
      refine ⟨fun c => ?_, fun c => ?_⟩
      · rw [if_neg (by omega), lZ_nat] at hq; exact hq
      · rw [if_pos (by omega), ← lZ_neg, lZ_nat] at hq; exact hq
    have f98 : (M < V ∨ V = M ∧ N % 2 = 1) → ∀ z, b_X3_nearest_98 Q [(4, .int z), (2, .long (lN N)), (0, .ref x), (1, .ref a)] [] (h5, S2) := by
      intro c z
      have := f102 (N + 1) (by rw [if_pos c]; rfl) (.int z)
      have e9 : lN N + 1 = lN (N + 1) := by rw [show (1 : Int64) = lN 1 from rfl, lN_add]
      simp only [q_c, x_iload, x_lload, x_aload, q_istore, q_lstore, q_astore, q_astore2, x_iinc, q_iadd, q_isub, q_imul, q_iand, q_ior, q_ixor, q_ladd, q_lsub, q_lmul, q_land, q_lor, q_lxor, q_idiv, q_irem, q_ldiv, q_lrem, q_ineg, q_lneg, q_ishl, q_ishr, q_iushr, q_lshl, q_lshr, q_lushr, q_i2l, q_l2i, q_i2b, q_i2c, q_lcmp, q_if_eq, q_if_ne, q_if_lt, q_if_ge, q_if_gt, q_if_le, q_icmp_eq, q_icmp_ne, q_icmp_lt, q_icmp_ge, q_icmp_gt, q_icmp_le, q_dup, q_pop, q_dup_x1, q_dup2, x_iret, x_zret, x_lret, x_aret, x_vret, x_call, x_callv, x_calli, x_oinit, x_mmax, x_mmin, x_mabs, x_mmaxL, x_mminL, x_mabsL, lg_cmp_ge, lg_cmp_le, lg_cmp_gt, lg_cmp_lt, lg_cmp_eq, xlk, q_xs1, q_xs2, lv_args, Value.category, List.filter_cons, List.filter_nil, Nat.reduceAdd, Nat.reduceBEq, Nat.reduceEqDiff, Nat.reduceSub, Nat.sub_zero, beq_self_eq_true, Bool.not_true, Bool.not_false, Bool.and_true, Bool.and_false, Bool.true_and, Bool.false_and, reduceIte, reduceCtorEq, Bool.false_eq_true, Nat.one_ne_zero, Nat.zero_ne_one, Nat.zero_add, Option.toList_some, Option.toList_none, List.nil_append, List.cons_append, List.take_succ_cons, List.take_zero, List.take_nil, List.drop_succ_cons, List.drop_zero, List.length_cons, List.length_nil, List.reverse_cons, List.reverse_nil, List.head?_cons, List.map_cons, List.map_nil, List.sum_cons, List.sum_nil, true_and, and_true, List.getElem?_cons_zero, List.getElem?_cons_succ, Prod.eta, x_iast, x_bald, x_bast, x_last, x_alen, xup_s, xup_a1, xup_1a, xup_uu, nr_i, nr_l, nr_o, nr_a, ft_i, ft_l, ft_o, ft_a, Nat.reduceLT, i_cl0, i_cl1, i_n1, i_m1, List.set_cons_zero, List.set_cons_succ, Nat.reduceLeDiff, Nat.le_refl, Nat.zero_le, Nat.add_zero, x_no, x_ifnull, x_ifnonnull, x_acmp_eq, x_acmp_ne, x_swl, x_tsw, x_castC, true_or, or_true, nr_z, ft_z, nr_z0, nr_z1, ft_z0, ft_z1, nr_on, nr_an, ft_on, ft_an, b_X3_nearest_98, e9]
      exact this
    rw [h102] at f102'
    rw [h98] at f98
    generalize cmpR V M = Z at *
    simp only [q_c, x_iload, x_lload, x_aload, q_istore, q_lstore, q_astore, q_astore2, x_iinc, q_iadd, q_isub, q_imul, q_iand, q_ior, q_ixor, q_ladd, q_lsub, q_lmul, q_land, q_lor, q_lxor, q_idiv, q_irem, q_ldiv, q_lrem, q_ineg, q_lneg, q_ishl, q_ishr, q_iushr, q_lshl, q_lshr, q_lushr, q_i2l, q_l2i, q_i2b, q_i2c, q_lcmp, q_if_eq, q_if_ne, q_if_lt, q_if_ge, q_if_gt, q_if_le, q_icmp_eq, q_icmp_ne, q_icmp_lt, q_icmp_ge, q_icmp_gt, q_icmp_le, q_dup, q_pop, q_dup_x1, q_dup2, x_iret, x_zret, x_lret, x_aret, x_vret, x_call, x_callv, x_calli, x_oinit, x_mmax, x_mmin, x_mabs, x_mmaxL, x_mminL, x_mabsL, lg_cmp_ge, lg_cmp_le, lg_cmp_gt, lg_cmp_lt, lg_cmp_eq, xlk, q_xs1, q_xs2, lv_args, Value.category, List.filter_cons, List.filter_nil, Nat.reduceAdd, Nat.reduceBEq, Nat.reduceEqDiff, Nat.reduceSub, Nat.sub_zero, beq_self_eq_true, Bool.not_true, Bool.not_false, Bool.and_true, Bool.and_false, Bool.true_and, Bool.false_and, reduceIte, reduceCtorEq, Bool.false_eq_true, Nat.one_ne_zero, Nat.zero_ne_one, Nat.zero_add, Option.toList_some, Option.toList_none, List.nil_append, List.cons_append, List.take_succ_cons, List.take_zero, List.take_nil, List.drop_succ_cons, List.drop_zero, List.length_cons, List.length_nil, List.reverse_cons, List.reverse_nil, List.head?_cons, List.map_cons, List.map_nil, List.sum_cons, List.sum_nil, true_and, and_true, List.getElem?_cons_zero, List.getElem?_cons_succ, Prod.eta, x_iast, x_bald, x_bast, x_last, x_alen, xup_s, xup_a1, xup_1a, xup_uu, nr_i, nr_l, nr_o, nr_a, ft_i, ft_l, ft_o, ft_a, Nat.reduceLT, i_cl0, i_cl1, i_n1, i_m1, List.set_cons_zero, List.set_cons_succ, Nat.reduceLeDiff, Nat.le_refl, Nat.zero_le, Nat.add_zero, x_no, x_ifnull, x_ifnonnull, x_acmp_eq, x_acmp_ne, x_swl, x_tsw, x_castC, true_or, or_true, nr_z, ft_z, nr_z0, nr_z1, ft_z0, ft_z1, nr_on, nr_an, ft_on, ft_an, cp, c0, q3]
    exact ⟨fun c => f98 (Or.inl c) _, fun c => ⟨fun d => f102' (by rw [if_neg (by rintro (g | g); exact c g; exact d g.1)]) _, fun d => ⟨fun o => f102' (by rw [if_neg (by rintro (g | g); exact c g; omega)]) _, fun o => f98 (Or.inr ⟨d, by omega⟩) _⟩⟩⟩
  · have hq := hQ h2 y (xoff_wd oA (by omega) (by omega)) w
    rcases Decidable.em (s = 0) with z | z
    · rw [(sz.2.1 rfl z).1]
      rw [z, rv_0, nr_0] at hq
      exact hq
    · have zz := sz.2.2.1 rfl z rfl
      rw [y0] at zz
      rw [rvv z, if_neg (by omega), (nr_f zz).1, lZ_nat] at hq
      exact hq
  · have hq := hQ h2 y (xoff_wd oA (by omega) (by omega)) w
    have zz := sz.2.2.1 rfl (by omega) rfl
    rw [y0] at zz
    rw [rvv (by omega), if_pos (by omega), (nr_f zz).2, ← lZ_neg, lZ_nat] at hq
    exact hq
