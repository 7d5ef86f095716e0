/-! Reader: digits -/
theorem dX7_takeDigits_0 : decode cX7_takeDigits 0 = .ok (.aload_n 0, 1) := by decide +kernel
theorem dX7_takeDigits_1 : decode cX7_takeDigits 1 = .ok (.getfield 23, 3) := by decide +kernel
theorem dX7_takeDigits_4 : decode cX7_takeDigits 4 = .ok (.istore 4, 2) := by decide +kernel
theorem dX7_takeDigits_6 : decode cX7_takeDigits 6 = .ok (.iconst 0, 1) := by decide +kernel
theorem dX7_takeDigits_7 : decode cX7_takeDigits 7 = .ok (.istore 5, 2) := by decide +kernel
theorem dX7_takeDigits_9 : decode cX7_takeDigits 9 = .ok (.aload_n 0, 1) := by decide +kernel
theorem dX7_takeDigits_10 : decode cX7_takeDigits 10 = .ok (.getfield 19, 3) := by decide +kernel
theorem dX7_takeDigits_13 : decode cX7_takeDigits 13 = .ok (.ifnonnull 7, 3) := by decide +kernel
theorem dX7_takeDigits_16 : decode cX7_takeDigits 16 = .ok (.iconst 0, 1) := by decide +kernel
theorem dX7_takeDigits_17 : decode cX7_takeDigits 17 = .ok (.goto 8, 3) := by decide +kernel
theorem dX7_takeDigits_20 : decode cX7_takeDigits 20 = .ok (.aload_n 0, 1) := by decide +kernel
theorem dX7_takeDigits_21 : decode cX7_takeDigits 21 = .ok (.getfield 19, 3) := by decide +kernel
theorem dX7_takeDigits_24 : decode cX7_takeDigits 24 = .ok (.arraylength, 1) := by decide +kernel
theorem dX7_takeDigits_25 : decode cX7_takeDigits 25 = .ok (.istore 6, 2) := by decide +kernel
theorem dX7_takeDigits_27 : decode cX7_takeDigits 27 = .ok (.aload_n 0, 1) := by decide +kernel
theorem dX7_takeDigits_28 : decode cX7_takeDigits 28 = .ok (.iconst (-1), 1) := by decide +kernel
theorem dX7_takeDigits_29 : decode cX7_takeDigits 29 = .ok (.putfield 139, 3) := by decide +kernel
theorem dX7_takeDigits_32 : decode cX7_takeDigits 32 = .ok (.aload_n 1, 1) := by decide +kernel
theorem dX7_takeDigits_33 : decode cX7_takeDigits 33 = .ok (.lconst 0, 1) := by decide +kernel
theorem dX7_takeDigits_34 : decode cX7_takeDigits 34 = .ok (.invokevirtual 170, 3) := by decide +kernel
theorem dX7_takeDigits_37 : decode cX7_takeDigits 37 = .ok (.aload_n 0, 1) := by decide +kernel
theorem dX7_takeDigits_38 : decode cX7_takeDigits 38 = .ok (.getfield 23, 3) := by decide +kernel
theorem dX7_takeDigits_41 : decode cX7_takeDigits 41 = .ok (.iload 6, 2) := by decide +kernel
theorem dX7_takeDigits_43 : decode cX7_takeDigits 43 = .ok (.if_icmp .ge 89, 3) := by decide +kernel
theorem dX7_takeDigits_46 : decode cX7_takeDigits 46 = .ok (.aload_n 0, 1) := by decide +kernel
theorem dX7_takeDigits_47 : decode cX7_takeDigits 47 = .ok (.invokevirtual 96, 3) := by decide +kernel
theorem dX7_takeDigits_50 : decode cX7_takeDigits 50 = .ok (.istore 7, 2) := by decide +kernel
theorem dX7_takeDigits_52 : decode cX7_takeDigits 52 = .ok (.iload 7, 2) := by decide +kernel
theorem dX7_takeDigits_54 : decode cX7_takeDigits 54 = .ok (.invokestatic 173, 3) := by decide +kernel
theorem dX7_takeDigits_57 : decode cX7_takeDigits 57 = .ok (.istore 8, 2) := by decide +kernel
theorem dX7_takeDigits_59 : decode cX7_takeDigits 59 = .ok (.iload 8, 2) := by decide +kernel
theorem dX7_takeDigits_61 : decode cX7_takeDigits 61 = .ok (.ifCond .lt 34, 3) := by decide +kernel
theorem dX7_takeDigits_64 : decode cX7_takeDigits 64 = .ok (.iload 8, 2) := by decide +kernel
theorem dX7_takeDigits_66 : decode cX7_takeDigits 66 = .ok (.iload_n 2, 1) := by decide +kernel
theorem dX7_takeDigits_67 : decode cX7_takeDigits 67 = .ok (.if_icmp .ge 28, 3) := by decide +kernel
theorem dX7_takeDigits_70 : decode cX7_takeDigits 70 = .ok (.aload_n 1, 1) := by decide +kernel
theorem dX7_takeDigits_71 : decode cX7_takeDigits 71 = .ok (.iload_n 2, 1) := by decide +kernel
theorem dX7_takeDigits_72 : decode cX7_takeDigits 72 = .ok (.iload 8, 2) := by decide +kernel
theorem dX7_takeDigits_74 : decode cX7_takeDigits 74 = .ok (.invokevirtual 176, 3) := by decide +kernel
theorem dX7_takeDigits_77 : decode cX7_takeDigits 77 = .ok (.iload 5, 2) := by decide +kernel
theorem dX7_takeDigits_79 : decode cX7_takeDigits 79 = .ok (.ifCond .le 40, 3) := by decide +kernel
theorem dX7_takeDigits_82 : decode cX7_takeDigits 82 = .ok (.aload_n 0, 1) := by decide +kernel
theorem dX7_takeDigits_83 : decode cX7_takeDigits 83 = .ok (.dup, 1) := by decide +kernel
theorem dX7_takeDigits_84 : decode cX7_takeDigits 84 = .ok (.getfield 139, 3) := by decide +kernel
theorem dX7_takeDigits_87 : decode cX7_takeDigits 87 = .ok (.iconst 1, 1) := by decide +kernel
theorem dX7_takeDigits_88 : decode cX7_takeDigits 88 = .ok (.iadd, 1) := by decide +kernel
theorem dX7_takeDigits_89 : decode cX7_takeDigits 89 = .ok (.putfield 139, 3) := by decide +kernel
theorem dX7_takeDigits_92 : decode cX7_takeDigits 92 = .ok (.goto 27, 3) := by decide +kernel
theorem dX7_takeDigits_95 : decode cX7_takeDigits 95 = .ok (.iload 7, 2) := by decide +kernel
theorem dX7_takeDigits_97 : decode cX7_takeDigits 97 = .ok (.bipush 46, 2) := by decide +kernel
theorem dX7_takeDigits_99 : decode cX7_takeDigits 99 = .ok (.if_icmp .ne 33, 3) := by decide +kernel
theorem dX7_takeDigits_102 : decode cX7_takeDigits 102 = .ok (.iload_n 3, 1) := by decide +kernel
theorem dX7_takeDigits_103 : decode cX7_takeDigits 103 = .ok (.ifCond .eq 29, 3) := by decide +kernel
theorem dX7_takeDigits_106 : decode cX7_takeDigits 106 = .ok (.iload 5, 2) := by decide +kernel
theorem dX7_takeDigits_108 : decode cX7_takeDigits 108 = .ok (.ifCond .ne 24, 3) := by decide +kernel
theorem dX7_takeDigits_111 : decode cX7_takeDigits 111 = .ok (.iconst 1, 1) := by decide +kernel
theorem dX7_takeDigits_112 : decode cX7_takeDigits 112 = .ok (.istore 5, 2) := by decide +kernel
theorem dX7_takeDigits_114 : decode cX7_takeDigits 114 = .ok (.aload_n 0, 1) := by decide +kernel
theorem dX7_takeDigits_115 : decode cX7_takeDigits 115 = .ok (.iconst 0, 1) := by decide +kernel
theorem dX7_takeDigits_116 : decode cX7_takeDigits 116 = .ok (.putfield 139, 3) := by decide +kernel
theorem dX7_takeDigits_119 : decode cX7_takeDigits 119 = .ok (.aload_n 0, 1) := by decide +kernel
theorem dX7_takeDigits_120 : decode cX7_takeDigits 120 = .ok (.dup, 1) := by decide +kernel
theorem dX7_takeDigits_121 : decode cX7_takeDigits 121 = .ok (.getfield 23, 3) := by decide +kernel
theorem dX7_takeDigits_124 : decode cX7_takeDigits 124 = .ok (.iconst 1, 1) := by decide +kernel
theorem dX7_takeDigits_125 : decode cX7_takeDigits 125 = .ok (.iadd, 1) := by decide +kernel
theorem dX7_takeDigits_126 : decode cX7_takeDigits 126 = .ok (.putfield 23, 3) := by decide +kernel
theorem dX7_takeDigits_129 : decode cX7_takeDigits 129 = .ok (.goto (-92), 3) := by decide +kernel
theorem dX7_takeDigits_132 : decode cX7_takeDigits 132 = .ok (.aload_n 0, 1) := by decide +kernel
theorem dX7_takeDigits_133 : decode cX7_takeDigits 133 = .ok (.getfield 23, 3) := by decide +kernel
theorem dX7_takeDigits_136 : decode cX7_takeDigits 136 = .ok (.iload 4, 2) := by decide +kernel
theorem dX7_takeDigits_138 : decode cX7_takeDigits 138 = .ok (.isub, 1) := by decide +kernel
theorem dX7_takeDigits_139 : decode cX7_takeDigits 139 = .ok (.iload 5, 2) := by decide +kernel
theorem dX7_takeDigits_141 : decode cX7_takeDigits 141 = .ok (.if_icmp .le 7, 3) := by decide +kernel
theorem dX7_takeDigits_144 : decode cX7_takeDigits 144 = .ok (.iconst 1, 1) := by decide +kernel
theorem dX7_takeDigits_145 : decode cX7_takeDigits 145 = .ok (.goto 4, 3) := by decide +kernel
theorem dX7_takeDigits_148 : decode cX7_takeDigits 148 = .ok (.iconst 0, 1) := by decide +kernel
theorem dX7_takeDigits_149 : decode cX7_takeDigits 149 = .ok (.ireturn, 1) := by decide +kernel
abbrev r_X7_takeDigits : Room := { frames := 2, cells := 0, slots := 0, locals := 47 }
abbrev m_X7_takeDigits : xMd := (cX7_takeDigits, RX7, 9, (some FieldType.boolean), false, r_X7_takeDigits)
def b_X7_takeDigits_25 (Q : xQ) (K37 : xK) : xK := x_istore 6 <| x_aload 0 <| x_c (.int (-1)) <| x_put 6 5 .int <| x_aload 1 <| x_c (.long 0) <| x_callv 1 C_X0_become 2 0 0 <| K37
def b_X7_takeDigits_119 (Q : xQ) (K37 : xK) : xK := x_aload 0 <| x_dup <| x_get 6 3 <| x_c (.int 1) <| x_iadd <| x_put 6 3 .int <| K37
def b_X7_takeDigits_149 (Q : xQ) (K37 : xK) : xK := x_zret FieldType.boolean Q
def b_X7_takeDigits_0 (Q : xQ) (K37 : xK) : xK := x_aload 0 <| x_get 6 3 <| x_istore 4 <| x_c (.int 0) <| x_istore 5 <| x_aload 0 <| x_get 6 2 <| x_ifnonnull (x_aload 0 <| x_get 6 2 <| x_alen <| (b_X7_takeDigits_25 Q K37)) <| x_c (.int 0) <| (b_X7_takeDigits_25 Q K37)
def b_X7_takeDigits_132 (Q : xQ) (K37 : xK) : xK := x_aload 0 <| x_get 6 3 <| x_iload 4 <| x_isub <| x_iload 5 <| x_icmp_le (x_c (.int 0) <| (b_X7_takeDigits_149 Q K37)) <| x_c (.int 1) <| (b_X7_takeDigits_149 Q K37)
def b_X7_takeDigits_95 (Q : xQ) (K37 : xK) : xK := x_iload 7 <| x_c (.int 46) <| x_icmp_ne ((b_X7_takeDigits_132 Q K37)) <| x_iload 3 <| x_if_eq ((b_X7_takeDigits_132 Q K37)) <| x_iload 5 <| x_if_ne ((b_X7_takeDigits_132 Q K37)) <| x_c (.int 1) <| x_istore 5 <| x_aload 0 <| x_c (.int 0) <| x_put 6 5 .int <| (b_X7_takeDigits_119 Q K37)
def b_X7_takeDigits_37 (Q : xQ) (K37 : xK) : xK := x_aload 0 <| x_get 6 3 <| x_iload 6 <| x_icmp_ge ((b_X7_takeDigits_132 Q K37)) <| x_aload 0 <| x_callv 6 C_X7_peek 1 0 0 <| x_istore 7 <| x_iload 7 <| x_call C_X7_digitOf 1 0 0 <| x_istore 8 <| x_iload 8 <| x_if_lt ((b_X7_takeDigits_95 Q K37)) <| x_iload 8 <| x_iload 2 <| x_icmp_ge ((b_X7_takeDigits_95 Q K37)) <| x_aload 1 <| x_iload 2 <| x_iload 8 <| x_callv 1 C_X0_timesPlus 3 0 0 <| x_iload 5 <| x_if_le ((b_X7_takeDigits_119 Q K37)) <| x_aload 0 <| x_dup <| x_get 6 5 <| x_c (.int 1) <| x_iadd <| x_put 6 5 .int <| (b_X7_takeDigits_119 Q K37)
theorem s_X7_takeDigits_25 (G : xG) (l : Launch) (Q : xQ) (K37 : xK) (h37 : xW G l m_X7_takeDigits xX0 (xPm G Q r_X7_takeDigits) 37 K37) : xW G l m_X7_takeDigits xX0 (xPm G Q r_X7_takeDigits) 25 (b_X7_takeDigits_25 Q K37) := xo_istore (pc := 25) (i := 6) dX7_takeDigits_25 (by decide) <| xo_aload_n (pc := 27) (i := 0) dX7_takeDigits_27 rfl <| xo_iconst (pc := 28) dX7_takeDigits_28 (by decide) <| xo_put (pc := 29) (ci := 6) (i := 5) rfl ok6 (by decide) rfl rfl dX7_takeDigits_29 kw220 <| xo_aload_n (pc := 32) (i := 1) dX7_takeDigits_32 rfl <| xo_lconst (pc := 33) dX7_takeDigits_33 (by decide) <| xo_callV (pc := 34) (np := 1) (ci := 1) rfl (cM_X0_become G l) dX7_takeDigits_34 kw492 kw523 kw490 kw491 kw6 (by decide +kernel) (by decide) <| h37
theorem s_X7_takeDigits_119 (G : xG) (l : Launch) (Q : xQ) (K37 : xK) (h37 : xW G l m_X7_takeDigits xX0 (xPm G Q r_X7_takeDigits) 37 K37) : xW G l m_X7_takeDigits xX0 (xPm G Q r_X7_takeDigits) 119 (b_X7_takeDigits_119 Q K37) := xo_aload_n (pc := 119) (i := 0) dX7_takeDigits_119 rfl <| xo_dup (pc := 120) dX7_takeDigits_120 <| xo_get (pc := 121) (ci := 6) (i := 3) rfl ok6 (by decide) dX7_takeDigits_121 kw217 <| xo_iconst (pc := 124) dX7_takeDigits_124 (by decide) <| xo_iadd (pc := 125) dX7_takeDigits_125 <| xo_put (pc := 126) (ci := 6) (i := 3) rfl ok6 (by decide) rfl rfl dX7_takeDigits_126 kw217 <| xo_goto (pc := 129) (tgt := 37) dX7_takeDigits_129 (by decide) <| h37
theorem s_X7_takeDigits_149 (G : xG) (l : Launch) (Q : xQ) (K37 : xK) (h37 : xW G l m_X7_takeDigits xX0 (xPm G Q r_X7_takeDigits) 37 K37) : xW G l m_X7_takeDigits xX0 (xPm G Q r_X7_takeDigits) 149 (b_X7_takeDigits_149 Q K37) := xo_zret (pc := 149) rfl dX7_takeDigits_149
theorem s_X7_takeDigits_0 (G : xG) (l : Launch) (Q : xQ) (K37 : xK) (h37 : xW G l m_X7_takeDigits xX0 (xPm G Q r_X7_takeDigits) 37 K37) : xW G l m_X7_takeDigits xX0 (xPm G Q r_X7_takeDigits) 0 (b_X7_takeDigits_0 Q K37) := xo_aload_n (pc := 0) (i := 0) dX7_takeDigits_0 rfl <| xo_get (pc := 1) (ci := 6) (i := 3) rfl ok6 (by decide) dX7_takeDigits_1 kw217 <| xo_istore (pc := 4) (i := 4) dX7_takeDigits_4 (by decide) <| xo_iconst (pc := 6) dX7_takeDigits_6 (by decide) <| xo_istore (pc := 7) (i := 5) dX7_takeDigits_7 (by decide) <| xo_aload_n (pc := 9) (i := 0) dX7_takeDigits_9 rfl <| xo_get (pc := 10) (ci := 6) (i := 2) rfl ok6 (by decide) dX7_takeDigits_10 kw216 <| xo_ifnonnull (pc := 13) (tgt := 20) dX7_takeDigits_13 (by decide) (xo_aload_n (pc := 20) (i := 0) dX7_takeDigits_20 rfl <| xo_get (pc := 21) (ci := 6) (i := 2) rfl ok6 (by decide) dX7_takeDigits_21 kw216 <| xo_alen (pc := 24) dX7_takeDigits_24 <| (s_X7_takeDigits_25 G l Q K37 h37)) <| xo_iconst (pc := 16) dX7_takeDigits_16 (by decide) <| xo_goto (pc := 17) (tgt := 25) dX7_takeDigits_17 (by decide) <| (s_X7_takeDigits_25 G l Q K37 h37)
theorem s_X7_takeDigits_132 (G : xG) (l : Launch) (Q : xQ) (K37 : xK) (h37 : xW G l m_X7_takeDigits xX0 (xPm G Q r_X7_takeDigits) 37 K37) : xW G l m_X7_takeDigits xX0 (xPm G Q r_X7_takeDigits) 132 (b_X7_takeDigits_132 Q K37) := xo_aload_n (pc := 132) (i := 0) dX7_takeDigits_132 rfl <| xo_get (pc := 133) (ci := 6) (i := 3) rfl ok6 (by decide) dX7_takeDigits_133 kw217 <| xo_iload (pc := 136) (i := 4) dX7_takeDigits_136 <| xo_isub (pc := 138) dX7_takeDigits_138 <| xo_iload (pc := 139) (i := 5) dX7_takeDigits_139 <| xo_icmp_le (pc := 141) (tgt := 148) dX7_takeDigits_141 (by decide) (xo_iconst (pc := 148) dX7_takeDigits_148 (by decide) <| (s_X7_takeDigits_149 G l Q K37 h37)) <| xo_iconst (pc := 144) dX7_takeDigits_144 (by decide) <| xo_goto (pc := 145) (tgt := 149) dX7_takeDigits_145 (by decide) <| (s_X7_takeDigits_149 G l Q K37 h37)
theorem s_X7_takeDigits_95 (G : xG) (l : Launch) (Q : xQ) (K37 : xK) (h37 : xW G l m_X7_takeDigits xX0 (xPm G Q r_X7_takeDigits) 37 K37) : xW G l m_X7_takeDigits xX0 (xPm G Q r_X7_takeDigits) 95 (b_X7_takeDigits_95 Q K37) := xo_iload (pc := 95) (i := 7) dX7_takeDigits_95 <| xo_bipush (pc := 97) dX7_takeDigits_97 (by decide) <| xo_icmp_ne (pc := 99) (tgt := 132) dX7_takeDigits_99 (by decide) ((s_X7_takeDigits_132 G l Q K37 h37)) <| xo_iload_n (pc := 102) (i := 3) dX7_takeDigits_102 rfl <| xo_if_eq (pc := 103) (tgt := 132) dX7_takeDigits_103 (by decide) ((s_X7_takeDigits_132 G l Q K37 h37)) <| xo_iload (pc := 106) (i := 5) dX7_takeDigits_106 <| xo_if_ne (pc := 108) (tgt := 132) dX7_takeDigits_108 (by decide) ((s_X7_takeDigits_132 G l Q K37 h37)) <| xo_iconst (pc := 111) dX7_takeDigits_111 (by decide) <| xo_istore (pc := 112) (i := 5) dX7_takeDigits_112 (by decide) <| xo_aload_n (pc := 114) (i := 0) dX7_takeDigits_114 rfl <| xo_iconst (pc := 115) dX7_takeDigits_115 (by decide) <| xo_put (pc := 116) (ci := 6) (i := 5) rfl ok6 (by decide) rfl rfl dX7_takeDigits_116 kw220 <| (s_X7_takeDigits_119 G l Q K37 h37)
theorem s_X7_takeDigits_37 (G : xG) (l : Launch) (Q : xQ) (K37 : xK) (h37 : xW G l m_X7_takeDigits xX0 (xPm G Q r_X7_takeDigits) 37 K37) : xW G l m_X7_takeDigits xX0 (xPm G Q r_X7_takeDigits) 37 (b_X7_takeDigits_37 Q K37) := xo_aload_n (pc := 37) (i := 0) dX7_takeDigits_37 rfl <| xo_get (pc := 38) (ci := 6) (i := 3) rfl ok6 (by decide) dX7_takeDigits_38 kw217 <| xo_iload (pc := 41) (i := 6) dX7_takeDigits_41 <| xo_icmp_ge (pc := 43) (tgt := 132) dX7_takeDigits_43 (by decide) ((s_X7_takeDigits_132 G l Q K37 h37)) <| xo_aload_n (pc := 46) (i := 0) dX7_takeDigits_46 rfl <| xo_callV (pc := 47) (np := 0) (ci := 6) rfl (cM_X7_peek G l) dX7_takeDigits_47 kw496 kw493 kw495 ks8 kw11 (by decide +kernel) (by decide) <| xo_istore (pc := 50) (i := 7) dX7_takeDigits_50 (by decide) <| xo_iload (pc := 52) (i := 7) dX7_takeDigits_52 <| xo_callS (pc := 54) (np := 1) (cM_X7_digitOf G l) dX7_takeDigits_54 kw526 kw524 kw525 kw11 (by decide +kernel) (by decide) <| xo_istore (pc := 57) (i := 8) dX7_takeDigits_57 (by decide) <| xo_iload (pc := 59) (i := 8) dX7_takeDigits_59 <| xo_if_lt (pc := 61) (tgt := 95) dX7_takeDigits_61 (by decide) ((s_X7_takeDigits_95 G l Q K37 h37)) <| xo_iload (pc := 64) (i := 8) dX7_takeDigits_64 <| xo_iload_n (pc := 66) (i := 2) dX7_takeDigits_66 rfl <| xo_icmp_ge (pc := 67) (tgt := 95) dX7_takeDigits_67 (by decide) ((s_X7_takeDigits_95 G l Q K37 h37)) <| xo_aload_n (pc := 70) (i := 1) dX7_takeDigits_70 rfl <| xo_iload_n (pc := 71) (i := 2) dX7_takeDigits_71 rfl <| xo_iload (pc := 72) (i := 8) dX7_takeDigits_72 <| xo_callV (pc := 74) (np := 2) (ci := 1) rfl (cM_X0_timesPlus G l) dX7_takeDigits_74 kw530 kw527 kw528 kw529 kw6 (by decide +kernel) (by decide) <| xo_iload (pc := 77) (i := 5) dX7_takeDigits_77 <| xo_if_le (pc := 79) (tgt := 119) dX7_takeDigits_79 (by decide) ((s_X7_takeDigits_119 G l Q K37 h37)) <| xo_aload_n (pc := 82) (i := 0) dX7_takeDigits_82 rfl <| xo_dup (pc := 83) dX7_takeDigits_83 <| xo_get (pc := 84) (ci := 6) (i := 5) rfl ok6 (by decide) dX7_takeDigits_84 kw220 <| xo_iconst (pc := 87) dX7_takeDigits_87 (by decide) <| xo_iadd (pc := 88) dX7_takeDigits_88 <| xo_put (pc := 89) (ci := 6) (i := 5) rfl ok6 (by decide) rfl rfl dX7_takeDigits_89 kw220 <| xo_goto (pc := 92) (tgt := 119) dX7_takeDigits_92 (by decide) <| (s_X7_takeDigits_119 G l Q K37 h37)

def fD (h' h : xH) (x a : Nat) : Prop := ∀ q, q ≠ x + 38 → (q < a ∨ a + 2 ≤ q) → h' q = h q
theorem fD.tr {h h' h'' : xH} {x a : Nat} (u : fD h'' h' x a) (v : fD h' h x a) : fD h'' h x a := fun q c d => (u q c d).trans (v q c d)
theorem fD.b {h h' : xH} {x a : Nat} (o : xoff h' h a (a + 2)) : fD h' h x a := fun q _ d => o q (by omega)
theorem fD.r {h h' : xH} {x a : Nat} (o : fR h' h x) : fD h' h x a := fun q c _ => o q (by omega)
def tdQ (Q : xQ) (h : xH) (S2 : Nat × Nat × Nat) (x a B tx p g : Nat) (fi op : Bool) (n : Nat) (t : Nat → Nat) (q : Nat) (pt : Bool) (dg sc v : Nat) : Prop := ∀ p' dg' sc' v', rdG B t (n - q) q pt dg sc v = (p', dg', sc', v') → ∀ h', fD h' h x a → rdW h' x tx p' g (if p' = p + dg' then -1 else (sc' : Int)) fi op n t → bigV h' a v' → Q (some (.int (bI (decide (0 < dg'))))) (h', S2)
def cn_X7_takeDigits : Nat × Nat × Nat × Bool × Nat × Nat × Nat → List (Nat × Value) := fun v => [(0, .ref (v.1 + 38)), (1, .ref v.2.1), (2, .int (nI v.2.2.1)), (3, .int (bI v.2.2.2.1)), (4, .int (nI v.2.2.2.2.1)), (5, .int (nI v.2.2.2.2.2.1)), (6, .int (nI v.2.2.2.2.2.2))]
def I_X7_takeDigits (Q : xQ) : Nat → Nat × Nat × Nat × Bool × Nat × Nat × Nat → xS → Prop := fun c v S => match v with
  | (x, a, B, mp, p, pts, n) => ∃ (tx q g : Nat) (fi op : Bool) (t : Nat → Nat) (pt : Bool) (dg sc v : Nat), c = n - q ∧ q = p + dg + pts ∧ (pts = 0 ∨ pts = 1) ∧ (pt = true ↔ mp = false ∨ pts = 1) ∧ (pt = false → sc = 0) ∧ v < 16 ^ dg ∧ (B = 10 ∨ B = 16) ∧ a + 2 ≤ x + 38 ∧ rdW S.1 x tx q g (if pts = 0 then -1 else (sc : Int)) fi op n t ∧ bigV S.1 a v ∧ tdQ Q S.1 S.2 x a B tx p g fi op n t q pt dg sc v
def C_X7_takeDigits : xC := fun av S Q => ∃ (x a B : Nat) (mp : Bool) (tx p g : Nat) (bh : Int) (fi op : Bool) (n : Nat) (t : Nat → Nat) (v : Nat), av = [.ref (x + 38), .ref a, .int (nI B), .int (bI mp)] ∧ (B = 10 ∨ B = 16) ∧ a + 2 ≤ x + 38 ∧ rdW S.1 x tx p g bh fi op n t ∧ bigV S.1 a v ∧ tdQ Q S.1 S.2 x a B tx p g fi op n t p (!mp) 0 0 0
theorem dgV_h {b : Nat} (h : b < 256) : dgV (b : Int) = if hxB b < 16 then (hxB b : Int) else -1 := by
  unfold dgV hxB
  by_cases c : 48 ≤ b ∧ b ≤ 57
  · rw [if_pos (by omega), if_pos c, if_pos (by omega)]
    omega
  · rw [if_neg (by omega), if_neg c]
    by_cases d : 97 ≤ b ∧ b ≤ 102
    · rw [if_pos (by omega), if_pos d, if_pos (by omega)]
      omega
    · rw [if_neg (by omega), if_neg d, if_neg (by omega)]
theorem stp {n q : Nat} (y : q < n) : ∃ k, n - q = k + 1 ∧ n - (q + 1) = k := ⟨n - (q + 1), by omega, rfl⟩
theorem hx_46 : hxB 46 = 99 := by decide
theorem hx_v {v d B dg : Nat} (hv : v < 16 ^ dg) (hd : d < B) (hB : B = 10 ∨ B = 16) (h4 : dg < 400) : v * B + d < 2 ^ 6400 := by
  have a := h16 (dig_b hv hd hB) (by omega)
  have b : (2 : Nat) ^ 1600 < 2 ^ 6400 := Nat.pow_lt_pow_right (a := 2) (by decide) (Nat.lt_of_sub_pos (by decide : 0 < 6400 - 1600))
  exact Nat.lt_trans a b
set_option maxHeartbeats 1000000 in
theorem cM_X7_takeDigits (G : xG) (l : Launch) : xM G l yX7_takeDigits cX7_takeDigits 9 (some FieldType.boolean) r_X7_takeDigits C_X7_takeDigits := by
  refine xM_of (fun Q => b_X7_takeDigits_0 Q (xInv cn_X7_takeDigits (I_X7_takeDigits Q))) RX7 false (fun Q => s_X7_takeDigits_0 G l Q _ (xW.lp (b_X7_takeDigits_37 Q) (fun K hK => s_X7_takeDigits_37 G l Q K hK) ?_)) (by decide) rfl (by decide) ?_
  · rintro c ⟨x, a, B, mp, p, pts, n⟩ ⟨h, S2⟩ ⟨tx, q, g, fi, op, t, pt, dg, sc, v, rfl, hq, hp, ht, hz, hv, hB, ha, w, bg, hQ⟩
    dsimp only at *
    have c1 : cn_X7_takeDigits (x, a, B, mp, p, pts, n) = [(0, .ref (x + 38)), (1, .ref a), (2, .int (nI B)), (3, .int (bI mp)), (4, .int (nI p)), (5, .int (nI pts)), (6, .int (nI n))] := rfl
    rw [c1]
    have wp := w.2.2.1
    have nb := w.2.1.2.1
    have tb := w.2.1.2.2 q
    have q1 : nI n ≤ nI q ↔ n ≤ q := nc_le (by omega) (by omega)
    have q5 : nI pts = 0 ↔ pts = 0 := nI_eq (b := 0) (by omega) (by decide)
    have q6 : nI pts ≤ 0 ↔ pts ≤ 0 := nc_le (b := 0) (by omega) (by decide)
    have es : nI q - nI p = nI (q - p) := pk_sub (by omega)
    have q7 : nI (q - p) ≤ nI pts ↔ q - p ≤ pts := nc_le (by omega) (by omega)
    have eq1 : nI q + 1 = nI (q + 1) := nI_1 q
    generalize hK : xInvL cn_X7_takeDigits (I_X7_takeDigits Q) (n - q) = K
    have g132 : rdG B t (n - q) q pt dg sc v = (q, dg, sc, v) → ∀ lv, xlk lv 0 = some (.ref (x + 38)) → xlk lv 4 = some (.int (nI p)) → xlk lv 5 = some (.int (nI pts)) → b_X7_takeDigits_132 Q K lv [] (h, S2) := by
      intro er lv l0 l4 l5
      have qq := hQ q dg sc v er h (fun _ _ _ => rfl)
      have wb : (if q = p + dg then -1 else (sc : Int)) = if pts = 0 then -1 else (sc : Int) := by
        rcases hp with y | y
        · rw [if_pos (by omega), if_pos y]
        · rw [if_neg (by omega), if_neg (by omega)]
      rw [wb] at qq
      have qq := qq w bg
      simp only [q_c, x_iload, x_lload, x_aload, q_istore, q_lstore, q_astore, q_astore2, x_iinc, q_iadd, q_isub, q_imul, q_iand, q_ior, q_ixor, q_ladd, q_lsub, q_lmul, q_land, q_lor, q_lxor, q_idiv, q_irem, q_ldiv, q_lrem, q_ineg, q_lneg, q_ishl, q_ishr, q_iushr, q_lshl, q_lshr, q_lushr, q_i2l, q_l2i, q_i2b, q_i2c, q_lcmp, q_if_eq, q_if_ne, q_if_lt, q_if_ge, q_if_gt, q_if_le, q_icmp_eq, q_icmp_ne, q_icmp_lt, q_icmp_ge, q_icmp_gt, q_icmp_le, q_dup, q_pop, q_dup_x1, q_dup2, x_iret, x_zret, x_lret, x_aret, x_vret, x_call, x_callv, x_calli, x_oinit, x_mmax, x_mmin, x_mabs, x_mmaxL, x_mminL, x_mabsL, lg_cmp_ge, lg_cmp_le, lg_cmp_gt, lg_cmp_lt, lg_cmp_eq, xlk, q_xs1, q_xs2, lv_args, Value.category, List.filter_cons, List.filter_nil, Nat.reduceAdd, Nat.reduceBEq, Nat.reduceEqDiff, Nat.reduceSub, Nat.sub_zero, beq_self_eq_true, Bool.not_true, Bool.not_false, Bool.and_true, Bool.and_false, Bool.true_and, Bool.false_and, reduceIte, reduceCtorEq, Bool.false_eq_true, Nat.one_ne_zero, Nat.zero_ne_one, Nat.zero_add, Option.toList_some, Option.toList_none, List.nil_append, List.cons_append, List.take_succ_cons, List.take_zero, List.take_nil, List.drop_succ_cons, List.drop_zero, List.length_cons, List.length_nil, List.reverse_cons, List.reverse_nil, List.head?_cons, List.map_cons, List.map_nil, List.sum_cons, List.sum_nil, true_and, and_true, List.getElem?_cons_zero, List.getElem?_cons_succ, Prod.eta, x_iast, x_bald, x_bast, x_last, x_alen, xup_s, xup_a1, xup_1a, xup_uu, nr_i, nr_l, nr_o, nr_a, ft_i, ft_l, ft_o, ft_a, Nat.reduceLT, i_cl0, i_cl1, i_n1, i_m1, List.set_cons_zero, List.set_cons_succ, Nat.reduceLeDiff, Nat.le_refl, Nat.zero_le, Nat.add_zero, x_no, x_ifnull, x_ifnonnull, x_acmp_eq, x_acmp_ne, x_swl, x_tsw, x_castC, true_or, or_true, nr_z, ft_z, nr_z0, nr_z1, ft_z0, ft_z1, nr_on, nr_an, ft_on, ft_an, b_X7_takeDigits_132, b_X7_takeDigits_149, l0, l4, l5, w.1.g3, es, q7]
      refine ⟨fun y => ?_, fun y => ?_⟩
      · rw [decide_eq_false (by omega)] at qq
        exact qq
      · rw [decide_eq_true (by omega)] at qq
        exact qq
    have g95 : q < n → ¬ hxB (t q) < B → ∀ y8 : Int32, b_X7_takeDigits_95 Q K [(8, .int y8), (7, .int (nI (t q))), (0, .ref (x + 38)), (1, .ref a), (2, .int (nI B)), (3, .int (bI mp)), (4, .int (nI p)), (5, .int (nI pts)), (6, .int (nI n))] [] (h, S2) := by
      intro qn nh y8
      obtain ⟨k, k1, k2⟩ := stp qn
      have stop : ¬ (t q = 46 ∧ pt = false) → rdG B t (n - q) q pt dg sc v = (q, dg, sc, v) := by
        intro y
        rw [k1, rdG, if_neg (fun z => z.elim nh y)]
      have q46 : nI (t q) = 46 ↔ t q = 46 := nI_eq (b := 46) (by omega) (by decide)
      unfold b_X7_takeDigits_95 b_X7_takeDigits_119
      generalize b_X7_takeDigits_132 Q K = J at *
      simp only [q_c, x_iload, x_lload, x_aload, q_istore, q_lstore, q_astore, q_astore2, x_iinc, q_iadd, q_isub, q_imul, q_iand, q_ior, q_ixor, q_ladd, q_lsub, q_lmul, q_land, q_lor, q_lxor, q_idiv, q_irem, q_ldiv, q_lrem, q_ineg, q_lneg, q_ishl, q_ishr, q_iushr, q_lshl, q_lshr, q_lushr, q_i2l, q_l2i, q_i2b, q_i2c, q_lcmp, q_if_eq, q_if_ne, q_if_lt, q_if_ge, q_if_gt, q_if_le, q_icmp_eq, q_icmp_ne, q_icmp_lt, q_icmp_ge, q_icmp_gt, q_icmp_le, q_dup, q_pop, q_dup_x1, q_dup2, x_iret, x_zret, x_lret, x_aret, x_vret, x_call, x_callv, x_calli, x_oinit, x_mmax, x_mmin, x_mabs, x_mmaxL, x_mminL, x_mabsL, lg_cmp_ge, lg_cmp_le, lg_cmp_gt, lg_cmp_lt, lg_cmp_eq, xlk, q_xs1, q_xs2, lv_args, Value.category, List.filter_cons, List.filter_nil, Nat.reduceAdd, Nat.reduceBEq, Nat.reduceEqDiff, Nat.reduceSub, Nat.sub_zero, beq_self_eq_true, Bool.not_true, Bool.not_false, Bool.and_true, Bool.and_false, Bool.true_and, Bool.false_and, reduceIte, reduceCtorEq, Bool.false_eq_true, Nat.one_ne_zero, Nat.zero_ne_one, Nat.zero_add, Option.toList_some, Option.toList_none, List.nil_append, List.cons_append, List.take_succ_cons, List.take_zero, List.take_nil, List.drop_succ_cons, List.drop_zero, List.length_cons, List.length_nil, List.reverse_cons, List.reverse_nil, List.head?_cons, List.map_cons, List.map_nil, List.sum_cons, List.sum_nil, true_and, and_true, List.getElem?_cons_zero, List.getElem?_cons_succ, Prod.eta, x_iast, x_bald, x_bast, x_last, x_alen, xup_s, xup_a1, xup_1a, xup_uu, nr_i, nr_l, nr_o, nr_a, ft_i, ft_l, ft_o, ft_a, Nat.reduceLT, i_cl0, i_cl1, i_n1, i_m1, List.set_cons_zero, List.set_cons_succ, Nat.reduceLeDiff, Nat.le_refl, Nat.zero_le, Nat.add_zero, x_no, x_ifnull, x_ifnonnull, x_acmp_eq, x_acmp_ne, x_swl, x_tsw, x_castC, true_or, or_true, nr_z, ft_z, nr_z0, nr_z1, ft_z0, ft_z1, nr_on, nr_an, ft_on, ft_an, q46, bI_e0, q5]
      refine ⟨fun y => g132 (stop (fun z => y z.1)) _ rfl rfl rfl, fun y => ⟨fun z => g132 (stop (fun u => ?_)) _ rfl rfl rfl, fun z => ⟨fun u => g132 (stop (fun u' => ?_)) _ rfl rfl rfl, fun u => ?_⟩⟩⟩
      · exact absurd (ht.mpr (Or.inl z)) (by rw [u.2]; decide)
      · exact absurd (ht.mpr (Or.inr (by omega))) (by rw [u'.2]; decide)
      · have pf : pt = false := by
          cases hpt : pt
          · rfl
          · rcases ht.mp hpt with o | o
            · exact absurd o z
            · omega
        have sc0 := hz pf
        have wz := w.up (p' := q) (g' := g) (bh' := 0) (fi' := fi) (op' := op) wp
        have wn := wz.up (p' := q + 1) (g' := g) (bh' := 0) (fi' := fi) (op' := op) (by omega)
        rw [xup_uu] at wn
        have er : rdG B t (n - q) q pt dg sc v = rdG B t (n - (q + 1)) (q + 1) true dg sc v := by
          rw [k1, k2, rdG, if_pos (Or.inr ⟨y, pf⟩), if_pos y]
        have z0 : iZ 0 = 0 := rfl
        rw [z0] at wz
        simp only [q_c, x_iload, x_lload, x_aload, q_istore, q_lstore, q_astore, q_astore2, x_iinc, q_iadd, q_isub, q_imul, q_iand, q_ior, q_ixor, q_ladd, q_lsub, q_lmul, q_land, q_lor, q_lxor, q_idiv, q_irem, q_ldiv, q_lrem, q_ineg, q_lneg, q_ishl, q_ishr, q_iushr, q_lshl, q_lshr, q_lushr, q_i2l, q_l2i, q_i2b, q_i2c, q_lcmp, q_if_eq, q_if_ne, q_if_lt, q_if_ge, q_if_gt, q_if_le, q_icmp_eq, q_icmp_ne, q_icmp_lt, q_icmp_ge, q_icmp_gt, q_icmp_le, q_dup, q_pop, q_dup_x1, q_dup2, x_iret, x_zret, x_lret, x_aret, x_vret, x_call, x_callv, x_calli, x_oinit, x_mmax, x_mmin, x_mabs, x_mmaxL, x_mminL, x_mabsL, lg_cmp_ge, lg_cmp_le, lg_cmp_gt, lg_cmp_lt, lg_cmp_eq, xlk, q_xs1, q_xs2, lv_args, Value.category, List.filter_cons, List.filter_nil, Nat.reduceAdd, Nat.reduceBEq, Nat.reduceEqDiff, Nat.reduceSub, Nat.sub_zero, beq_self_eq_true, Bool.not_true, Bool.not_false, Bool.and_true, Bool.and_false, Bool.true_and, Bool.false_and, reduceIte, reduceCtorEq, Bool.false_eq_true, Nat.one_ne_zero, Nat.zero_ne_one, Nat.zero_add, Option.toList_some, Option.toList_none, List.nil_append, List.cons_append, List.take_succ_cons, List.take_zero, List.take_nil, List.drop_succ_cons, List.drop_zero, List.length_cons, List.length_nil, List.reverse_cons, List.reverse_nil, List.head?_cons, List.map_cons, List.map_nil, List.sum_cons, List.sum_nil, true_and, and_true, List.getElem?_cons_zero, List.getElem?_cons_succ, Prod.eta, x_iast, x_bald, x_bast, x_last, x_alen, xup_s, xup_a1, xup_1a, xup_uu, nr_i, nr_l, nr_o, nr_a, ft_i, ft_l, ft_o, ft_a, Nat.reduceLT, i_cl0, i_cl1, i_n1, i_m1, List.set_cons_zero, List.set_cons_succ, Nat.reduceLeDiff, Nat.le_refl, Nat.zero_le, Nat.add_zero, x_no, x_ifnull, x_ifnonnull, x_acmp_eq, x_acmp_ne, x_swl, x_tsw, x_castC, true_or, or_true, nr_z, ft_z, nr_z0, nr_z1, ft_z0, ft_z1, nr_on, nr_an, ft_on, ft_an, w.1.p5, wz.1.g3, rdO.p3 (bh := 0) wz.1, eq1]
        rw [← hK]
        refine xInvL.mk (n - (q + 1)) (x, a, B, mp, p, 1, n) (by omega) ⟨rfl, rfl, rfl, rfl, rfl, rfl, rfl, trivial⟩ ⟨tx, q + 1, g, fi, op, t, true, dg, sc, v, rfl, by omega, Or.inr rfl, ⟨fun _ => Or.inr rfl, fun _ => rfl⟩, fun o => absurd o (by decide), hv, hB, ha, ?_, ?_, ?_⟩
        · rw [if_neg (by decide), sc0]
          exact wn
        · exact bg.off (off1 (r := x + 38)) (by omega)
        · intro p' dg' sc' v' er' h' f' w' b'
          exact hQ p' dg' sc' v' (by rw [er]; exact er') h' (f'.tr (fD.r off1)) w' b'
    unfold b_X7_takeDigits_37 b_X7_takeDigits_119
    generalize b_X7_takeDigits_132 Q K = J at *
    generalize b_X7_takeDigits_95 Q K = J2 at *
    simp only [q_c, x_iload, x_lload, x_aload, q_istore, q_lstore, q_astore, q_astore2, x_iinc, q_iadd, q_isub, q_imul, q_iand, q_ior, q_ixor, q_ladd, q_lsub, q_lmul, q_land, q_lor, q_lxor, q_idiv, q_irem, q_ldiv, q_lrem, q_ineg, q_lneg, q_ishl, q_ishr, q_iushr, q_lshl, q_lshr, q_lushr, q_i2l, q_l2i, q_i2b, q_i2c, q_lcmp, q_if_eq, q_if_ne, q_if_lt, q_if_ge, q_if_gt, q_if_le, q_icmp_eq, q_icmp_ne, q_icmp_lt, q_icmp_ge, q_icmp_gt, q_icmp_le, q_dup, q_pop, q_dup_x1, q_dup2, x_iret, x_zret, x_lret, x_aret, x_vret, x_call, x_callv, x_calli, x_oinit, x_mmax, x_mmin, x_mabs, x_mmaxL, x_mminL, x_mabsL, lg_cmp_ge, lg_cmp_le, lg_cmp_gt, lg_cmp_lt, lg_cmp_eq, xlk, q_xs1, q_xs2, lv_args, Value.category, List.filter_cons, List.filter_nil, Nat.reduceAdd, Nat.reduceBEq, Nat.reduceEqDiff, Nat.reduceSub, Nat.sub_zero, beq_self_eq_true, Bool.not_true, Bool.not_false, Bool.and_true, Bool.and_false, Bool.true_and, Bool.false_and, reduceIte, reduceCtorEq, Bool.false_eq_true, Nat.one_ne_zero, Nat.zero_ne_one, Nat.zero_add, Option.toList_some, Option.toList_none, List.nil_append, List.cons_append, List.take_succ_cons, List.take_zero, List.take_nil, List.drop_succ_cons, List.drop_zero, List.length_cons, List.length_nil, List.reverse_cons, List.reverse_nil, List.head?_cons, List.map_cons, List.map_nil, List.sum_cons, List.sum_nil, true_and, and_true, List.getElem?_cons_zero, List.getElem?_cons_succ, Prod.eta, x_iast, x_bald, x_bast, x_last, x_alen, xup_s, xup_a1, xup_1a, xup_uu, nr_i, nr_l, nr_o, nr_a, ft_i, ft_l, ft_o, ft_a, Nat.reduceLT, i_cl0, i_cl1, i_n1, i_m1, List.set_cons_zero, List.set_cons_succ, Nat.reduceLeDiff, Nat.le_refl, Nat.zero_le, Nat.add_zero, x_no, x_ifnull, x_ifnonnull, x_acmp_eq, x_acmp_ne, x_swl, x_tsw, x_castC, true_or, or_true, nr_z, ft_z, nr_z0, nr_z1, ft_z0, ft_z1, nr_on, nr_an, ft_on, ft_an, w.1.g3, q1]
    refine ⟨fun y => g132 (by rw [show n - q = 0 by omega]; rfl) _ rfl rfl rfl, fun y => ?_⟩
    have qn : q < n := by omega
    obtain ⟨k, k1, k2⟩ := stp qn
    have pv : iZ (pkV t n q) = nI (t q) := by
      unfold pkV
      rw [if_pos qn, iZ_nat]
    refine ⟨w.rc, x, tx, q, g, _, fi, op, n, t, rfl, w, ?_⟩
    simp only [q_c, x_iload, x_lload, x_aload, q_istore, q_lstore, q_astore, q_astore2, x_iinc, q_iadd, q_isub, q_imul, q_iand, q_ior, q_ixor, q_ladd, q_lsub, q_lmul, q_land, q_lor, q_lxor, q_idiv, q_irem, q_ldiv, q_lrem, q_ineg, q_lneg, q_ishl, q_ishr, q_iushr, q_lshl, q_lshr, q_lushr, q_i2l, q_l2i, q_i2b, q_i2c, q_lcmp, q_if_eq, q_if_ne, q_if_lt, q_if_ge, q_if_gt, q_if_le, q_icmp_eq, q_icmp_ne, q_icmp_lt, q_icmp_ge, q_icmp_gt, q_icmp_le, q_dup, q_pop, q_dup_x1, q_dup2, x_iret, x_zret, x_lret, x_aret, x_vret, x_call, x_callv, x_calli, x_oinit, x_mmax, x_mmin, x_mabs, x_mmaxL, x_mminL, x_mabsL, lg_cmp_ge, lg_cmp_le, lg_cmp_gt, lg_cmp_lt, lg_cmp_eq, xlk, q_xs1, q_xs2, lv_args, Value.category, List.filter_cons, List.filter_nil, Nat.reduceAdd, Nat.reduceBEq, Nat.reduceEqDiff, Nat.reduceSub, Nat.sub_zero, beq_self_eq_true, Bool.not_true, Bool.not_false, Bool.and_true, Bool.and_false, Bool.true_and, Bool.false_and, reduceIte, reduceCtorEq, Bool.false_eq_true, Nat.one_ne_zero, Nat.zero_ne_one, Nat.zero_add, Option.toList_some, Option.toList_none, List.nil_append, List.cons_append, List.take_succ_cons, List.take_zero, List.take_nil, List.drop_succ_cons, List.drop_zero, List.length_cons, List.length_nil, List.reverse_cons, List.reverse_nil, List.head?_cons, List.map_cons, List.map_nil, List.sum_cons, List.sum_nil, true_and, and_true, List.getElem?_cons_zero, List.getElem?_cons_succ, Prod.eta, x_iast, x_bald, x_bast, x_last, x_alen, xup_s, xup_a1, xup_1a, xup_uu, nr_i, nr_l, nr_o, nr_a, ft_i, ft_l, ft_o, ft_a, Nat.reduceLT, i_cl0, i_cl1, i_n1, i_m1, List.set_cons_zero, List.set_cons_succ, Nat.reduceLeDiff, Nat.le_refl, Nat.zero_le, Nat.add_zero, x_no, x_ifnull, x_ifnonnull, x_acmp_eq, x_acmp_ne, x_swl, x_tsw, x_castC, true_or, or_true, nr_z, ft_z, nr_z0, nr_z1, ft_z0, ft_z1, nr_on, nr_an, ft_on, ft_an, pv]
    refine ⟨(t q : Int), by rw [iZ_nat], by omega, by omega, ?_⟩
    rw [dgV_h tb]
    have hB' : B ≤ 16 := by omega
    by_cases c16 : hxB (t q) < 16
    · rw [if_pos c16, iZ_nat]
      have l0 : (nI (hxB (t q)) < 0) = False := eq_false (by rw [i_lt, nI_toInt (by omega), i_0]; omega)
      have l1 : nI B ≤ nI (hxB (t q)) ↔ B ≤ hxB (t q) := nc_le (by omega) (by omega)
      simp only [q_c, x_iload, x_lload, x_aload, q_istore, q_lstore, q_astore, q_astore2, x_iinc, q_iadd, q_isub, q_imul, q_iand, q_ior, q_ixor, q_ladd, q_lsub, q_lmul, q_land, q_lor, q_lxor, q_idiv, q_irem, q_ldiv, q_lrem, q_ineg, q_lneg, q_ishl, q_ishr, q_iushr, q_lshl, q_lshr, q_lushr, q_i2l, q_l2i, q_i2b, q_i2c, q_lcmp, q_if_eq, q_if_ne, q_if_lt, q_if_ge, q_if_gt, q_if_le, q_icmp_eq, q_icmp_ne, q_icmp_lt, q_icmp_ge, q_icmp_gt, q_icmp_le, q_dup, q_pop, q_dup_x1, q_dup2, x_iret, x_zret, x_lret, x_aret, x_vret, x_call, x_callv, x_calli, x_oinit, x_mmax, x_mmin, x_mabs, x_mmaxL, x_mminL, x_mabsL, lg_cmp_ge, lg_cmp_le, lg_cmp_gt, lg_cmp_lt, lg_cmp_eq, xlk, q_xs1, q_xs2, lv_args, Value.category, List.filter_cons, List.filter_nil, Nat.reduceAdd, Nat.reduceBEq, Nat.reduceEqDiff, Nat.reduceSub, Nat.sub_zero, beq_self_eq_true, Bool.not_true, Bool.not_false, Bool.and_true, Bool.and_false, Bool.true_and, Bool.false_and, reduceIte, reduceCtorEq, Bool.false_eq_true, Nat.one_ne_zero, Nat.zero_ne_one, Nat.zero_add, Option.toList_some, Option.toList_none, List.nil_append, List.cons_append, List.take_succ_cons, List.take_zero, List.take_nil, List.drop_succ_cons, List.drop_zero, List.length_cons, List.length_nil, List.reverse_cons, List.reverse_nil, List.head?_cons, List.map_cons, List.map_nil, List.sum_cons, List.sum_nil, true_and, and_true, List.getElem?_cons_zero, List.getElem?_cons_succ, Prod.eta, x_iast, x_bald, x_bast, x_last, x_alen, xup_s, xup_a1, xup_1a, xup_uu, nr_i, nr_l, nr_o, nr_a, ft_i, ft_l, ft_o, ft_a, Nat.reduceLT, i_cl0, i_cl1, i_n1, i_m1, List.set_cons_zero, List.set_cons_succ, Nat.reduceLeDiff, Nat.le_refl, Nat.zero_le, Nat.add_zero, x_no, x_ifnull, x_ifnonnull, x_acmp_eq, x_acmp_ne, x_swl, x_tsw, x_castC, true_or, or_true, nr_z, ft_z, nr_z0, nr_z1, ft_z0, ft_z1, nr_on, nr_an, ft_on, ft_an, l0, l1, true_implies, not_true_eq_false, false_implies, not_false_eq_true]
      refine ⟨fun z => g95 qn (by omega) _, fun z => ?_⟩
      have hb : hxB (t q) < B := by omega
      have n46 : t q ≠ 46 := fun o => by rw [o, hx_46] at hb; omega
      have dv := hx_v (dg := dg) hv hb hB (by omega)
      refine kb_tp (F := B) (A := hxB (t q)) bg (by omega) (by omega) (by omega) dv (fun h2 o2 b2 => ?_)
      have w2 : rdW h2 x tx q g (if pts = 0 then -1 else (sc : Int)) fi op n t := w.off o2 (by omega)
      have er : rdG B t (n - q) q pt dg sc v = rdG B t (n - (q + 1)) (q + 1) pt (dg + 1) (if pt = true then sc + 1 else sc) (v * B + hxB (t q)) := by
        rw [k1, k2, rdG, if_pos (Or.inl hb), if_neg n46]
      have fin : ∀ h3, fD h3 h2 x a → bigV h3 a (v * B + hxB (t q)) → tdQ Q h3 S2 x a B tx p g fi op n t (q + 1) pt (dg + 1) (if pt = true then sc + 1 else sc) (v * B + hxB (t q)) := by
        intro h3 f3 b3 p' dg' sc' v' er' h' f' w' b'
        exact hQ p' dg' sc' v' (by rw [er]; exact er') h' ((f'.tr f3).tr (fD.b o2)) w' b'
      have scz : pt = false → (if pt = true then sc + 1 else sc) = 0 := fun o => by rw [if_neg (by rw [o]; decide)]; exact hz o
      simp only [q_c, x_iload, x_lload, x_aload, q_istore, q_lstore, q_astore, q_astore2, x_iinc, q_iadd, q_isub, q_imul, q_iand, q_ior, q_ixor, q_ladd, q_lsub, q_lmul, q_land, q_lor, q_lxor, q_idiv, q_irem, q_ldiv, q_lrem, q_ineg, q_lneg, q_ishl, q_ishr, q_iushr, q_lshl, q_lshr, q_lushr, q_i2l, q_l2i, q_i2b, q_i2c, q_lcmp, q_if_eq, q_if_ne, q_if_lt, q_if_ge, q_if_gt, q_if_le, q_icmp_eq, q_icmp_ne, q_icmp_lt, q_icmp_ge, q_icmp_gt, q_icmp_le, q_dup, q_pop, q_dup_x1, q_dup2, x_iret, x_zret, x_lret, x_aret, x_vret, x_call, x_callv, x_calli, x_oinit, x_mmax, x_mmin, x_mabs, x_mmaxL, x_mminL, x_mabsL, lg_cmp_ge, lg_cmp_le, lg_cmp_gt, lg_cmp_lt, lg_cmp_eq, xlk, q_xs1, q_xs2, lv_args, Value.category, List.filter_cons, List.filter_nil, Nat.reduceAdd, Nat.reduceBEq, Nat.reduceEqDiff, Nat.reduceSub, Nat.sub_zero, beq_self_eq_true, Bool.not_true, Bool.not_false, Bool.and_true, Bool.and_false, Bool.true_and, Bool.false_and, reduceIte, reduceCtorEq, Bool.false_eq_true, Nat.one_ne_zero, Nat.zero_ne_one, Nat.zero_add, Option.toList_some, Option.toList_none, List.nil_append, List.cons_append, List.take_succ_cons, List.take_zero, List.take_nil, List.drop_succ_cons, List.drop_zero, List.length_cons, List.length_nil, List.reverse_cons, List.reverse_nil, List.head?_cons, List.map_cons, List.map_nil, List.sum_cons, List.sum_nil, true_and, and_true, List.getElem?_cons_zero, List.getElem?_cons_succ, Prod.eta, x_iast, x_bald, x_bast, x_last, x_alen, xup_s, xup_a1, xup_1a, xup_uu, nr_i, nr_l, nr_o, nr_a, ft_i, ft_l, ft_o, ft_a, Nat.reduceLT, i_cl0, i_cl1, i_n1, i_m1, List.set_cons_zero, List.set_cons_succ, Nat.reduceLeDiff, Nat.le_refl, Nat.zero_le, Nat.add_zero, x_no, x_ifnull, x_ifnonnull, x_acmp_eq, x_acmp_ne, x_swl, x_tsw, x_castC, true_or, or_true, nr_z, ft_z, nr_z0, nr_z1, ft_z0, ft_z1, nr_on, nr_an, ft_on, ft_an, q6]
      refine ⟨fun u => ?_, fun u => ?_⟩
      · have p0 : pts = 0 := by omega
        rw [if_pos p0] at w2
        have wn := w2.up (p' := q + 1) (g' := g) (bh' := -1) (fi' := fi) (op' := op) (by omega)
        simp only [q_c, x_iload, x_lload, x_aload, q_istore, q_lstore, q_astore, q_astore2, x_iinc, q_iadd, q_isub, q_imul, q_iand, q_ior, q_ixor, q_ladd, q_lsub, q_lmul, q_land, q_lor, q_lxor, q_idiv, q_irem, q_ldiv, q_lrem, q_ineg, q_lneg, q_ishl, q_ishr, q_iushr, q_lshl, q_lshr, q_lushr, q_i2l, q_l2i, q_i2b, q_i2c, q_lcmp, q_if_eq, q_if_ne, q_if_lt, q_if_ge, q_if_gt, q_if_le, q_icmp_eq, q_icmp_ne, q_icmp_lt, q_icmp_ge, q_icmp_gt, q_icmp_le, q_dup, q_pop, q_dup_x1, q_dup2, x_iret, x_zret, x_lret, x_aret, x_vret, x_call, x_callv, x_calli, x_oinit, x_mmax, x_mmin, x_mabs, x_mmaxL, x_mminL, x_mabsL, lg_cmp_ge, lg_cmp_le, lg_cmp_gt, lg_cmp_lt, lg_cmp_eq, xlk, q_xs1, q_xs2, lv_args, Value.category, List.filter_cons, List.filter_nil, Nat.reduceAdd, Nat.reduceBEq, Nat.reduceEqDiff, Nat.reduceSub, Nat.sub_zero, beq_self_eq_true, Bool.not_true, Bool.not_false, Bool.and_true, Bool.and_false, Bool.true_and, Bool.false_and, reduceIte, reduceCtorEq, Bool.false_eq_true, Nat.one_ne_zero, Nat.zero_ne_one, Nat.zero_add, Option.toList_some, Option.toList_none, List.nil_append, List.cons_append, List.take_succ_cons, List.take_zero, List.take_nil, List.drop_succ_cons, List.drop_zero, List.length_cons, List.length_nil, List.reverse_cons, List.reverse_nil, List.head?_cons, List.map_cons, List.map_nil, List.sum_cons, List.sum_nil, true_and, and_true, List.getElem?_cons_zero, List.getElem?_cons_succ, Prod.eta, x_iast, x_bald, x_bast, x_last, x_alen, xup_s, xup_a1, xup_1a, xup_uu, nr_i, nr_l, nr_o, nr_a, ft_i, ft_l, ft_o, ft_a, Nat.reduceLT, i_cl0, i_cl1, i_n1, i_m1, List.set_cons_zero, List.set_cons_succ, Nat.reduceLeDiff, Nat.le_refl, Nat.zero_le, Nat.add_zero, x_no, x_ifnull, x_ifnonnull, x_acmp_eq, x_acmp_ne, x_swl, x_tsw, x_castC, true_or, or_true, nr_z, ft_z, nr_z0, nr_z1, ft_z0, ft_z1, nr_on, nr_an, ft_on, ft_an, w2.1.g3, w2.1.p3, eq1]
        rw [← hK]
        refine xInvL.mk (n - (q + 1)) (x, a, B, mp, p, pts, n) (by omega) ⟨rfl, rfl, rfl, rfl, rfl, rfl, rfl, trivial⟩ ⟨tx, q + 1, g, fi, op, t, pt, dg + 1, _, _, rfl, by omega, hp, ht, scz, dig_b hv hb hB, hB, ha, ?_, b2.off (off1 (r := x + 38)) (by omega), fin _ (fD.r off1) (b2.off (off1 (r := x + 38)) (by omega))⟩
        rw [if_pos p0]
        exact wn
      · have p1 : pts = 1 := by omega
        have pt1 : pt = true := ht.mpr (Or.inr p1)
        rw [if_neg (by omega)] at w2
        have e5 : iZ (sc : Int) + 1 = iZ ((sc + 1 : Nat) : Int) := by
          rw [iZ_nat, iZ_nat]
          exact nI_1 sc
        have wz := w2.up (p' := q) (g' := g) (bh' := ((sc + 1 : Nat) : Int)) (fi' := fi) (op' := op) wp
        have wn := wz.up (p' := q + 1) (g' := g) (bh' := ((sc + 1 : Nat) : Int)) (fi' := fi) (op' := op) (by omega)
        rw [xup_uu] at wn
        simp only [q_c, x_iload, x_lload, x_aload, q_istore, q_lstore, q_astore, q_astore2, x_iinc, q_iadd, q_isub, q_imul, q_iand, q_ior, q_ixor, q_ladd, q_lsub, q_lmul, q_land, q_lor, q_lxor, q_idiv, q_irem, q_ldiv, q_lrem, q_ineg, q_lneg, q_ishl, q_ishr, q_iushr, q_lshl, q_lshr, q_lushr, q_i2l, q_l2i, q_i2b, q_i2c, q_lcmp, q_if_eq, q_if_ne, q_if_lt, q_if_ge, q_if_gt, q_if_le, q_icmp_eq, q_icmp_ne, q_icmp_lt, q_icmp_ge, q_icmp_gt, q_icmp_le, q_dup, q_pop, q_dup_x1, q_dup2, x_iret, x_zret, x_lret, x_aret, x_vret, x_call, x_callv, x_calli, x_oinit, x_mmax, x_mmin, x_mabs, x_mmaxL, x_mminL, x_mabsL, lg_cmp_ge, lg_cmp_le, lg_cmp_gt, lg_cmp_lt, lg_cmp_eq, xlk, q_xs1, q_xs2, lv_args, Value.category, List.filter_cons, List.filter_nil, Nat.reduceAdd, Nat.reduceBEq, Nat.reduceEqDiff, Nat.reduceSub, Nat.sub_zero, beq_self_eq_true, Bool.not_true, Bool.not_false, Bool.and_true, Bool.and_false, Bool.true_and, Bool.false_and, reduceIte, reduceCtorEq, Bool.false_eq_true, Nat.one_ne_zero, Nat.zero_ne_one, Nat.zero_add, Option.toList_some, Option.toList_none, List.nil_append, List.cons_append, List.take_succ_cons, List.take_zero, List.take_nil, List.drop_succ_cons, List.drop_zero, List.length_cons, List.length_nil, List.reverse_cons, List.reverse_nil, List.head?_cons, List.map_cons, List.map_nil, List.sum_cons, List.sum_nil, true_and, and_true, List.getElem?_cons_zero, List.getElem?_cons_succ, Prod.eta, x_iast, x_bald, x_bast, x_last, x_alen, xup_s, xup_a1, xup_1a, xup_uu, nr_i, nr_l, nr_o, nr_a, ft_i, ft_l, ft_o, ft_a, Nat.reduceLT, i_cl0, i_cl1, i_n1, i_m1, List.set_cons_zero, List.set_cons_succ, Nat.reduceLeDiff, Nat.le_refl, Nat.zero_le, Nat.add_zero, x_no, x_ifnull, x_ifnonnull, x_acmp_eq, x_acmp_ne, x_swl, x_tsw, x_castC, true_or, or_true, nr_z, ft_z, nr_z0, nr_z1, ft_z0, ft_z1, nr_on, nr_an, ft_on, ft_an, w2.1.g5, w2.1.p5, e5, wz.1.g3, wz.1.p3, eq1]
        rw [← hK]
        refine xInvL.mk (n - (q + 1)) (x, a, B, mp, p, pts, n) (by omega) ⟨rfl, rfl, rfl, rfl, rfl, rfl, rfl, trivial⟩ ⟨tx, q + 1, g, fi, op, t, pt, dg + 1, _, _, rfl, by omega, hp, ht, scz, dig_b hv hb hB, hB, ha, ?_, b2.off (off1 (r := x + 38)) (by omega), fin _ (fD.r off1) (b2.off (off1 (r := x + 38)) (by omega))⟩
        rw [if_neg (by omega), if_pos pt1]
        exact wn
    · rw [if_neg c16]
      have l0 : (iZ (-1) < 0) = True := eq_true (by decide)
      simp only [q_c, x_iload, x_lload, x_aload, q_istore, q_lstore, q_astore, q_astore2, x_iinc, q_iadd, q_isub, q_imul, q_iand, q_ior, q_ixor, q_ladd, q_lsub, q_lmul, q_land, q_lor, q_lxor, q_idiv, q_irem, q_ldiv, q_lrem, q_ineg, q_lneg, q_ishl, q_ishr, q_iushr, q_lshl, q_lshr, q_lushr, q_i2l, q_l2i, q_i2b, q_i2c, q_lcmp, q_if_eq, q_if_ne, q_if_lt, q_if_ge, q_if_gt, q_if_le, q_icmp_eq, q_icmp_ne, q_icmp_lt, q_icmp_ge, q_icmp_gt, q_icmp_le, q_dup, q_pop, q_dup_x1, q_dup2, x_iret, x_zret, x_lret, x_aret, x_vret, x_call, x_callv, x_calli, x_oinit, x_mmax, x_mmin, x_mabs, x_mmaxL, x_mminL, x_mabsL, lg_cmp_ge, lg_cmp_le, lg_cmp_gt, lg_cmp_lt, lg_cmp_eq, xlk, q_xs1, q_xs2, lv_args, Value.category, List.filter_cons, List.filter_nil, Nat.reduceAdd, Nat.reduceBEq, Nat.reduceEqDiff, Nat.reduceSub, Nat.sub_zero, beq_self_eq_true, Bool.not_true, Bool.not_false, Bool.and_true, Bool.and_false, Bool.true_and, Bool.false_and, reduceIte, reduceCtorEq, Bool.false_eq_true, Nat.one_ne_zero, Nat.zero_ne_one, Nat.zero_add, Option.toList_some, Option.toList_none, List.nil_append, List.cons_append, List.take_succ_cons, List.take_zero, List.take_nil, List.drop_succ_cons, List.drop_zero, List.length_cons, List.length_nil, List.reverse_cons, List.reverse_nil, List.head?_cons, List.map_cons, List.map_nil, List.sum_cons, List.sum_nil, true_and, and_true, List.getElem?_cons_zero, List.getElem?_cons_succ, Prod.eta, x_iast, x_bald, x_bast, x_last, x_alen, xup_s, xup_a1, xup_1a, xup_uu, nr_i, nr_l, nr_o, nr_a, ft_i, ft_l, ft_o, ft_a, Nat.reduceLT, i_cl0, i_cl1, i_n1, i_m1, List.set_cons_zero, List.set_cons_succ, Nat.reduceLeDiff, Nat.le_refl, Nat.zero_le, Nat.add_zero, x_no, x_ifnull, x_ifnonnull, x_acmp_eq, x_acmp_ne, x_swl, x_tsw, x_castC, true_or, or_true, nr_z, ft_z, nr_z0, nr_z1, ft_z0, ft_z1, nr_on, nr_an, ft_on, ft_an, l0, true_implies, not_true_eq_false, false_implies, not_false_eq_true]
      exact g95 qn (by omega) _
  · rintro av ⟨h, S2⟩ Q ⟨x, a, B, mp, tx, p, g, bh, fi, op, n, t, v, rfl, hB, ha, w, bg, hQ⟩
    dsimp only at *
    refine ⟨Nat.le_of_ble_eq_true rfl, ?_⟩
    obtain ⟨wo, wt, wp, wx⟩ := id w
    have wz := w.up (p' := p) (g' := g) (bh' := -1) (fi' := fi) (op' := op) wp
    generalize hK : xInv cn_X7_takeDigits (I_X7_takeDigits Q) = K
    simp only [q_c, x_iload, x_lload, x_aload, q_istore, q_lstore, q_astore, q_astore2, x_iinc, q_iadd, q_isub, q_imul, q_iand, q_ior, q_ixor, q_ladd, q_lsub, q_lmul, q_land, q_lor, q_lxor, q_idiv, q_irem, q_ldiv, q_lrem, q_ineg, q_lneg, q_ishl, q_ishr, q_iushr, q_lshl, q_lshr, q_lushr, q_i2l, q_l2i, q_i2b, q_i2c, q_lcmp, q_if_eq, q_if_ne, q_if_lt, q_if_ge, q_if_gt, q_if_le, q_icmp_eq, q_icmp_ne, q_icmp_lt, q_icmp_ge, q_icmp_gt, q_icmp_le, q_dup, q_pop, q_dup_x1, q_dup2, x_iret, x_zret, x_lret, x_aret, x_vret, x_call, x_callv, x_calli, x_oinit, x_mmax, x_mmin, x_mabs, x_mmaxL, x_mminL, x_mabsL, lg_cmp_ge, lg_cmp_le, lg_cmp_gt, lg_cmp_lt, lg_cmp_eq, xlk, q_xs1, q_xs2, lv_args, Value.category, List.filter_cons, List.filter_nil, Nat.reduceAdd, Nat.reduceBEq, Nat.reduceEqDiff, Nat.reduceSub, Nat.sub_zero, beq_self_eq_true, Bool.not_true, Bool.not_false, Bool.and_true, Bool.and_false, Bool.true_and, Bool.false_and, reduceIte, reduceCtorEq, Bool.false_eq_true, Nat.one_ne_zero, Nat.zero_ne_one, Nat.zero_add, Option.toList_some, Option.toList_none, List.nil_append, List.cons_append, List.take_succ_cons, List.take_zero, List.take_nil, List.drop_succ_cons, List.drop_zero, List.length_cons, List.length_nil, List.reverse_cons, List.reverse_nil, List.head?_cons, List.map_cons, List.map_nil, List.sum_cons, List.sum_nil, true_and, and_true, List.getElem?_cons_zero, List.getElem?_cons_succ, Prod.eta, x_iast, x_bald, x_bast, x_last, x_alen, xup_s, xup_a1, xup_1a, xup_uu, nr_i, nr_l, nr_o, nr_a, ft_i, ft_l, ft_o, ft_a, Nat.reduceLT, i_cl0, i_cl1, i_n1, i_m1, List.set_cons_zero, List.set_cons_succ, Nat.reduceLeDiff, Nat.le_refl, Nat.zero_le, Nat.add_zero, x_no, x_ifnull, x_ifnonnull, x_acmp_eq, x_acmp_ne, x_swl, x_tsw, x_castC, true_or, or_true, nr_z, ft_z, nr_z0, nr_z1, ft_z0, ft_z1, nr_on, nr_an, ft_on, ft_an, b_X7_takeDigits_0, b_X7_takeDigits_25, wo.g2, wo.g3, wt.1, wo.p5]
    refine kb_become (w := 0) (bg.off (off1 (r := x + 38)) (by omega)) (by decide) (fun h2 o2 b2 => ?_)
    have w2 : rdW h2 x tx p g (-1) fi op n t := wz.off o2 (by omega)
    try simp only [q_c, x_iload, x_lload, x_aload, q_istore, q_lstore, q_astore, q_astore2, x_iinc, q_iadd, q_isub, q_imul, q_iand, q_ior, q_ixor, q_ladd, q_lsub, q_lmul, q_land, q_lor, q_lxor, q_idiv, q_irem, q_ldiv, q_lrem, q_ineg, q_lneg, q_ishl, q_ishr, q_iushr, q_lshl, q_lshr, q_lushr, q_i2l, q_l2i, q_i2b, q_i2c, q_lcmp, q_if_eq, q_if_ne, q_if_lt, q_if_ge, q_if_gt, q_if_le, q_icmp_eq, q_icmp_ne, q_icmp_lt, q_icmp_ge, q_icmp_gt, q_icmp_le, q_dup, q_pop, q_dup_x1, q_dup2, x_iret, x_zret, x_lret, x_aret, x_vret, x_call, x_callv, x_calli, x_oinit, x_mmax, x_mmin, x_mabs, x_mmaxL, x_mminL, x_mabsL, lg_cmp_ge, lg_cmp_le, lg_cmp_gt, lg_cmp_lt, lg_cmp_eq, xlk, q_xs1, q_xs2, lv_args, Value.category, List.filter_cons, List.filter_nil, Nat.reduceAdd, Nat.reduceBEq, Nat.reduceEqDiff, Nat.reduceSub, Nat.sub_zero, beq_self_eq_true, Bool.not_true, Bool.not_false, Bool.and_true, Bool.and_false, Bool.true_and, Bool.false_and, reduceIte, reduceCtorEq, Bool.false_eq_true, Nat.one_ne_zero, Nat.zero_ne_one, Nat.zero_add, Option.toList_some, Option.toList_none, List.nil_append, List.cons_append, List.take_succ_cons, List.take_zero, List.take_nil, List.drop_succ_cons, List.drop_zero, List.length_cons, List.length_nil, List.reverse_cons, List.reverse_nil, List.head?_cons, List.map_cons, List.map_nil, List.sum_cons, List.sum_nil, true_and, and_true, List.getElem?_cons_zero, List.getElem?_cons_succ, Prod.eta, x_iast, x_bald, x_bast, x_last, x_alen, xup_s, xup_a1, xup_1a, xup_uu, nr_i, nr_l, nr_o, nr_a, ft_i, ft_l, ft_o, ft_a, Nat.reduceLT, i_cl0, i_cl1, i_n1, i_m1, List.set_cons_zero, List.set_cons_succ, Nat.reduceLeDiff, Nat.le_refl, Nat.zero_le, Nat.add_zero, x_no, x_ifnull, x_ifnonnull, x_acmp_eq, x_acmp_ne, x_swl, x_tsw, x_castC, true_or, or_true, nr_z, ft_z, nr_z0, nr_z1, ft_z0, ft_z1, nr_on, nr_an, ft_on, ft_an]
    rw [← hK]
    refine xInv.mk (n - p) (x, a, B, mp, p, 0, n) ⟨rfl, rfl, rfl, rfl, rfl, rfl, rfl, trivial⟩ ⟨tx, p, g, fi, op, t, !mp, 0, 0, 0, rfl, rfl, Or.inl rfl, ⟨fun y => Or.inl (by cases mp <;> first | rfl | cases y), fun y => by rcases y with y | y <;> first | (rw [y]; rfl) | omega⟩, fun _ => rfl, by decide, hB, ha, w2, b2, ?_⟩
    intro p' dg' sc' v' er' h' f' w' b'
    exact hQ p' dg' sc' v' er' h' ((f'.tr (fD.b o2)).tr (fD.r off1)) w' b'
