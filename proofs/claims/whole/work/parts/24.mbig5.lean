theorem dX12_product_0 : decode cX12_product 0 = .ok (.aload_n 0, 1) := by decide +kernel
theorem dX12_product_1 : decode cX12_product 1 = .ok (.aload_n 1, 1) := by decide +kernel
theorem dX12_product_2 : decode cX12_product 2 = .ok (.getfield 13, 3) := by decide +kernel
theorem dX12_product_5 : decode cX12_product 5 = .ok (.ifCond .eq 10, 3) := by decide +kernel
theorem dX12_product_8 : decode cX12_product 8 = .ok (.aload_n 2, 1) := by decide +kernel
theorem dX12_product_9 : decode cX12_product 9 = .ok (.getfield 13, 3) := by decide +kernel
theorem dX12_product_12 : decode cX12_product 12 = .ok (.ifCond .ne 7, 3) := by decide +kernel
theorem dX12_product_15 : decode cX12_product 15 = .ok (.iconst 0, 1) := by decide +kernel
theorem dX12_product_16 : decode cX12_product 16 = .ok (.goto 12, 3) := by decide +kernel
theorem dX12_product_19 : decode cX12_product 19 = .ok (.aload_n 1, 1) := by decide +kernel
theorem dX12_product_20 : decode cX12_product 20 = .ok (.getfield 13, 3) := by decide +kernel
theorem dX12_product_23 : decode cX12_product 23 = .ok (.aload_n 2, 1) := by decide +kernel
theorem dX12_product_24 : decode cX12_product 24 = .ok (.getfield 13, 3) := by decide +kernel
theorem dX12_product_27 : decode cX12_product 27 = .ok (.iadd, 1) := by decide +kernel
theorem dX12_product_28 : decode cX12_product 28 = .ok (.putfield 13, 3) := by decide +kernel
theorem dX12_product_31 : decode cX12_product 31 = .ok (.iconst 0, 1) := by decide +kernel
theorem dX12_product_32 : decode cX12_product 32 = .ok (.istore_n 3, 1) := by decide +kernel
theorem dX12_product_33 : decode cX12_product 33 = .ok (.iload_n 3, 1) := by decide +kernel
theorem dX12_product_34 : decode cX12_product 34 = .ok (.aload_n 0, 1) := by decide +kernel
theorem dX12_product_35 : decode cX12_product 35 = .ok (.getfield 13, 3) := by decide +kernel
theorem dX12_product_38 : decode cX12_product 38 = .ok (.if_icmp .ge 16, 3) := by decide +kernel
theorem dX12_product_41 : decode cX12_product 41 = .ok (.aload_n 0, 1) := by decide +kernel
theorem dX12_product_42 : decode cX12_product 42 = .ok (.getfield 7, 3) := by decide +kernel
theorem dX12_product_45 : decode cX12_product 45 = .ok (.iload_n 3, 1) := by decide +kernel
theorem dX12_product_46 : decode cX12_product 46 = .ok (.iconst 0, 1) := by decide +kernel
theorem dX12_product_47 : decode cX12_product 47 = .ok (.iastore, 1) := by decide +kernel
theorem dX12_product_48 : decode cX12_product 48 = .ok (.iinc 3 1, 3) := by decide +kernel
theorem dX12_product_51 : decode cX12_product 51 = .ok (.goto (-18), 3) := by decide +kernel
theorem dX12_product_54 : decode cX12_product 54 = .ok (.iconst 0, 1) := by decide +kernel
theorem dX12_product_55 : decode cX12_product 55 = .ok (.istore_n 3, 1) := by decide +kernel
theorem dX12_product_56 : decode cX12_product 56 = .ok (.iload_n 3, 1) := by decide +kernel
theorem dX12_product_57 : decode cX12_product 57 = .ok (.aload_n 1, 1) := by decide +kernel
theorem dX12_product_58 : decode cX12_product 58 = .ok (.getfield 13, 3) := by decide +kernel
theorem dX12_product_61 : decode cX12_product 61 = .ok (.if_icmp .ge 106, 3) := by decide +kernel
theorem dX12_product_64 : decode cX12_product 64 = .ok (.aload_n 0, 1) := by decide +kernel
theorem dX12_product_65 : decode cX12_product 65 = .ok (.getfield 13, 3) := by decide +kernel
theorem dX12_product_68 : decode cX12_product 68 = .ok (.ifCond .le 99, 3) := by decide +kernel
theorem dX12_product_71 : decode cX12_product 71 = .ok (.lconst 0, 1) := by decide +kernel
theorem dX12_product_72 : decode cX12_product 72 = .ok (.lstore 4, 2) := by decide +kernel
theorem dX12_product_74 : decode cX12_product 74 = .ok (.iconst 0, 1) := by decide +kernel
theorem dX12_product_75 : decode cX12_product 75 = .ok (.istore 6, 2) := by decide +kernel
theorem dX12_product_77 : decode cX12_product 77 = .ok (.iload 6, 2) := by decide +kernel
theorem dX12_product_79 : decode cX12_product 79 = .ok (.aload_n 2, 1) := by decide +kernel
theorem dX12_product_80 : decode cX12_product 80 = .ok (.getfield 13, 3) := by decide +kernel
theorem dX12_product_83 : decode cX12_product 83 = .ok (.if_icmp .ge 64, 3) := by decide +kernel
theorem dX12_product_86 : decode cX12_product 86 = .ok (.aload_n 1, 1) := by decide +kernel
theorem dX12_product_87 : decode cX12_product 87 = .ok (.getfield 7, 3) := by decide +kernel
theorem dX12_product_90 : decode cX12_product 90 = .ok (.iload_n 3, 1) := by decide +kernel
theorem dX12_product_91 : decode cX12_product 91 = .ok (.iaload, 1) := by decide +kernel
theorem dX12_product_92 : decode cX12_product 92 = .ok (.i2l, 1) := by decide +kernel
theorem dX12_product_93 : decode cX12_product 93 = .ok (.aload_n 2, 1) := by decide +kernel
theorem dX12_product_94 : decode cX12_product 94 = .ok (.getfield 7, 3) := by decide +kernel
theorem dX12_product_97 : decode cX12_product 97 = .ok (.iload 6, 2) := by decide +kernel
theorem dX12_product_99 : decode cX12_product 99 = .ok (.iaload, 1) := by decide +kernel
theorem dX12_product_100 : decode cX12_product 100 = .ok (.i2l, 1) := by decide +kernel
theorem dX12_product_101 : decode cX12_product 101 = .ok (.lmul, 1) := by decide +kernel
theorem dX12_product_102 : decode cX12_product 102 = .ok (.aload_n 0, 1) := by decide +kernel
theorem dX12_product_103 : decode cX12_product 103 = .ok (.getfield 7, 3) := by decide +kernel
theorem dX12_product_106 : decode cX12_product 106 = .ok (.iload_n 3, 1) := by decide +kernel
theorem dX12_product_107 : decode cX12_product 107 = .ok (.iload 6, 2) := by decide +kernel
theorem dX12_product_109 : decode cX12_product 109 = .ok (.iadd, 1) := by decide +kernel
theorem dX12_product_110 : decode cX12_product 110 = .ok (.iaload, 1) := by decide +kernel
theorem dX12_product_111 : decode cX12_product 111 = .ok (.i2l, 1) := by decide +kernel
theorem dX12_product_112 : decode cX12_product 112 = .ok (.ladd, 1) := by decide +kernel
theorem dX12_product_113 : decode cX12_product 113 = .ok (.lload 4, 2) := by decide +kernel
theorem dX12_product_115 : decode cX12_product 115 = .ok (.ladd, 1) := by decide +kernel
theorem dX12_product_116 : decode cX12_product 116 = .ok (.lstore 7, 2) := by decide +kernel
theorem dX12_product_118 : decode cX12_product 118 = .ok (.aload_n 0, 1) := by decide +kernel
theorem dX12_product_119 : decode cX12_product 119 = .ok (.getfield 7, 3) := by decide +kernel
theorem dX12_product_122 : decode cX12_product 122 = .ok (.iload_n 3, 1) := by decide +kernel
theorem dX12_product_123 : decode cX12_product 123 = .ok (.iload 6, 2) := by decide +kernel
theorem dX12_product_125 : decode cX12_product 125 = .ok (.iadd, 1) := by decide +kernel
theorem dX12_product_126 : decode cX12_product 126 = .ok (.lload 7, 2) := by decide +kernel
theorem dX12_product_128 : decode cX12_product 128 = .ok (.ldc2_w 17, 3) := by decide +kernel
theorem dX12_product_131 : decode cX12_product 131 = .ok (.land, 1) := by decide +kernel
theorem dX12_product_132 : decode cX12_product 132 = .ok (.l2i, 1) := by decide +kernel
theorem dX12_product_133 : decode cX12_product 133 = .ok (.iastore, 1) := by decide +kernel
theorem dX12_product_134 : decode cX12_product 134 = .ok (.lload 7, 2) := by decide +kernel
theorem dX12_product_136 : decode cX12_product 136 = .ok (.bipush 16, 2) := by decide +kernel
theorem dX12_product_138 : decode cX12_product 138 = .ok (.lshr, 1) := by decide +kernel
theorem dX12_product_139 : decode cX12_product 139 = .ok (.lstore 4, 2) := by decide +kernel
theorem dX12_product_141 : decode cX12_product 141 = .ok (.iinc 6 1, 3) := by decide +kernel
theorem dX12_product_144 : decode cX12_product 144 = .ok (.goto (-67), 3) := by decide +kernel
theorem dX12_product_147 : decode cX12_product 147 = .ok (.aload_n 0, 1) := by decide +kernel
theorem dX12_product_148 : decode cX12_product 148 = .ok (.getfield 7, 3) := by decide +kernel
theorem dX12_product_151 : decode cX12_product 151 = .ok (.iload_n 3, 1) := by decide +kernel
theorem dX12_product_152 : decode cX12_product 152 = .ok (.aload_n 2, 1) := by decide +kernel
theorem dX12_product_153 : decode cX12_product 153 = .ok (.getfield 13, 3) := by decide +kernel
theorem dX12_product_156 : decode cX12_product 156 = .ok (.iadd, 1) := by decide +kernel
theorem dX12_product_157 : decode cX12_product 157 = .ok (.lload 4, 2) := by decide +kernel
theorem dX12_product_159 : decode cX12_product 159 = .ok (.l2i, 1) := by decide +kernel
theorem dX12_product_160 : decode cX12_product 160 = .ok (.iastore, 1) := by decide +kernel
theorem dX12_product_161 : decode cX12_product 161 = .ok (.iinc 3 1, 3) := by decide +kernel
theorem dX12_product_164 : decode cX12_product 164 = .ok (.goto (-108), 3) := by decide +kernel
theorem dX12_product_167 : decode cX12_product 167 = .ok (.aload_n 0, 1) := by decide +kernel
theorem dX12_product_168 : decode cX12_product 168 = .ok (.invokevirtual 19, 3) := by decide +kernel
theorem dX12_product_171 : decode cX12_product 171 = .ok (.return_, 1) := by decide +kernel
abbrev r_X12_product : Room := { frames := 1, cells := 0, slots := 0, locals := 20 }
abbrev m_X12_product : xMd := (cX12_product, RX12, 9, none, false, r_X12_product)
def b_X12_product_28 (Q : xQ) (K33 : xK) (K56 : xK) (K77 : xK) : xK := x_put 11 1 .int <| x_c (.int 0) <| x_istore 3 <| K33
def b_X12_product_33 (Q : xQ) (K33 : xK) (K56 : xK) (K77 : xK) : xK := x_iload 3 <| x_aload 0 <| x_get 11 1 <| x_icmp_ge (x_c (.int 0) <| x_istore 3 <| K56) <| x_aload 0 <| x_get 11 0 <| x_iload 3 <| x_c (.int 0) <| x_iast <| x_iinc 3 1 <| K33
def b_X12_product_77 (Q : xQ) (K33 : xK) (K56 : xK) (K77 : xK) : xK := x_iload 6 <| x_aload 2 <| x_get 11 1 <| x_icmp_ge (x_aload 0 <| x_get 11 0 <| x_iload 3 <| x_aload 2 <| x_get 11 1 <| x_iadd <| x_lload 4 <| x_l2i <| x_iast <| x_iinc 3 1 <| K56) <| x_aload 1 <| x_get 11 0 <| x_iload 3 <| x_iald <| x_i2l <| x_aload 2 <| x_get 11 0 <| x_iload 6 <| x_iald <| x_i2l <| x_lmul <| x_aload 0 <| x_get 11 0 <| x_iload 3 <| x_iload 6 <| x_iadd <| x_iald <| x_i2l <| x_ladd <| x_lload 4 <| x_ladd <| x_lstore 7 <| x_aload 0 <| x_get 11 0 <| x_iload 3 <| x_iload 6 <| x_iadd <| x_lload 7 <| x_c (.long 65535) <| x_land <| x_l2i <| x_iast <| x_lload 7 <| x_c (.int 16) <| x_lshr <| x_lstore 4 <| x_iinc 6 1 <| K77
def b_X12_product_167 (Q : xQ) (K33 : xK) (K56 : xK) (K77 : xK) : xK := x_aload 0 <| x_callv 11 C_X12_trim 1 0 0 <| x_vret Q
def b_X12_product_15 (Q : xQ) (K33 : xK) (K56 : xK) (K77 : xK) : xK := x_c (.int 0) <| (b_X12_product_28 Q K33 K56 K77)
def b_X12_product_56 (Q : xQ) (K33 : xK) (K56 : xK) (K77 : xK) : xK := x_iload 3 <| x_aload 1 <| x_get 11 1 <| x_icmp_ge ((b_X12_product_167 Q K33 K56 K77)) <| x_aload 0 <| x_get 11 1 <| x_if_le ((b_X12_product_167 Q K33 K56 K77)) <| x_c (.long 0) <| x_lstore 4 <| x_c (.int 0) <| x_istore 6 <| K77
def b_X12_product_0 (Q : xQ) (K33 : xK) (K56 : xK) (K77 : xK) : xK := x_aload 0 <| x_aload 1 <| x_get 11 1 <| x_if_eq ((b_X12_product_15 Q K33 K56 K77)) <| x_aload 2 <| x_get 11 1 <| x_if_ne (x_aload 1 <| x_get 11 1 <| x_aload 2 <| x_get 11 1 <| x_iadd <| (b_X12_product_28 Q K33 K56 K77)) <| (b_X12_product_15 Q K33 K56 K77)
theorem s_X12_product_28 (G : xG) (l : Launch) (Q : xQ) (K33 : xK) (K56 : xK) (K77 : xK) (h33 : xW G l m_X12_product xX0 (xPm G Q r_X12_product) 33 K33) (h56 : xW G l m_X12_product xX0 (xPm G Q r_X12_product) 56 K56) (h77 : xW G l m_X12_product xX0 (xPm G Q r_X12_product) 77 K77) : xW G l m_X12_product xX0 (xPm G Q r_X12_product) 28 (b_X12_product_28 Q K33 K56 K77) := xo_put (pc := 28) (ci := 11) (i := 1) rfl ok11 (by decide) rfl rfl dX12_product_28 kw1168 <| xo_iconst (pc := 31) dX12_product_31 (by decide) <| xo_istore_n (pc := 32) (i := 3) dX12_product_32 rfl (by decide) <| h33
theorem s_X12_product_33 (G : xG) (l : Launch) (Q : xQ) (K33 : xK) (K56 : xK) (K77 : xK) (h33 : xW G l m_X12_product xX0 (xPm G Q r_X12_product) 33 K33) (h56 : xW G l m_X12_product xX0 (xPm G Q r_X12_product) 56 K56) (h77 : xW G l m_X12_product xX0 (xPm G Q r_X12_product) 77 K77) : xW G l m_X12_product xX0 (xPm G Q r_X12_product) 33 (b_X12_product_33 Q K33 K56 K77) := xo_iload_n (pc := 33) (i := 3) dX12_product_33 rfl <| xo_aload_n (pc := 34) (i := 0) dX12_product_34 rfl <| xo_get (pc := 35) (ci := 11) (i := 1) rfl ok11 (by decide) dX12_product_35 kw1168 <| xo_icmp_ge (pc := 38) (tgt := 54) dX12_product_38 (by decide) (xo_iconst (pc := 54) dX12_product_54 (by decide) <| xo_istore_n (pc := 55) (i := 3) dX12_product_55 rfl (by decide) <| h56) <| xo_aload_n (pc := 41) (i := 0) dX12_product_41 rfl <| xo_get (pc := 42) (ci := 11) (i := 0) rfl ok11 (by decide) dX12_product_42 kw1167 <| xo_iload_n (pc := 45) (i := 3) dX12_product_45 rfl <| xo_iconst (pc := 46) dX12_product_46 (by decide) <| xo_iast (pc := 47) dX12_product_47 <| xo_iinc (pc := 48) dX12_product_48 (by decide) <| xo_goto (pc := 51) (tgt := 33) dX12_product_51 (by decide) <| h33
theorem s_X12_product_77 (G : xG) (l : Launch) (Q : xQ) (K33 : xK) (K56 : xK) (K77 : xK) (h33 : xW G l m_X12_product xX0 (xPm G Q r_X12_product) 33 K33) (h56 : xW G l m_X12_product xX0 (xPm G Q r_X12_product) 56 K56) (h77 : xW G l m_X12_product xX0 (xPm G Q r_X12_product) 77 K77) : xW G l m_X12_product xX0 (xPm G Q r_X12_product) 77 (b_X12_product_77 Q K33 K56 K77) := xo_iload (pc := 77) (i := 6) dX12_product_77 <| xo_aload_n (pc := 79) (i := 2) dX12_product_79 rfl <| xo_get (pc := 80) (ci := 11) (i := 1) rfl ok11 (by decide) dX12_product_80 kw1168 <| xo_icmp_ge (pc := 83) (tgt := 147) dX12_product_83 (by decide) (xo_aload_n (pc := 147) (i := 0) dX12_product_147 rfl <| xo_get (pc := 148) (ci := 11) (i := 0) rfl ok11 (by decide) dX12_product_148 kw1167 <| xo_iload_n (pc := 151) (i := 3) dX12_product_151 rfl <| xo_aload_n (pc := 152) (i := 2) dX12_product_152 rfl <| xo_get (pc := 153) (ci := 11) (i := 1) rfl ok11 (by decide) dX12_product_153 kw1168 <| xo_iadd (pc := 156) dX12_product_156 <| xo_lload (pc := 157) (i := 4) dX12_product_157 <| xo_l2i (pc := 159) dX12_product_159 <| xo_iast (pc := 160) dX12_product_160 <| xo_iinc (pc := 161) dX12_product_161 (by decide) <| xo_goto (pc := 164) (tgt := 56) dX12_product_164 (by decide) <| h56) <| xo_aload_n (pc := 86) (i := 1) dX12_product_86 rfl <| xo_get (pc := 87) (ci := 11) (i := 0) rfl ok11 (by decide) dX12_product_87 kw1167 <| xo_iload_n (pc := 90) (i := 3) dX12_product_90 rfl <| xo_iald (pc := 91) dX12_product_91 <| xo_i2l (pc := 92) dX12_product_92 <| xo_aload_n (pc := 93) (i := 2) dX12_product_93 rfl <| xo_get (pc := 94) (ci := 11) (i := 0) rfl ok11 (by decide) dX12_product_94 kw1167 <| xo_iload (pc := 97) (i := 6) dX12_product_97 <| xo_iald (pc := 99) dX12_product_99 <| xo_i2l (pc := 100) dX12_product_100 <| xo_lmul (pc := 101) dX12_product_101 <| xo_aload_n (pc := 102) (i := 0) dX12_product_102 rfl <| xo_get (pc := 103) (ci := 11) (i := 0) rfl ok11 (by decide) dX12_product_103 kw1167 <| xo_iload_n (pc := 106) (i := 3) dX12_product_106 rfl <| xo_iload (pc := 107) (i := 6) dX12_product_107 <| xo_iadd (pc := 109) dX12_product_109 <| xo_iald (pc := 110) dX12_product_110 <| xo_i2l (pc := 111) dX12_product_111 <| xo_ladd (pc := 112) dX12_product_112 <| xo_lload (pc := 113) (i := 4) dX12_product_113 <| xo_ladd (pc := 115) dX12_product_115 <| xo_lstore (pc := 116) (i := 7) dX12_product_116 (by decide) <| xo_aload_n (pc := 118) (i := 0) dX12_product_118 rfl <| xo_get (pc := 119) (ci := 11) (i := 0) rfl ok11 (by decide) dX12_product_119 kw1167 <| xo_iload_n (pc := 122) (i := 3) dX12_product_122 rfl <| xo_iload (pc := 123) (i := 6) dX12_product_123 <| xo_iadd (pc := 125) dX12_product_125 <| xo_lload (pc := 126) (i := 7) dX12_product_126 <| xo_ldc2_w (pc := 128) dX12_product_128 kw1394 <| xo_land (pc := 131) dX12_product_131 <| xo_l2i (pc := 132) dX12_product_132 <| xo_iast (pc := 133) dX12_product_133 <| xo_lload (pc := 134) (i := 7) dX12_product_134 <| xo_bipush (pc := 136) dX12_product_136 (by decide) <| xo_lshr (pc := 138) dX12_product_138 <| xo_lstore (pc := 139) (i := 4) dX12_product_139 (by decide) <| xo_iinc (pc := 141) dX12_product_141 (by decide) <| xo_goto (pc := 144) (tgt := 77) dX12_product_144 (by decide) <| h77
theorem s_X12_product_167 (G : xG) (l : Launch) (Q : xQ) (K33 : xK) (K56 : xK) (K77 : xK) (h33 : xW G l m_X12_product xX0 (xPm G Q r_X12_product) 33 K33) (h56 : xW G l m_X12_product xX0 (xPm G Q r_X12_product) 56 K56) (h77 : xW G l m_X12_product xX0 (xPm G Q r_X12_product) 77 K77) : xW G l m_X12_product xX0 (xPm G Q r_X12_product) 167 (b_X12_product_167 Q K33 K56 K77) := xo_aload_n (pc := 167) (i := 0) dX12_product_167 rfl <| xo_callV (pc := 168) (np := 0) (ci := 11) rfl (cM_X12_trim G l) dX12_product_168 kw1406 kw1403 kw1405 ks60 kw14 (by decide +kernel) (by decide) <| xo_vret (pc := 171) rfl dX12_product_171
theorem s_X12_product_15 (G : xG) (l : Launch) (Q : xQ) (K33 : xK) (K56 : xK) (K77 : xK) (h33 : xW G l m_X12_product xX0 (xPm G Q r_X12_product) 33 K33) (h56 : xW G l m_X12_product xX0 (xPm G Q r_X12_product) 56 K56) (h77 : xW G l m_X12_product xX0 (xPm G Q r_X12_product) 77 K77) : xW G l m_X12_product xX0 (xPm G Q r_X12_product) 15 (b_X12_product_15 Q K33 K56 K77) := xo_iconst (pc := 15) dX12_product_15 (by decide) <| xo_goto (pc := 16) (tgt := 28) dX12_product_16 (by decide) <| (s_X12_product_28 G l Q K33 K56 K77 h33 h56 h77)
theorem s_X12_product_56 (G : xG) (l : Launch) (Q : xQ) (K33 : xK) (K56 : xK) (K77 : xK) (h33 : xW G l m_X12_product xX0 (xPm G Q r_X12_product) 33 K33) (h56 : xW G l m_X12_product xX0 (xPm G Q r_X12_product) 56 K56) (h77 : xW G l m_X12_product xX0 (xPm G Q r_X12_product) 77 K77) : xW G l m_X12_product xX0 (xPm G Q r_X12_product) 56 (b_X12_product_56 Q K33 K56 K77) := xo_iload_n (pc := 56) (i := 3) dX12_product_56 rfl <| xo_aload_n (pc := 57) (i := 1) dX12_product_57 rfl <| xo_get (pc := 58) (ci := 11) (i := 1) rfl ok11 (by decide) dX12_product_58 kw1168 <| xo_icmp_ge (pc := 61) (tgt := 167) dX12_product_61 (by decide) ((s_X12_product_167 G l Q K33 K56 K77 h33 h56 h77)) <| xo_aload_n (pc := 64) (i := 0) dX12_product_64 rfl <| xo_get (pc := 65) (ci := 11) (i := 1) rfl ok11 (by decide) dX12_product_65 kw1168 <| xo_if_le (pc := 68) (tgt := 167) dX12_product_68 (by decide) ((s_X12_product_167 G l Q K33 K56 K77 h33 h56 h77)) <| xo_lconst (pc := 71) dX12_product_71 (by decide) <| xo_lstore (pc := 72) (i := 4) dX12_product_72 (by decide) <| xo_iconst (pc := 74) dX12_product_74 (by decide) <| xo_istore (pc := 75) (i := 6) dX12_product_75 (by decide) <| h77
theorem s_X12_product_0 (G : xG) (l : Launch) (Q : xQ) (K33 : xK) (K56 : xK) (K77 : xK) (h33 : xW G l m_X12_product xX0 (xPm G Q r_X12_product) 33 K33) (h56 : xW G l m_X12_product xX0 (xPm G Q r_X12_product) 56 K56) (h77 : xW G l m_X12_product xX0 (xPm G Q r_X12_product) 77 K77) : xW G l m_X12_product xX0 (xPm G Q r_X12_product) 0 (b_X12_product_0 Q K33 K56 K77) := xo_aload_n (pc := 0) (i := 0) dX12_product_0 rfl <| xo_aload_n (pc := 1) (i := 1) dX12_product_1 rfl <| xo_get (pc := 2) (ci := 11) (i := 1) rfl ok11 (by decide) dX12_product_2 kw1168 <| xo_if_eq (pc := 5) (tgt := 15) dX12_product_5 (by decide) ((s_X12_product_15 G l Q K33 K56 K77 h33 h56 h77)) <| xo_aload_n (pc := 8) (i := 2) dX12_product_8 rfl <| xo_get (pc := 9) (ci := 11) (i := 1) rfl ok11 (by decide) dX12_product_9 kw1168 <| xo_if_ne (pc := 12) (tgt := 19) dX12_product_12 (by decide) (xo_aload_n (pc := 19) (i := 1) dX12_product_19 rfl <| xo_get (pc := 20) (ci := 11) (i := 1) rfl ok11 (by decide) dX12_product_20 kw1168 <| xo_aload_n (pc := 23) (i := 2) dX12_product_23 rfl <| xo_get (pc := 24) (ci := 11) (i := 1) rfl ok11 (by decide) dX12_product_24 kw1168 <| xo_iadd (pc := 27) dX12_product_27 <| (s_X12_product_28 G l Q K33 K56 K77 h33 h56 h77)) <| (s_X12_product_15 G l Q K33 K56 K77 h33 h56 h77)

def C_X12_product : xC := fun av S Q => ∃ (t a b u v : Nat), av = [.ref t, .ref a, .ref b] ∧ (a + 2 ≤ t ∨ t + 2 ≤ a) ∧ (b + 2 ≤ t ∨ t + 2 ≤ b) ∧ (∃ x n, mR S.1 t x n) ∧ mV S.1 a u ∧ mV S.1 b v ∧ u * v < 65536 ^ 639 ∧ ∀ h', xoff h' S.1 t (t + 2) → mV h' t (u * v) → Q none (h', S.2)
/-- what stays: the operands (not 0 both, or the target's size is 0), what is asked at the end -/
def mpC (Q : xQ) (t a b : Nat) (x y : Nat → Nat) (na nb N : Nat) (S : xS) : Prop := (a + 2 ≤ t ∨ t + 2 ≤ a) ∧ (b + 2 ≤ t ∨ t + 2 ≤ b) ∧ mR S.1 a x na ∧ mR S.1 b y nb ∧ (N = na + nb ∧ 0 < na ∧ 0 < nb ∨ N = 0 ∧ (na = 0 ∨ nb = 0)) ∧ N ≤ 640 ∧ ∀ h', xoff h' S.1 t (t + 2) → mV h' t (sd 65536 x na * sd 65536 y nb) → Q none (h', S.2)
theorem mpC.wr {Q : xQ} {t a b : Nat} {x y : Nat → Nat} {na nb N : Nat} {S : xS} {c : xE} (h : mpC Q t a b x y na nb N S) : mpC Q t a b x y na nb N (xup S.1 (t + 1) c, S.2) := by
  obtain ⟨h1, h2, h3, h4, h5, h6, h8⟩ := h
  exact ⟨h1, h2, h3.off off_wr (by omega), h4.off off_wr (by omega), h5, h6, fun h' o' r' => h8 h' (xoff_tr o' off_wr) r'⟩
def cn_M1 : Nat × Nat × Nat × Nat → List (Nat × Value) := fun v => [(0, .ref v.1), (1, .ref v.2.1), (2, .ref v.2.2.1), (3, .int (nI v.2.2.2))]
def I_M1 (Q : xQ) : Nat → Nat × Nat × Nat × Nat → xS → Prop := fun k v S => match v with
  | (t, a, b, i) => ∃ f x y na nb N, mR S.1 t f N ∧ mpC Q t a b x y na nb N S ∧ k + i = N ∧ ∀ j, j < i → f j = 0
def I_M2 (Q : xQ) : Nat → Nat × Nat × Nat × Nat → xS → Prop := fun k v S => match v with
  | (t, a, b, i) => ∃ f x y na nb N, mR S.1 t f N ∧ mpC Q t a b x y na nb N S ∧ k + i = na ∧ (∀ j, i + nb ≤ j → j < N → f j = 0) ∧ sd 65536 f N = sd 65536 x i * sd 65536 y nb
def cn_M3 : Nat × Nat × Nat × Nat × Nat × Nat → List (Nat × Value) := fun v => match v with
  | (t, a, b, i, c, j) => [(0, .ref t), (1, .ref a), (2, .ref b), (3, .int (nI i)), (4, .long (lN c)), (6, .int (nI j))]
def I_M3 (Q : xQ) (K : xK) : Nat → Nat × Nat × Nat × Nat × Nat × Nat → xS → Prop := fun k v S => match v with
  | (t, a, b, i, c, j) => ∃ f x y na nb N, mR S.1 t f N ∧ mpC Q t a b x y na nb N S ∧ 0 < N ∧ i < na ∧ k + j = nb ∧ c < 65536 ∧ (∀ q, i + nb ≤ q → q < N → f q = 0) ∧ sd 65536 f N + c * 65536 ^ (i + j) = sd 65536 x i * sd 65536 y nb + x i * 65536 ^ i * sd 65536 y j ∧
    ∀ (lv : List (Nat × Value)) (f' : Nat → Nat) (S' : xS), xsub (cn_M1 (t, a, b, i + 1)) lv → mR S'.1 t f' N → mpC Q t a b x y na nb N S' → (∀ q, i + 1 + nb ≤ q → q < N → f' q = 0) → sd 65536 f' N = sd 65536 x (i + 1) * sd 65536 y nb → K lv [] S'
set_option maxHeartbeats 4000000 in
theorem mpr_L3 (G : xG) (l : Launch) : ∀ Q K33 K56, xW G l m_X12_product xX0 (xPm G Q r_X12_product) 33 K33 → xW G l m_X12_product xX0 (xPm G Q r_X12_product) 56 K56 → xW G l m_X12_product xX0 (xPm G Q r_X12_product) 77 (xInv cn_M3 (I_M3 Q K56)) := by
  intro Q K33 K56 h33 h56
  refine xW.lp (b_X12_product_77 Q K33 K56) (fun K hK => s_X12_product_77 G l Q K33 K56 K h33 h56 hK) ?_
  rintro k ⟨t, a, b, i, c, j⟩ S ⟨f, x, y, na, nb, N, r, hC, hN0, hi, hk, hc, hz, hv, hK⟩
  obtain ⟨o1, o2, ra, rb, hNd, hN6, hQ⟩ := id hC
  have hN : N = na + nb := by omega
  have en := nI_leI (show nb < 2 ^ 31 by omega) (show j < 2 ^ 31 by omega)
  have ci := m_cl (n := i) (by omega)
  have cj := m_cl (n := j) (by omega)
  have g1 : nI i + nI nb = nI (i + nb) := nI_add i nb
  have g2 : nI i + nI j = nI (i + j) := nI_add i j
  have c2 := m_cl (n := i + j) (by omega)
  have c3 := m_cl (n := i + nb) (by omega)
  have wf := r.2.2.2 (i + j)
  have wa := ra.2.2.2 i
  have wb := rb.2.2.2 j
  have hb : x i * y j ≤ 65535 * 65535 := Nat.mul_le_mul (by omega) (by omega)
  have eM : (nI (x i)).toInt64 * (nI (y j)).toInt64 + (nI (f (i + j))).toInt64 + lN c = lN (x i * y j + f (i + j) + c) := by
    rw [nI_l (by omega), nI_l (by omega), nI_l (by omega), lN_mul, lN_add, lN_add]
  simp only [x_c, x_iload, x_lload, x_aload, x_istore, x_lstore, x_astore, x_iinc, x_iadd, x_isub, x_imul, x_iand, x_ior, x_ixor, x_ladd, x_lsub, x_lmul, x_land, x_lor, x_lxor, x_idiv, x_irem, x_ldiv, x_lrem, x_ineg, x_lneg, x_ishl, x_ishr, x_iushr, x_lshl, x_lshr, x_lushr, x_i2l, x_l2i, x_i2b, x_i2c, x_lcmp, x_if_eq, x_if_ne, x_if_lt, x_if_ge, x_if_gt, x_if_le, x_icmp_eq, x_icmp_ne, x_icmp_lt, x_icmp_ge, x_icmp_gt, x_icmp_le, x_dup, x_pop, x_dup_x1, x_dup2, x_iret, x_zret, x_lret, x_aret, x_vret, x_call, x_callv, x_calli, x_oinit, x_mmax, x_mmin, x_mabs, x_mmaxL, x_mminL, x_mabsL, lg_cmp_ge, lg_cmp_le, lg_cmp_gt, lg_cmp_lt, lg_cmp_eq, xlk, xs1, xs2, lv_args, Value.category, List.filter_cons, List.filter_nil, Nat.reduceAdd, Nat.reduceBEq, Nat.reduceEqDiff, Nat.reduceSub, Nat.sub_zero, beq_self_eq_true, Bool.not_true, Bool.not_false, Bool.and_true, Bool.and_false, Bool.true_and, Bool.false_and, reduceIte, reduceCtorEq, Bool.false_eq_true, Nat.one_ne_zero, Nat.zero_ne_one, Nat.zero_add, Option.toList_some, Option.toList_none, List.nil_append, List.cons_append, List.take_succ_cons, List.take_zero, List.take_nil, List.drop_succ_cons, List.drop_zero, List.length_cons, List.length_nil, List.reverse_cons, List.reverse_nil, List.head?_cons, List.map_cons, List.map_nil, List.sum_cons, List.sum_nil, true_and, and_true, List.getElem?_cons_zero, List.getElem?_cons_succ, Prod.eta, x_get, x_put, x_iald, x_iast, x_bald, x_bast, x_lald, x_last, x_alen, xup_s, xup_a1, xup_1a, xup_uu, nr_i, nr_l, nr_o, nr_a, ft_i, ft_l, ft_o, ft_a, Nat.reduceLT, i_cl0, i_cl1, i_n1, i_m1, List.set_cons_zero, List.set_cons_succ, Nat.reduceLeDiff, Nat.le_refl, Nat.zero_le, Nat.add_zero, b_X12_product_77, cn_M3, en, r.1, r.2.1, ra.1, ra.2.1, rb.1, rb.2.1, ci, cj, g1, g2, c2, c3, eM, m_and (show x i * y j + f (i + j) + c < 2 ^ 64 by omega), m_sar (show x i * y j + f (i + j) + c < 2 ^ 62 by omega), lN_l2i, upd_nI]
  refine ⟨fun q => ⟨vp_in_nI (by omega) (by decide), ?_⟩, fun q => ⟨vp_in_nI (by omega) (by decide), vp_in_nI (by omega) (by decide), vp_in_nI (by omega) (by decide), vp_in_nI (by omega) (by decide), ?_⟩⟩
  · obtain rfl : j = nb := by omega
    refine hK _ _ _ ⟨rfl, rfl, rfl, rfl, trivial⟩ (r.wr hc) hC.wr (fun q h1 h2 => ?_) ?_
    · rw [va_un (by omega)]; exact hz q (by omega) h2
    · have e1 := sd_up (B := 65536) (x := f) (y := c) (show i + j < N by omega)
      rw [hz (i + j) (Nat.le_refl _) (by omega), Nat.zero_mul, Nat.add_zero] at e1
      rw [e1, hv, sd, Nat.add_mul]
  · refine xInvL.mk (k - 1) (t, a, b, i, (x i * y j + f (i + j) + c) / 65536, j + 1) (by omega) ⟨rfl, rfl, rfl, rfl, rfl, rfl, trivial⟩ ⟨_, x, y, na, nb, N, r.wr (Nat.mod_lt _ (by decide)), hC.wr, hN0, hi, by omega, by omega, fun q h1 h2 => ?_, ?_, hK⟩
    · rw [va_un (by omega)]; exact hz q h1 h2
    · have e1 := sd_up (B := 65536) (x := f) (y := (x i * y j + f (i + j) + c) % 65536) (show i + j < N by omega)
      have hp : (65536 : Nat) ^ (i + (j + 1)) = 65536 ^ (i + j) * 65536 := Nat.pow_succ _ _
      have hp2 : (65536 : Nat) ^ (i + j) = 65536 ^ i * 65536 ^ j := Nat.pow_add _ _ _
      have h9 : x i * 65536 ^ i * (y j * 65536 ^ j) = x i * y j * 65536 ^ (i + j) := by rw [hp2]; ac_rfl
      have h1 := mul_split (z := x i * y j + f (i + j) + c) (E := 65536 ^ (i + j))
      rw [Nat.add_mul (x i * y j + f (i + j)), Nat.add_mul (x i * y j)] at h1
      rw [sd, hp, Nat.mul_add (x i * 65536 ^ i), h9]
      generalize 65536 ^ (i + j) = E at *
      omega
set_option maxHeartbeats 4000000 in
theorem cM_X12_product (G : xG) (l : Launch) : xM G l yX12_product cX12_product 9 none r_X12_product C_X12_product := by
  have L3 := mpr_L3 G l
  have L2 : ∀ Q K33, xW G l m_X12_product xX0 (xPm G Q r_X12_product) 33 K33 → xW G l m_X12_product xX0 (xPm G Q r_X12_product) 56 (xInv cn_M1 (I_M2 Q)) := by
    intro Q K33 h33
    refine xW.lp (fun K => b_X12_product_56 Q K33 K (xInv cn_M3 (I_M3 Q K))) (fun K hK => s_X12_product_56 G l Q K33 K _ h33 hK (L3 Q K33 K h33 hK)) ?_
    rintro k ⟨t, a, b, i⟩ S ⟨f, x, y, na, nb, N, r, hC, hk, hz, hv⟩
    obtain ⟨o1, o2, ra, rb, hN, hN6, hQ⟩ := id hC
    have na6 := ra.2.2.1
    have en := nI_leI (show na < 2 ^ 31 by omega) (show i < 2 ^ 31 by omega)
    have e0 : nI N ≤ 0 ↔ N ≤ 0 := nI_leI (b := 0) (by omega) (by decide)
    have done : N = 0 ∨ i = na → ∀ h', xoff h' S.1 t (t + 2) → mV h' t (sd 65536 f N) → Q none (h', S.2) := by
      intro h h' o' r'
      refine hQ h' o' ?_
      rcases h with h | h
      · have e1 : sd 65536 x na * sd 65536 y nb = 0 := by
          rcases (show na = 0 ∨ nb = 0 by omega) with e | e
          · rw [e, show sd 65536 x 0 = 0 from rfl, Nat.zero_mul]
          · rw [e, show sd 65536 y 0 = 0 from rfl, Nat.mul_zero]
        rw [h, show sd 65536 f 0 = 0 from rfl] at r'
        rw [e1]
        exact r'
      · rw [h] at hv
        rw [← hv]
        exact r'
    simp only [x_c, x_iload, x_lload, x_aload, x_istore, x_lstore, x_astore, x_iinc, x_iadd, x_isub, x_imul, x_iand, x_ior, x_ixor, x_ladd, x_lsub, x_lmul, x_land, x_lor, x_lxor, x_idiv, x_irem, x_ldiv, x_lrem, x_ineg, x_lneg, x_ishl, x_ishr, x_iushr, x_lshl, x_lshr, x_lushr, x_i2l, x_l2i, x_i2b, x_i2c, x_lcmp, x_if_eq, x_if_ne, x_if_lt, x_if_ge, x_if_gt, x_if_le, x_icmp_eq, x_icmp_ne, x_icmp_lt, x_icmp_ge, x_icmp_gt, x_icmp_le, x_dup, x_pop, x_dup_x1, x_dup2, x_iret, x_zret, x_lret, x_aret, x_vret, x_call, x_callv, x_calli, x_oinit, x_mmax, x_mmin, x_mabs, x_mmaxL, x_mminL, x_mabsL, lg_cmp_ge, lg_cmp_le, lg_cmp_gt, lg_cmp_lt, lg_cmp_eq, xlk, xs1, xs2, lv_args, Value.category, List.filter_cons, List.filter_nil, Nat.reduceAdd, Nat.reduceBEq, Nat.reduceEqDiff, Nat.reduceSub, Nat.sub_zero, beq_self_eq_true, Bool.not_true, Bool.not_false, Bool.and_true, Bool.and_false, Bool.true_and, Bool.false_and, reduceIte, reduceCtorEq, Bool.false_eq_true, Nat.one_ne_zero, Nat.zero_ne_one, Nat.zero_add, Option.toList_some, Option.toList_none, List.nil_append, List.cons_append, List.take_succ_cons, List.take_zero, List.take_nil, List.drop_succ_cons, List.drop_zero, List.length_cons, List.length_nil, List.reverse_cons, List.reverse_nil, List.head?_cons, List.map_cons, List.map_nil, List.sum_cons, List.sum_nil, true_and, and_true, List.getElem?_cons_zero, List.getElem?_cons_succ, Prod.eta, x_get, x_put, x_iald, x_iast, x_bald, x_bast, x_lald, x_last, x_alen, xup_s, xup_a1, xup_1a, xup_uu, nr_i, nr_l, nr_o, nr_a, ft_i, ft_l, ft_o, ft_a, Nat.reduceLT, i_cl0, i_cl1, i_n1, i_m1, List.set_cons_zero, List.set_cons_succ, Nat.reduceLeDiff, Nat.le_refl, Nat.zero_le, Nat.add_zero, b_X12_product_56, b_X12_product_167, cn_M1, en, r.1, r.2.1, ra.1, ra.2.1, e0]
    refine ⟨fun q => ⟨⟨t, _, rfl, r.1⟩, t, f, N, rfl, r, done (Or.inr (by omega))⟩, fun q => ⟨fun z => ⟨⟨t, _, rfl, r.1⟩, t, f, N, rfl, r, done (Or.inl (by omega))⟩, fun z => ?_⟩⟩
    · refine xInv.mk nb (t, a, b, i, 0, 0) ⟨rfl, rfl, rfl, rfl, rfl, rfl, trivial⟩ ⟨f, x, y, na, nb, N, r, hC, by omega, by omega, rfl, by decide, hz, ?_, ?_⟩
      · rw [Nat.zero_mul, Nat.add_zero, hv, show sd 65536 y 0 = 0 from rfl, Nat.mul_zero, Nat.add_zero]
      · intro lv f' S' hs r' hC' hz' hv'
        exact xInvL.mk (k - 1) (t, a, b, i + 1) (by omega) hs ⟨f', x, y, na, nb, N, r', hC', by omega, hz', hv'⟩
  have L1 : ∀ Q, xW G l m_X12_product xX0 (xPm G Q r_X12_product) 33 (xInv cn_M1 (I_M1 Q)) := by
    intro Q
    refine xW.lp (fun K => b_X12_product_33 Q K (xInv cn_M1 (I_M2 Q)) (xInv cn_M3 (I_M3 Q (xInv cn_M1 (I_M2 Q))))) (fun K hK => s_X12_product_33 G l Q K _ _ hK (L2 Q K hK) (L3 Q K _ hK (L2 Q K hK))) ?_
    rintro k ⟨t, a, b, i⟩ S ⟨f, x, y, na, nb, N, r, hC, hk, hz⟩
    have hN6 := hC.2.2.2.2.2.1
    have en := nI_leI (show N < 2 ^ 31 by omega) (show i < 2 ^ 31 by omega)
    have ci := m_cl (n := i) (by omega)
    have u0 : upd (fun i => nI (f i)) i 0 = fun j => nI (va_up f i 0 j) := upd_nI f i 0
    simp only [x_c, x_iload, x_lload, x_aload, x_istore, x_lstore, x_astore, x_iinc, x_iadd, x_isub, x_imul, x_iand, x_ior, x_ixor, x_ladd, x_lsub, x_lmul, x_land, x_lor, x_lxor, x_idiv, x_irem, x_ldiv, x_lrem, x_ineg, x_lneg, x_ishl, x_ishr, x_iushr, x_lshl, x_lshr, x_lushr, x_i2l, x_l2i, x_i2b, x_i2c, x_lcmp, x_if_eq, x_if_ne, x_if_lt, x_if_ge, x_if_gt, x_if_le, x_icmp_eq, x_icmp_ne, x_icmp_lt, x_icmp_ge, x_icmp_gt, x_icmp_le, x_dup, x_pop, x_dup_x1, x_dup2, x_iret, x_zret, x_lret, x_aret, x_vret, x_call, x_callv, x_calli, x_oinit, x_mmax, x_mmin, x_mabs, x_mmaxL, x_mminL, x_mabsL, lg_cmp_ge, lg_cmp_le, lg_cmp_gt, lg_cmp_lt, lg_cmp_eq, xlk, xs1, xs2, lv_args, Value.category, List.filter_cons, List.filter_nil, Nat.reduceAdd, Nat.reduceBEq, Nat.reduceEqDiff, Nat.reduceSub, Nat.sub_zero, beq_self_eq_true, Bool.not_true, Bool.not_false, Bool.and_true, Bool.and_false, Bool.true_and, Bool.false_and, reduceIte, reduceCtorEq, Bool.false_eq_true, Nat.one_ne_zero, Nat.zero_ne_one, Nat.zero_add, Option.toList_some, Option.toList_none, List.nil_append, List.cons_append, List.take_succ_cons, List.take_zero, List.take_nil, List.drop_succ_cons, List.drop_zero, List.length_cons, List.length_nil, List.reverse_cons, List.reverse_nil, List.head?_cons, List.map_cons, List.map_nil, List.sum_cons, List.sum_nil, true_and, and_true, List.getElem?_cons_zero, List.getElem?_cons_succ, Prod.eta, x_get, x_put, x_iald, x_iast, x_bald, x_bast, x_lald, x_last, x_alen, xup_s, xup_a1, xup_1a, xup_uu, nr_i, nr_l, nr_o, nr_a, ft_i, ft_l, ft_o, ft_a, Nat.reduceLT, i_cl0, i_cl1, i_n1, i_m1, List.set_cons_zero, List.set_cons_succ, Nat.reduceLeDiff, Nat.le_refl, Nat.zero_le, Nat.add_zero, b_X12_product_33, cn_M1, en, r.1, r.2.1, ci, u0]
    refine ⟨fun q => ?_, fun q => ⟨vp_in_nI (by omega) (by decide), ?_⟩⟩
    · obtain rfl : i = N := by omega
      refine xInv.mk na (t, a, b, 0) ⟨rfl, rfl, rfl, rfl, trivial⟩ ⟨f, x, y, na, nb, i, r, hC, rfl, fun j h1 h2 => hz j h2, ?_⟩
      rw [sd_zero hz, show sd 65536 x 0 = 0 from rfl, Nat.zero_mul]
    · refine xInvL.mk (k - 1) (t, a, b, i + 1) (by omega) ⟨rfl, rfl, rfl, rfl, trivial⟩ ⟨_, x, y, na, nb, N, r.wr (by decide), hC.wr, by omega, fun j hj => ?_⟩
      rcases Nat.lt_or_ge j i with c | c
      · rw [va_un (by omega)]; exact hz j c
      · rw [show j = i by omega, va_us]
  refine xM_of (fun Q => b_X12_product_0 Q (xInv cn_M1 (I_M1 Q)) (xInv cn_M1 (I_M2 Q)) (xInv cn_M3 (I_M3 Q (xInv cn_M1 (I_M2 Q))))) RX12 false (fun Q => s_X12_product_0 G l Q _ _ _ (L1 Q) (L2 Q _ (L1 Q)) (L3 Q _ _ (L1 Q) (L2 Q _ (L1 Q)))) (by decide) rfl (by decide) ?_
  rintro av S Q ⟨t, a, b, u, v, rfl, o1, o2, ⟨f, n, r⟩, ⟨x, na, ra, rfl, za⟩, ⟨y, nb, rb, rfl, zb⟩, hm, hQ⟩
  refine ⟨Nat.le_of_ble_eq_true rfl, ?_⟩
  have h1 := ra.2.2.1
  have h2 := rb.2.2.1
  have ea : nI na = 0 ↔ na = 0 := nI_eq (b := 0) (by omega) (by decide)
  have eb : nI nb = 0 ↔ nb = 0 := nI_eq (b := 0) (by omega) (by decide)
  have g1 : nI na + nI nb = nI (na + nb) := nI_add na nb
  have zero : na = 0 ∨ nb = 0 → ∀ lv, xsub (cn_M1 (t, a, b, 0)) lv → xInv cn_M1 (I_M1 Q) lv [] (xup S.1 t (.inr (11, [.ref (t + 1), .int 0])), S.2) := fun h lv hs => xInv.mk 0 (t, a, b, 0) hs ⟨f, x, y, na, nb, 0, r.sz (m := 0) (Nat.zero_le _), ⟨o1, o2, ra.off off_sz (by omega), rb.off off_sz (by omega), Or.inr ⟨rfl, h⟩, by omega, fun h' o' r' => hQ h' (xoff_tr o' off_sz) r'⟩, rfl, fun j hj => absurd hj (Nat.not_lt_zero j)⟩
  simp only [x_c, x_iload, x_lload, x_aload, x_istore, x_lstore, x_astore, x_iinc, x_iadd, x_isub, x_imul, x_iand, x_ior, x_ixor, x_ladd, x_lsub, x_lmul, x_land, x_lor, x_lxor, x_idiv, x_irem, x_ldiv, x_lrem, x_ineg, x_lneg, x_ishl, x_ishr, x_iushr, x_lshl, x_lshr, x_lushr, x_i2l, x_l2i, x_i2b, x_i2c, x_lcmp, x_if_eq, x_if_ne, x_if_lt, x_if_ge, x_if_gt, x_if_le, x_icmp_eq, x_icmp_ne, x_icmp_lt, x_icmp_ge, x_icmp_gt, x_icmp_le, x_dup, x_pop, x_dup_x1, x_dup2, x_iret, x_zret, x_lret, x_aret, x_vret, x_call, x_callv, x_calli, x_oinit, x_mmax, x_mmin, x_mabs, x_mmaxL, x_mminL, x_mabsL, lg_cmp_ge, lg_cmp_le, lg_cmp_gt, lg_cmp_lt, lg_cmp_eq, xlk, xs1, xs2, lv_args, Value.category, List.filter_cons, List.filter_nil, Nat.reduceAdd, Nat.reduceBEq, Nat.reduceEqDiff, Nat.reduceSub, Nat.sub_zero, beq_self_eq_true, Bool.not_true, Bool.not_false, Bool.and_true, Bool.and_false, Bool.true_and, Bool.false_and, reduceIte, reduceCtorEq, Bool.false_eq_true, Nat.one_ne_zero, Nat.zero_ne_one, Nat.zero_add, Option.toList_some, Option.toList_none, List.nil_append, List.cons_append, List.take_succ_cons, List.take_zero, List.take_nil, List.drop_succ_cons, List.drop_zero, List.length_cons, List.length_nil, List.reverse_cons, List.reverse_nil, List.head?_cons, List.map_cons, List.map_nil, List.sum_cons, List.sum_nil, true_and, and_true, List.getElem?_cons_zero, List.getElem?_cons_succ, Prod.eta, x_get, x_put, x_iald, x_iast, x_bald, x_bast, x_lald, x_last, x_alen, xup_s, xup_a1, xup_1a, xup_uu, nr_i, nr_l, nr_o, nr_a, ft_i, ft_l, ft_o, ft_a, Nat.reduceLT, i_cl0, i_cl1, i_n1, i_m1, List.set_cons_zero, List.set_cons_succ, Nat.reduceLeDiff, Nat.le_refl, Nat.zero_le, Nat.add_zero, b_X12_product_0, b_X12_product_15, b_X12_product_28, ra.1, rb.1, r.1, ea, eb, g1]
  refine ⟨fun q => zero (Or.inl q) _ ⟨rfl, rfl, rfl, rfl, trivial⟩, fun q => ⟨fun z => ?_, fun z => zero (Or.inr z) _ ⟨rfl, rfl, rfl, rfl, trivial⟩⟩⟩
  have hsz : na + nb ≤ 640 := by
    have k1 := Nat.mul_le_mul (sd_top (B := 65536) (by omega) (za (by omega))) (sd_top (B := 65536) (by omega) (zb (by omega)))
    rw [← Nat.pow_add] at k1
    have k2 : (na - 1) + (nb - 1) < 639 := (Nat.pow_lt_pow_iff_right (a := 65536) (by decide)).mp (Nat.lt_of_le_of_lt k1 hm)
    omega
  exact xInv.mk (na + nb) (t, a, b, 0) ⟨rfl, rfl, rfl, rfl, trivial⟩ ⟨f, x, y, na, nb, na + nb, r.sz hsz, ⟨o1, o2, ra.off off_sz (by omega), rb.off off_sz (by omega), Or.inl ⟨rfl, by omega, by omega⟩, hsz, fun h' o' r' => hQ h' (xoff_tr o' off_sz) r'⟩, rfl, fun j hj => absurd hj (Nat.not_lt_zero j)⟩
