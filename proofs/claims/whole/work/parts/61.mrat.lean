/-! ratios -/
def raB (t : Nat → Nat) (f sl e : Nat) : Bool := decide (f < sl) && decide (sl + 1 < e) && alB t f (sl - f) && alB t (sl + 1) (e - (sl + 1)) && decide (dcV t (sl + 1) (e - (sl + 1)) ≠ 0)
theorem mV_sz {h : xH} {a v : Nat} (m : mV h a v) : ∃ n, n ≤ 640 ∧ h a = some (.inr (11, [.ref (a + 1), .int (nI n)])) ∧ (n = 0 ↔ v = 0) := by
  obtain ⟨x, n, r, e, z⟩ := m
  refine ⟨n, r.2.2.1, r.1, ⟨fun q => ?_, fun q => ?_⟩⟩
  · rw [← e, q]
    rfl
  · rcases Nat.eq_zero_or_pos n with c | c
    · exact c
    · have := sd_top (B := 65536) c (z c)
      rw [e, q] at this
      have : 0 < 65536 ^ (n - 1) := Nat.pow_pos (by decide)
      omega
theorem al_10 {t : Nat → Nat} {p k : Nat} (h : alB t p k = true) (hk : k ≤ 400) : dcV t p k < 16 ^ 400 := by
  have a := dcV_lt h
  have b : 10 ^ k ≤ 16 ^ k := Nat.pow_le_pow_left (by decide) k
  have c : 16 ^ k ≤ 16 ^ 400 := Nat.pow_le_pow_right (by decide) hk
  omega
theorem k_setq {h : xH} {T : Nat × Nat × Nat} {K : xQ} {r : Nat} {b : Bool} {p q : Nat} {e : Int} (n : nuR h r b p q e) (c : ∀ h2, xoff h2 h (r + 3) (r + 5) → nuR h2 r b p 0 e → K none (h2, T)) : (∃ b fs, some (Value.ref (r + 3)) = some (.ref b) ∧ h b = some (.inr (11, fs))) ∧ C_X12_set [.ref (r + 3), .long 0] (h, T) K := by
  obtain ⟨x, m, y1, y2⟩ := id n.2.2.1
  refine ⟨⟨_, _, rfl, y1.1⟩, r + 3, x, m, 0, rfl, by decide, y1, fun h2 o2 v2 => ?_⟩
  exact c h2 o2 ⟨(o2 r (by omega)).trans n.1, n.2.1.off o2 (by omega), v2, n.2.2.2⟩
theorem dX14_readRatio_0 : decode cX14_readRatio 0 = .ok (.iload_n 2, 1) := by decide +kernel
theorem dX14_readRatio_1 : decode cX14_readRatio 1 = .ok (.iload_n 1, 1) := by decide +kernel
theorem dX14_readRatio_2 : decode cX14_readRatio 2 = .ok (.if_icmp .le 14, 3) := by decide +kernel
theorem dX14_readRatio_5 : decode cX14_readRatio 5 = .ok (.iload_n 2, 1) := by decide +kernel
theorem dX14_readRatio_6 : decode cX14_readRatio 6 = .ok (.iconst 1, 1) := by decide +kernel
theorem dX14_readRatio_7 : decode cX14_readRatio 7 = .ok (.iadd, 1) := by decide +kernel
theorem dX14_readRatio_8 : decode cX14_readRatio 8 = .ok (.iload_n 3, 1) := by decide +kernel
theorem dX14_readRatio_9 : decode cX14_readRatio 9 = .ok (.if_icmp .ge 7, 3) := by decide +kernel
theorem dX14_readRatio_12 : decode cX14_readRatio 12 = .ok (.iconst 1, 1) := by decide +kernel
theorem dX14_readRatio_13 : decode cX14_readRatio 13 = .ok (.goto 4, 3) := by decide +kernel
theorem dX14_readRatio_16 : decode cX14_readRatio 16 = .ok (.iconst 0, 1) := by decide +kernel
theorem dX14_readRatio_17 : decode cX14_readRatio 17 = .ok (.istore 5, 2) := by decide +kernel
theorem dX14_readRatio_19 : decode cX14_readRatio 19 = .ok (.aload 4, 2) := by decide +kernel
theorem dX14_readRatio_21 : decode cX14_readRatio 21 = .ok (.lconst 0, 1) := by decide +kernel
theorem dX14_readRatio_22 : decode cX14_readRatio 22 = .ok (.invokevirtual 294, 3) := by decide +kernel
theorem dX14_readRatio_25 : decode cX14_readRatio 25 = .ok (.aload 4, 2) := by decide +kernel
theorem dX14_readRatio_27 : decode cX14_readRatio 27 = .ok (.getfield 1, 3) := by decide +kernel
theorem dX14_readRatio_30 : decode cX14_readRatio 30 = .ok (.lconst 0, 1) := by decide +kernel
theorem dX14_readRatio_31 : decode cX14_readRatio 31 = .ok (.invokevirtual 404, 3) := by decide +kernel
theorem dX14_readRatio_34 : decode cX14_readRatio 34 = .ok (.iload_n 1, 1) := by decide +kernel
theorem dX14_readRatio_35 : decode cX14_readRatio 35 = .ok (.istore 6, 2) := by decide +kernel
theorem dX14_readRatio_37 : decode cX14_readRatio 37 = .ok (.iload 6, 2) := by decide +kernel
theorem dX14_readRatio_39 : decode cX14_readRatio 39 = .ok (.iload_n 3, 1) := by decide +kernel
theorem dX14_readRatio_40 : decode cX14_readRatio 40 = .ok (.if_icmp .ge 99, 3) := by decide +kernel
theorem dX14_readRatio_43 : decode cX14_readRatio 43 = .ok (.iload 6, 2) := by decide +kernel
theorem dX14_readRatio_45 : decode cX14_readRatio 45 = .ok (.iload_n 2, 1) := by decide +kernel
theorem dX14_readRatio_46 : decode cX14_readRatio 46 = .ok (.if_icmp .eq 87, 3) := by decide +kernel
theorem dX14_readRatio_49 : decode cX14_readRatio 49 = .ok (.iload 5, 2) := by decide +kernel
theorem dX14_readRatio_51 : decode cX14_readRatio 51 = .ok (.ifCond .eq 20, 3) := by decide +kernel
theorem dX14_readRatio_54 : decode cX14_readRatio 54 = .ok (.aload_n 0, 1) := by decide +kernel
theorem dX14_readRatio_55 : decode cX14_readRatio 55 = .ok (.getfield 122, 3) := by decide +kernel
theorem dX14_readRatio_58 : decode cX14_readRatio 58 = .ok (.iload 6, 2) := by decide +kernel
theorem dX14_readRatio_60 : decode cX14_readRatio 60 = .ok (.iaload, 1) := by decide +kernel
theorem dX14_readRatio_61 : decode cX14_readRatio 61 = .ok (.invokestatic 361, 3) := by decide +kernel
theorem dX14_readRatio_64 : decode cX14_readRatio 64 = .ok (.ifCond .eq 7, 3) := by decide +kernel
theorem dX14_readRatio_67 : decode cX14_readRatio 67 = .ok (.iconst 1, 1) := by decide +kernel
theorem dX14_readRatio_68 : decode cX14_readRatio 68 = .ok (.goto 4, 3) := by decide +kernel
theorem dX14_readRatio_71 : decode cX14_readRatio 71 = .ok (.iconst 0, 1) := by decide +kernel
theorem dX14_readRatio_72 : decode cX14_readRatio 72 = .ok (.istore 5, 2) := by decide +kernel
theorem dX14_readRatio_74 : decode cX14_readRatio 74 = .ok (.iload 5, 2) := by decide +kernel
theorem dX14_readRatio_76 : decode cX14_readRatio 76 = .ok (.ifCond .eq 32, 3) := by decide +kernel
theorem dX14_readRatio_79 : decode cX14_readRatio 79 = .ok (.iload 6, 2) := by decide +kernel
theorem dX14_readRatio_81 : decode cX14_readRatio 81 = .ok (.iload_n 2, 1) := by decide +kernel
theorem dX14_readRatio_82 : decode cX14_readRatio 82 = .ok (.if_icmp .ge 26, 3) := by decide +kernel
theorem dX14_readRatio_85 : decode cX14_readRatio 85 = .ok (.aload 4, 2) := by decide +kernel
theorem dX14_readRatio_87 : decode cX14_readRatio 87 = .ok (.getfield 18, 3) := by decide +kernel
theorem dX14_readRatio_90 : decode cX14_readRatio 90 = .ok (.bipush 10, 2) := by decide +kernel
theorem dX14_readRatio_92 : decode cX14_readRatio 92 = .ok (.aload_n 0, 1) := by decide +kernel
theorem dX14_readRatio_93 : decode cX14_readRatio 93 = .ok (.getfield 122, 3) := by decide +kernel
theorem dX14_readRatio_96 : decode cX14_readRatio 96 = .ok (.iload 6, 2) := by decide +kernel
theorem dX14_readRatio_98 : decode cX14_readRatio 98 = .ok (.iaload, 1) := by decide +kernel
theorem dX14_readRatio_99 : decode cX14_readRatio 99 = .ok (.bipush 48, 2) := by decide +kernel
theorem dX14_readRatio_101 : decode cX14_readRatio 101 = .ok (.isub, 1) := by decide +kernel
theorem dX14_readRatio_102 : decode cX14_readRatio 102 = .ok (.invokevirtual 379, 3) := by decide +kernel
theorem dX14_readRatio_105 : decode cX14_readRatio 105 = .ok (.goto 28, 3) := by decide +kernel
theorem dX14_readRatio_108 : decode cX14_readRatio 108 = .ok (.iload 5, 2) := by decide +kernel
theorem dX14_readRatio_110 : decode cX14_readRatio 110 = .ok (.ifCond .eq 23, 3) := by decide +kernel
theorem dX14_readRatio_113 : decode cX14_readRatio 113 = .ok (.aload 4, 2) := by decide +kernel
theorem dX14_readRatio_115 : decode cX14_readRatio 115 = .ok (.getfield 1, 3) := by decide +kernel
theorem dX14_readRatio_118 : decode cX14_readRatio 118 = .ok (.bipush 10, 2) := by decide +kernel
theorem dX14_readRatio_120 : decode cX14_readRatio 120 = .ok (.aload_n 0, 1) := by decide +kernel
theorem dX14_readRatio_121 : decode cX14_readRatio 121 = .ok (.getfield 122, 3) := by decide +kernel
theorem dX14_readRatio_124 : decode cX14_readRatio 124 = .ok (.iload 6, 2) := by decide +kernel
theorem dX14_readRatio_126 : decode cX14_readRatio 126 = .ok (.iaload, 1) := by decide +kernel
theorem dX14_readRatio_127 : decode cX14_readRatio 127 = .ok (.bipush 48, 2) := by decide +kernel
theorem dX14_readRatio_129 : decode cX14_readRatio 129 = .ok (.isub, 1) := by decide +kernel
theorem dX14_readRatio_130 : decode cX14_readRatio 130 = .ok (.invokevirtual 379, 3) := by decide +kernel
theorem dX14_readRatio_133 : decode cX14_readRatio 133 = .ok (.iinc 6 1, 3) := by decide +kernel
theorem dX14_readRatio_136 : decode cX14_readRatio 136 = .ok (.goto (-99), 3) := by decide +kernel
theorem dX14_readRatio_139 : decode cX14_readRatio 139 = .ok (.iload 5, 2) := by decide +kernel
theorem dX14_readRatio_141 : decode cX14_readRatio 141 = .ok (.ifCond .eq 18, 3) := by decide +kernel
theorem dX14_readRatio_144 : decode cX14_readRatio 144 = .ok (.aload 4, 2) := by decide +kernel
theorem dX14_readRatio_146 : decode cX14_readRatio 146 = .ok (.getfield 1, 3) := by decide +kernel
theorem dX14_readRatio_149 : decode cX14_readRatio 149 = .ok (.getfield 405, 3) := by decide +kernel
theorem dX14_readRatio_152 : decode cX14_readRatio 152 = .ok (.ifCond .le 7, 3) := by decide +kernel
theorem dX14_readRatio_155 : decode cX14_readRatio 155 = .ok (.iconst 1, 1) := by decide +kernel
theorem dX14_readRatio_156 : decode cX14_readRatio 156 = .ok (.goto 4, 3) := by decide +kernel
theorem dX14_readRatio_159 : decode cX14_readRatio 159 = .ok (.iconst 0, 1) := by decide +kernel
theorem dX14_readRatio_160 : decode cX14_readRatio 160 = .ok (.ireturn, 1) := by decide +kernel
abbrev r_X14_readRatio : Room := { frames := 2, cells := 0, slots := 0, locals := 46 }
abbrev m_X14_readRatio : xMd := (cX14_readRatio, RX14, 7, (some FieldType.boolean), false, r_X14_readRatio)
def b_X14_readRatio_17 (Q : xQ) (K37 : xK) : xK := x_istore 5 <| x_aload 4 <| x_c (.long 0) <| x_callv 12 C_X13_set 2 0 0 <| x_aload 4 <| x_get 12 2 <| x_c (.long 0) <| x_callv 11 C_X12_set 2 0 0 <| x_iload 1 <| x_istore 6 <| K37
def b_X14_readRatio_133 (Q : xQ) (K37 : xK) : xK := x_iinc 6 1 <| K37
def b_X14_readRatio_160 (Q : xQ) (K37 : xK) : xK := x_zret FieldType.boolean Q
def b_X14_readRatio_16 (Q : xQ) (K37 : xK) : xK := x_c (.int 0) <| (b_X14_readRatio_17 Q K37)
def b_X14_readRatio_108 (Q : xQ) (K37 : xK) : xK := x_iload 5 <| x_if_eq ((b_X14_readRatio_133 Q K37)) <| x_aload 4 <| x_get 12 2 <| x_c (.int 10) <| x_aload 0 <| x_get 13 8 <| x_iload 6 <| x_iald <| x_c (.int 48) <| x_isub <| x_callv 11 C_X12_grow 3 0 0 <| (b_X14_readRatio_133 Q K37)
def b_X14_readRatio_159 (Q : xQ) (K37 : xK) : xK := x_c (.int 0) <| (b_X14_readRatio_160 Q K37)
def b_X14_readRatio_0 (Q : xQ) (K37 : xK) : xK := x_iload 2 <| x_iload 1 <| x_icmp_le ((b_X14_readRatio_16 Q K37)) <| x_iload 2 <| x_c (.int 1) <| x_iadd <| x_iload 3 <| x_icmp_ge ((b_X14_readRatio_16 Q K37)) <| x_c (.int 1) <| (b_X14_readRatio_17 Q K37)
def b_X14_readRatio_72 (Q : xQ) (K37 : xK) : xK := x_istore 5 <| x_iload 5 <| x_if_eq ((b_X14_readRatio_108 Q K37)) <| x_iload 6 <| x_iload 2 <| x_icmp_ge ((b_X14_readRatio_108 Q K37)) <| x_aload 4 <| x_get 12 1 <| x_c (.int 10) <| x_aload 0 <| x_get 13 8 <| x_iload 6 <| x_iald <| x_c (.int 48) <| x_isub <| x_callv 11 C_X12_grow 3 0 0 <| (b_X14_readRatio_133 Q K37)
def b_X14_readRatio_71 (Q : xQ) (K37 : xK) : xK := x_c (.int 0) <| (b_X14_readRatio_72 Q K37)
def b_X14_readRatio_37 (Q : xQ) (K37 : xK) : xK := x_iload 6 <| x_iload 3 <| x_icmp_ge (x_iload 5 <| x_if_eq ((b_X14_readRatio_159 Q K37)) <| x_aload 4 <| x_get 12 2 <| x_get 11 1 <| x_if_le ((b_X14_readRatio_159 Q K37)) <| x_c (.int 1) <| (b_X14_readRatio_160 Q K37)) <| x_iload 6 <| x_iload 2 <| x_icmp_eq ((b_X14_readRatio_133 Q K37)) <| x_iload 5 <| x_if_eq ((b_X14_readRatio_71 Q K37)) <| x_aload 0 <| x_get 13 8 <| x_iload 6 <| x_iald <| x_call C_X14_isDigit 1 0 0 <| x_if_eq ((b_X14_readRatio_71 Q K37)) <| x_c (.int 1) <| (b_X14_readRatio_72 Q K37)
theorem s_X14_readRatio_17 (G : xG) (l : Launch) (Q : xQ) (K37 : xK) (h37 : xW G l m_X14_readRatio xX0 (xPm G Q r_X14_readRatio) 37 K37) : xW G l m_X14_readRatio xX0 (xPm G Q r_X14_readRatio) 17 (b_X14_readRatio_17 Q K37) := xo_istore (pc := 17) (i := 5) dX14_readRatio_17 (by decide) <| xo_aload (pc := 19) (i := 4) dX14_readRatio_19 <| xo_lconst (pc := 21) dX14_readRatio_21 (by decide) <| xo_callV (pc := 22) (np := 1) (ci := 12) rfl (cM_X13_set G l) dX14_readRatio_22 kw1482 kw1479 kw1480 kw1481 kw15 (by decide +kernel) (by decide) <| xo_aload (pc := 25) (i := 4) dX14_readRatio_25 <| xo_getN (pc := 27) (ci := 12) (i := 2) rfl ok12 (by decide) dX14_readRatio_27 kw1188 <| xo_lconst (pc := 30) dX14_readRatio_30 (by decide) <| xo_callV (pc := 31) (np := 1) (ci := 11) rfl (cM_X12_set G l) dX14_readRatio_31 kw1393 kw1716 kw1391 kw1392 kw14 (by decide +kernel) (by decide) <| xo_iload_n (pc := 34) (i := 1) dX14_readRatio_34 rfl <| xo_istore (pc := 35) (i := 6) dX14_readRatio_35 (by decide) <| h37
theorem s_X14_readRatio_133 (G : xG) (l : Launch) (Q : xQ) (K37 : xK) (h37 : xW G l m_X14_readRatio xX0 (xPm G Q r_X14_readRatio) 37 K37) : xW G l m_X14_readRatio xX0 (xPm G Q r_X14_readRatio) 133 (b_X14_readRatio_133 Q K37) := xo_iinc (pc := 133) dX14_readRatio_133 (by decide) <| xo_goto (pc := 136) (tgt := 37) dX14_readRatio_136 (by decide) <| h37
theorem s_X14_readRatio_160 (G : xG) (l : Launch) (Q : xQ) (K37 : xK) (h37 : xW G l m_X14_readRatio xX0 (xPm G Q r_X14_readRatio) 37 K37) : xW G l m_X14_readRatio xX0 (xPm G Q r_X14_readRatio) 160 (b_X14_readRatio_160 Q K37) := xo_zret (pc := 160) rfl dX14_readRatio_160
theorem s_X14_readRatio_16 (G : xG) (l : Launch) (Q : xQ) (K37 : xK) (h37 : xW G l m_X14_readRatio xX0 (xPm G Q r_X14_readRatio) 37 K37) : xW G l m_X14_readRatio xX0 (xPm G Q r_X14_readRatio) 16 (b_X14_readRatio_16 Q K37) := xo_iconst (pc := 16) dX14_readRatio_16 (by decide) <| (s_X14_readRatio_17 G l Q K37 h37)
theorem s_X14_readRatio_108 (G : xG) (l : Launch) (Q : xQ) (K37 : xK) (h37 : xW G l m_X14_readRatio xX0 (xPm G Q r_X14_readRatio) 37 K37) : xW G l m_X14_readRatio xX0 (xPm G Q r_X14_readRatio) 108 (b_X14_readRatio_108 Q K37) := xo_iload (pc := 108) (i := 5) dX14_readRatio_108 <| xo_if_eq (pc := 110) (tgt := 133) dX14_readRatio_110 (by decide) ((s_X14_readRatio_133 G l Q K37 h37)) <| xo_aload (pc := 113) (i := 4) dX14_readRatio_113 <| xo_getN (pc := 115) (ci := 12) (i := 2) rfl ok12 (by decide) dX14_readRatio_115 kw1188 <| xo_bipush (pc := 118) dX14_readRatio_118 (by decide) <| xo_aload_n (pc := 120) (i := 0) dX14_readRatio_120 rfl <| xo_get (pc := 121) (ci := 13) (i := 8) rfl ok13 (by decide) dX14_readRatio_121 kw1209 <| xo_iload (pc := 124) (i := 6) dX14_readRatio_124 <| xo_iald (pc := 126) dX14_readRatio_126 <| xo_bipush (pc := 127) dX14_readRatio_127 (by decide) <| xo_isub (pc := 129) dX14_readRatio_129 <| xo_callV (pc := 130) (np := 2) (ci := 11) rfl (cM_X12_grow G l) dX14_readRatio_130 kw1451 kw1707 kw1449 kw1450 kw14 (by decide +kernel) (by decide) <| (s_X14_readRatio_133 G l Q K37 h37)
theorem s_X14_readRatio_159 (G : xG) (l : Launch) (Q : xQ) (K37 : xK) (h37 : xW G l m_X14_readRatio xX0 (xPm G Q r_X14_readRatio) 37 K37) : xW G l m_X14_readRatio xX0 (xPm G Q r_X14_readRatio) 159 (b_X14_readRatio_159 Q K37) := xo_iconst (pc := 159) dX14_readRatio_159 (by decide) <| (s_X14_readRatio_160 G l Q K37 h37)
theorem s_X14_readRatio_0 (G : xG) (l : Launch) (Q : xQ) (K37 : xK) (h37 : xW G l m_X14_readRatio xX0 (xPm G Q r_X14_readRatio) 37 K37) : xW G l m_X14_readRatio xX0 (xPm G Q r_X14_readRatio) 0 (b_X14_readRatio_0 Q K37) := xo_iload_n (pc := 0) (i := 2) dX14_readRatio_0 rfl <| xo_iload_n (pc := 1) (i := 1) dX14_readRatio_1 rfl <| xo_icmp_le (pc := 2) (tgt := 16) dX14_readRatio_2 (by decide) ((s_X14_readRatio_16 G l Q K37 h37)) <| xo_iload_n (pc := 5) (i := 2) dX14_readRatio_5 rfl <| xo_iconst (pc := 6) dX14_readRatio_6 (by decide) <| xo_iadd (pc := 7) dX14_readRatio_7 <| xo_iload_n (pc := 8) (i := 3) dX14_readRatio_8 rfl <| xo_icmp_ge (pc := 9) (tgt := 16) dX14_readRatio_9 (by decide) ((s_X14_readRatio_16 G l Q K37 h37)) <| xo_iconst (pc := 12) dX14_readRatio_12 (by decide) <| xo_goto (pc := 13) (tgt := 17) dX14_readRatio_13 (by decide) <| (s_X14_readRatio_17 G l Q K37 h37)
theorem s_X14_readRatio_72 (G : xG) (l : Launch) (Q : xQ) (K37 : xK) (h37 : xW G l m_X14_readRatio xX0 (xPm G Q r_X14_readRatio) 37 K37) : xW G l m_X14_readRatio xX0 (xPm G Q r_X14_readRatio) 72 (b_X14_readRatio_72 Q K37) := xo_istore (pc := 72) (i := 5) dX14_readRatio_72 (by decide) <| xo_iload (pc := 74) (i := 5) dX14_readRatio_74 <| xo_if_eq (pc := 76) (tgt := 108) dX14_readRatio_76 (by decide) ((s_X14_readRatio_108 G l Q K37 h37)) <| xo_iload (pc := 79) (i := 6) dX14_readRatio_79 <| xo_iload_n (pc := 81) (i := 2) dX14_readRatio_81 rfl <| xo_icmp_ge (pc := 82) (tgt := 108) dX14_readRatio_82 (by decide) ((s_X14_readRatio_108 G l Q K37 h37)) <| xo_aload (pc := 85) (i := 4) dX14_readRatio_85 <| xo_getN (pc := 87) (ci := 12) (i := 1) rfl ok12 (by decide) dX14_readRatio_87 kw1187 <| xo_bipush (pc := 90) dX14_readRatio_90 (by decide) <| xo_aload_n (pc := 92) (i := 0) dX14_readRatio_92 rfl <| xo_get (pc := 93) (ci := 13) (i := 8) rfl ok13 (by decide) dX14_readRatio_93 kw1209 <| xo_iload (pc := 96) (i := 6) dX14_readRatio_96 <| xo_iald (pc := 98) dX14_readRatio_98 <| xo_bipush (pc := 99) dX14_readRatio_99 (by decide) <| xo_isub (pc := 101) dX14_readRatio_101 <| xo_callV (pc := 102) (np := 2) (ci := 11) rfl (cM_X12_grow G l) dX14_readRatio_102 kw1451 kw1707 kw1449 kw1450 kw14 (by decide +kernel) (by decide) <| xo_goto (pc := 105) (tgt := 133) dX14_readRatio_105 (by decide) <| (s_X14_readRatio_133 G l Q K37 h37)
theorem s_X14_readRatio_71 (G : xG) (l : Launch) (Q : xQ) (K37 : xK) (h37 : xW G l m_X14_readRatio xX0 (xPm G Q r_X14_readRatio) 37 K37) : xW G l m_X14_readRatio xX0 (xPm G Q r_X14_readRatio) 71 (b_X14_readRatio_71 Q K37) := xo_iconst (pc := 71) dX14_readRatio_71 (by decide) <| (s_X14_readRatio_72 G l Q K37 h37)
theorem s_X14_readRatio_37 (G : xG) (l : Launch) (Q : xQ) (K37 : xK) (h37 : xW G l m_X14_readRatio xX0 (xPm G Q r_X14_readRatio) 37 K37) : xW G l m_X14_readRatio xX0 (xPm G Q r_X14_readRatio) 37 (b_X14_readRatio_37 Q K37) := xo_iload (pc := 37) (i := 6) dX14_readRatio_37 <| xo_iload_n (pc := 39) (i := 3) dX14_readRatio_39 rfl <| xo_icmp_ge (pc := 40) (tgt := 139) dX14_readRatio_40 (by decide) (xo_iload (pc := 139) (i := 5) dX14_readRatio_139 <| xo_if_eq (pc := 141) (tgt := 159) dX14_readRatio_141 (by decide) ((s_X14_readRatio_159 G l Q K37 h37)) <| xo_aload (pc := 144) (i := 4) dX14_readRatio_144 <| xo_getN (pc := 146) (ci := 12) (i := 2) rfl ok12 (by decide) dX14_readRatio_146 kw1188 <| xo_getN (pc := 149) (ci := 11) (i := 1) rfl ok11 (by decide) dX14_readRatio_149 kw1170 <| xo_if_le (pc := 152) (tgt := 159) dX14_readRatio_152 (by decide) ((s_X14_readRatio_159 G l Q K37 h37)) <| xo_iconst (pc := 155) dX14_readRatio_155 (by decide) <| xo_goto (pc := 156) (tgt := 160) dX14_readRatio_156 (by decide) <| (s_X14_readRatio_160 G l Q K37 h37)) <| xo_iload (pc := 43) (i := 6) dX14_readRatio_43 <| xo_iload_n (pc := 45) (i := 2) dX14_readRatio_45 rfl <| xo_icmp_eq (pc := 46) (tgt := 133) dX14_readRatio_46 (by decide) ((s_X14_readRatio_133 G l Q K37 h37)) <| xo_iload (pc := 49) (i := 5) dX14_readRatio_49 <| xo_if_eq (pc := 51) (tgt := 71) dX14_readRatio_51 (by decide) ((s_X14_readRatio_71 G l Q K37 h37)) <| xo_aload_n (pc := 54) (i := 0) dX14_readRatio_54 rfl <| xo_get (pc := 55) (ci := 13) (i := 8) rfl ok13 (by decide) dX14_readRatio_55 kw1209 <| xo_iload (pc := 58) (i := 6) dX14_readRatio_58 <| xo_iald (pc := 60) dX14_readRatio_60 <| xo_callS (pc := 61) (np := 1) (cM_X14_isDigit G l) dX14_readRatio_61 kw1706 kw1704 kw1705 kw13 (by decide +kernel) (by decide) <| xo_if_eq (pc := 64) (tgt := 71) dX14_readRatio_64 (by decide) ((s_X14_readRatio_71 G l Q K37 h37)) <| xo_iconst (pc := 67) dX14_readRatio_67 (by decide) <| xo_goto (pc := 68) (tgt := 72) dX14_readRatio_68 (by decide) <| (s_X14_readRatio_72 G l Q K37 h37)

def C_X14_readRatio : xC := fun av S Q => ∃ (M r : Nat) (s : Nat → Value) (lo hi : Int) (nn ls : Bool) (n : Nat) (cs : Nat → vC) (f sl e : Nat) (t : Nat → Nat), av = [.ref M, .int (nI f), .int (nI sl), .int (nI e), .ref r] ∧ f ≤ sl ∧ sl < e ∧ e ≤ 400 ∧ isN M r ∧ ms S.1 M s lo hi nn ls n cs ∧ tpR S.1 M t ∧ ∀ h' p q, xoff h' S.1 r (r + 5) → nuR h' r false p q 0 → (raB t f sl e = true → p = dcV t f (sl - f) ∧ q = dcV t (sl + 1) (e - (sl + 1))) → Q (some (.int (bI (raB t f sl e)))) (h', S.2)
def cn_X14_readRatio : Nat × Nat × Nat × Nat × Bool × Nat → List (Nat × Value) := fun v => [(0, .ref v.1), (2, .int (nI v.2.1)), (3, .int (nI v.2.2.1)), (4, .ref v.2.2.2.1), (5, .int (bI v.2.2.2.2.1)), (6, .int (nI v.2.2.2.2.2))]
def I_X14_readRatio (Q : xQ) : Nat → Nat × Nat × Nat × Nat × Bool × Nat → xS → Prop := fun m w S => match w with
  | (M, sl, e, r, g, k) => ∃ (s : Nat → Value) (lo hi : Int) (nn ls : Bool) (n : Nat) (cs : Nat → vC) (f : Nat) (t : Nat → Nat) (p q : Nat), m = e - k ∧ f ≤ k ∧ k ≤ e ∧ f ≤ sl ∧ sl < e ∧ e ≤ 400 ∧ isN M r ∧ (g = true → f < sl ∧ sl + 1 < e ∧ alB t f (min k sl - f) = true ∧ alB t (sl + 1) (k - (sl + 1)) = true ∧ p = dcV t f (min k sl - f) ∧ q = dcV t (sl + 1) (k - (sl + 1))) ∧ (g = false → raB t f sl e = false) ∧ ms S.1 M s lo hi nn ls n cs ∧ tpR S.1 M t ∧ nuR S.1 r false p q 0 ∧ ∀ h' p q, xoff h' S.1 r (r + 5) → nuR h' r false p q 0 → (raB t f sl e = true → p = dcV t f (sl - f) ∧ q = dcV t (sl + 1) (e - (sl + 1))) → Q (some (.int (bI (raB t f sl e)))) (h', S.2)
theorem raB_f1 {t : Nat → Nat} {f sl e i : Nat} (h : alB t f i = false) (hi : i ≤ sl - f) : raB t f sl e = false := by
  unfold raB
  rw [alB_f h hi, Bool.and_false, Bool.false_and, Bool.false_and]
theorem raB_f2 {t : Nat → Nat} {f sl e i : Nat} (h : alB t (sl + 1) i = false) (hi : i ≤ e - (sl + 1)) : raB t f sl e = false := by
  unfold raB
  rw [alB_f h hi, Bool.and_false, Bool.false_and]
theorem g640 {v d : Nat} (hv : v < 16 ^ 400) (hd : d < 10) : v * 10 + d < 65536 ^ 640 := by
  have a : v * 10 + d < 16 ^ 400 * 16 := by omega
  rw [← Nat.pow_succ] at a
  exact Nat.lt_trans a (p16_640 (by decide))
set_option maxHeartbeats 2000000 in
theorem rr_loop (G : xG) (l : Launch) (Q : xQ) : xW G l m_X14_readRatio xX0 (xPm G Q r_X14_readRatio) 37 (xInv cn_X14_readRatio (I_X14_readRatio Q)) := by
  refine xW.lp (b_X14_readRatio_37 Q) (fun K hK => s_X14_readRatio_37 G l Q K hK) ?_
  rintro m ⟨M, sl, e, r, g, k⟩ ⟨h, S2⟩ ⟨s, lo, hi, nn, ls, n, cs, f, t, p, q, rfl, fk, ke, fs, se, e4, hr, g1, g0, w, ht, nr, hQ⟩
  dsimp only at *
  have c1 : cn_X14_readRatio (M, sl, e, r, g, k) = [(0, .ref M), (2, .int (nI sl)), (3, .int (nI e)), (4, .ref r), (5, .int (bI g)), (6, .int (nI k))] := rfl
  rw [c1]
  have hr' : M + 25 ≤ r ∧ r + 5 ≤ M + 45 := by unfold isN at hr; omega
  have q1 := nc_le (a := e) (b := k) (by omega) (by omega)
  have q2 : nI k = nI sl ↔ k = sl := nI_eq (by omega) (by omega)
  have q3 := nc_le (a := sl) (b := k) (by omega) (by omega)
  have nk := nI_1 k
  have g133 : k < e → ∀ g' p' q' h2, xoff h2 h r (r + 5) → ms h2 M s lo hi nn ls n cs → tpR h2 M t → nuR h2 r false p' q' 0 → (g' = true → f < sl ∧ sl + 1 < e ∧ alB t f (min (k + 1) sl - f) = true ∧ alB t (sl + 1) (k + 1 - (sl + 1)) = true ∧ p' = dcV t f (min (k + 1) sl - f) ∧ q' = dcV t (sl + 1) (k + 1 - (sl + 1))) → (g' = false → raB t f sl e = false) → ∀ lv, xlk lv 0 = some (.ref M) → xlk lv 2 = some (.int (nI sl)) → xlk lv 3 = some (.int (nI e)) → xlk lv 4 = some (.ref r) → xlk lv 5 = some (.int (bI g')) → xlk lv 6 = some (.int (nI k)) → b_X14_readRatio_133 Q (xInvL cn_X14_readRatio (I_X14_readRatio Q) (e - k)) lv [] (h2, S2) := by
    intro kl g' p' q' h2 o2 w2 t2 n2 c1' c0' lv l0 l2 l3 l4 l5 l6
    unfold b_X14_readRatio_133 x_iinc
    rw [l6]
    show xInvL _ _ _ (xs1 lv 6 (.int (nI k + Int32.ofInt 1))) [] (h2, S2)
    rw [show nI k + Int32.ofInt 1 = nI (k + 1) from i_n1 k]
    have k6 : xlk (xs1 lv 6 (.int (nI (k + 1)))) 6 = some (.int (nI (k + 1))) := by unfold xs1; rw [q_xlk, if_pos rfl]
    exact xInvL.mk (e - (k + 1)) (M, sl, e, r, g', k + 1) (by omega) ⟨xlk_k1 l0 rfl (show 0 ≠ 6 by decide), xlk_k1 l2 rfl (show 2 ≠ 6 by decide), xlk_k1 l3 rfl (show 3 ≠ 6 by decide), xlk_k1 l4 rfl (show 4 ≠ 6 by decide), xlk_k1 l5 rfl (show 5 ≠ 6 by decide), k6, trivial⟩ ⟨s, lo, hi, nn, ls, n, cs, f, t, p', q', rfl, by omega, by omega, fs, se, e4, hr, c1', c0', w2, t2, n2, fun h' p' q' o' n' c' => hQ h' p' q' (xoff_tr o' o2) n' c'⟩
  unfold b_X14_readRatio_37 b_X14_readRatio_159 b_X14_readRatio_160 b_X14_readRatio_71
  have g72 : k < e → k ≠ sl → ∀ g', g' = (g && dgB (t k)) → b_X14_readRatio_72 Q (xInvL cn_X14_readRatio (I_X14_readRatio Q) (e - k)) [(0, .ref M), (2, .int (nI sl)), (3, .int (nI e)), (4, .ref r), (5, .int (bI g)), (6, .int (nI k))] [.int (bI g')] (h, S2) := by
    intro kl ks g' hg'
    have kk := g133 kl
    have tb := ht.2 k
    have bad : g' = false → raB t f sl e = false := by
      intro gf
      rw [hg'] at gf
      cases hg : g
      · exact g0 hg
      · rw [hg, Bool.true_and] at gf
        obtain ⟨a1, a2, a3, a4, a5, a6⟩ := g1 hg
        rcases Nat.lt_or_ge k sl with c | c
        · refine raB_f1 (i := k - f + 1) ?_ (by omega)
          show (alB t f (k - f) && dgB (t (f + (k - f)))) = false
          rw [show f + (k - f) = k by omega, gf, Bool.and_false]
        · refine raB_f2 (i := k - (sl + 1) + 1) ?_ (by omega)
          show (alB t (sl + 1) (k - (sl + 1)) && dgB (t (sl + 1 + (k - (sl + 1))))) = false
          rw [show sl + 1 + (k - (sl + 1)) = k by omega, gf, Bool.and_false]
    have dig : g' = true → g = true ∧ 48 ≤ t k ∧ t k ≤ 57 := by
      intro gt
      rw [hg', Bool.and_eq_true] at gt
      exact ⟨gt.1, of_decide_eq_true gt.2⟩
    have se48 : 48 ≤ t k → nI (t k) - 48 = nI (t k - 48) := fun h48 => pk_sub (b := 48) h48
    unfold b_X14_readRatio_72 b_X14_readRatio_108
    generalize b_X14_readRatio_133 Q (xInvL cn_X14_readRatio (I_X14_readRatio Q) (e - k)) = J at *
    simp only [q_c, x_iload, x_lload, x_aload, q_istore, q_lstore, q_astore, q_astore2, x_iinc, q_iadd, q_isub, q_imul, q_iand, q_ior, q_ixor, q_ladd, q_lsub, q_lmul, q_land, q_lor, q_lxor, q_idiv, q_irem, q_ldiv, q_lrem, q_ineg, q_lneg, q_ishl, q_ishr, q_iushr, q_lshl, q_lshr, q_lushr, q_i2l, q_l2i, q_i2b, q_i2c, q_lcmp, q_if_eq, q_if_ne, q_if_lt, q_if_ge, q_if_gt, q_if_le, q_icmp_eq, q_icmp_ne, q_icmp_lt, q_icmp_ge, q_icmp_gt, q_icmp_le, q_dup, q_pop, q_dup_x1, q_dup2, x_iret, x_zret, x_lret, x_aret, x_vret, x_call, x_callv, x_calli, x_oinit, x_mmax, x_mmin, x_mabs, x_mmaxL, x_mminL, x_mabsL, lg_cmp_ge, lg_cmp_le, lg_cmp_gt, lg_cmp_lt, lg_cmp_eq, xlk, q_xs1, q_xs2, lv_args, Value.category, List.filter_cons, List.filter_nil, Nat.reduceAdd, Nat.reduceBEq, Nat.reduceEqDiff, Nat.reduceSub, Nat.sub_zero, beq_self_eq_true, Bool.not_true, Bool.not_false, Bool.and_true, Bool.and_false, Bool.true_and, Bool.false_and, reduceIte, reduceCtorEq, Bool.false_eq_true, Nat.one_ne_zero, Nat.zero_ne_one, Nat.zero_add, Option.toList_some, Option.toList_none, List.nil_append, List.cons_append, List.take_succ_cons, List.take_zero, List.take_nil, List.drop_succ_cons, List.drop_zero, List.length_cons, List.length_nil, List.reverse_cons, List.reverse_nil, List.head?_cons, List.map_cons, List.map_nil, List.sum_cons, List.sum_nil, true_and, and_true, List.getElem?_cons_zero, List.getElem?_cons_succ, Prod.eta, x_iast, x_bald, x_bast, x_last, x_alen, xup_s, xup_a1, xup_1a, xup_uu, nr_i, nr_l, nr_o, nr_a, ft_i, ft_l, ft_o, ft_a, Nat.reduceLT, i_cl0, i_cl1, i_n1, i_m1, List.set_cons_zero, List.set_cons_succ, Nat.reduceLeDiff, Nat.le_refl, Nat.zero_le, Nat.add_zero, x_no, x_ifnull, x_ifnonnull, x_acmp_eq, x_acmp_ne, x_swl, x_tsw, x_castC, true_or, or_true, nr_z, ft_z, nr_z0, nr_z1, ft_z0, ft_z1, nr_on, nr_an, ft_on, ft_an, bI_e0, q3]
    refine ⟨fun a => ?_, fun a => ⟨fun b => ?_, fun b => ?_⟩⟩
    · simp only [q_c, x_iload, x_lload, x_aload, q_istore, q_lstore, q_astore, q_astore2, x_iinc, q_iadd, q_isub, q_imul, q_iand, q_ior, q_ixor, q_ladd, q_lsub, q_lmul, q_land, q_lor, q_lxor, q_idiv, q_irem, q_ldiv, q_lrem, q_ineg, q_lneg, q_ishl, q_ishr, q_iushr, q_lshl, q_lshr, q_lushr, q_i2l, q_l2i, q_i2b, q_i2c, q_lcmp, q_if_eq, q_if_ne, q_if_lt, q_if_ge, q_if_gt, q_if_le, q_icmp_eq, q_icmp_ne, q_icmp_lt, q_icmp_ge, q_icmp_gt, q_icmp_le, q_dup, q_pop, q_dup_x1, q_dup2, x_iret, x_zret, x_lret, x_aret, x_vret, x_call, x_callv, x_calli, x_oinit, x_mmax, x_mmin, x_mabs, x_mmaxL, x_mminL, x_mabsL, lg_cmp_ge, lg_cmp_le, lg_cmp_gt, lg_cmp_lt, lg_cmp_eq, xlk, q_xs1, q_xs2, lv_args, Value.category, List.filter_cons, List.filter_nil, Nat.reduceAdd, Nat.reduceBEq, Nat.reduceEqDiff, Nat.reduceSub, Nat.sub_zero, beq_self_eq_true, Bool.not_true, Bool.not_false, Bool.and_true, Bool.and_false, Bool.true_and, Bool.false_and, reduceIte, reduceCtorEq, Bool.false_eq_true, Nat.one_ne_zero, Nat.zero_ne_one, Nat.zero_add, Option.toList_some, Option.toList_none, List.nil_append, List.cons_append, List.take_succ_cons, List.take_zero, List.take_nil, List.drop_succ_cons, List.drop_zero, List.length_cons, List.length_nil, List.reverse_cons, List.reverse_nil, List.head?_cons, List.map_cons, List.map_nil, List.sum_cons, List.sum_nil, true_and, and_true, List.getElem?_cons_zero, List.getElem?_cons_succ, Prod.eta, x_iast, x_bald, x_bast, x_last, x_alen, xup_s, xup_a1, xup_1a, xup_uu, nr_i, nr_l, nr_o, nr_a, ft_i, ft_l, ft_o, ft_a, Nat.reduceLT, i_cl0, i_cl1, i_n1, i_m1, List.set_cons_zero, List.set_cons_succ, Nat.reduceLeDiff, Nat.le_refl, Nat.zero_le, Nat.add_zero, x_no, x_ifnull, x_ifnonnull, x_acmp_eq, x_acmp_ne, x_swl, x_tsw, x_castC, true_or, or_true, nr_z, ft_z, nr_z0, nr_z1, ft_z0, ft_z1, nr_on, nr_an, ft_on, ft_an, a, bI_f0, not_true_eq_false, true_implies, false_implies]
      exact kk g' p q h xoff_rf w ht nr (fun x => absurd x (by rw [a]; decide)) bad _ rfl rfl rfl rfl (by rw [a]; rfl) rfl
    · obtain ⟨gt, d1, d2⟩ := dig (eq_true_of_ne_false a)
      obtain ⟨a1, a2, a3, a4, a5, a6⟩ := g1 gt
      rw [show min k sl - f = sl - f by omega] at a3 a5
      refine ⟨fun y => absurd y a, fun _ => ?_⟩
      simp only [q_c, x_iload, x_lload, x_aload, q_istore, q_lstore, q_astore, q_astore2, x_iinc, q_iadd, q_isub, q_imul, q_iand, q_ior, q_ixor, q_ladd, q_lsub, q_lmul, q_land, q_lor, q_lxor, q_idiv, q_irem, q_ldiv, q_lrem, q_ineg, q_lneg, q_ishl, q_ishr, q_iushr, q_lshl, q_lshr, q_lushr, q_i2l, q_l2i, q_i2b, q_i2c, q_lcmp, q_if_eq, q_if_ne, q_if_lt, q_if_ge, q_if_gt, q_if_le, q_icmp_eq, q_icmp_ne, q_icmp_lt, q_icmp_ge, q_icmp_gt, q_icmp_le, q_dup, q_pop, q_dup_x1, q_dup2, x_iret, x_zret, x_lret, x_aret, x_vret, x_call, x_callv, x_calli, x_oinit, x_mmax, x_mmin, x_mabs, x_mmaxL, x_mminL, x_mabsL, lg_cmp_ge, lg_cmp_le, lg_cmp_gt, lg_cmp_lt, lg_cmp_eq, xlk, q_xs1, q_xs2, lv_args, Value.category, List.filter_cons, List.filter_nil, Nat.reduceAdd, Nat.reduceBEq, Nat.reduceEqDiff, Nat.reduceSub, Nat.sub_zero, beq_self_eq_true, Bool.not_true, Bool.not_false, Bool.and_true, Bool.and_false, Bool.true_and, Bool.false_and, reduceIte, reduceCtorEq, Bool.false_eq_true, Nat.one_ne_zero, Nat.zero_ne_one, Nat.zero_add, Option.toList_some, Option.toList_none, List.nil_append, List.cons_append, List.take_succ_cons, List.take_zero, List.take_nil, List.drop_succ_cons, List.drop_zero, List.length_cons, List.length_nil, List.reverse_cons, List.reverse_nil, List.head?_cons, List.map_cons, List.map_nil, List.sum_cons, List.sum_nil, true_and, and_true, List.getElem?_cons_zero, List.getElem?_cons_succ, Prod.eta, x_iast, x_bald, x_bast, x_last, x_alen, xup_s, xup_a1, xup_1a, xup_uu, nr_i, nr_l, nr_o, nr_a, ft_i, ft_l, ft_o, ft_a, Nat.reduceLT, i_cl0, i_cl1, i_n1, i_m1, List.set_cons_zero, List.set_cons_succ, Nat.reduceLeDiff, Nat.le_refl, Nat.zero_le, Nat.add_zero, x_no, x_ifnull, x_ifnonnull, x_acmp_eq, x_acmp_ne, x_swl, x_tsw, x_castC, true_or, or_true, nr_z, ft_z, nr_z0, nr_z1, ft_z0, ft_z1, nr_on, nr_an, ft_on, ft_an, nr.g2, ms.s6 w, ms.s7 w, ms.s9 w, ms.s15 w, ms.s23 w, ms.s24 w, ms.s25 w, ms.s26 w, ms.s8 w, ms.s10 w, ms.t6 w, ms.t9 w, ms.t15 w, ms.t23 w, ms.t24 w, ms.t7 w, ms.t7a w, ms.t7b w, ms.t25 w, ms.t25a w, ms.t25b w, ms.t26 w, ms.t26a w, ms.t26b w, tpR.ld ht (show k < 400 by omega), se48 d1]
      refine k_grq (F := 10) nr (by decide) (by decide) (by omega) (g640 (by rw [a6]; exact al_10 a4 (by omega)) (by omega)) (fun h2 o2 n2 => ?_)
      have o2' : xoff h2 h r (r + 5) := xoff_wd o2 (by omega) (by omega)
      try simp only [q_c, x_iload, x_lload, x_aload, q_istore, q_lstore, q_astore, q_astore2, x_iinc, q_iadd, q_isub, q_imul, q_iand, q_ior, q_ixor, q_ladd, q_lsub, q_lmul, q_land, q_lor, q_lxor, q_idiv, q_irem, q_ldiv, q_lrem, q_ineg, q_lneg, q_ishl, q_ishr, q_iushr, q_lshl, q_lshr, q_lushr, q_i2l, q_l2i, q_i2b, q_i2c, q_lcmp, q_if_eq, q_if_ne, q_if_lt, q_if_ge, q_if_gt, q_if_le, q_icmp_eq, q_icmp_ne, q_icmp_lt, q_icmp_ge, q_icmp_gt, q_icmp_le, q_dup, q_pop, q_dup_x1, q_dup2, x_iret, x_zret, x_lret, x_aret, x_vret, x_call, x_callv, x_calli, x_oinit, x_mmax, x_mmin, x_mabs, x_mmaxL, x_mminL, x_mabsL, lg_cmp_ge, lg_cmp_le, lg_cmp_gt, lg_cmp_lt, lg_cmp_eq, xlk, q_xs1, q_xs2, lv_args, Value.category, List.filter_cons, List.filter_nil, Nat.reduceAdd, Nat.reduceBEq, Nat.reduceEqDiff, Nat.reduceSub, Nat.sub_zero, beq_self_eq_true, Bool.not_true, Bool.not_false, Bool.and_true, Bool.and_false, Bool.true_and, Bool.false_and, reduceIte, reduceCtorEq, Bool.false_eq_true, Nat.one_ne_zero, Nat.zero_ne_one, Nat.zero_add, Option.toList_some, Option.toList_none, List.nil_append, List.cons_append, List.take_succ_cons, List.take_zero, List.take_nil, List.drop_succ_cons, List.drop_zero, List.length_cons, List.length_nil, List.reverse_cons, List.reverse_nil, List.head?_cons, List.map_cons, List.map_nil, List.sum_cons, List.sum_nil, true_and, and_true, List.getElem?_cons_zero, List.getElem?_cons_succ, Prod.eta, x_iast, x_bald, x_bast, x_last, x_alen, xup_s, xup_a1, xup_1a, xup_uu, nr_i, nr_l, nr_o, nr_a, ft_i, ft_l, ft_o, ft_a, Nat.reduceLT, i_cl0, i_cl1, i_n1, i_m1, List.set_cons_zero, List.set_cons_succ, Nat.reduceLeDiff, Nat.le_refl, Nat.zero_le, Nat.add_zero, x_no, x_ifnull, x_ifnonnull, x_acmp_eq, x_acmp_ne, x_swl, x_tsw, x_castC, true_or, or_true, nr_z, ft_z, nr_z0, nr_z1, ft_z0, ft_z1, nr_on, nr_an, ft_on, ft_an]
      refine kk g' p _ h2 o2' (w.nn o2' ⟨_, _, _, _, n2⟩ hr) (ht.o o2' (by omega)) n2 (fun x => ⟨a1, a2, ?_, ?_, ?_, ?_⟩) bad _ rfl rfl rfl rfl rfl rfl
      · rw [show min (k + 1) sl - f = sl - f by omega]; exact a3
      · rw [show k + 1 - (sl + 1) = (k - (sl + 1)) + 1 by omega]
        show (alB t (sl + 1) (k - (sl + 1)) && dgB (t (sl + 1 + (k - (sl + 1))))) = true
        rw [a4, show sl + 1 + (k - (sl + 1)) = k by omega, show dgB (t k) = true from decide_eq_true ⟨d1, d2⟩]
        rfl
      · rw [show min (k + 1) sl - f = sl - f by omega]; exact a5
      · rw [show k + 1 - (sl + 1) = (k - (sl + 1)) + 1 by omega]
        show _ = 10 * dcV t (sl + 1) (k - (sl + 1)) + (t (sl + 1 + (k - (sl + 1))) - 48)
        rw [show sl + 1 + (k - (sl + 1)) = k by omega, a6, Nat.mul_comm]
    · obtain ⟨gt, d1, d2⟩ := dig (eq_true_of_ne_false a)
      obtain ⟨a1, a2, a3, a4, a5, a6⟩ := g1 gt
      rw [show min k sl - f = k - f by omega] at a3 a5
      simp only [q_c, x_iload, x_lload, x_aload, q_istore, q_lstore, q_astore, q_astore2, x_iinc, q_iadd, q_isub, q_imul, q_iand, q_ior, q_ixor, q_ladd, q_lsub, q_lmul, q_land, q_lor, q_lxor, q_idiv, q_irem, q_ldiv, q_lrem, q_ineg, q_lneg, q_ishl, q_ishr, q_iushr, q_lshl, q_lshr, q_lushr, q_i2l, q_l2i, q_i2b, q_i2c, q_lcmp, q_if_eq, q_if_ne, q_if_lt, q_if_ge, q_if_gt, q_if_le, q_icmp_eq, q_icmp_ne, q_icmp_lt, q_icmp_ge, q_icmp_gt, q_icmp_le, q_dup, q_pop, q_dup_x1, q_dup2, x_iret, x_zret, x_lret, x_aret, x_vret, x_call, x_callv, x_calli, x_oinit, x_mmax, x_mmin, x_mabs, x_mmaxL, x_mminL, x_mabsL, lg_cmp_ge, lg_cmp_le, lg_cmp_gt, lg_cmp_lt, lg_cmp_eq, xlk, q_xs1, q_xs2, lv_args, Value.category, List.filter_cons, List.filter_nil, Nat.reduceAdd, Nat.reduceBEq, Nat.reduceEqDiff, Nat.reduceSub, Nat.sub_zero, beq_self_eq_true, Bool.not_true, Bool.not_false, Bool.and_true, Bool.and_false, Bool.true_and, Bool.false_and, reduceIte, reduceCtorEq, Bool.false_eq_true, Nat.one_ne_zero, Nat.zero_ne_one, Nat.zero_add, Option.toList_some, Option.toList_none, List.nil_append, List.cons_append, List.take_succ_cons, List.take_zero, List.take_nil, List.drop_succ_cons, List.drop_zero, List.length_cons, List.length_nil, List.reverse_cons, List.reverse_nil, List.head?_cons, List.map_cons, List.map_nil, List.sum_cons, List.sum_nil, true_and, and_true, List.getElem?_cons_zero, List.getElem?_cons_succ, Prod.eta, x_iast, x_bald, x_bast, x_last, x_alen, xup_s, xup_a1, xup_1a, xup_uu, nr_i, nr_l, nr_o, nr_a, ft_i, ft_l, ft_o, ft_a, Nat.reduceLT, i_cl0, i_cl1, i_n1, i_m1, List.set_cons_zero, List.set_cons_succ, Nat.reduceLeDiff, Nat.le_refl, Nat.zero_le, Nat.add_zero, x_no, x_ifnull, x_ifnonnull, x_acmp_eq, x_acmp_ne, x_swl, x_tsw, x_castC, true_or, or_true, nr_z, ft_z, nr_z0, nr_z1, ft_z0, ft_z1, nr_on, nr_an, ft_on, ft_an, nr.g1, ms.s6 w, ms.s7 w, ms.s9 w, ms.s15 w, ms.s23 w, ms.s24 w, ms.s25 w, ms.s26 w, ms.s8 w, ms.s10 w, ms.t6 w, ms.t9 w, ms.t15 w, ms.t23 w, ms.t24 w, ms.t7 w, ms.t7a w, ms.t7b w, ms.t25 w, ms.t25a w, ms.t25b w, ms.t26 w, ms.t26a w, ms.t26b w, tpR.ld ht (show k < 400 by omega), se48 d1]
      refine k_grp (F := 10) nr (by decide) (by decide) (by omega) (g640 (by rw [a5]; exact al_10 a3 (by omega)) (by omega)) (fun h2 o2 n2 => ?_)
      have o2' : xoff h2 h r (r + 5) := xoff_wd o2 (by omega) (by omega)
      try simp only [q_c, x_iload, x_lload, x_aload, q_istore, q_lstore, q_astore, q_astore2, x_iinc, q_iadd, q_isub, q_imul, q_iand, q_ior, q_ixor, q_ladd, q_lsub, q_lmul, q_land, q_lor, q_lxor, q_idiv, q_irem, q_ldiv, q_lrem, q_ineg, q_lneg, q_ishl, q_ishr, q_iushr, q_lshl, q_lshr, q_lushr, q_i2l, q_l2i, q_i2b, q_i2c, q_lcmp, q_if_eq, q_if_ne, q_if_lt, q_if_ge, q_if_gt, q_if_le, q_icmp_eq, q_icmp_ne, q_icmp_lt, q_icmp_ge, q_icmp_gt, q_icmp_le, q_dup, q_pop, q_dup_x1, q_dup2, x_iret, x_zret, x_lret, x_aret, x_vret, x_call, x_callv, x_calli, x_oinit, x_mmax, x_mmin, x_mabs, x_mmaxL, x_mminL, x_mabsL, lg_cmp_ge, lg_cmp_le, lg_cmp_gt, lg_cmp_lt, lg_cmp_eq, xlk, q_xs1, q_xs2, lv_args, Value.category, List.filter_cons, List.filter_nil, Nat.reduceAdd, Nat.reduceBEq, Nat.reduceEqDiff, Nat.reduceSub, Nat.sub_zero, beq_self_eq_true, Bool.not_true, Bool.not_false, Bool.and_true, Bool.and_false, Bool.true_and, Bool.false_and, reduceIte, reduceCtorEq, Bool.false_eq_true, Nat.one_ne_zero, Nat.zero_ne_one, Nat.zero_add, Option.toList_some, Option.toList_none, List.nil_append, List.cons_append, List.take_succ_cons, List.take_zero, List.take_nil, List.drop_succ_cons, List.drop_zero, List.length_cons, List.length_nil, List.reverse_cons, List.reverse_nil, List.head?_cons, List.map_cons, List.map_nil, List.sum_cons, List.sum_nil, true_and, and_true, List.getElem?_cons_zero, List.getElem?_cons_succ, Prod.eta, x_iast, x_bald, x_bast, x_last, x_alen, xup_s, xup_a1, xup_1a, xup_uu, nr_i, nr_l, nr_o, nr_a, ft_i, ft_l, ft_o, ft_a, Nat.reduceLT, i_cl0, i_cl1, i_n1, i_m1, List.set_cons_zero, List.set_cons_succ, Nat.reduceLeDiff, Nat.le_refl, Nat.zero_le, Nat.add_zero, x_no, x_ifnull, x_ifnonnull, x_acmp_eq, x_acmp_ne, x_swl, x_tsw, x_castC, true_or, or_true, nr_z, ft_z, nr_z0, nr_z1, ft_z0, ft_z1, nr_on, nr_an, ft_on, ft_an]
      refine kk g' _ q h2 o2' (w.nn o2' ⟨_, _, _, _, n2⟩ hr) (ht.o o2' (by omega)) n2 (fun x => ⟨a1, a2, ?_, ?_, ?_, ?_⟩) bad _ rfl rfl rfl rfl rfl rfl
      · rw [show min (k + 1) sl - f = (k - f) + 1 by omega]
        show (alB t f (k - f) && dgB (t (f + (k - f)))) = true
        rw [a3, show f + (k - f) = k by omega, show dgB (t k) = true from decide_eq_true ⟨d1, d2⟩]
        rfl
      · rw [show k + 1 - (sl + 1) = k - (sl + 1) by omega]; exact a4
      · rw [show min (k + 1) sl - f = (k - f) + 1 by omega]
        show _ = 10 * dcV t f (k - f) + (t (f + (k - f)) - 48)
        rw [show f + (k - f) = k by omega, a5, Nat.mul_comm]
      · rw [show k + 1 - (sl + 1) = k - (sl + 1) by omega]; exact a6
  have kk := g133
  generalize b_X14_readRatio_72 Q (xInvL cn_X14_readRatio (I_X14_readRatio Q) (e - k)) = J1 at *
  generalize b_X14_readRatio_133 Q (xInvL cn_X14_readRatio (I_X14_readRatio Q) (e - k)) = J2 at *
  obtain ⟨z, z1, z2, z3⟩ := mV_sz nr.2.2.1
  have gz : ∀ {k' : xK} {lv : List (Nat × Value)} {R : List Value}, x_get 11 1 k' lv (.ref (r + 3) :: R) (h, S2) = k' lv (.int (nI z) :: R) (h, S2) := fun {k' lv R} => q_get z2 rfl
  have lz : nI z ≤ 0 ↔ z ≤ 0 := nc_le (b := 0) (by omega) (by decide)
  simp only [q_c, x_iload, x_lload, x_aload, q_istore, q_lstore, q_astore, q_astore2, x_iinc, q_iadd, q_isub, q_imul, q_iand, q_ior, q_ixor, q_ladd, q_lsub, q_lmul, q_land, q_lor, q_lxor, q_idiv, q_irem, q_ldiv, q_lrem, q_ineg, q_lneg, q_ishl, q_ishr, q_iushr, q_lshl, q_lshr, q_lushr, q_i2l, q_l2i, q_i2b, q_i2c, q_lcmp, q_if_eq, q_if_ne, q_if_lt, q_if_ge, q_if_gt, q_if_le, q_icmp_eq, q_icmp_ne, q_icmp_lt, q_icmp_ge, q_icmp_gt, q_icmp_le, q_dup, q_pop, q_dup_x1, q_dup2, x_iret, x_zret, x_lret, x_aret, x_vret, x_call, x_callv, x_calli, x_oinit, x_mmax, x_mmin, x_mabs, x_mmaxL, x_mminL, x_mabsL, lg_cmp_ge, lg_cmp_le, lg_cmp_gt, lg_cmp_lt, lg_cmp_eq, xlk, q_xs1, q_xs2, lv_args, Value.category, List.filter_cons, List.filter_nil, Nat.reduceAdd, Nat.reduceBEq, Nat.reduceEqDiff, Nat.reduceSub, Nat.sub_zero, beq_self_eq_true, Bool.not_true, Bool.not_false, Bool.and_true, Bool.and_false, Bool.true_and, Bool.false_and, reduceIte, reduceCtorEq, Bool.false_eq_true, Nat.one_ne_zero, Nat.zero_ne_one, Nat.zero_add, Option.toList_some, Option.toList_none, List.nil_append, List.cons_append, List.take_succ_cons, List.take_zero, List.take_nil, List.drop_succ_cons, List.drop_zero, List.length_cons, List.length_nil, List.reverse_cons, List.reverse_nil, List.head?_cons, List.map_cons, List.map_nil, List.sum_cons, List.sum_nil, true_and, and_true, List.getElem?_cons_zero, List.getElem?_cons_succ, Prod.eta, x_iast, x_bald, x_bast, x_last, x_alen, xup_s, xup_a1, xup_1a, xup_uu, nr_i, nr_l, nr_o, nr_a, ft_i, ft_l, ft_o, ft_a, Nat.reduceLT, i_cl0, i_cl1, i_n1, i_m1, List.set_cons_zero, List.set_cons_succ, Nat.reduceLeDiff, Nat.le_refl, Nat.zero_le, Nat.add_zero, x_no, x_ifnull, x_ifnonnull, x_acmp_eq, x_acmp_ne, x_swl, x_tsw, x_castC, true_or, or_true, nr_z, ft_z, nr_z0, nr_z1, ft_z0, ft_z1, nr_on, nr_an, ft_on, ft_an, q1, q2, bI_e0, nr.g2, gz, lz, ms.s6 w, ms.s7 w, ms.s9 w, ms.s15 w, ms.s23 w, ms.s24 w, ms.s25 w, ms.s26 w, ms.s8 w, ms.s10 w, ms.t6 w, ms.t9 w, ms.t15 w, ms.t23 w, ms.t24 w, ms.t7 w, ms.t7a w, ms.t7b w, ms.t25 w, ms.t25a w, ms.t25b w, ms.t26 w, ms.t26a w, ms.t26b w]
  refine ⟨fun a => ?_, fun a => ⟨fun b => ?_, fun b => ⟨fun c => ?_, fun c => ?_⟩⟩⟩
  · obtain rfl : k = e := by omega
    have fin : ∀ v, v = raB t f sl k → Q (some (.int (bI v))) (h, S2) := fun v hv => by
      rw [hv]
      refine hQ h p q xoff_rf nr (fun x => ?_)
      cases hg : g
      · rw [g0 hg] at x
        cases x
      · obtain ⟨a1, a2, a3, a4, a5, a6⟩ := g1 hg
        rw [show min k sl - f = sl - f by omega] at a5
        exact ⟨a5, a6⟩
    refine ⟨fun b => fin false (g0 b).symm, fun b => ?_⟩
    obtain ⟨a1, a2, a3, a4, a5, a6⟩ := g1 (eq_true_of_ne_false b)
    rw [show min k sl - f = sl - f by omega] at a3
    refine ⟨fun c => fin false ?_, fun c => fin true ?_⟩
    · unfold raB
      rw [decide_eq_false (show ¬ dcV t (sl + 1) (k - (sl + 1)) ≠ 0 by rw [← a6]; omega), Bool.and_false]
    · unfold raB
      rw [decide_eq_true a1, decide_eq_true a2, a3, a4, decide_eq_true (show dcV t (sl + 1) (k - (sl + 1)) ≠ 0 by rw [← a6]; omega)]
      rfl
  · refine kk (by omega) g p q h xoff_rf w ht nr (fun x => ?_) g0 _ rfl rfl rfl rfl rfl rfl
    obtain ⟨a1, a2, a3, a4, a5, a6⟩ := g1 x
    rw [show min (k + 1) sl - f = min k sl - f by omega, show k + 1 - (sl + 1) = k - (sl + 1) by omega]
    exact ⟨a1, a2, a3, a4, a5, a6⟩
  · exact g72 (by omega) b false (by rw [c]; rfl)
  · have tb := ht.2 k
    simp only [q_c, x_iload, x_lload, x_aload, q_istore, q_lstore, q_astore, q_astore2, x_iinc, q_iadd, q_isub, q_imul, q_iand, q_ior, q_ixor, q_ladd, q_lsub, q_lmul, q_land, q_lor, q_lxor, q_idiv, q_irem, q_ldiv, q_lrem, q_ineg, q_lneg, q_ishl, q_ishr, q_iushr, q_lshl, q_lshr, q_lushr, q_i2l, q_l2i, q_i2b, q_i2c, q_lcmp, q_if_eq, q_if_ne, q_if_lt, q_if_ge, q_if_gt, q_if_le, q_icmp_eq, q_icmp_ne, q_icmp_lt, q_icmp_ge, q_icmp_gt, q_icmp_le, q_dup, q_pop, q_dup_x1, q_dup2, x_iret, x_zret, x_lret, x_aret, x_vret, x_call, x_callv, x_calli, x_oinit, x_mmax, x_mmin, x_mabs, x_mmaxL, x_mminL, x_mabsL, lg_cmp_ge, lg_cmp_le, lg_cmp_gt, lg_cmp_lt, lg_cmp_eq, xlk, q_xs1, q_xs2, lv_args, Value.category, List.filter_cons, List.filter_nil, Nat.reduceAdd, Nat.reduceBEq, Nat.reduceEqDiff, Nat.reduceSub, Nat.sub_zero, beq_self_eq_true, Bool.not_true, Bool.not_false, Bool.and_true, Bool.and_false, Bool.true_and, Bool.false_and, reduceIte, reduceCtorEq, Bool.false_eq_true, Nat.one_ne_zero, Nat.zero_ne_one, Nat.zero_add, Option.toList_some, Option.toList_none, List.nil_append, List.cons_append, List.take_succ_cons, List.take_zero, List.take_nil, List.drop_succ_cons, List.drop_zero, List.length_cons, List.length_nil, List.reverse_cons, List.reverse_nil, List.head?_cons, List.map_cons, List.map_nil, List.sum_cons, List.sum_nil, true_and, and_true, List.getElem?_cons_zero, List.getElem?_cons_succ, Prod.eta, x_iast, x_bald, x_bast, x_last, x_alen, xup_s, xup_a1, xup_1a, xup_uu, nr_i, nr_l, nr_o, nr_a, ft_i, ft_l, ft_o, ft_a, Nat.reduceLT, i_cl0, i_cl1, i_n1, i_m1, List.set_cons_zero, List.set_cons_succ, Nat.reduceLeDiff, Nat.le_refl, Nat.zero_le, Nat.add_zero, x_no, x_ifnull, x_ifnonnull, x_acmp_eq, x_acmp_ne, x_swl, x_tsw, x_castC, true_or, or_true, nr_z, ft_z, nr_z0, nr_z1, ft_z0, ft_z1, nr_on, nr_an, ft_on, ft_an, tpR.ld ht (show k < 400 by omega)]
    refine ⟨t k, rfl, tb, ?_⟩
    simp only [q_c, x_iload, x_lload, x_aload, q_istore, q_lstore, q_astore, q_astore2, x_iinc, q_iadd, q_isub, q_imul, q_iand, q_ior, q_ixor, q_ladd, q_lsub, q_lmul, q_land, q_lor, q_lxor, q_idiv, q_irem, q_ldiv, q_lrem, q_ineg, q_lneg, q_ishl, q_ishr, q_iushr, q_lshl, q_lshr, q_lushr, q_i2l, q_l2i, q_i2b, q_i2c, q_lcmp, q_if_eq, q_if_ne, q_if_lt, q_if_ge, q_if_gt, q_if_le, q_icmp_eq, q_icmp_ne, q_icmp_lt, q_icmp_ge, q_icmp_gt, q_icmp_le, q_dup, q_pop, q_dup_x1, q_dup2, x_iret, x_zret, x_lret, x_aret, x_vret, x_call, x_callv, x_calli, x_oinit, x_mmax, x_mmin, x_mabs, x_mmaxL, x_mminL, x_mabsL, lg_cmp_ge, lg_cmp_le, lg_cmp_gt, lg_cmp_lt, lg_cmp_eq, xlk, q_xs1, q_xs2, lv_args, Value.category, List.filter_cons, List.filter_nil, Nat.reduceAdd, Nat.reduceBEq, Nat.reduceEqDiff, Nat.reduceSub, Nat.sub_zero, beq_self_eq_true, Bool.not_true, Bool.not_false, Bool.and_true, Bool.and_false, Bool.true_and, Bool.false_and, reduceIte, reduceCtorEq, Bool.false_eq_true, Nat.one_ne_zero, Nat.zero_ne_one, Nat.zero_add, Option.toList_some, Option.toList_none, List.nil_append, List.cons_append, List.take_succ_cons, List.take_zero, List.take_nil, List.drop_succ_cons, List.drop_zero, List.length_cons, List.length_nil, List.reverse_cons, List.reverse_nil, List.head?_cons, List.map_cons, List.map_nil, List.sum_cons, List.sum_nil, true_and, and_true, List.getElem?_cons_zero, List.getElem?_cons_succ, Prod.eta, x_iast, x_bald, x_bast, x_last, x_alen, xup_s, xup_a1, xup_1a, xup_uu, nr_i, nr_l, nr_o, nr_a, ft_i, ft_l, ft_o, ft_a, Nat.reduceLT, i_cl0, i_cl1, i_n1, i_m1, List.set_cons_zero, List.set_cons_succ, Nat.reduceLeDiff, Nat.le_refl, Nat.zero_le, Nat.add_zero, x_no, x_ifnull, x_ifnonnull, x_acmp_eq, x_acmp_ne, x_swl, x_tsw, x_castC, true_or, or_true, nr_z, ft_z, nr_z0, nr_z1, ft_z0, ft_z1, nr_on, nr_an, ft_on, ft_an, bI_e0]
    exact ⟨fun d => g72 (by omega) b false (by rw [d, Bool.and_false]), fun d => g72 (by omega) b true (by rw [eq_true_of_ne_false c, eq_true_of_ne_false d]; rfl)⟩
theorem ms.ne {h : xH} {M r : Nat} {s : Nat → Value} {lo hi : Int} {nn ls : Bool} {n : Nat} {cs : Nat → vC} (w : ms h M s lo hi nn ls n cs) (hr : isN M r) : nuE h r := by
  obtain ⟨x1, x2, x3, x4⟩ := w.1.2.2
  rcases hr with rfl | rfl | rfl | rfl
  · exact x1
  · exact x2
  · exact x3
  · exact x4
theorem cM_X14_readRatio (G : xG) (l : Launch) : xM G l yX14_readRatio cX14_readRatio 7 (some FieldType.boolean) r_X14_readRatio C_X14_readRatio := by
  refine xM_of (fun Q => b_X14_readRatio_0 Q (xInv cn_X14_readRatio (I_X14_readRatio Q))) RX14 false (fun Q => s_X14_readRatio_0 G l Q _ (rr_loop G l Q)) (by decide) rfl (by decide) ?_
  rintro av ⟨h, S2⟩ Q ⟨M, r, s, lo, hi, nn, ls, n, cs, f, sl, e, t, rfl, fs, se, e4, hr, w, ht, hQ⟩
  dsimp only at *
  refine ⟨Nat.le_of_ble_eq_true rfl, ?_⟩
  have hr' : M + 25 ≤ r ∧ r + 5 ≤ M + 45 := by unfold isN at hr; omega
  have q1 := nc_le (a := sl) (b := f) (by omega) (by omega)
  have q2 := nc_le (a := e) (b := sl + 1) (by omega) (by omega)
  have ns : nI sl + 1 = nI (sl + 1) := nI_1 sl
  have g17 : ∀ g, g = (decide (f < sl) && decide (sl + 1 < e)) → b_X14_readRatio_17 Q (xInv cn_X14_readRatio (I_X14_readRatio Q)) [(0, .ref M), (1, .int (nI f)), (2, .int (nI sl)), (3, .int (nI e)), (4, .ref r)] [.int (bI g)] (h, S2) := by
    intro g hg
    unfold b_X14_readRatio_17
    generalize hK : xInv cn_X14_readRatio (I_X14_readRatio Q) = K
    try simp only [q_c, x_iload, x_lload, x_aload, q_istore, q_lstore, q_astore, q_astore2, x_iinc, q_iadd, q_isub, q_imul, q_iand, q_ior, q_ixor, q_ladd, q_lsub, q_lmul, q_land, q_lor, q_lxor, q_idiv, q_irem, q_ldiv, q_lrem, q_ineg, q_lneg, q_ishl, q_ishr, q_iushr, q_lshl, q_lshr, q_lushr, q_i2l, q_l2i, q_i2b, q_i2c, q_lcmp, q_if_eq, q_if_ne, q_if_lt, q_if_ge, q_if_gt, q_if_le, q_icmp_eq, q_icmp_ne, q_icmp_lt, q_icmp_ge, q_icmp_gt, q_icmp_le, q_dup, q_pop, q_dup_x1, q_dup2, x_iret, x_zret, x_lret, x_aret, x_vret, x_call, x_callv, x_calli, x_oinit, x_mmax, x_mmin, x_mabs, x_mmaxL, x_mminL, x_mabsL, lg_cmp_ge, lg_cmp_le, lg_cmp_gt, lg_cmp_lt, lg_cmp_eq, xlk, q_xs1, q_xs2, lv_args, Value.category, List.filter_cons, List.filter_nil, Nat.reduceAdd, Nat.reduceBEq, Nat.reduceEqDiff, Nat.reduceSub, Nat.sub_zero, beq_self_eq_true, Bool.not_true, Bool.not_false, Bool.and_true, Bool.and_false, Bool.true_and, Bool.false_and, reduceIte, reduceCtorEq, Bool.false_eq_true, Nat.one_ne_zero, Nat.zero_ne_one, Nat.zero_add, Option.toList_some, Option.toList_none, List.nil_append, List.cons_append, List.take_succ_cons, List.take_zero, List.take_nil, List.drop_succ_cons, List.drop_zero, List.length_cons, List.length_nil, List.reverse_cons, List.reverse_nil, List.head?_cons, List.map_cons, List.map_nil, List.sum_cons, List.sum_nil, true_and, and_true, List.getElem?_cons_zero, List.getElem?_cons_succ, Prod.eta, x_iast, x_bald, x_bast, x_last, x_alen, xup_s, xup_a1, xup_1a, xup_uu, nr_i, nr_l, nr_o, nr_a, ft_i, ft_l, ft_o, ft_a, Nat.reduceLT, i_cl0, i_cl1, i_n1, i_m1, List.set_cons_zero, List.set_cons_succ, Nat.reduceLeDiff, Nat.le_refl, Nat.zero_le, Nat.add_zero, x_no, x_ifnull, x_ifnonnull, x_acmp_eq, x_acmp_ne, x_swl, x_tsw, x_castC, true_or, or_true, nr_z, ft_z, nr_z0, nr_z1, ft_z0, ft_z1, nr_on, nr_an, ft_on, ft_an]
    refine k_set (v := 0) (w.ne hr) (by decide) (fun h2 o2 n2 => ?_)
    simp only [q_c, x_iload, x_lload, x_aload, q_istore, q_lstore, q_astore, q_astore2, x_iinc, q_iadd, q_isub, q_imul, q_iand, q_ior, q_ixor, q_ladd, q_lsub, q_lmul, q_land, q_lor, q_lxor, q_idiv, q_irem, q_ldiv, q_lrem, q_ineg, q_lneg, q_ishl, q_ishr, q_iushr, q_lshl, q_lshr, q_lushr, q_i2l, q_l2i, q_i2b, q_i2c, q_lcmp, q_if_eq, q_if_ne, q_if_lt, q_if_ge, q_if_gt, q_if_le, q_icmp_eq, q_icmp_ne, q_icmp_lt, q_icmp_ge, q_icmp_gt, q_icmp_le, q_dup, q_pop, q_dup_x1, q_dup2, x_iret, x_zret, x_lret, x_aret, x_vret, x_call, x_callv, x_calli, x_oinit, x_mmax, x_mmin, x_mabs, x_mmaxL, x_mminL, x_mabsL, lg_cmp_ge, lg_cmp_le, lg_cmp_gt, lg_cmp_lt, lg_cmp_eq, xlk, q_xs1, q_xs2, lv_args, Value.category, List.filter_cons, List.filter_nil, Nat.reduceAdd, Nat.reduceBEq, Nat.reduceEqDiff, Nat.reduceSub, Nat.sub_zero, beq_self_eq_true, Bool.not_true, Bool.not_false, Bool.and_true, Bool.and_false, Bool.true_and, Bool.false_and, reduceIte, reduceCtorEq, Bool.false_eq_true, Nat.one_ne_zero, Nat.zero_ne_one, Nat.zero_add, Option.toList_some, Option.toList_none, List.nil_append, List.cons_append, List.take_succ_cons, List.take_zero, List.take_nil, List.drop_succ_cons, List.drop_zero, List.length_cons, List.length_nil, List.reverse_cons, List.reverse_nil, List.head?_cons, List.map_cons, List.map_nil, List.sum_cons, List.sum_nil, true_and, and_true, List.getElem?_cons_zero, List.getElem?_cons_succ, Prod.eta, x_iast, x_bald, x_bast, x_last, x_alen, xup_s, xup_a1, xup_1a, xup_uu, nr_i, nr_l, nr_o, nr_a, ft_i, ft_l, ft_o, ft_a, Nat.reduceLT, i_cl0, i_cl1, i_n1, i_m1, List.set_cons_zero, List.set_cons_succ, Nat.reduceLeDiff, Nat.le_refl, Nat.zero_le, Nat.add_zero, x_no, x_ifnull, x_ifnonnull, x_acmp_eq, x_acmp_ne, x_swl, x_tsw, x_castC, true_or, or_true, nr_z, ft_z, nr_z0, nr_z1, ft_z0, ft_z1, nr_on, nr_an, ft_on, ft_an, n2.g2]
    refine k_setq n2 (fun h3 o3 n3 => ?_)
    have o3' : xoff h3 h r (r + 5) := xoff_tr (xoff_wd o3 (by omega) (by omega)) o2
    try simp only [q_c, x_iload, x_lload, x_aload, q_istore, q_lstore, q_astore, q_astore2, x_iinc, q_iadd, q_isub, q_imul, q_iand, q_ior, q_ixor, q_ladd, q_lsub, q_lmul, q_land, q_lor, q_lxor, q_idiv, q_irem, q_ldiv, q_lrem, q_ineg, q_lneg, q_ishl, q_ishr, q_iushr, q_lshl, q_lshr, q_lushr, q_i2l, q_l2i, q_i2b, q_i2c, q_lcmp, q_if_eq, q_if_ne, q_if_lt, q_if_ge, q_if_gt, q_if_le, q_icmp_eq, q_icmp_ne, q_icmp_lt, q_icmp_ge, q_icmp_gt, q_icmp_le, q_dup, q_pop, q_dup_x1, q_dup2, x_iret, x_zret, x_lret, x_aret, x_vret, x_call, x_callv, x_calli, x_oinit, x_mmax, x_mmin, x_mabs, x_mmaxL, x_mminL, x_mabsL, lg_cmp_ge, lg_cmp_le, lg_cmp_gt, lg_cmp_lt, lg_cmp_eq, xlk, q_xs1, q_xs2, lv_args, Value.category, List.filter_cons, List.filter_nil, Nat.reduceAdd, Nat.reduceBEq, Nat.reduceEqDiff, Nat.reduceSub, Nat.sub_zero, beq_self_eq_true, Bool.not_true, Bool.not_false, Bool.and_true, Bool.and_false, Bool.true_and, Bool.false_and, reduceIte, reduceCtorEq, Bool.false_eq_true, Nat.one_ne_zero, Nat.zero_ne_one, Nat.zero_add, Option.toList_some, Option.toList_none, List.nil_append, List.cons_append, List.take_succ_cons, List.take_zero, List.take_nil, List.drop_succ_cons, List.drop_zero, List.length_cons, List.length_nil, List.reverse_cons, List.reverse_nil, List.head?_cons, List.map_cons, List.map_nil, List.sum_cons, List.sum_nil, true_and, and_true, List.getElem?_cons_zero, List.getElem?_cons_succ, Prod.eta, x_iast, x_bald, x_bast, x_last, x_alen, xup_s, xup_a1, xup_1a, xup_uu, nr_i, nr_l, nr_o, nr_a, ft_i, ft_l, ft_o, ft_a, Nat.reduceLT, i_cl0, i_cl1, i_n1, i_m1, List.set_cons_zero, List.set_cons_succ, Nat.reduceLeDiff, Nat.le_refl, Nat.zero_le, Nat.add_zero, x_no, x_ifnull, x_ifnonnull, x_acmp_eq, x_acmp_ne, x_swl, x_tsw, x_castC, true_or, or_true, nr_z, ft_z, nr_z0, nr_z1, ft_z0, ft_z1, nr_on, nr_an, ft_on, ft_an]
    rw [← hK]
    refine xInv.mk (e - f) (M, sl, e, r, g, f) ⟨rfl, rfl, rfl, rfl, rfl, rfl, trivial⟩ ⟨s, lo, hi, nn, ls, n, cs, f, t, 0, 0, rfl, Nat.le_refl _, by omega, fs, se, e4, hr, fun gt => ?_, fun gf => ?_, w.nn o3' ⟨_, _, _, _, n3⟩ hr, ht.o o3' (by omega), n3, fun h' p q o' n' c' => hQ h' p q (xoff_tr o' o3') n' c'⟩
    · rw [gt, eq_comm, Bool.and_eq_true] at hg
      rw [show min f sl - f = 0 by omega, show f - (sl + 1) = 0 by omega]
      exact ⟨of_decide_eq_true hg.1, of_decide_eq_true hg.2, rfl, rfl, rfl, rfl⟩
    · unfold raB
      rw [← hg, gf]
      rfl
  unfold b_X14_readRatio_0 b_X14_readRatio_16
  generalize b_X14_readRatio_17 Q (xInv cn_X14_readRatio (I_X14_readRatio Q)) = J at *
  simp only [q_c, x_iload, x_lload, x_aload, q_istore, q_lstore, q_astore, q_astore2, x_iinc, q_iadd, q_isub, q_imul, q_iand, q_ior, q_ixor, q_ladd, q_lsub, q_lmul, q_land, q_lor, q_lxor, q_idiv, q_irem, q_ldiv, q_lrem, q_ineg, q_lneg, q_ishl, q_ishr, q_iushr, q_lshl, q_lshr, q_lushr, q_i2l, q_l2i, q_i2b, q_i2c, q_lcmp, q_if_eq, q_if_ne, q_if_lt, q_if_ge, q_if_gt, q_if_le, q_icmp_eq, q_icmp_ne, q_icmp_lt, q_icmp_ge, q_icmp_gt, q_icmp_le, q_dup, q_pop, q_dup_x1, q_dup2, x_iret, x_zret, x_lret, x_aret, x_vret, x_call, x_callv, x_calli, x_oinit, x_mmax, x_mmin, x_mabs, x_mmaxL, x_mminL, x_mabsL, lg_cmp_ge, lg_cmp_le, lg_cmp_gt, lg_cmp_lt, lg_cmp_eq, xlk, q_xs1, q_xs2, lv_args, Value.category, List.filter_cons, List.filter_nil, Nat.reduceAdd, Nat.reduceBEq, Nat.reduceEqDiff, Nat.reduceSub, Nat.sub_zero, beq_self_eq_true, Bool.not_true, Bool.not_false, Bool.and_true, Bool.and_false, Bool.true_and, Bool.false_and, reduceIte, reduceCtorEq, Bool.false_eq_true, Nat.one_ne_zero, Nat.zero_ne_one, Nat.zero_add, Option.toList_some, Option.toList_none, List.nil_append, List.cons_append, List.take_succ_cons, List.take_zero, List.take_nil, List.drop_succ_cons, List.drop_zero, List.length_cons, List.length_nil, List.reverse_cons, List.reverse_nil, List.head?_cons, List.map_cons, List.map_nil, List.sum_cons, List.sum_nil, true_and, and_true, List.getElem?_cons_zero, List.getElem?_cons_succ, Prod.eta, x_iast, x_bald, x_bast, x_last, x_alen, xup_s, xup_a1, xup_1a, xup_uu, nr_i, nr_l, nr_o, nr_a, ft_i, ft_l, ft_o, ft_a, Nat.reduceLT, i_cl0, i_cl1, i_n1, i_m1, List.set_cons_zero, List.set_cons_succ, Nat.reduceLeDiff, Nat.le_refl, Nat.zero_le, Nat.add_zero, x_no, x_ifnull, x_ifnonnull, x_acmp_eq, x_acmp_ne, x_swl, x_tsw, x_castC, true_or, or_true, nr_z, ft_z, nr_z0, nr_z1, ft_z0, ft_z1, nr_on, nr_an, ft_on, ft_an, q1, ns, q2]
  exact ⟨fun a => g17 false (by rw [decide_eq_false (by omega)]; rfl), fun a => ⟨fun b => g17 false (by rw [decide_eq_false (show ¬ sl + 1 < e by omega), Bool.and_false]), fun b => g17 true (by rw [decide_eq_true (by omega), decide_eq_true (show sl + 1 < e by omega)]; rfl)⟩⟩
/-! numbers: the value of a text from f to e -/
def slP (t : Nat → Nat) (p e sl : Nat) : Prop := p ≤ sl ∧ sl < e ∧ t sl = 47 ∧ ∀ j, p ≤ j → j < sl → t j ≠ 47
def hexB (t : Nat → Nat) (p e : Nat) : Prop := 1 < e - p ∧ t p = 48 ∧ t (p + 1) = 120
/-- hexadecimal: digits, p, exponent -/
def nHx (t : Nat → Nat) (p e : Nat) (P q : Nat) (x : Int) : Prop := ∃ k dg sc, rdG 16 t (e - (p + 2)) (p + 2) false 0 0 0 = (k, dg, sc, P) ∧ 0 < dg ∧ k < e ∧ t k = 112 ∧ exB t (k + 1) e 4 = true ∧ q = 1 ∧ x = exV t (k + 1) e - 4 * (sc : Int)
/-- decimal -/
def nDc (t : Nat → Nat) (p e : Nat) (P q : Nat) (x : Int) : Prop := ∃ k dg sc v, rdG 10 t (e - p) p false 0 0 0 = (k, dg, sc, v) ∧ 0 < dg ∧ x = 0 ∧ ∃ E : Int, (k = e ∧ E = 0 ∨ k < e ∧ t k = 101 ∧ exB t (k + 1) e 3 = true ∧ E = exV t (k + 1) e) ∧ P = v * 10 ^ (E - sc).toNat ∧ q = 1 * 10 ^ (-(E - sc)).toNat
def nRt (t : Nat → Nat) (p e : Nat) (P q : Nat) (x : Int) : Prop := ∃ sl, slP t p e sl ∧ raB t p sl e = true ∧ P = dcV t p (sl - p) ∧ q = dcV t (sl + 1) (e - (sl + 1)) ∧ x = 0
/-- the text is the number P / q * 2 ^ x -/
def nTx (t : Nat → Nat) (f e : Nat) (P q : Nat) (x : Int) : Prop := (hexB t (sgP t f e) e ∧ nHx t (sgP t f e) e P q x) ∨ (¬ hexB t (sgP t f e) e ∧ (∃ sl, slP t (sgP t f e) e sl) ∧ nRt t (sgP t f e) e P q x) ∨ (¬ hexB t (sgP t f e) e ∧ (¬ ∃ sl, slP t (sgP t f e) e sl) ∧ nDc t (sgP t f e) e P q x)
