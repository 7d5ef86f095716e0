/-! digits -/
def rdG (B : Nat) (t : Nat → Nat) : Nat → Nat → Bool → Nat → Nat → Nat → Nat × Nat × Nat × Nat
  | 0, p, _, dg, sc, v => (p, dg, sc, v)
  | k + 1, p, pt, dg, sc, v => if hxB (t p) < B ∨ (t p = 46 ∧ pt = false) then (if t p = 46 then rdG B t k (p + 1) true dg sc v else rdG B t k (p + 1) pt (dg + 1) (if pt = true then sc + 1 else sc) (v * B + hxB (t p))) else (p, dg, sc, v)
/-- only the object and the number at r have changed -/
def fn (h' h : xH) (M r : Nat) : Prop := ∀ q, q ≠ M → (q < r ∨ r + 5 ≤ q) → h' q = h q
theorem fn.tr {h h' h'' : xH} {M r : Nat} (a : fn h'' h' M r) (b : fn h' h M r) : fn h'' h M r := fun q c d => (a q c d).trans (b q c d)
theorem fn.rf {h : xH} {M r : Nat} : fn h h M r := fun _ _ _ => rfl
theorem fn.up {h : xH} {M r : Nat} {c : xE} : fn (xup h M c) h M r := fun q a _ => xup_n a
theorem fn.n {h h' : xH} {M r lo hi : Nat} (o : xoff h' h lo hi) (h1 : r ≤ lo) (h2 : hi ≤ r + 5) : fn h' h M r := fun q _ d => o q (by omega)
def isN (M r : Nat) : Prop := r = M + 25 ∨ r = M + 30 ∨ r = M + 35 ∨ r = M + 40
theorem ms.nn {h h' : xH} {M r : Nat} {s : Nat → Value} {lo hi : Int} {nn ls : Bool} {n : Nat} {cs : Nat → vC} (w : ms h M s lo hi nn ls n cs) (o : xoff h' h r (r + 5)) (e : nuE h' r) (hr : isN M r) : ms h' M s lo hi nn ls n cs := w.f (fr.n o (by unfold isN at hr; omega) (by unfold isN at hr; omega)) (w.1.c o e hr)
theorem tpR.o {h h' : xH} {M lo hi : Nat} {t : Nat → Nat} (w : tpR h M t) (o : xoff h' h lo hi) (d : M + 20 < lo ∨ hi ≤ M + 20) : tpR h' M t := ⟨(o _ (by omega)).trans w.1, w.2⟩
theorem hxB_lt (b : Nat) : hxB b < 100 := by
  unfold hxB
  repeat' split
  all_goals omega
theorem dX14_readDigits_0 : decode cX14_readDigits 0 = .ok (.iload_n 1, 1) := by decide +kernel
theorem dX14_readDigits_1 : decode cX14_readDigits 1 = .ok (.istore 5, 2) := by decide +kernel
theorem dX14_readDigits_3 : decode cX14_readDigits 3 = .ok (.iconst 0, 1) := by decide +kernel
theorem dX14_readDigits_4 : decode cX14_readDigits 4 = .ok (.istore 6, 2) := by decide +kernel
theorem dX14_readDigits_6 : decode cX14_readDigits 6 = .ok (.iconst 0, 1) := by decide +kernel
theorem dX14_readDigits_7 : decode cX14_readDigits 7 = .ok (.istore 7, 2) := by decide +kernel
theorem dX14_readDigits_9 : decode cX14_readDigits 9 = .ok (.aload 4, 2) := by decide +kernel
theorem dX14_readDigits_11 : decode cX14_readDigits 11 = .ok (.lconst 0, 1) := by decide +kernel
theorem dX14_readDigits_12 : decode cX14_readDigits 12 = .ok (.invokevirtual 294, 3) := by decide +kernel
theorem dX14_readDigits_15 : decode cX14_readDigits 15 = .ok (.aload_n 0, 1) := by decide +kernel
theorem dX14_readDigits_16 : decode cX14_readDigits 16 = .ok (.iconst 0, 1) := by decide +kernel
theorem dX14_readDigits_17 : decode cX14_readDigits 17 = .ok (.putfield 373, 3) := by decide +kernel
theorem dX14_readDigits_20 : decode cX14_readDigits 20 = .ok (.iload 5, 2) := by decide +kernel
theorem dX14_readDigits_22 : decode cX14_readDigits 22 = .ok (.iload_n 2, 1) := by decide +kernel
theorem dX14_readDigits_23 : decode cX14_readDigits 23 = .ok (.if_icmp .ge 102, 3) := by decide +kernel
theorem dX14_readDigits_26 : decode cX14_readDigits 26 = .ok (.aload_n 0, 1) := by decide +kernel
theorem dX14_readDigits_27 : decode cX14_readDigits 27 = .ok (.getfield 122, 3) := by decide +kernel
theorem dX14_readDigits_30 : decode cX14_readDigits 30 = .ok (.iload 5, 2) := by decide +kernel
theorem dX14_readDigits_32 : decode cX14_readDigits 32 = .ok (.iaload, 1) := by decide +kernel
theorem dX14_readDigits_33 : decode cX14_readDigits 33 = .ok (.invokestatic 376, 3) := by decide +kernel
theorem dX14_readDigits_36 : decode cX14_readDigits 36 = .ok (.iload_n 3, 1) := by decide +kernel
theorem dX14_readDigits_37 : decode cX14_readDigits 37 = .ok (.if_icmp .lt 20, 3) := by decide +kernel
theorem dX14_readDigits_40 : decode cX14_readDigits 40 = .ok (.aload_n 0, 1) := by decide +kernel
theorem dX14_readDigits_41 : decode cX14_readDigits 41 = .ok (.getfield 122, 3) := by decide +kernel
theorem dX14_readDigits_44 : decode cX14_readDigits 44 = .ok (.iload 5, 2) := by decide +kernel
theorem dX14_readDigits_46 : decode cX14_readDigits 46 = .ok (.iaload, 1) := by decide +kernel
theorem dX14_readDigits_47 : decode cX14_readDigits 47 = .ok (.bipush 46, 2) := by decide +kernel
theorem dX14_readDigits_49 : decode cX14_readDigits 49 = .ok (.if_icmp .ne 76, 3) := by decide +kernel
theorem dX14_readDigits_52 : decode cX14_readDigits 52 = .ok (.iload 6, 2) := by decide +kernel
theorem dX14_readDigits_54 : decode cX14_readDigits 54 = .ok (.ifCond .ne 71, 3) := by decide +kernel
theorem dX14_readDigits_57 : decode cX14_readDigits 57 = .ok (.aload_n 0, 1) := by decide +kernel
theorem dX14_readDigits_58 : decode cX14_readDigits 58 = .ok (.getfield 122, 3) := by decide +kernel
theorem dX14_readDigits_61 : decode cX14_readDigits 61 = .ok (.iload 5, 2) := by decide +kernel
theorem dX14_readDigits_63 : decode cX14_readDigits 63 = .ok (.iaload, 1) := by decide +kernel
theorem dX14_readDigits_64 : decode cX14_readDigits 64 = .ok (.bipush 46, 2) := by decide +kernel
theorem dX14_readDigits_66 : decode cX14_readDigits 66 = .ok (.if_icmp .ne 9, 3) := by decide +kernel
theorem dX14_readDigits_69 : decode cX14_readDigits 69 = .ok (.iconst 1, 1) := by decide +kernel
theorem dX14_readDigits_70 : decode cX14_readDigits 70 = .ok (.istore 6, 2) := by decide +kernel
theorem dX14_readDigits_72 : decode cX14_readDigits 72 = .ok (.goto 47, 3) := by decide +kernel
theorem dX14_readDigits_75 : decode cX14_readDigits 75 = .ok (.aload 4, 2) := by decide +kernel
theorem dX14_readDigits_77 : decode cX14_readDigits 77 = .ok (.getfield 18, 3) := by decide +kernel
theorem dX14_readDigits_80 : decode cX14_readDigits 80 = .ok (.iload_n 3, 1) := by decide +kernel
theorem dX14_readDigits_81 : decode cX14_readDigits 81 = .ok (.aload_n 0, 1) := by decide +kernel
theorem dX14_readDigits_82 : decode cX14_readDigits 82 = .ok (.getfield 122, 3) := by decide +kernel
theorem dX14_readDigits_85 : decode cX14_readDigits 85 = .ok (.iload 5, 2) := by decide +kernel
theorem dX14_readDigits_87 : decode cX14_readDigits 87 = .ok (.iaload, 1) := by decide +kernel
theorem dX14_readDigits_88 : decode cX14_readDigits 88 = .ok (.invokestatic 376, 3) := by decide +kernel
theorem dX14_readDigits_91 : decode cX14_readDigits 91 = .ok (.invokevirtual 379, 3) := by decide +kernel
theorem dX14_readDigits_94 : decode cX14_readDigits 94 = .ok (.iinc 7 1, 3) := by decide +kernel
theorem dX14_readDigits_97 : decode cX14_readDigits 97 = .ok (.aload_n 0, 1) := by decide +kernel
theorem dX14_readDigits_98 : decode cX14_readDigits 98 = .ok (.iload 6, 2) := by decide +kernel
theorem dX14_readDigits_100 : decode cX14_readDigits 100 = .ok (.ifCond .eq 12, 3) := by decide +kernel
theorem dX14_readDigits_103 : decode cX14_readDigits 103 = .ok (.aload_n 0, 1) := by decide +kernel
theorem dX14_readDigits_104 : decode cX14_readDigits 104 = .ok (.getfield 373, 3) := by decide +kernel
theorem dX14_readDigits_107 : decode cX14_readDigits 107 = .ok (.iconst 1, 1) := by decide +kernel
theorem dX14_readDigits_108 : decode cX14_readDigits 108 = .ok (.iadd, 1) := by decide +kernel
theorem dX14_readDigits_109 : decode cX14_readDigits 109 = .ok (.goto 7, 3) := by decide +kernel
theorem dX14_readDigits_112 : decode cX14_readDigits 112 = .ok (.aload_n 0, 1) := by decide +kernel
theorem dX14_readDigits_113 : decode cX14_readDigits 113 = .ok (.getfield 373, 3) := by decide +kernel
theorem dX14_readDigits_116 : decode cX14_readDigits 116 = .ok (.putfield 373, 3) := by decide +kernel
theorem dX14_readDigits_119 : decode cX14_readDigits 119 = .ok (.iinc 5 1, 3) := by decide +kernel
theorem dX14_readDigits_122 : decode cX14_readDigits 122 = .ok (.goto (-102), 3) := by decide +kernel
theorem dX14_readDigits_125 : decode cX14_readDigits 125 = .ok (.iload 7, 2) := by decide +kernel
theorem dX14_readDigits_127 : decode cX14_readDigits 127 = .ok (.ifCond .le 8, 3) := by decide +kernel
theorem dX14_readDigits_130 : decode cX14_readDigits 130 = .ok (.iload 5, 2) := by decide +kernel
theorem dX14_readDigits_132 : decode cX14_readDigits 132 = .ok (.goto 4, 3) := by decide +kernel
theorem dX14_readDigits_135 : decode cX14_readDigits 135 = .ok (.iconst (-1), 1) := by decide +kernel
theorem dX14_readDigits_136 : decode cX14_readDigits 136 = .ok (.ireturn, 1) := by decide +kernel
abbrev r_X14_readDigits : Room := { frames := 2, cells := 0, slots := 0, locals := 46 }
abbrev m_X14_readDigits : xMd := (cX14_readDigits, RX14, 8, (some FieldType.int), false, r_X14_readDigits)
def b_X14_readDigits_0 (Q : xQ) (K20 : xK) : xK := x_iload 1 <| x_istore 5 <| x_c (.int 0) <| x_istore 6 <| x_c (.int 0) <| x_istore 7 <| x_aload 4 <| x_c (.long 0) <| x_callv 12 C_X13_set 2 0 0 <| x_aload 0 <| x_c (.int 0) <| x_put 13 23 .int <| K20
def b_X14_readDigits_119 (Q : xQ) (K20 : xK) : xK := x_iinc 5 1 <| K20
def b_X14_readDigits_136 (Q : xQ) (K20 : xK) : xK := x_iret Q
def b_X14_readDigits_116 (Q : xQ) (K20 : xK) : xK := x_put 13 23 .int <| (b_X14_readDigits_119 Q K20)
def b_X14_readDigits_125 (Q : xQ) (K20 : xK) : xK := x_iload 7 <| x_if_le (x_c (.int (-1)) <| (b_X14_readDigits_136 Q K20)) <| x_iload 5 <| (b_X14_readDigits_136 Q K20)
def b_X14_readDigits_57 (Q : xQ) (K20 : xK) : xK := x_aload 0 <| x_get 13 8 <| x_iload 5 <| x_iald <| x_c (.int 46) <| x_icmp_ne (x_aload 4 <| x_get 12 1 <| x_iload 3 <| x_aload 0 <| x_get 13 8 <| x_iload 5 <| x_iald <| x_call C_X14_hexDigit 1 0 0 <| x_callv 11 C_X12_grow 3 0 0 <| x_iinc 7 1 <| x_aload 0 <| x_iload 6 <| x_if_eq (x_aload 0 <| x_get 13 23 <| (b_X14_readDigits_116 Q K20)) <| x_aload 0 <| x_get 13 23 <| x_c (.int 1) <| x_iadd <| (b_X14_readDigits_116 Q K20)) <| x_c (.int 1) <| x_istore 6 <| (b_X14_readDigits_119 Q K20)
def b_X14_readDigits_20 (Q : xQ) (K20 : xK) : xK := x_iload 5 <| x_iload 2 <| x_icmp_ge ((b_X14_readDigits_125 Q K20)) <| x_aload 0 <| x_get 13 8 <| x_iload 5 <| x_iald <| x_call C_X14_hexDigit 1 0 0 <| x_iload 3 <| x_icmp_lt ((b_X14_readDigits_57 Q K20)) <| x_aload 0 <| x_get 13 8 <| x_iload 5 <| x_iald <| x_c (.int 46) <| x_icmp_ne ((b_X14_readDigits_125 Q K20)) <| x_iload 6 <| x_if_ne ((b_X14_readDigits_125 Q K20)) <| (b_X14_readDigits_57 Q K20)
theorem s_X14_readDigits_0 (G : xG) (l : Launch) (Q : xQ) (K20 : xK) (h20 : xW G l m_X14_readDigits xX0 (xPm G Q r_X14_readDigits) 20 K20) : xW G l m_X14_readDigits xX0 (xPm G Q r_X14_readDigits) 0 (b_X14_readDigits_0 Q K20) := xo_iload_n (pc := 0) (i := 1) dX14_readDigits_0 rfl <| xo_istore (pc := 1) (i := 5) dX14_readDigits_1 (by decide) <| xo_iconst (pc := 3) dX14_readDigits_3 (by decide) <| xo_istore (pc := 4) (i := 6) dX14_readDigits_4 (by decide) <| xo_iconst (pc := 6) dX14_readDigits_6 (by decide) <| xo_istore (pc := 7) (i := 7) dX14_readDigits_7 (by decide) <| xo_aload (pc := 9) (i := 4) dX14_readDigits_9 <| xo_lconst (pc := 11) dX14_readDigits_11 (by decide) <| xo_callV (pc := 12) (np := 1) (ci := 12) rfl (cM_X13_set G l) dX14_readDigits_12 kw1482 kw1479 kw1480 kw1481 kw15 (by decide +kernel) (by decide) <| xo_aload_n (pc := 15) (i := 0) dX14_readDigits_15 rfl <| xo_iconst (pc := 16) dX14_readDigits_16 (by decide) <| xo_put (pc := 17) (ci := 13) (i := 23) rfl ok13 (by decide) rfl rfl dX14_readDigits_17 kw1224 <| h20
theorem s_X14_readDigits_119 (G : xG) (l : Launch) (Q : xQ) (K20 : xK) (h20 : xW G l m_X14_readDigits xX0 (xPm G Q r_X14_readDigits) 20 K20) : xW G l m_X14_readDigits xX0 (xPm G Q r_X14_readDigits) 119 (b_X14_readDigits_119 Q K20) := xo_iinc (pc := 119) dX14_readDigits_119 (by decide) <| xo_goto (pc := 122) (tgt := 20) dX14_readDigits_122 (by decide) <| h20
theorem s_X14_readDigits_136 (G : xG) (l : Launch) (Q : xQ) (K20 : xK) (h20 : xW G l m_X14_readDigits xX0 (xPm G Q r_X14_readDigits) 20 K20) : xW G l m_X14_readDigits xX0 (xPm G Q r_X14_readDigits) 136 (b_X14_readDigits_136 Q K20) := xo_iret (pc := 136) rfl dX14_readDigits_136
theorem s_X14_readDigits_116 (G : xG) (l : Launch) (Q : xQ) (K20 : xK) (h20 : xW G l m_X14_readDigits xX0 (xPm G Q r_X14_readDigits) 20 K20) : xW G l m_X14_readDigits xX0 (xPm G Q r_X14_readDigits) 116 (b_X14_readDigits_116 Q K20) := xo_put (pc := 116) (ci := 13) (i := 23) rfl ok13 (by decide) rfl rfl dX14_readDigits_116 kw1224 <| (s_X14_readDigits_119 G l Q K20 h20)
theorem s_X14_readDigits_125 (G : xG) (l : Launch) (Q : xQ) (K20 : xK) (h20 : xW G l m_X14_readDigits xX0 (xPm G Q r_X14_readDigits) 20 K20) : xW G l m_X14_readDigits xX0 (xPm G Q r_X14_readDigits) 125 (b_X14_readDigits_125 Q K20) := xo_iload (pc := 125) (i := 7) dX14_readDigits_125 <| xo_if_le (pc := 127) (tgt := 135) dX14_readDigits_127 (by decide) (xo_iconst (pc := 135) dX14_readDigits_135 (by decide) <| (s_X14_readDigits_136 G l Q K20 h20)) <| xo_iload (pc := 130) (i := 5) dX14_readDigits_130 <| xo_goto (pc := 132) (tgt := 136) dX14_readDigits_132 (by decide) <| (s_X14_readDigits_136 G l Q K20 h20)
theorem s_X14_readDigits_57 (G : xG) (l : Launch) (Q : xQ) (K20 : xK) (h20 : xW G l m_X14_readDigits xX0 (xPm G Q r_X14_readDigits) 20 K20) : xW G l m_X14_readDigits xX0 (xPm G Q r_X14_readDigits) 57 (b_X14_readDigits_57 Q K20) := xo_aload_n (pc := 57) (i := 0) dX14_readDigits_57 rfl <| xo_get (pc := 58) (ci := 13) (i := 8) rfl ok13 (by decide) dX14_readDigits_58 kw1209 <| xo_iload (pc := 61) (i := 5) dX14_readDigits_61 <| xo_iald (pc := 63) dX14_readDigits_63 <| xo_bipush (pc := 64) dX14_readDigits_64 (by decide) <| xo_icmp_ne (pc := 66) (tgt := 75) dX14_readDigits_66 (by decide) (xo_aload (pc := 75) (i := 4) dX14_readDigits_75 <| xo_getN (pc := 77) (ci := 12) (i := 1) rfl ok12 (by decide) dX14_readDigits_77 kw1187 <| xo_iload_n (pc := 80) (i := 3) dX14_readDigits_80 rfl <| xo_aload_n (pc := 81) (i := 0) dX14_readDigits_81 rfl <| xo_get (pc := 82) (ci := 13) (i := 8) rfl ok13 (by decide) dX14_readDigits_82 kw1209 <| xo_iload (pc := 85) (i := 5) dX14_readDigits_85 <| xo_iald (pc := 87) dX14_readDigits_87 <| xo_callS (pc := 88) (np := 1) (cM_X14_hexDigit G l) dX14_readDigits_88 kw1703 kw1701 kw1702 kw13 (by decide +kernel) (by decide) <| xo_callV (pc := 91) (np := 2) (ci := 11) rfl (cM_X12_grow G l) dX14_readDigits_91 kw1451 kw1707 kw1449 kw1450 kw14 (by decide +kernel) (by decide) <| xo_iinc (pc := 94) dX14_readDigits_94 (by decide) <| xo_aload_n (pc := 97) (i := 0) dX14_readDigits_97 rfl <| xo_iload (pc := 98) (i := 6) dX14_readDigits_98 <| xo_if_eq (pc := 100) (tgt := 112) dX14_readDigits_100 (by decide) (xo_aload_n (pc := 112) (i := 0) dX14_readDigits_112 rfl <| xo_get (pc := 113) (ci := 13) (i := 23) rfl ok13 (by decide) dX14_readDigits_113 kw1224 <| (s_X14_readDigits_116 G l Q K20 h20)) <| xo_aload_n (pc := 103) (i := 0) dX14_readDigits_103 rfl <| xo_get (pc := 104) (ci := 13) (i := 23) rfl ok13 (by decide) dX14_readDigits_104 kw1224 <| xo_iconst (pc := 107) dX14_readDigits_107 (by decide) <| xo_iadd (pc := 108) dX14_readDigits_108 <| xo_goto (pc := 109) (tgt := 116) dX14_readDigits_109 (by decide) <| (s_X14_readDigits_116 G l Q K20 h20)) <| xo_iconst (pc := 69) dX14_readDigits_69 (by decide) <| xo_istore (pc := 70) (i := 6) dX14_readDigits_70 (by decide) <| xo_goto (pc := 72) (tgt := 119) dX14_readDigits_72 (by decide) <| (s_X14_readDigits_119 G l Q K20 h20)
theorem s_X14_readDigits_20 (G : xG) (l : Launch) (Q : xQ) (K20 : xK) (h20 : xW G l m_X14_readDigits xX0 (xPm G Q r_X14_readDigits) 20 K20) : xW G l m_X14_readDigits xX0 (xPm G Q r_X14_readDigits) 20 (b_X14_readDigits_20 Q K20) := xo_iload (pc := 20) (i := 5) dX14_readDigits_20 <| xo_iload_n (pc := 22) (i := 2) dX14_readDigits_22 rfl <| xo_icmp_ge (pc := 23) (tgt := 125) dX14_readDigits_23 (by decide) ((s_X14_readDigits_125 G l Q K20 h20)) <| xo_aload_n (pc := 26) (i := 0) dX14_readDigits_26 rfl <| xo_get (pc := 27) (ci := 13) (i := 8) rfl ok13 (by decide) dX14_readDigits_27 kw1209 <| xo_iload (pc := 30) (i := 5) dX14_readDigits_30 <| xo_iald (pc := 32) dX14_readDigits_32 <| xo_callS (pc := 33) (np := 1) (cM_X14_hexDigit G l) dX14_readDigits_33 kw1703 kw1701 kw1702 kw13 (by decide +kernel) (by decide) <| xo_iload_n (pc := 36) (i := 3) dX14_readDigits_36 rfl <| xo_icmp_lt (pc := 37) (tgt := 57) dX14_readDigits_37 (by decide) ((s_X14_readDigits_57 G l Q K20 h20)) <| xo_aload_n (pc := 40) (i := 0) dX14_readDigits_40 rfl <| xo_get (pc := 41) (ci := 13) (i := 8) rfl ok13 (by decide) dX14_readDigits_41 kw1209 <| xo_iload (pc := 44) (i := 5) dX14_readDigits_44 <| xo_iald (pc := 46) dX14_readDigits_46 <| xo_bipush (pc := 47) dX14_readDigits_47 (by decide) <| xo_icmp_ne (pc := 49) (tgt := 125) dX14_readDigits_49 (by decide) ((s_X14_readDigits_125 G l Q K20 h20)) <| xo_iload (pc := 52) (i := 6) dX14_readDigits_52 <| xo_if_ne (pc := 54) (tgt := 125) dX14_readDigits_54 (by decide) ((s_X14_readDigits_125 G l Q K20 h20)) <| (s_X14_readDigits_57 G l Q K20 h20)

def C_X14_readDigits : xC := fun av S Q => ∃ (M r : Nat) (s : Nat → Value) (lo hi : Int) (nn ls : Bool) (n : Nat) (cs : Nat → vC) (f e B : Nat) (t : Nat → Nat), av = [.ref M, .int (nI f), .int (nI e), .int (nI B), .ref r] ∧ f ≤ e ∧ e ≤ 400 ∧ (B = 10 ∨ B = 16) ∧ isN M r ∧ ms S.1 M s lo hi nn ls n cs ∧ tpR S.1 M t ∧ ∀ h' p dg sc v, rdG B t (e - f) f false 0 0 0 = (p, dg, sc, v) → f ≤ p → p ≤ e → sc ≤ 400 → v < 16 ^ 400 → fn h' S.1 M r → ms h' M (su s 23 (.int (nI sc))) lo hi nn ls n cs → tpR h' M t → nuR h' r false v 1 0 → Q (some (.int (if 0 < dg then nI p else -1))) (h', S.2)
def cn_X14_readDigits : Nat × Nat × Nat × Nat × Nat × Bool × Nat → List (Nat × Value) := fun v => [(0, .ref v.1), (2, .int (nI v.2.1)), (3, .int (nI v.2.2.1)), (4, .ref v.2.2.2.1), (5, .int (nI v.2.2.2.2.1)), (6, .int (bI v.2.2.2.2.2.1)), (7, .int (nI v.2.2.2.2.2.2))]
def I_X14_readDigits (Q : xQ) : Nat → Nat × Nat × Nat × Nat × Nat × Bool × Nat → xS → Prop := fun m w S => match w with
  | (M, e, B, r, p, pt, dg) => ∃ (s : Nat → Value) (lo hi : Int) (nn ls : Bool) (n : Nat) (cs : Nat → vC) (t : Nat → Nat) (sc v : Nat), m = e - p ∧ p ≤ e ∧ e ≤ 400 ∧ (B = 10 ∨ B = 16) ∧ isN M r ∧ dg ≤ p ∧ sc ≤ p ∧ v < 16 ^ dg ∧ ms S.1 M (su s 23 (.int (nI sc))) lo hi nn ls n cs ∧ tpR S.1 M t ∧ nuR S.1 r false v 1 0 ∧ ∀ h' p' dg' sc' v', rdG B t (e - p) p pt dg sc v = (p', dg', sc', v') → p ≤ p' → p' ≤ e → sc' ≤ 400 → v' < 16 ^ 400 → fn h' S.1 M r → ms h' M (su s 23 (.int (nI sc'))) lo hi nn ls n cs → tpR h' M t → nuR h' r false v' 1 0 → Q (some (.int (if 0 < dg' then nI p' else -1))) (h', S.2)
theorem dig_b {v d B dg : Nat} (hv : v < 16 ^ dg) (hd : d < B) (hB : B = 10 ∨ B = 16) : v * B + d < 16 ^ (dg + 1) := by
  have h1 : v * B + d < (v + 1) * B := by rw [Nat.succ_mul]; omega
  have h2 : (v + 1) * B ≤ 16 ^ dg * 16 := Nat.mul_le_mul hv (by omega)
  rw [Nat.pow_succ]
  omega
theorem p16_640 {k : Nat} (h : k ≤ 401) : (16 : Nat) ^ k < 65536 ^ 640 := by
  rw [show (65536 : Nat) = 16 ^ 4 from rfl, ← Nat.pow_mul]
  exact Nat.pow_lt_pow_right (by decide) (by omega)
set_option maxHeartbeats 2000000 in
theorem rd_loop (G : xG) (l : Launch) (Q : xQ) : xW G l m_X14_readDigits xX0 (xPm G Q r_X14_readDigits) 20 (xInv cn_X14_readDigits (I_X14_readDigits Q)) := by
  refine xW.lp (b_X14_readDigits_20 Q) (fun K hK => s_X14_readDigits_20 G l Q K hK) ?_
  rintro m ⟨M, e, B, r, p, pt, dg⟩ ⟨h, S2⟩ ⟨s, lo, hi, nn, ls, n, cs, t, sc, v, rfl, pe, e4, hB, hr, hdg, hsc, hv, w, ht, nr, hQ⟩
  dsimp only at *
  have c1 : cn_X14_readDigits (M, e, B, r, p, pt, dg) = [(0, .ref M), (2, .int (nI e)), (3, .int (nI B)), (4, .ref r), (5, .int (nI p)), (6, .int (bI pt)), (7, .int (nI dg))] := rfl
  rw [c1]
  have hr' : M + 25 ≤ r ∧ r + 5 ≤ M + 45 := by unfold isN at hr; omega
  have q1 := nc_le (a := e) (b := p) (by omega) (by omega)
  have tb := ht.2 p
  have hb := hxB_lt (t p)
  have q2 : nI (hxB (t p)) < nI B ↔ hxB (t p) < B := nc_lt (by omega) (by omega)
  have q46 : nI (t p) = 46 ↔ t p = 46 := nI_eq (b := 46) (by omega) (by decide)
  have q0 : nI dg ≤ 0 ↔ dg ≤ 0 := nc_le (b := 0) (by omega) (by decide)
  have vb : v < 16 ^ 400 := Nat.lt_of_lt_of_le hv (Nat.pow_le_pow_right (by decide) (by omega))
  have g125 : rdG B t (e - p) p pt dg sc v = (p, dg, sc, v) → ∀ lv, xlk lv 5 = some (.int (nI p)) → xlk lv 7 = some (.int (nI dg)) → b_X14_readDigits_125 Q (xInvL cn_X14_readDigits (I_X14_readDigits Q) (e - p)) lv [] (h, S2) := by
    intro ee lv l5 l7
    have g := hQ h p dg sc v ee (Nat.le_refl _) pe (by omega) vb fn.rf w ht nr
    simp only [q_c, x_iload, x_lload, x_aload, q_istore, q_lstore, q_astore, q_astore2, x_iinc, q_iadd, q_isub, q_imul, q_iand, q_ior, q_ixor, q_ladd, q_lsub, q_lmul, q_land, q_lor, q_lxor, q_idiv, q_irem, q_ldiv, q_lrem, q_ineg, q_lneg, q_ishl, q_ishr, q_iushr, q_lshl, q_lshr, q_lushr, q_i2l, q_l2i, q_i2b, q_i2c, q_lcmp, q_if_eq, q_if_ne, q_if_lt, q_if_ge, q_if_gt, q_if_le, q_icmp_eq, q_icmp_ne, q_icmp_lt, q_icmp_ge, q_icmp_gt, q_icmp_le, q_dup, q_pop, q_dup_x1, q_dup2, x_iret, x_zret, x_lret, x_aret, x_vret, x_call, x_callv, x_calli, x_oinit, x_mmax, x_mmin, x_mabs, x_mmaxL, x_mminL, x_mabsL, lg_cmp_ge, lg_cmp_le, lg_cmp_gt, lg_cmp_lt, lg_cmp_eq, xlk, q_xs1, q_xs2, lv_args, Value.category, List.filter_cons, List.filter_nil, Nat.reduceAdd, Nat.reduceBEq, Nat.reduceEqDiff, Nat.reduceSub, Nat.sub_zero, beq_self_eq_true, Bool.not_true, Bool.not_false, Bool.and_true, Bool.and_false, Bool.true_and, Bool.false_and, reduceIte, reduceCtorEq, Bool.false_eq_true, Nat.one_ne_zero, Nat.zero_ne_one, Nat.zero_add, Option.toList_some, Option.toList_none, List.nil_append, List.cons_append, List.take_succ_cons, List.take_zero, List.take_nil, List.drop_succ_cons, List.drop_zero, List.length_cons, List.length_nil, List.reverse_cons, List.reverse_nil, List.head?_cons, List.map_cons, List.map_nil, List.sum_cons, List.sum_nil, true_and, and_true, List.getElem?_cons_zero, List.getElem?_cons_succ, Prod.eta, x_iast, x_bald, x_bast, x_last, x_alen, xup_s, xup_a1, xup_1a, xup_uu, nr_i, nr_l, nr_o, nr_a, ft_i, ft_l, ft_o, ft_a, Nat.reduceLT, i_cl0, i_cl1, i_n1, i_m1, List.set_cons_zero, List.set_cons_succ, Nat.reduceLeDiff, Nat.le_refl, Nat.zero_le, Nat.add_zero, x_no, x_ifnull, x_ifnonnull, x_acmp_eq, x_acmp_ne, x_swl, x_tsw, x_castC, true_or, or_true, nr_z, ft_z, nr_z0, nr_z1, ft_z0, ft_z1, nr_on, nr_an, ft_on, ft_an, b_X14_readDigits_125, b_X14_readDigits_136, l5, l7, q0]
    refine ⟨fun a => ?_, fun a => ?_⟩
    · rw [if_neg (by omega)] at g
      exact g
    · rw [if_pos (by omega)] at g
      exact g
  have g57 : p < e → (hxB (t p) < B ∨ (t p = 46 ∧ pt = false)) → b_X14_readDigits_57 Q (xInvL cn_X14_readDigits (I_X14_readDigits Q) (e - p)) [(0, .ref M), (2, .int (nI e)), (3, .int (nI B)), (4, .ref r), (5, .int (nI p)), (6, .int (bI pt)), (7, .int (nI dg))] [] (h, S2) := by
    intro pl cond
    have ek : e - p = (e - (p + 1)) + 1 := by omega
    have st : rdG B t (e - p) p pt dg sc v = if t p = 46 then rdG B t (e - (p + 1)) (p + 1) true dg sc v else rdG B t (e - (p + 1)) (p + 1) pt (dg + 1) (if pt = true then sc + 1 else sc) (v * B + hxB (t p)) := by
      rw [ek]
      exact if_pos cond
    have e23 : su s 23 (.int (nI sc)) 23 = .int (nI sc) := su_s
    have nx := nI_1 p
    have nd := nI_1 dg
    have ns : nI sc + 1 = nI (sc + 1) := nI_1 sc
    unfold b_X14_readDigits_57 b_X14_readDigits_116 b_X14_readDigits_119
    generalize hJ : xInvL cn_X14_readDigits (I_X14_readDigits Q) (e - p) = J
    simp only [q_c, x_iload, x_lload, x_aload, q_istore, q_lstore, q_astore, q_astore2, x_iinc, q_iadd, q_isub, q_imul, q_iand, q_ior, q_ixor, q_ladd, q_lsub, q_lmul, q_land, q_lor, q_lxor, q_idiv, q_irem, q_ldiv, q_lrem, q_ineg, q_lneg, q_ishl, q_ishr, q_iushr, q_lshl, q_lshr, q_lushr, q_i2l, q_l2i, q_i2b, q_i2c, q_lcmp, q_if_eq, q_if_ne, q_if_lt, q_if_ge, q_if_gt, q_if_le, q_icmp_eq, q_icmp_ne, q_icmp_lt, q_icmp_ge, q_icmp_gt, q_icmp_le, q_dup, q_pop, q_dup_x1, q_dup2, x_iret, x_zret, x_lret, x_aret, x_vret, x_call, x_callv, x_calli, x_oinit, x_mmax, x_mmin, x_mabs, x_mmaxL, x_mminL, x_mabsL, lg_cmp_ge, lg_cmp_le, lg_cmp_gt, lg_cmp_lt, lg_cmp_eq, xlk, q_xs1, q_xs2, lv_args, Value.category, List.filter_cons, List.filter_nil, Nat.reduceAdd, Nat.reduceBEq, Nat.reduceEqDiff, Nat.reduceSub, Nat.sub_zero, beq_self_eq_true, Bool.not_true, Bool.not_false, Bool.and_true, Bool.and_false, Bool.true_and, Bool.false_and, reduceIte, reduceCtorEq, Bool.false_eq_true, Nat.one_ne_zero, Nat.zero_ne_one, Nat.zero_add, Option.toList_some, Option.toList_none, List.nil_append, List.cons_append, List.take_succ_cons, List.take_zero, List.take_nil, List.drop_succ_cons, List.drop_zero, List.length_cons, List.length_nil, List.reverse_cons, List.reverse_nil, List.head?_cons, List.map_cons, List.map_nil, List.sum_cons, List.sum_nil, true_and, and_true, List.getElem?_cons_zero, List.getElem?_cons_succ, Prod.eta, x_iast, x_bald, x_bast, x_last, x_alen, xup_s, xup_a1, xup_1a, xup_uu, nr_i, nr_l, nr_o, nr_a, ft_i, ft_l, ft_o, ft_a, Nat.reduceLT, i_cl0, i_cl1, i_n1, i_m1, List.set_cons_zero, List.set_cons_succ, Nat.reduceLeDiff, Nat.le_refl, Nat.zero_le, Nat.add_zero, x_no, x_ifnull, x_ifnonnull, x_acmp_eq, x_acmp_ne, x_swl, x_tsw, x_castC, true_or, or_true, nr_z, ft_z, nr_z0, nr_z1, ft_z0, ft_z1, nr_on, nr_an, ft_on, ft_an, ms.s6 w, ms.s7 w, ms.s9 w, ms.s15 w, ms.s23 w, ms.s24 w, ms.s25 w, ms.s26 w, ms.s8 w, ms.s10 w, ms.t6 w, ms.t9 w, ms.t15 w, ms.t23 w, ms.t24 w, ms.t7 w, ms.t7a w, ms.t7b w, ms.t25 w, ms.t25a w, ms.t25b w, ms.t26 w, ms.t26a w, ms.t26b w, tpR.ld ht (show p < 400 by omega), q46, nr.g1]
    refine ⟨fun a => ⟨t p, rfl, tb, ?_⟩, fun a => ?_⟩
    · have hx : hxB (t p) < B := by
        rcases cond with c | c
        · exact c
        · exact absurd c.1 a
      have vd := dig_b hv hx hB
      try simp only [q_c, x_iload, x_lload, x_aload, q_istore, q_lstore, q_astore, q_astore2, x_iinc, q_iadd, q_isub, q_imul, q_iand, q_ior, q_ixor, q_ladd, q_lsub, q_lmul, q_land, q_lor, q_lxor, q_idiv, q_irem, q_ldiv, q_lrem, q_ineg, q_lneg, q_ishl, q_ishr, q_iushr, q_lshl, q_lshr, q_lushr, q_i2l, q_l2i, q_i2b, q_i2c, q_lcmp, q_if_eq, q_if_ne, q_if_lt, q_if_ge, q_if_gt, q_if_le, q_icmp_eq, q_icmp_ne, q_icmp_lt, q_icmp_ge, q_icmp_gt, q_icmp_le, q_dup, q_pop, q_dup_x1, q_dup2, x_iret, x_zret, x_lret, x_aret, x_vret, x_call, x_callv, x_calli, x_oinit, x_mmax, x_mmin, x_mabs, x_mmaxL, x_mminL, x_mabsL, lg_cmp_ge, lg_cmp_le, lg_cmp_gt, lg_cmp_lt, lg_cmp_eq, xlk, q_xs1, q_xs2, lv_args, Value.category, List.filter_cons, List.filter_nil, Nat.reduceAdd, Nat.reduceBEq, Nat.reduceEqDiff, Nat.reduceSub, Nat.sub_zero, beq_self_eq_true, Bool.not_true, Bool.not_false, Bool.and_true, Bool.and_false, Bool.true_and, Bool.false_and, reduceIte, reduceCtorEq, Bool.false_eq_true, Nat.one_ne_zero, Nat.zero_ne_one, Nat.zero_add, Option.toList_some, Option.toList_none, List.nil_append, List.cons_append, List.take_succ_cons, List.take_zero, List.take_nil, List.drop_succ_cons, List.drop_zero, List.length_cons, List.length_nil, List.reverse_cons, List.reverse_nil, List.head?_cons, List.map_cons, List.map_nil, List.sum_cons, List.sum_nil, true_and, and_true, List.getElem?_cons_zero, List.getElem?_cons_succ, Prod.eta, x_iast, x_bald, x_bast, x_last, x_alen, xup_s, xup_a1, xup_1a, xup_uu, nr_i, nr_l, nr_o, nr_a, ft_i, ft_l, ft_o, ft_a, Nat.reduceLT, i_cl0, i_cl1, i_n1, i_m1, List.set_cons_zero, List.set_cons_succ, Nat.reduceLeDiff, Nat.le_refl, Nat.zero_le, Nat.add_zero, x_no, x_ifnull, x_ifnonnull, x_acmp_eq, x_acmp_ne, x_swl, x_tsw, x_castC, true_or, or_true, nr_z, ft_z, nr_z0, nr_z1, ft_z0, ft_z1, nr_on, nr_an, ft_on, ft_an]
      refine k_grp nr (by omega) (by omega) (by omega) (Nat.lt_trans vd (p16_640 (by omega))) (fun h2 o2 n2 => ?_)
      have o2' : xoff h2 h r (r + 5) := xoff_wd o2 (by omega) (by omega)
      have w2 := w.nn o2' ⟨_, _, _, _, n2⟩ hr
      have t2 := ht.o o2' (by omega)
      have w3 := fun x => w2.sf (s' := su s 23 (.int x)) rfl
      have fin : ∀ sc1, sc1 = (if pt = true then sc + 1 else sc) → J [(5, .int (nI (p + 1))), (7, .int (nI (dg + 1))), (0, .ref M), (2, .int (nI e)), (3, .int (nI B)), (4, .ref r), (6, .int (bI pt))] [] (xup h2 M (.inr (13, mF M (su s 23 (.int (nI sc1))) lo hi nn ls)), S2) := by
        intro sc1 h1
        rw [← hJ]
        refine xInvL.mk (e - (p + 1)) (M, e, B, r, p + 1, pt, dg + 1) (by omega) ⟨rfl, rfl, rfl, rfl, rfl, rfl, rfl, trivial⟩ ⟨s, lo, hi, nn, ls, n, cs, t, sc1, v * B + hxB (t p), rfl, by omega, e4, hB, hr, by omega, by rw [h1]; split <;> omega, vd, w3 _, t2.up, ?_, fun h' p' dg' sc' v' er a1 a2 a3 a4 f' m' t' n' => hQ h' p' dg' sc' v' (by rw [st, if_neg a, ← h1]; exact er) (by omega) a2 a3 a4 (fn.tr f' (fn.tr fn.up (fn.n o2 (by omega) (by omega)))) m' t' n'⟩
        exact n2.off (off1 (r := M)) (by omega)
      simp only [q_c, x_iload, x_lload, x_aload, q_istore, q_lstore, q_astore, q_astore2, x_iinc, q_iadd, q_isub, q_imul, q_iand, q_ior, q_ixor, q_ladd, q_lsub, q_lmul, q_land, q_lor, q_lxor, q_idiv, q_irem, q_ldiv, q_lrem, q_ineg, q_lneg, q_ishl, q_ishr, q_iushr, q_lshl, q_lshr, q_lushr, q_i2l, q_l2i, q_i2b, q_i2c, q_lcmp, q_if_eq, q_if_ne, q_if_lt, q_if_ge, q_if_gt, q_if_le, q_icmp_eq, q_icmp_ne, q_icmp_lt, q_icmp_ge, q_icmp_gt, q_icmp_le, q_dup, q_pop, q_dup_x1, q_dup2, x_iret, x_zret, x_lret, x_aret, x_vret, x_call, x_callv, x_calli, x_oinit, x_mmax, x_mmin, x_mabs, x_mmaxL, x_mminL, x_mabsL, lg_cmp_ge, lg_cmp_le, lg_cmp_gt, lg_cmp_lt, lg_cmp_eq, xlk, q_xs1, q_xs2, lv_args, Value.category, List.filter_cons, List.filter_nil, Nat.reduceAdd, Nat.reduceBEq, Nat.reduceEqDiff, Nat.reduceSub, Nat.sub_zero, beq_self_eq_true, Bool.not_true, Bool.not_false, Bool.and_true, Bool.and_false, Bool.true_and, Bool.false_and, reduceIte, reduceCtorEq, Bool.false_eq_true, Nat.one_ne_zero, Nat.zero_ne_one, Nat.zero_add, Option.toList_some, Option.toList_none, List.nil_append, List.cons_append, List.take_succ_cons, List.take_zero, List.take_nil, List.drop_succ_cons, List.drop_zero, List.length_cons, List.length_nil, List.reverse_cons, List.reverse_nil, List.head?_cons, List.map_cons, List.map_nil, List.sum_cons, List.sum_nil, true_and, and_true, List.getElem?_cons_zero, List.getElem?_cons_succ, Prod.eta, x_iast, x_bald, x_bast, x_last, x_alen, xup_s, xup_a1, xup_1a, xup_uu, nr_i, nr_l, nr_o, nr_a, ft_i, ft_l, ft_o, ft_a, Nat.reduceLT, i_cl0, i_cl1, i_n1, i_m1, List.set_cons_zero, List.set_cons_succ, Nat.reduceLeDiff, Nat.le_refl, Nat.zero_le, Nat.add_zero, x_no, x_ifnull, x_ifnonnull, x_acmp_eq, x_acmp_ne, x_swl, x_tsw, x_castC, true_or, or_true, nr_z, ft_z, nr_z0, nr_z1, ft_z0, ft_z1, nr_on, nr_an, ft_on, ft_an, ms.s6 w2, ms.s7 w2, ms.s9 w2, ms.s15 w2, ms.s23 w2, ms.s24 w2, ms.s25 w2, ms.s26 w2, ms.s8 w2, ms.s10 w2, ms.t6 w2, ms.t9 w2, ms.t15 w2, ms.t23 w2, ms.t24 w2, ms.t7 w2, ms.t7a w2, ms.t7b w2, ms.t25 w2, ms.t25a w2, ms.t25b w2, ms.t26 w2, ms.t26a w2, ms.t26b w2, e23, bI_e0, nx, nd, ns, su_su]
      exact ⟨fun y => fin sc (by rw [if_neg (by rw [y]; decide)]), fun y => fin (sc + 1) (by rw [if_pos (eq_true_of_ne_false y)])⟩
    · try simp only [q_c, x_iload, x_lload, x_aload, q_istore, q_lstore, q_astore, q_astore2, x_iinc, q_iadd, q_isub, q_imul, q_iand, q_ior, q_ixor, q_ladd, q_lsub, q_lmul, q_land, q_lor, q_lxor, q_idiv, q_irem, q_ldiv, q_lrem, q_ineg, q_lneg, q_ishl, q_ishr, q_iushr, q_lshl, q_lshr, q_lushr, q_i2l, q_l2i, q_i2b, q_i2c, q_lcmp, q_if_eq, q_if_ne, q_if_lt, q_if_ge, q_if_gt, q_if_le, q_icmp_eq, q_icmp_ne, q_icmp_lt, q_icmp_ge, q_icmp_gt, q_icmp_le, q_dup, q_pop, q_dup_x1, q_dup2, x_iret, x_zret, x_lret, x_aret, x_vret, x_call, x_callv, x_calli, x_oinit, x_mmax, x_mmin, x_mabs, x_mmaxL, x_mminL, x_mabsL, lg_cmp_ge, lg_cmp_le, lg_cmp_gt, lg_cmp_lt, lg_cmp_eq, xlk, q_xs1, q_xs2, lv_args, Value.category, List.filter_cons, List.filter_nil, Nat.reduceAdd, Nat.reduceBEq, Nat.reduceEqDiff, Nat.reduceSub, Nat.sub_zero, beq_self_eq_true, Bool.not_true, Bool.not_false, Bool.and_true, Bool.and_false, Bool.true_and, Bool.false_and, reduceIte, reduceCtorEq, Bool.false_eq_true, Nat.one_ne_zero, Nat.zero_ne_one, Nat.zero_add, Option.toList_some, Option.toList_none, List.nil_append, List.cons_append, List.take_succ_cons, List.take_zero, List.take_nil, List.drop_succ_cons, List.drop_zero, List.length_cons, List.length_nil, List.reverse_cons, List.reverse_nil, List.head?_cons, List.map_cons, List.map_nil, List.sum_cons, List.sum_nil, true_and, and_true, List.getElem?_cons_zero, List.getElem?_cons_succ, Prod.eta, x_iast, x_bald, x_bast, x_last, x_alen, xup_s, xup_a1, xup_1a, xup_uu, nr_i, nr_l, nr_o, nr_a, ft_i, ft_l, ft_o, ft_a, Nat.reduceLT, i_cl0, i_cl1, i_n1, i_m1, List.set_cons_zero, List.set_cons_succ, Nat.reduceLeDiff, Nat.le_refl, Nat.zero_le, Nat.add_zero, x_no, x_ifnull, x_ifnonnull, x_acmp_eq, x_acmp_ne, x_swl, x_tsw, x_castC, true_or, or_true, nr_z, ft_z, nr_z0, nr_z1, ft_z0, ft_z1, nr_on, nr_an, ft_on, ft_an]
      rw [← hJ]
      exact xInvL.mk (e - (p + 1)) (M, e, B, r, p + 1, true, dg) (by omega) ⟨rfl, rfl, rfl, rfl, rfl, rfl, rfl, trivial⟩ ⟨s, lo, hi, nn, ls, n, cs, t, sc, v, rfl, by omega, e4, hB, hr, by omega, by omega, hv, w, ht, nr, fun h' p' dg' sc' v' er a1 a2 a3 a4 f' m' t' n' => hQ h' p' dg' sc' v' (by rw [st, if_pos a]; exact er) (by omega) a2 a3 a4 f' m' t' n'⟩
  have out : p < e → ¬ (hxB (t p) < B ∨ (t p = 46 ∧ pt = false)) → rdG B t (e - p) p pt dg sc v = (p, dg, sc, v) := by
    intro pl nc
    rw [show e - p = (e - (p + 1)) + 1 by omega]
    exact if_neg nc
  unfold b_X14_readDigits_20
  generalize b_X14_readDigits_57 Q (xInvL cn_X14_readDigits (I_X14_readDigits Q) (e - p)) = J1 at *
  generalize b_X14_readDigits_125 Q (xInvL cn_X14_readDigits (I_X14_readDigits Q) (e - p)) = J2 at *
  simp only [q_c, x_iload, x_lload, x_aload, q_istore, q_lstore, q_astore, q_astore2, x_iinc, q_iadd, q_isub, q_imul, q_iand, q_ior, q_ixor, q_ladd, q_lsub, q_lmul, q_land, q_lor, q_lxor, q_idiv, q_irem, q_ldiv, q_lrem, q_ineg, q_lneg, q_ishl, q_ishr, q_iushr, q_lshl, q_lshr, q_lushr, q_i2l, q_l2i, q_i2b, q_i2c, q_lcmp, q_if_eq, q_if_ne, q_if_lt, q_if_ge, q_if_gt, q_if_le, q_icmp_eq, q_icmp_ne, q_icmp_lt, q_icmp_ge, q_icmp_gt, q_icmp_le, q_dup, q_pop, q_dup_x1, q_dup2, x_iret, x_zret, x_lret, x_aret, x_vret, x_call, x_callv, x_calli, x_oinit, x_mmax, x_mmin, x_mabs, x_mmaxL, x_mminL, x_mabsL, lg_cmp_ge, lg_cmp_le, lg_cmp_gt, lg_cmp_lt, lg_cmp_eq, xlk, q_xs1, q_xs2, lv_args, Value.category, List.filter_cons, List.filter_nil, Nat.reduceAdd, Nat.reduceBEq, Nat.reduceEqDiff, Nat.reduceSub, Nat.sub_zero, beq_self_eq_true, Bool.not_true, Bool.not_false, Bool.and_true, Bool.and_false, Bool.true_and, Bool.false_and, reduceIte, reduceCtorEq, Bool.false_eq_true, Nat.one_ne_zero, Nat.zero_ne_one, Nat.zero_add, Option.toList_some, Option.toList_none, List.nil_append, List.cons_append, List.take_succ_cons, List.take_zero, List.take_nil, List.drop_succ_cons, List.drop_zero, List.length_cons, List.length_nil, List.reverse_cons, List.reverse_nil, List.head?_cons, List.map_cons, List.map_nil, List.sum_cons, List.sum_nil, true_and, and_true, List.getElem?_cons_zero, List.getElem?_cons_succ, Prod.eta, x_iast, x_bald, x_bast, x_last, x_alen, xup_s, xup_a1, xup_1a, xup_uu, nr_i, nr_l, nr_o, nr_a, ft_i, ft_l, ft_o, ft_a, Nat.reduceLT, i_cl0, i_cl1, i_n1, i_m1, List.set_cons_zero, List.set_cons_succ, Nat.reduceLeDiff, Nat.le_refl, Nat.zero_le, Nat.add_zero, x_no, x_ifnull, x_ifnonnull, x_acmp_eq, x_acmp_ne, x_swl, x_tsw, x_castC, true_or, or_true, nr_z, ft_z, nr_z0, nr_z1, ft_z0, ft_z1, nr_on, nr_an, ft_on, ft_an, q1, ms.s6 w, ms.s7 w, ms.s9 w, ms.s15 w, ms.s23 w, ms.s24 w, ms.s25 w, ms.s26 w, ms.s8 w, ms.s10 w, ms.t6 w, ms.t9 w, ms.t15 w, ms.t23 w, ms.t24 w, ms.t7 w, ms.t7a w, ms.t7b w, ms.t25 w, ms.t25a w, ms.t25b w, ms.t26 w, ms.t26a w, ms.t26b w]
  refine ⟨fun a => g125 (by rw [show e - p = 0 by omega]; rfl) _ rfl rfl, fun a => ?_⟩
  have pl : p < e := by omega
  simp only [q_c, x_iload, x_lload, x_aload, q_istore, q_lstore, q_astore, q_astore2, x_iinc, q_iadd, q_isub, q_imul, q_iand, q_ior, q_ixor, q_ladd, q_lsub, q_lmul, q_land, q_lor, q_lxor, q_idiv, q_irem, q_ldiv, q_lrem, q_ineg, q_lneg, q_ishl, q_ishr, q_iushr, q_lshl, q_lshr, q_lushr, q_i2l, q_l2i, q_i2b, q_i2c, q_lcmp, q_if_eq, q_if_ne, q_if_lt, q_if_ge, q_if_gt, q_if_le, q_icmp_eq, q_icmp_ne, q_icmp_lt, q_icmp_ge, q_icmp_gt, q_icmp_le, q_dup, q_pop, q_dup_x1, q_dup2, x_iret, x_zret, x_lret, x_aret, x_vret, x_call, x_callv, x_calli, x_oinit, x_mmax, x_mmin, x_mabs, x_mmaxL, x_mminL, x_mabsL, lg_cmp_ge, lg_cmp_le, lg_cmp_gt, lg_cmp_lt, lg_cmp_eq, xlk, q_xs1, q_xs2, lv_args, Value.category, List.filter_cons, List.filter_nil, Nat.reduceAdd, Nat.reduceBEq, Nat.reduceEqDiff, Nat.reduceSub, Nat.sub_zero, beq_self_eq_true, Bool.not_true, Bool.not_false, Bool.and_true, Bool.and_false, Bool.true_and, Bool.false_and, reduceIte, reduceCtorEq, Bool.false_eq_true, Nat.one_ne_zero, Nat.zero_ne_one, Nat.zero_add, Option.toList_some, Option.toList_none, List.nil_append, List.cons_append, List.take_succ_cons, List.take_zero, List.take_nil, List.drop_succ_cons, List.drop_zero, List.length_cons, List.length_nil, List.reverse_cons, List.reverse_nil, List.head?_cons, List.map_cons, List.map_nil, List.sum_cons, List.sum_nil, true_and, and_true, List.getElem?_cons_zero, List.getElem?_cons_succ, Prod.eta, x_iast, x_bald, x_bast, x_last, x_alen, xup_s, xup_a1, xup_1a, xup_uu, nr_i, nr_l, nr_o, nr_a, ft_i, ft_l, ft_o, ft_a, Nat.reduceLT, i_cl0, i_cl1, i_n1, i_m1, List.set_cons_zero, List.set_cons_succ, Nat.reduceLeDiff, Nat.le_refl, Nat.zero_le, Nat.add_zero, x_no, x_ifnull, x_ifnonnull, x_acmp_eq, x_acmp_ne, x_swl, x_tsw, x_castC, true_or, or_true, nr_z, ft_z, nr_z0, nr_z1, ft_z0, ft_z1, nr_on, nr_an, ft_on, ft_an, tpR.ld ht (show p < 400 by omega)]
  refine ⟨t p, rfl, tb, ?_⟩
  simp only [q_c, x_iload, x_lload, x_aload, q_istore, q_lstore, q_astore, q_astore2, x_iinc, q_iadd, q_isub, q_imul, q_iand, q_ior, q_ixor, q_ladd, q_lsub, q_lmul, q_land, q_lor, q_lxor, q_idiv, q_irem, q_ldiv, q_lrem, q_ineg, q_lneg, q_ishl, q_ishr, q_iushr, q_lshl, q_lshr, q_lushr, q_i2l, q_l2i, q_i2b, q_i2c, q_lcmp, q_if_eq, q_if_ne, q_if_lt, q_if_ge, q_if_gt, q_if_le, q_icmp_eq, q_icmp_ne, q_icmp_lt, q_icmp_ge, q_icmp_gt, q_icmp_le, q_dup, q_pop, q_dup_x1, q_dup2, x_iret, x_zret, x_lret, x_aret, x_vret, x_call, x_callv, x_calli, x_oinit, x_mmax, x_mmin, x_mabs, x_mmaxL, x_mminL, x_mabsL, lg_cmp_ge, lg_cmp_le, lg_cmp_gt, lg_cmp_lt, lg_cmp_eq, xlk, q_xs1, q_xs2, lv_args, Value.category, List.filter_cons, List.filter_nil, Nat.reduceAdd, Nat.reduceBEq, Nat.reduceEqDiff, Nat.reduceSub, Nat.sub_zero, beq_self_eq_true, Bool.not_true, Bool.not_false, Bool.and_true, Bool.and_false, Bool.true_and, Bool.false_and, reduceIte, reduceCtorEq, Bool.false_eq_true, Nat.one_ne_zero, Nat.zero_ne_one, Nat.zero_add, Option.toList_some, Option.toList_none, List.nil_append, List.cons_append, List.take_succ_cons, List.take_zero, List.take_nil, List.drop_succ_cons, List.drop_zero, List.length_cons, List.length_nil, List.reverse_cons, List.reverse_nil, List.head?_cons, List.map_cons, List.map_nil, List.sum_cons, List.sum_nil, true_and, and_true, List.getElem?_cons_zero, List.getElem?_cons_succ, Prod.eta, x_iast, x_bald, x_bast, x_last, x_alen, xup_s, xup_a1, xup_1a, xup_uu, nr_i, nr_l, nr_o, nr_a, ft_i, ft_l, ft_o, ft_a, Nat.reduceLT, i_cl0, i_cl1, i_n1, i_m1, List.set_cons_zero, List.set_cons_succ, Nat.reduceLeDiff, Nat.le_refl, Nat.zero_le, Nat.add_zero, x_no, x_ifnull, x_ifnonnull, x_acmp_eq, x_acmp_ne, x_swl, x_tsw, x_castC, true_or, or_true, nr_z, ft_z, nr_z0, nr_z1, ft_z0, ft_z1, nr_on, nr_an, ft_on, ft_an, q2, ms.s6 w, ms.s7 w, ms.s9 w, ms.s15 w, ms.s23 w, ms.s24 w, ms.s25 w, ms.s26 w, ms.s8 w, ms.s10 w, ms.t6 w, ms.t9 w, ms.t15 w, ms.t23 w, ms.t24 w, ms.t7 w, ms.t7a w, ms.t7b w, ms.t25 w, ms.t25a w, ms.t25b w, ms.t26 w, ms.t26a w, ms.t26b w, tpR.ld ht (show p < 400 by omega), q46, bI_e0]
  exact ⟨fun b => g57 pl (Or.inl b), fun b => ⟨fun c => g125 (out pl (fun d => d.elim b (fun x => c x.1))) _ rfl rfl, fun c => ⟨fun d => g125 (out pl (fun x => x.elim b (fun y => d y.2))) _ rfl rfl, fun d => g57 pl (Or.inr ⟨c, d⟩)⟩⟩⟩
theorem cM_X14_readDigits (G : xG) (l : Launch) : xM G l yX14_readDigits cX14_readDigits 8 (some FieldType.int) r_X14_readDigits C_X14_readDigits := by
  refine xM_of (fun Q => b_X14_readDigits_0 Q (xInv cn_X14_readDigits (I_X14_readDigits Q))) RX14 false (fun Q => s_X14_readDigits_0 G l Q _ (rd_loop G l Q)) (by decide) rfl (by decide) ?_
  rintro av ⟨h, S2⟩ Q ⟨M, r, s, lo, hi, nn, ls, n, cs, f, e, B, t, rfl, fe, e4, hB, hr, w, ht, hQ⟩
  dsimp only at *
  refine ⟨Nat.le_of_ble_eq_true rfl, ?_⟩
  have hr' : M + 25 ≤ r ∧ r + 5 ≤ M + 45 := by unfold isN at hr; omega
  have ne : nuE h r := by
    obtain ⟨x1, x2, x3, x4⟩ := w.1.2.2
    rcases hr with rfl | rfl | rfl | rfl
    · exact x1
    · exact x2
    · exact x3
    · exact x4
  simp only [q_c, x_iload, x_lload, x_aload, q_istore, q_lstore, q_astore, q_astore2, x_iinc, q_iadd, q_isub, q_imul, q_iand, q_ior, q_ixor, q_ladd, q_lsub, q_lmul, q_land, q_lor, q_lxor, q_idiv, q_irem, q_ldiv, q_lrem, q_ineg, q_lneg, q_ishl, q_ishr, q_iushr, q_lshl, q_lshr, q_lushr, q_i2l, q_l2i, q_i2b, q_i2c, q_lcmp, q_if_eq, q_if_ne, q_if_lt, q_if_ge, q_if_gt, q_if_le, q_icmp_eq, q_icmp_ne, q_icmp_lt, q_icmp_ge, q_icmp_gt, q_icmp_le, q_dup, q_pop, q_dup_x1, q_dup2, x_iret, x_zret, x_lret, x_aret, x_vret, x_call, x_callv, x_calli, x_oinit, x_mmax, x_mmin, x_mabs, x_mmaxL, x_mminL, x_mabsL, lg_cmp_ge, lg_cmp_le, lg_cmp_gt, lg_cmp_lt, lg_cmp_eq, xlk, q_xs1, q_xs2, lv_args, Value.category, List.filter_cons, List.filter_nil, Nat.reduceAdd, Nat.reduceBEq, Nat.reduceEqDiff, Nat.reduceSub, Nat.sub_zero, beq_self_eq_true, Bool.not_true, Bool.not_false, Bool.and_true, Bool.and_false, Bool.true_and, Bool.false_and, reduceIte, reduceCtorEq, Bool.false_eq_true, Nat.one_ne_zero, Nat.zero_ne_one, Nat.zero_add, Option.toList_some, Option.toList_none, List.nil_append, List.cons_append, List.take_succ_cons, List.take_zero, List.take_nil, List.drop_succ_cons, List.drop_zero, List.length_cons, List.length_nil, List.reverse_cons, List.reverse_nil, List.head?_cons, List.map_cons, List.map_nil, List.sum_cons, List.sum_nil, true_and, and_true, List.getElem?_cons_zero, List.getElem?_cons_succ, Prod.eta, x_iast, x_bald, x_bast, x_last, x_alen, xup_s, xup_a1, xup_1a, xup_uu, nr_i, nr_l, nr_o, nr_a, ft_i, ft_l, ft_o, ft_a, Nat.reduceLT, i_cl0, i_cl1, i_n1, i_m1, List.set_cons_zero, List.set_cons_succ, Nat.reduceLeDiff, Nat.le_refl, Nat.zero_le, Nat.add_zero, x_no, x_ifnull, x_ifnonnull, x_acmp_eq, x_acmp_ne, x_swl, x_tsw, x_castC, true_or, or_true, nr_z, ft_z, nr_z0, nr_z1, ft_z0, ft_z1, nr_on, nr_an, ft_on, ft_an, b_X14_readDigits_0]
  refine k_set (v := 0) ne (by decide) (fun h2 o2 n2 => ?_)
  have w2 := w.nn o2 ⟨_, _, _, _, n2⟩ hr
  have w3 := w2.sf (s' := su s 23 (.int 0)) rfl
  simp only [q_c, x_iload, x_lload, x_aload, q_istore, q_lstore, q_astore, q_astore2, x_iinc, q_iadd, q_isub, q_imul, q_iand, q_ior, q_ixor, q_ladd, q_lsub, q_lmul, q_land, q_lor, q_lxor, q_idiv, q_irem, q_ldiv, q_lrem, q_ineg, q_lneg, q_ishl, q_ishr, q_iushr, q_lshl, q_lshr, q_lushr, q_i2l, q_l2i, q_i2b, q_i2c, q_lcmp, q_if_eq, q_if_ne, q_if_lt, q_if_ge, q_if_gt, q_if_le, q_icmp_eq, q_icmp_ne, q_icmp_lt, q_icmp_ge, q_icmp_gt, q_icmp_le, q_dup, q_pop, q_dup_x1, q_dup2, x_iret, x_zret, x_lret, x_aret, x_vret, x_call, x_callv, x_calli, x_oinit, x_mmax, x_mmin, x_mabs, x_mmaxL, x_mminL, x_mabsL, lg_cmp_ge, lg_cmp_le, lg_cmp_gt, lg_cmp_lt, lg_cmp_eq, xlk, q_xs1, q_xs2, lv_args, Value.category, List.filter_cons, List.filter_nil, Nat.reduceAdd, Nat.reduceBEq, Nat.reduceEqDiff, Nat.reduceSub, Nat.sub_zero, beq_self_eq_true, Bool.not_true, Bool.not_false, Bool.and_true, Bool.and_false, Bool.true_and, Bool.false_and, reduceIte, reduceCtorEq, Bool.false_eq_true, Nat.one_ne_zero, Nat.zero_ne_one, Nat.zero_add, Option.toList_some, Option.toList_none, List.nil_append, List.cons_append, List.take_succ_cons, List.take_zero, List.take_nil, List.drop_succ_cons, List.drop_zero, List.length_cons, List.length_nil, List.reverse_cons, List.reverse_nil, List.head?_cons, List.map_cons, List.map_nil, List.sum_cons, List.sum_nil, true_and, and_true, List.getElem?_cons_zero, List.getElem?_cons_succ, Prod.eta, x_iast, x_bald, x_bast, x_last, x_alen, xup_s, xup_a1, xup_1a, xup_uu, nr_i, nr_l, nr_o, nr_a, ft_i, ft_l, ft_o, ft_a, Nat.reduceLT, i_cl0, i_cl1, i_n1, i_m1, List.set_cons_zero, List.set_cons_succ, Nat.reduceLeDiff, Nat.le_refl, Nat.zero_le, Nat.add_zero, x_no, x_ifnull, x_ifnonnull, x_acmp_eq, x_acmp_ne, x_swl, x_tsw, x_castC, true_or, or_true, nr_z, ft_z, nr_z0, nr_z1, ft_z0, ft_z1, nr_on, nr_an, ft_on, ft_an, ms.s6 w2, ms.s7 w2, ms.s9 w2, ms.s15 w2, ms.s23 w2, ms.s24 w2, ms.s25 w2, ms.s26 w2, ms.s8 w2, ms.s10 w2, ms.t6 w2, ms.t9 w2, ms.t15 w2, ms.t23 w2, ms.t24 w2, ms.t7 w2, ms.t7a w2, ms.t7b w2, ms.t25 w2, ms.t25a w2, ms.t25b w2, ms.t26 w2, ms.t26a w2, ms.t26b w2]
  exact xInv.mk (e - f) (M, e, B, r, f, false, 0) ⟨rfl, rfl, rfl, rfl, rfl, rfl, rfl, trivial⟩ ⟨s, lo, hi, nn, ls, n, cs, t, 0, 0, rfl, fe, e4, hB, hr, by omega, by omega, by decide, w3, (ht.o o2 (by omega)).up, n2.off (off1 (r := M)) (by omega), fun h' p' dg' sc' v' er a1 a2 a3 a4 f' m' t' n' => hQ h' p' dg' sc' v' er a1 a2 a3 a4 (fn.tr f' (fn.tr fn.up (fn.n o2 (by omega) (by omega)))) m' t' n'⟩
/-! exponents -/
def alB (t : Nat → Nat) (p : Nat) : Nat → Bool
  | 0 => true
  | k + 1 => alB t p k && dgB (t (p + k))
def dcV (t : Nat → Nat) (p : Nat) : Nat → Nat
  | 0 => 0
  | k + 1 => 10 * dcV t p k + (t (p + k) - 48)
theorem alB_f {t : Nat → Nat} {p i j : Nat} (h : alB t p i = false) (hj : i ≤ j) : alB t p j = false := by
  induction j with
  | zero => rw [show i = 0 by omega] at h; exact h
  | succ j ih =>
    rcases Nat.lt_or_ge j i with c | c
    · rw [show i = j + 1 by omega] at h; exact h
    · show (alB t p j && _) = false
      rw [ih c]
      rfl
theorem dcV_lt {t : Nat → Nat} {p k : Nat} (h : alB t p k = true) : dcV t p k < 10 ^ k := by
  induction k with
  | zero => exact Nat.zero_lt_one
  | succ k ih =>
    have h' : (alB t p k && dgB (t (p + k))) = true := h
    rw [Bool.and_eq_true] at h'
    have i1 := ih h'.1
    have d : 48 ≤ t (p + k) ∧ t (p + k) ≤ 57 := of_decide_eq_true h'.2
    show 10 * dcV t p k + (t (p + k) - 48) < 10 ^ (k + 1)
    rw [Nat.pow_succ]
    omega
def sgP (t : Nat → Nat) (f e : Nat) : Nat := if f < e ∧ (t f = 45 ∨ t f = 43) then f + 1 else f
def ngB (t : Nat → Nat) (f e : Nat) : Bool := decide (f < e ∧ t f = 45)
def exB (t : Nat → Nat) (f e most : Nat) : Bool := decide (0 < e - sgP t f e) && decide (e - sgP t f e ≤ most) && alB t (sgP t f e) (e - sgP t f e)
def exV (t : Nat → Nat) (f e : Nat) : Int := if ngB t f e = true then -(dcV t (sgP t f e) (e - sgP t f e) : Int) else dcV t (sgP t f e) (e - sgP t f e)
/-- only the object has changed -/
def fm (h' h : xH) (M : Nat) : Prop := ∀ q, q ≠ M → h' q = h q
theorem fm.tr {h h' h'' : xH} {M : Nat} (a : fm h'' h' M) (b : fm h' h M) : fm h'' h M := fun q c => (a q c).trans (b q c)
theorem fm.rf {h : xH} {M : Nat} : fm h h M := fun _ _ => rfl
theorem fm.up {h : xH} {M : Nat} {c : xE} : fm (xup h M c) h M := fun q a => xup_n a
theorem dX14_readExponent_0 : decode cX14_readExponent 0 = .ok (.iload_n 1, 1) := by decide +kernel
theorem dX14_readExponent_1 : decode cX14_readExponent 1 = .ok (.iload_n 2, 1) := by decide +kernel
theorem dX14_readExponent_2 : decode cX14_readExponent 2 = .ok (.if_icmp .ge 18, 3) := by decide +kernel
theorem dX14_readExponent_5 : decode cX14_readExponent 5 = .ok (.aload_n 0, 1) := by decide +kernel
theorem dX14_readExponent_6 : decode cX14_readExponent 6 = .ok (.getfield 122, 3) := by decide +kernel
theorem dX14_readExponent_9 : decode cX14_readExponent 9 = .ok (.iload_n 1, 1) := by decide +kernel
theorem dX14_readExponent_10 : decode cX14_readExponent 10 = .ok (.iaload, 1) := by decide +kernel
theorem dX14_readExponent_11 : decode cX14_readExponent 11 = .ok (.bipush 45, 2) := by decide +kernel
theorem dX14_readExponent_13 : decode cX14_readExponent 13 = .ok (.if_icmp .ne 7, 3) := by decide +kernel
theorem dX14_readExponent_16 : decode cX14_readExponent 16 = .ok (.iconst 1, 1) := by decide +kernel
theorem dX14_readExponent_17 : decode cX14_readExponent 17 = .ok (.goto 4, 3) := by decide +kernel
theorem dX14_readExponent_20 : decode cX14_readExponent 20 = .ok (.iconst 0, 1) := by decide +kernel
theorem dX14_readExponent_21 : decode cX14_readExponent 21 = .ok (.istore 4, 2) := by decide +kernel
theorem dX14_readExponent_23 : decode cX14_readExponent 23 = .ok (.iload_n 1, 1) := by decide +kernel
theorem dX14_readExponent_24 : decode cX14_readExponent 24 = .ok (.iload_n 2, 1) := by decide +kernel
theorem dX14_readExponent_25 : decode cX14_readExponent 25 = .ok (.if_icmp .ge 31, 3) := by decide +kernel
theorem dX14_readExponent_28 : decode cX14_readExponent 28 = .ok (.aload_n 0, 1) := by decide +kernel
theorem dX14_readExponent_29 : decode cX14_readExponent 29 = .ok (.getfield 122, 3) := by decide +kernel
theorem dX14_readExponent_32 : decode cX14_readExponent 32 = .ok (.iload_n 1, 1) := by decide +kernel
theorem dX14_readExponent_33 : decode cX14_readExponent 33 = .ok (.iaload, 1) := by decide +kernel
theorem dX14_readExponent_34 : decode cX14_readExponent 34 = .ok (.bipush 45, 2) := by decide +kernel
theorem dX14_readExponent_36 : decode cX14_readExponent 36 = .ok (.if_icmp .eq 14, 3) := by decide +kernel
theorem dX14_readExponent_39 : decode cX14_readExponent 39 = .ok (.aload_n 0, 1) := by decide +kernel
theorem dX14_readExponent_40 : decode cX14_readExponent 40 = .ok (.getfield 122, 3) := by decide +kernel
theorem dX14_readExponent_43 : decode cX14_readExponent 43 = .ok (.iload_n 1, 1) := by decide +kernel
theorem dX14_readExponent_44 : decode cX14_readExponent 44 = .ok (.iaload, 1) := by decide +kernel
theorem dX14_readExponent_45 : decode cX14_readExponent 45 = .ok (.bipush 43, 2) := by decide +kernel
theorem dX14_readExponent_47 : decode cX14_readExponent 47 = .ok (.if_icmp .ne 9, 3) := by decide +kernel
theorem dX14_readExponent_50 : decode cX14_readExponent 50 = .ok (.iload_n 1, 1) := by decide +kernel
theorem dX14_readExponent_51 : decode cX14_readExponent 51 = .ok (.iconst 1, 1) := by decide +kernel
theorem dX14_readExponent_52 : decode cX14_readExponent 52 = .ok (.iadd, 1) := by decide +kernel
theorem dX14_readExponent_53 : decode cX14_readExponent 53 = .ok (.goto 4, 3) := by decide +kernel
theorem dX14_readExponent_56 : decode cX14_readExponent 56 = .ok (.iload_n 1, 1) := by decide +kernel
theorem dX14_readExponent_57 : decode cX14_readExponent 57 = .ok (.istore 5, 2) := by decide +kernel
theorem dX14_readExponent_59 : decode cX14_readExponent 59 = .ok (.iload_n 2, 1) := by decide +kernel
theorem dX14_readExponent_60 : decode cX14_readExponent 60 = .ok (.iload 5, 2) := by decide +kernel
theorem dX14_readExponent_62 : decode cX14_readExponent 62 = .ok (.isub, 1) := by decide +kernel
theorem dX14_readExponent_63 : decode cX14_readExponent 63 = .ok (.ifCond .le 15, 3) := by decide +kernel
theorem dX14_readExponent_66 : decode cX14_readExponent 66 = .ok (.iload_n 2, 1) := by decide +kernel
theorem dX14_readExponent_67 : decode cX14_readExponent 67 = .ok (.iload 5, 2) := by decide +kernel
theorem dX14_readExponent_69 : decode cX14_readExponent 69 = .ok (.isub, 1) := by decide +kernel
theorem dX14_readExponent_70 : decode cX14_readExponent 70 = .ok (.iload_n 3, 1) := by decide +kernel
theorem dX14_readExponent_71 : decode cX14_readExponent 71 = .ok (.if_icmp .gt 7, 3) := by decide +kernel
theorem dX14_readExponent_74 : decode cX14_readExponent 74 = .ok (.iconst 1, 1) := by decide +kernel
theorem dX14_readExponent_75 : decode cX14_readExponent 75 = .ok (.goto 4, 3) := by decide +kernel
theorem dX14_readExponent_78 : decode cX14_readExponent 78 = .ok (.iconst 0, 1) := by decide +kernel
theorem dX14_readExponent_79 : decode cX14_readExponent 79 = .ok (.istore 6, 2) := by decide +kernel
theorem dX14_readExponent_81 : decode cX14_readExponent 81 = .ok (.aload_n 0, 1) := by decide +kernel
theorem dX14_readExponent_82 : decode cX14_readExponent 82 = .ok (.iconst 0, 1) := by decide +kernel
theorem dX14_readExponent_83 : decode cX14_readExponent 83 = .ok (.putfield 383, 3) := by decide +kernel
theorem dX14_readExponent_86 : decode cX14_readExponent 86 = .ok (.iload 5, 2) := by decide +kernel
theorem dX14_readExponent_88 : decode cX14_readExponent 88 = .ok (.istore 7, 2) := by decide +kernel
theorem dX14_readExponent_90 : decode cX14_readExponent 90 = .ok (.iload 7, 2) := by decide +kernel
theorem dX14_readExponent_92 : decode cX14_readExponent 92 = .ok (.iload_n 2, 1) := by decide +kernel
theorem dX14_readExponent_93 : decode cX14_readExponent 93 = .ok (.if_icmp .ge 48, 3) := by decide +kernel
theorem dX14_readExponent_96 : decode cX14_readExponent 96 = .ok (.iload 6, 2) := by decide +kernel
theorem dX14_readExponent_98 : decode cX14_readExponent 98 = .ok (.ifCond .eq 43, 3) := by decide +kernel
theorem dX14_readExponent_101 : decode cX14_readExponent 101 = .ok (.aload_n 0, 1) := by decide +kernel
theorem dX14_readExponent_102 : decode cX14_readExponent 102 = .ok (.getfield 122, 3) := by decide +kernel
theorem dX14_readExponent_105 : decode cX14_readExponent 105 = .ok (.iload 7, 2) := by decide +kernel
theorem dX14_readExponent_107 : decode cX14_readExponent 107 = .ok (.iaload, 1) := by decide +kernel
theorem dX14_readExponent_108 : decode cX14_readExponent 108 = .ok (.invokestatic 361, 3) := by decide +kernel
theorem dX14_readExponent_111 : decode cX14_readExponent 111 = .ok (.istore 6, 2) := by decide +kernel
theorem dX14_readExponent_113 : decode cX14_readExponent 113 = .ok (.aload_n 0, 1) := by decide +kernel
theorem dX14_readExponent_114 : decode cX14_readExponent 114 = .ok (.bipush 10, 2) := by decide +kernel
theorem dX14_readExponent_116 : decode cX14_readExponent 116 = .ok (.aload_n 0, 1) := by decide +kernel
theorem dX14_readExponent_117 : decode cX14_readExponent 117 = .ok (.getfield 383, 3) := by decide +kernel
theorem dX14_readExponent_120 : decode cX14_readExponent 120 = .ok (.imul, 1) := by decide +kernel
theorem dX14_readExponent_121 : decode cX14_readExponent 121 = .ok (.aload_n 0, 1) := by decide +kernel
theorem dX14_readExponent_122 : decode cX14_readExponent 122 = .ok (.getfield 122, 3) := by decide +kernel
theorem dX14_readExponent_125 : decode cX14_readExponent 125 = .ok (.iload 7, 2) := by decide +kernel
theorem dX14_readExponent_127 : decode cX14_readExponent 127 = .ok (.iaload, 1) := by decide +kernel
theorem dX14_readExponent_128 : decode cX14_readExponent 128 = .ok (.iadd, 1) := by decide +kernel
theorem dX14_readExponent_129 : decode cX14_readExponent 129 = .ok (.bipush 48, 2) := by decide +kernel
theorem dX14_readExponent_131 : decode cX14_readExponent 131 = .ok (.isub, 1) := by decide +kernel
theorem dX14_readExponent_132 : decode cX14_readExponent 132 = .ok (.putfield 383, 3) := by decide +kernel
theorem dX14_readExponent_135 : decode cX14_readExponent 135 = .ok (.iinc 7 1, 3) := by decide +kernel
theorem dX14_readExponent_138 : decode cX14_readExponent 138 = .ok (.goto (-48), 3) := by decide +kernel
theorem dX14_readExponent_141 : decode cX14_readExponent 141 = .ok (.aload_n 0, 1) := by decide +kernel
theorem dX14_readExponent_142 : decode cX14_readExponent 142 = .ok (.iload 4, 2) := by decide +kernel
theorem dX14_readExponent_144 : decode cX14_readExponent 144 = .ok (.ifCond .eq 11, 3) := by decide +kernel
theorem dX14_readExponent_147 : decode cX14_readExponent 147 = .ok (.aload_n 0, 1) := by decide +kernel
theorem dX14_readExponent_148 : decode cX14_readExponent 148 = .ok (.getfield 383, 3) := by decide +kernel
theorem dX14_readExponent_151 : decode cX14_readExponent 151 = .ok (.ineg, 1) := by decide +kernel
theorem dX14_readExponent_152 : decode cX14_readExponent 152 = .ok (.goto 7, 3) := by decide +kernel
theorem dX14_readExponent_155 : decode cX14_readExponent 155 = .ok (.aload_n 0, 1) := by decide +kernel
theorem dX14_readExponent_156 : decode cX14_readExponent 156 = .ok (.getfield 383, 3) := by decide +kernel
theorem dX14_readExponent_159 : decode cX14_readExponent 159 = .ok (.putfield 383, 3) := by decide +kernel
theorem dX14_readExponent_162 : decode cX14_readExponent 162 = .ok (.iload 6, 2) := by decide +kernel
theorem dX14_readExponent_164 : decode cX14_readExponent 164 = .ok (.ireturn, 1) := by decide +kernel
abbrev r_X14_readExponent : Room := { frames := 1, cells := 0, slots := 0, locals := 20 }
abbrev m_X14_readExponent : xMd := (cX14_readExponent, RX14, 8, (some FieldType.boolean), false, r_X14_readExponent)
def b_X14_readExponent_79 (Q : xQ) (K90 : xK) : xK := x_istore 6 <| x_aload 0 <| x_c (.int 0) <| x_put 13 24 .int <| x_iload 5 <| x_istore 7 <| K90
def b_X14_readExponent_159 (Q : xQ) (K90 : xK) : xK := x_put 13 24 .int <| x_iload 6 <| x_zret FieldType.boolean Q
def b_X14_readExponent_78 (Q : xQ) (K90 : xK) : xK := x_c (.int 0) <| (b_X14_readExponent_79 Q K90)
def b_X14_readExponent_141 (Q : xQ) (K90 : xK) : xK := x_aload 0 <| x_iload 4 <| x_if_eq (x_aload 0 <| x_get 13 24 <| (b_X14_readExponent_159 Q K90)) <| x_aload 0 <| x_get 13 24 <| x_ineg <| (b_X14_readExponent_159 Q K90)
def b_X14_readExponent_57 (Q : xQ) (K90 : xK) : xK := x_istore 5 <| x_iload 2 <| x_iload 5 <| x_isub <| x_if_le ((b_X14_readExponent_78 Q K90)) <| x_iload 2 <| x_iload 5 <| x_isub <| x_iload 3 <| x_icmp_gt ((b_X14_readExponent_78 Q K90)) <| x_c (.int 1) <| (b_X14_readExponent_79 Q K90)
def b_X14_readExponent_90 (Q : xQ) (K90 : xK) : xK := x_iload 7 <| x_iload 2 <| x_icmp_ge ((b_X14_readExponent_141 Q K90)) <| x_iload 6 <| x_if_eq ((b_X14_readExponent_141 Q K90)) <| x_aload 0 <| x_get 13 8 <| x_iload 7 <| x_iald <| x_call C_X14_isDigit 1 0 0 <| x_istore 6 <| x_aload 0 <| x_c (.int 10) <| x_aload 0 <| x_get 13 24 <| x_imul <| x_aload 0 <| x_get 13 8 <| x_iload 7 <| x_iald <| x_iadd <| x_c (.int 48) <| x_isub <| x_put 13 24 .int <| x_iinc 7 1 <| K90
def b_X14_readExponent_50 (Q : xQ) (K90 : xK) : xK := x_iload 1 <| x_c (.int 1) <| x_iadd <| (b_X14_readExponent_57 Q K90)
def b_X14_readExponent_56 (Q : xQ) (K90 : xK) : xK := x_iload 1 <| (b_X14_readExponent_57 Q K90)
def b_X14_readExponent_21 (Q : xQ) (K90 : xK) : xK := x_istore 4 <| x_iload 1 <| x_iload 2 <| x_icmp_ge ((b_X14_readExponent_56 Q K90)) <| x_aload 0 <| x_get 13 8 <| x_iload 1 <| x_iald <| x_c (.int 45) <| x_icmp_eq ((b_X14_readExponent_50 Q K90)) <| x_aload 0 <| x_get 13 8 <| x_iload 1 <| x_iald <| x_c (.int 43) <| x_icmp_ne ((b_X14_readExponent_56 Q K90)) <| (b_X14_readExponent_50 Q K90)
def b_X14_readExponent_20 (Q : xQ) (K90 : xK) : xK := x_c (.int 0) <| (b_X14_readExponent_21 Q K90)
def b_X14_readExponent_0 (Q : xQ) (K90 : xK) : xK := x_iload 1 <| x_iload 2 <| x_icmp_ge ((b_X14_readExponent_20 Q K90)) <| x_aload 0 <| x_get 13 8 <| x_iload 1 <| x_iald <| x_c (.int 45) <| x_icmp_ne ((b_X14_readExponent_20 Q K90)) <| x_c (.int 1) <| (b_X14_readExponent_21 Q K90)
theorem s_X14_readExponent_79 (G : xG) (l : Launch) (Q : xQ) (K90 : xK) (h90 : xW G l m_X14_readExponent xX0 (xPm G Q r_X14_readExponent) 90 K90) : xW G l m_X14_readExponent xX0 (xPm G Q r_X14_readExponent) 79 (b_X14_readExponent_79 Q K90) := xo_istore (pc := 79) (i := 6) dX14_readExponent_79 (by decide) <| xo_aload_n (pc := 81) (i := 0) dX14_readExponent_81 rfl <| xo_iconst (pc := 82) dX14_readExponent_82 (by decide) <| xo_put (pc := 83) (ci := 13) (i := 24) rfl ok13 (by decide) rfl rfl dX14_readExponent_83 kw1225 <| xo_iload (pc := 86) (i := 5) dX14_readExponent_86 <| xo_istore (pc := 88) (i := 7) dX14_readExponent_88 (by decide) <| h90
theorem s_X14_readExponent_159 (G : xG) (l : Launch) (Q : xQ) (K90 : xK) (h90 : xW G l m_X14_readExponent xX0 (xPm G Q r_X14_readExponent) 90 K90) : xW G l m_X14_readExponent xX0 (xPm G Q r_X14_readExponent) 159 (b_X14_readExponent_159 Q K90) := xo_put (pc := 159) (ci := 13) (i := 24) rfl ok13 (by decide) rfl rfl dX14_readExponent_159 kw1225 <| xo_iload (pc := 162) (i := 6) dX14_readExponent_162 <| xo_zret (pc := 164) rfl dX14_readExponent_164
theorem s_X14_readExponent_78 (G : xG) (l : Launch) (Q : xQ) (K90 : xK) (h90 : xW G l m_X14_readExponent xX0 (xPm G Q r_X14_readExponent) 90 K90) : xW G l m_X14_readExponent xX0 (xPm G Q r_X14_readExponent) 78 (b_X14_readExponent_78 Q K90) := xo_iconst (pc := 78) dX14_readExponent_78 (by decide) <| (s_X14_readExponent_79 G l Q K90 h90)
theorem s_X14_readExponent_141 (G : xG) (l : Launch) (Q : xQ) (K90 : xK) (h90 : xW G l m_X14_readExponent xX0 (xPm G Q r_X14_readExponent) 90 K90) : xW G l m_X14_readExponent xX0 (xPm G Q r_X14_readExponent) 141 (b_X14_readExponent_141 Q K90) := xo_aload_n (pc := 141) (i := 0) dX14_readExponent_141 rfl <| xo_iload (pc := 142) (i := 4) dX14_readExponent_142 <| xo_if_eq (pc := 144) (tgt := 155) dX14_readExponent_144 (by decide) (xo_aload_n (pc := 155) (i := 0) dX14_readExponent_155 rfl <| xo_get (pc := 156) (ci := 13) (i := 24) rfl ok13 (by decide) dX14_readExponent_156 kw1225 <| (s_X14_readExponent_159 G l Q K90 h90)) <| xo_aload_n (pc := 147) (i := 0) dX14_readExponent_147 rfl <| xo_get (pc := 148) (ci := 13) (i := 24) rfl ok13 (by decide) dX14_readExponent_148 kw1225 <| xo_ineg (pc := 151) dX14_readExponent_151 <| xo_goto (pc := 152) (tgt := 159) dX14_readExponent_152 (by decide) <| (s_X14_readExponent_159 G l Q K90 h90)
theorem s_X14_readExponent_57 (G : xG) (l : Launch) (Q : xQ) (K90 : xK) (h90 : xW G l m_X14_readExponent xX0 (xPm G Q r_X14_readExponent) 90 K90) : xW G l m_X14_readExponent xX0 (xPm G Q r_X14_readExponent) 57 (b_X14_readExponent_57 Q K90) := xo_istore (pc := 57) (i := 5) dX14_readExponent_57 (by decide) <| xo_iload_n (pc := 59) (i := 2) dX14_readExponent_59 rfl <| xo_iload (pc := 60) (i := 5) dX14_readExponent_60 <| xo_isub (pc := 62) dX14_readExponent_62 <| xo_if_le (pc := 63) (tgt := 78) dX14_readExponent_63 (by decide) ((s_X14_readExponent_78 G l Q K90 h90)) <| xo_iload_n (pc := 66) (i := 2) dX14_readExponent_66 rfl <| xo_iload (pc := 67) (i := 5) dX14_readExponent_67 <| xo_isub (pc := 69) dX14_readExponent_69 <| xo_iload_n (pc := 70) (i := 3) dX14_readExponent_70 rfl <| xo_icmp_gt (pc := 71) (tgt := 78) dX14_readExponent_71 (by decide) ((s_X14_readExponent_78 G l Q K90 h90)) <| xo_iconst (pc := 74) dX14_readExponent_74 (by decide) <| xo_goto (pc := 75) (tgt := 79) dX14_readExponent_75 (by decide) <| (s_X14_readExponent_79 G l Q K90 h90)
theorem s_X14_readExponent_90 (G : xG) (l : Launch) (Q : xQ) (K90 : xK) (h90 : xW G l m_X14_readExponent xX0 (xPm G Q r_X14_readExponent) 90 K90) : xW G l m_X14_readExponent xX0 (xPm G Q r_X14_readExponent) 90 (b_X14_readExponent_90 Q K90) := xo_iload (pc := 90) (i := 7) dX14_readExponent_90 <| xo_iload_n (pc := 92) (i := 2) dX14_readExponent_92 rfl <| xo_icmp_ge (pc := 93) (tgt := 141) dX14_readExponent_93 (by decide) ((s_X14_readExponent_141 G l Q K90 h90)) <| xo_iload (pc := 96) (i := 6) dX14_readExponent_96 <| xo_if_eq (pc := 98) (tgt := 141) dX14_readExponent_98 (by decide) ((s_X14_readExponent_141 G l Q K90 h90)) <| xo_aload_n (pc := 101) (i := 0) dX14_readExponent_101 rfl <| xo_get (pc := 102) (ci := 13) (i := 8) rfl ok13 (by decide) dX14_readExponent_102 kw1209 <| xo_iload (pc := 105) (i := 7) dX14_readExponent_105 <| xo_iald (pc := 107) dX14_readExponent_107 <| xo_callS (pc := 108) (np := 1) (cM_X14_isDigit G l) dX14_readExponent_108 kw1706 kw1704 kw1705 kw13 (by decide +kernel) (by decide) <| xo_istore (pc := 111) (i := 6) dX14_readExponent_111 (by decide) <| xo_aload_n (pc := 113) (i := 0) dX14_readExponent_113 rfl <| xo_bipush (pc := 114) dX14_readExponent_114 (by decide) <| xo_aload_n (pc := 116) (i := 0) dX14_readExponent_116 rfl <| xo_get (pc := 117) (ci := 13) (i := 24) rfl ok13 (by decide) dX14_readExponent_117 kw1225 <| xo_imul (pc := 120) dX14_readExponent_120 <| xo_aload_n (pc := 121) (i := 0) dX14_readExponent_121 rfl <| xo_get (pc := 122) (ci := 13) (i := 8) rfl ok13 (by decide) dX14_readExponent_122 kw1209 <| xo_iload (pc := 125) (i := 7) dX14_readExponent_125 <| xo_iald (pc := 127) dX14_readExponent_127 <| xo_iadd (pc := 128) dX14_readExponent_128 <| xo_bipush (pc := 129) dX14_readExponent_129 (by decide) <| xo_isub (pc := 131) dX14_readExponent_131 <| xo_put (pc := 132) (ci := 13) (i := 24) rfl ok13 (by decide) rfl rfl dX14_readExponent_132 kw1225 <| xo_iinc (pc := 135) dX14_readExponent_135 (by decide) <| xo_goto (pc := 138) (tgt := 90) dX14_readExponent_138 (by decide) <| h90
theorem s_X14_readExponent_50 (G : xG) (l : Launch) (Q : xQ) (K90 : xK) (h90 : xW G l m_X14_readExponent xX0 (xPm G Q r_X14_readExponent) 90 K90) : xW G l m_X14_readExponent xX0 (xPm G Q r_X14_readExponent) 50 (b_X14_readExponent_50 Q K90) := xo_iload_n (pc := 50) (i := 1) dX14_readExponent_50 rfl <| xo_iconst (pc := 51) dX14_readExponent_51 (by decide) <| xo_iadd (pc := 52) dX14_readExponent_52 <| xo_goto (pc := 53) (tgt := 57) dX14_readExponent_53 (by decide) <| (s_X14_readExponent_57 G l Q K90 h90)
theorem s_X14_readExponent_56 (G : xG) (l : Launch) (Q : xQ) (K90 : xK) (h90 : xW G l m_X14_readExponent xX0 (xPm G Q r_X14_readExponent) 90 K90) : xW G l m_X14_readExponent xX0 (xPm G Q r_X14_readExponent) 56 (b_X14_readExponent_56 Q K90) := xo_iload_n (pc := 56) (i := 1) dX14_readExponent_56 rfl <| (s_X14_readExponent_57 G l Q K90 h90)
theorem s_X14_readExponent_21 (G : xG) (l : Launch) (Q : xQ) (K90 : xK) (h90 : xW G l m_X14_readExponent xX0 (xPm G Q r_X14_readExponent) 90 K90) : xW G l m_X14_readExponent xX0 (xPm G Q r_X14_readExponent) 21 (b_X14_readExponent_21 Q K90) := xo_istore (pc := 21) (i := 4) dX14_readExponent_21 (by decide) <| xo_iload_n (pc := 23) (i := 1) dX14_readExponent_23 rfl <| xo_iload_n (pc := 24) (i := 2) dX14_readExponent_24 rfl <| xo_icmp_ge (pc := 25) (tgt := 56) dX14_readExponent_25 (by decide) ((s_X14_readExponent_56 G l Q K90 h90)) <| xo_aload_n (pc := 28) (i := 0) dX14_readExponent_28 rfl <| xo_get (pc := 29) (ci := 13) (i := 8) rfl ok13 (by decide) dX14_readExponent_29 kw1209 <| xo_iload_n (pc := 32) (i := 1) dX14_readExponent_32 rfl <| xo_iald (pc := 33) dX14_readExponent_33 <| xo_bipush (pc := 34) dX14_readExponent_34 (by decide) <| xo_icmp_eq (pc := 36) (tgt := 50) dX14_readExponent_36 (by decide) ((s_X14_readExponent_50 G l Q K90 h90)) <| xo_aload_n (pc := 39) (i := 0) dX14_readExponent_39 rfl <| xo_get (pc := 40) (ci := 13) (i := 8) rfl ok13 (by decide) dX14_readExponent_40 kw1209 <| xo_iload_n (pc := 43) (i := 1) dX14_readExponent_43 rfl <| xo_iald (pc := 44) dX14_readExponent_44 <| xo_bipush (pc := 45) dX14_readExponent_45 (by decide) <| xo_icmp_ne (pc := 47) (tgt := 56) dX14_readExponent_47 (by decide) ((s_X14_readExponent_56 G l Q K90 h90)) <| (s_X14_readExponent_50 G l Q K90 h90)
theorem s_X14_readExponent_20 (G : xG) (l : Launch) (Q : xQ) (K90 : xK) (h90 : xW G l m_X14_readExponent xX0 (xPm G Q r_X14_readExponent) 90 K90) : xW G l m_X14_readExponent xX0 (xPm G Q r_X14_readExponent) 20 (b_X14_readExponent_20 Q K90) := xo_iconst (pc := 20) dX14_readExponent_20 (by decide) <| (s_X14_readExponent_21 G l Q K90 h90)
theorem s_X14_readExponent_0 (G : xG) (l : Launch) (Q : xQ) (K90 : xK) (h90 : xW G l m_X14_readExponent xX0 (xPm G Q r_X14_readExponent) 90 K90) : xW G l m_X14_readExponent xX0 (xPm G Q r_X14_readExponent) 0 (b_X14_readExponent_0 Q K90) := xo_iload_n (pc := 0) (i := 1) dX14_readExponent_0 rfl <| xo_iload_n (pc := 1) (i := 2) dX14_readExponent_1 rfl <| xo_icmp_ge (pc := 2) (tgt := 20) dX14_readExponent_2 (by decide) ((s_X14_readExponent_20 G l Q K90 h90)) <| xo_aload_n (pc := 5) (i := 0) dX14_readExponent_5 rfl <| xo_get (pc := 6) (ci := 13) (i := 8) rfl ok13 (by decide) dX14_readExponent_6 kw1209 <| xo_iload_n (pc := 9) (i := 1) dX14_readExponent_9 rfl <| xo_iald (pc := 10) dX14_readExponent_10 <| xo_bipush (pc := 11) dX14_readExponent_11 (by decide) <| xo_icmp_ne (pc := 13) (tgt := 20) dX14_readExponent_13 (by decide) ((s_X14_readExponent_20 G l Q K90 h90)) <| xo_iconst (pc := 16) dX14_readExponent_16 (by decide) <| xo_goto (pc := 17) (tgt := 21) dX14_readExponent_17 (by decide) <| (s_X14_readExponent_21 G l Q K90 h90)

def C_X14_readExponent : xC := fun av S Q => ∃ (M : Nat) (s : Nat → Value) (lo hi : Int) (nn ls : Bool) (n : Nat) (cs : Nat → vC) (f e most : Nat) (t : Nat → Nat), av = [.ref M, .int (nI f), .int (nI e), .int (nI most)] ∧ f ≤ e ∧ e ≤ 400 ∧ most ≤ 4 ∧ ms S.1 M s lo hi nn ls n cs ∧ tpR S.1 M t ∧ ∀ h' x, fm h' S.1 M → ms h' M (su s 24 (.int (iZ x))) lo hi nn ls n cs → tpR h' M t → (exB t f e most = true → x = exV t f e ∧ -10000 < x ∧ x < 10000) → Q (some (.int (bI (exB t f e most)))) (h', S.2)
def cn_X14_readExponent : Nat × Nat × Bool × Nat × Bool × Nat → List (Nat × Value) := fun v => [(0, .ref v.1), (2, .int (nI v.2.1)), (4, .int (bI v.2.2.1)), (6, .int (bI v.2.2.2.2.1)), (7, .int (nI v.2.2.2.2.2))]
def I_X14_readExponent (Q : xQ) : Nat → Nat × Nat × Bool × Nat × Bool × Nat → xS → Prop := fun m w S => match w with
  | (M, e, ng, p, is, k) => ∃ (s : Nat → Value) (lo hi : Int) (nn ls : Bool) (n : Nat) (cs : Nat → vC) (f most : Nat) (t : Nat → Nat) (x : Int), m = e - k ∧ p ≤ k ∧ k ≤ e ∧ e ≤ 400 ∧ most ≤ 4 ∧ p = sgP t f e ∧ ng = ngB t f e ∧ -100000 ≤ x ∧ x ≤ 100000 ∧ (is = true → 0 < e - p ∧ e - p ≤ most ∧ alB t p (k - p) = true ∧ x = dcV t p (k - p)) ∧ (is = false → exB t f e most = false) ∧ ms S.1 M (su s 24 (.int (iZ x))) lo hi nn ls n cs ∧ tpR S.1 M t ∧ ∀ h' x, fm h' S.1 M → ms h' M (su s 24 (.int (iZ x))) lo hi nn ls n cs → tpR h' M t → (exB t f e most = true → x = exV t f e ∧ -10000 < x ∧ x < 10000) → Q (some (.int (bI (exB t f e most)))) (h', S.2)
theorem p10_4 {k : Nat} (h : k ≤ 4) : (10 : Nat) ^ k ≤ 10000 := Nat.le_trans (Nat.pow_le_pow_right (by decide) h) (by decide)
theorem p10_3 {k : Nat} (h : k ≤ 3) : (10 : Nat) ^ k ≤ 1000 := Nat.le_trans (Nat.pow_le_pow_right (by decide) h) (by decide)
set_option maxHeartbeats 2000000 in
theorem re_loop (G : xG) (l : Launch) (Q : xQ) : xW G l m_X14_readExponent xX0 (xPm G Q r_X14_readExponent) 90 (xInv cn_X14_readExponent (I_X14_readExponent Q)) := by
  refine xW.lp (b_X14_readExponent_90 Q) (fun K hK => s_X14_readExponent_90 G l Q K hK) ?_
  rintro m ⟨M, e, ng, p, is, k⟩ ⟨h, S2⟩ ⟨s, lo, hi, nn, ls, n, cs, f, most, t, x, rfl, pk, ke, e4, hm, hp, hng, x1, x2, ht1, ht0, w, ht, hQ⟩
  dsimp only at *
  have c1 : cn_X14_readExponent (M, e, ng, p, is, k) = [(0, .ref M), (2, .int (nI e)), (4, .int (bI ng)), (6, .int (bI is)), (7, .int (nI k))] := rfl
  rw [c1]
  have e24 : ∀ y : Value, su s 24 y 24 = y := fun y => su_s
  have g141 : is = exB t f e most → (is = true → k = e) → b_X14_readExponent_141 Q (xInvL cn_X14_readExponent (I_X14_readExponent Q) (e - k)) [(0, .ref M), (2, .int (nI e)), (4, .int (bI ng)), (6, .int (bI is)), (7, .int (nI k))] [] (h, S2) := by
    intro hi' hk
    have en : -iZ x = iZ (-x) := (Int32.ofInt_neg x).symm
    have fin : ∀ y, (is = true → y = exV t f e ∧ -10000 < y ∧ y < 10000) → Q (some (.int (bI is))) (xup h M (.inr (13, mF M (su s 24 (.int (iZ y))) lo hi nn ls)), S2) := by
      intro y hy
      have := hQ _ y fm.up (w.sf (s' := su s 24 (.int (iZ y))) rfl) ht.up (by rw [← hi']; exact hy)
      rw [← hi'] at this
      exact this
    have bd : is = true → x = dcV t p (e - p) ∧ x < 10000 := by
      intro it
      obtain ⟨y1, y2, y3, y4⟩ := ht1 it
      rw [hk it] at y3 y4
      have := dcV_lt y3
      have := p10_4 (k := e - p) (by omega)
      exact ⟨y4, by omega⟩
    simp only [q_c, x_iload, x_lload, x_aload, q_istore, q_lstore, q_astore, q_astore2, x_iinc, q_iadd, q_isub, q_imul, q_iand, q_ior, q_ixor, q_ladd, q_lsub, q_lmul, q_land, q_lor, q_lxor, q_idiv, q_irem, q_ldiv, q_lrem, q_ineg, q_lneg, q_ishl, q_ishr, q_iushr, q_lshl, q_lshr, q_lushr, q_i2l, q_l2i, q_i2b, q_i2c, q_lcmp, q_if_eq, q_if_ne, q_if_lt, q_if_ge, q_if_gt, q_if_le, q_icmp_eq, q_icmp_ne, q_icmp_lt, q_icmp_ge, q_icmp_gt, q_icmp_le, q_dup, q_pop, q_dup_x1, q_dup2, x_iret, x_zret, x_lret, x_aret, x_vret, x_call, x_callv, x_calli, x_oinit, x_mmax, x_mmin, x_mabs, x_mmaxL, x_mminL, x_mabsL, lg_cmp_ge, lg_cmp_le, lg_cmp_gt, lg_cmp_lt, lg_cmp_eq, xlk, q_xs1, q_xs2, lv_args, Value.category, List.filter_cons, List.filter_nil, Nat.reduceAdd, Nat.reduceBEq, Nat.reduceEqDiff, Nat.reduceSub, Nat.sub_zero, beq_self_eq_true, Bool.not_true, Bool.not_false, Bool.and_true, Bool.and_false, Bool.true_and, Bool.false_and, reduceIte, reduceCtorEq, Bool.false_eq_true, Nat.one_ne_zero, Nat.zero_ne_one, Nat.zero_add, Option.toList_some, Option.toList_none, List.nil_append, List.cons_append, List.take_succ_cons, List.take_zero, List.take_nil, List.drop_succ_cons, List.drop_zero, List.length_cons, List.length_nil, List.reverse_cons, List.reverse_nil, List.head?_cons, List.map_cons, List.map_nil, List.sum_cons, List.sum_nil, true_and, and_true, List.getElem?_cons_zero, List.getElem?_cons_succ, Prod.eta, x_iast, x_bald, x_bast, x_last, x_alen, xup_s, xup_a1, xup_1a, xup_uu, nr_i, nr_l, nr_o, nr_a, ft_i, ft_l, ft_o, ft_a, Nat.reduceLT, i_cl0, i_cl1, i_n1, i_m1, List.set_cons_zero, List.set_cons_succ, Nat.reduceLeDiff, Nat.le_refl, Nat.zero_le, Nat.add_zero, x_no, x_ifnull, x_ifnonnull, x_acmp_eq, x_acmp_ne, x_swl, x_tsw, x_castC, true_or, or_true, nr_z, ft_z, nr_z0, nr_z1, ft_z0, ft_z1, nr_on, nr_an, ft_on, ft_an, b_X14_readExponent_141, b_X14_readExponent_159, ms.s6 w, ms.s7 w, ms.s9 w, ms.s15 w, ms.s23 w, ms.s24 w, ms.s25 w, ms.s26 w, ms.s8 w, ms.s10 w, ms.t6 w, ms.t9 w, ms.t15 w, ms.t23 w, ms.t24 w, ms.t7 w, ms.t7a w, ms.t7b w, ms.t25 w, ms.t25a w, ms.t25b w, ms.t26 w, ms.t26a w, ms.t26b w, e24, bI_e0, en, su_su]
    refine ⟨fun a => fin x (fun it => ?_), fun a => fin (-x) (fun it => ?_)⟩
    · have b := bd it
      refine ⟨?_, by omega, by omega⟩
      unfold exV
      rw [← hng, if_neg (by rw [a]; decide), ← hp]
      exact b.1
    · have b := bd it
      refine ⟨?_, by omega, by omega⟩
      unfold exV
      rw [← hng, if_pos (eq_true_of_ne_false a), ← hp, b.1]
  have q1 := nc_le (a := e) (b := k) (by omega) (by omega)
  unfold b_X14_readExponent_90
  generalize b_X14_readExponent_141 Q (xInvL cn_X14_readExponent (I_X14_readExponent Q) (e - k)) = J at *
  generalize hK : xInvL cn_X14_readExponent (I_X14_readExponent Q) (e - k) = K
  simp only [q_c, x_iload, x_lload, x_aload, q_istore, q_lstore, q_astore, q_astore2, x_iinc, q_iadd, q_isub, q_imul, q_iand, q_ior, q_ixor, q_ladd, q_lsub, q_lmul, q_land, q_lor, q_lxor, q_idiv, q_irem, q_ldiv, q_lrem, q_ineg, q_lneg, q_ishl, q_ishr, q_iushr, q_lshl, q_lshr, q_lushr, q_i2l, q_l2i, q_i2b, q_i2c, q_lcmp, q_if_eq, q_if_ne, q_if_lt, q_if_ge, q_if_gt, q_if_le, q_icmp_eq, q_icmp_ne, q_icmp_lt, q_icmp_ge, q_icmp_gt, q_icmp_le, q_dup, q_pop, q_dup_x1, q_dup2, x_iret, x_zret, x_lret, x_aret, x_vret, x_call, x_callv, x_calli, x_oinit, x_mmax, x_mmin, x_mabs, x_mmaxL, x_mminL, x_mabsL, lg_cmp_ge, lg_cmp_le, lg_cmp_gt, lg_cmp_lt, lg_cmp_eq, xlk, q_xs1, q_xs2, lv_args, Value.category, List.filter_cons, List.filter_nil, Nat.reduceAdd, Nat.reduceBEq, Nat.reduceEqDiff, Nat.reduceSub, Nat.sub_zero, beq_self_eq_true, Bool.not_true, Bool.not_false, Bool.and_true, Bool.and_false, Bool.true_and, Bool.false_and, reduceIte, reduceCtorEq, Bool.false_eq_true, Nat.one_ne_zero, Nat.zero_ne_one, Nat.zero_add, Option.toList_some, Option.toList_none, List.nil_append, List.cons_append, List.take_succ_cons, List.take_zero, List.take_nil, List.drop_succ_cons, List.drop_zero, List.length_cons, List.length_nil, List.reverse_cons, List.reverse_nil, List.head?_cons, List.map_cons, List.map_nil, List.sum_cons, List.sum_nil, true_and, and_true, List.getElem?_cons_zero, List.getElem?_cons_succ, Prod.eta, x_iast, x_bald, x_bast, x_last, x_alen, xup_s, xup_a1, xup_1a, xup_uu, nr_i, nr_l, nr_o, nr_a, ft_i, ft_l, ft_o, ft_a, Nat.reduceLT, i_cl0, i_cl1, i_n1, i_m1, List.set_cons_zero, List.set_cons_succ, Nat.reduceLeDiff, Nat.le_refl, Nat.zero_le, Nat.add_zero, x_no, x_ifnull, x_ifnonnull, x_acmp_eq, x_acmp_ne, x_swl, x_tsw, x_castC, true_or, or_true, nr_z, ft_z, nr_z0, nr_z1, ft_z0, ft_z1, nr_on, nr_an, ft_on, ft_an, q1, bI_e0, ms.s6 w, ms.s7 w, ms.s9 w, ms.s15 w, ms.s23 w, ms.s24 w, ms.s25 w, ms.s26 w, ms.s8 w, ms.s10 w, ms.t6 w, ms.t9 w, ms.t15 w, ms.t23 w, ms.t24 w, ms.t7 w, ms.t7a w, ms.t7b w, ms.t25 w, ms.t25a w, ms.t25b w, ms.t26 w, ms.t26a w, ms.t26b w]
  refine ⟨fun a => ?_, fun a => ⟨fun b => g141 (by rw [b, ht0 b]) (fun c => absurd c (by rw [b]; decide)), fun b => ?_⟩⟩
  · obtain rfl : k = e := by omega
    refine g141 ?_ (fun _ => rfl)
    cases is
    · exact (ht0 rfl).symm
    · obtain ⟨y1, y2, y3, y4⟩ := ht1 rfl
      unfold exB
      rw [← hp, decide_eq_true y1, decide_eq_true y2, y3]
      rfl
  · have it := eq_true_of_ne_false b
    obtain ⟨y1, y2, y3, y4⟩ := ht1 it
    have kl : k < 400 := by omega
    have tb := ht.2 k
    have dl := dcV_lt y3
    have d4 := p10_3 (k := k - p) (by omega)
    have xe : (10 : Int32) * iZ x + nI (t k) - 48 = iZ (10 * x + (t k : Int) - 48) := by
      rw [show (10 : Int32) = iZ 10 from rfl, show (48 : Int32) = iZ 48 from rfl, show iZ 10 * iZ x = iZ (10 * x) from (Int32.ofInt_mul 10 x).symm, ← iZ_nat, iZ_add, iZ_sub]
    have w' := w.sf (s' := su s 24 (.int (iZ (10 * x + (t k : Int) - 48)))) rfl
    have nk := nI_1 k
    simp only [q_c, x_iload, x_lload, x_aload, q_istore, q_lstore, q_astore, q_astore2, x_iinc, q_iadd, q_isub, q_imul, q_iand, q_ior, q_ixor, q_ladd, q_lsub, q_lmul, q_land, q_lor, q_lxor, q_idiv, q_irem, q_ldiv, q_lrem, q_ineg, q_lneg, q_ishl, q_ishr, q_iushr, q_lshl, q_lshr, q_lushr, q_i2l, q_l2i, q_i2b, q_i2c, q_lcmp, q_if_eq, q_if_ne, q_if_lt, q_if_ge, q_if_gt, q_if_le, q_icmp_eq, q_icmp_ne, q_icmp_lt, q_icmp_ge, q_icmp_gt, q_icmp_le, q_dup, q_pop, q_dup_x1, q_dup2, x_iret, x_zret, x_lret, x_aret, x_vret, x_call, x_callv, x_calli, x_oinit, x_mmax, x_mmin, x_mabs, x_mmaxL, x_mminL, x_mabsL, lg_cmp_ge, lg_cmp_le, lg_cmp_gt, lg_cmp_lt, lg_cmp_eq, xlk, q_xs1, q_xs2, lv_args, Value.category, List.filter_cons, List.filter_nil, Nat.reduceAdd, Nat.reduceBEq, Nat.reduceEqDiff, Nat.reduceSub, Nat.sub_zero, beq_self_eq_true, Bool.not_true, Bool.not_false, Bool.and_true, Bool.and_false, Bool.true_and, Bool.false_and, reduceIte, reduceCtorEq, Bool.false_eq_true, Nat.one_ne_zero, Nat.zero_ne_one, Nat.zero_add, Option.toList_some, Option.toList_none, List.nil_append, List.cons_append, List.take_succ_cons, List.take_zero, List.take_nil, List.drop_succ_cons, List.drop_zero, List.length_cons, List.length_nil, List.reverse_cons, List.reverse_nil, List.head?_cons, List.map_cons, List.map_nil, List.sum_cons, List.sum_nil, true_and, and_true, List.getElem?_cons_zero, List.getElem?_cons_succ, Prod.eta, x_iast, x_bald, x_bast, x_last, x_alen, xup_s, xup_a1, xup_1a, xup_uu, nr_i, nr_l, nr_o, nr_a, ft_i, ft_l, ft_o, ft_a, Nat.reduceLT, i_cl0, i_cl1, i_n1, i_m1, List.set_cons_zero, List.set_cons_succ, Nat.reduceLeDiff, Nat.le_refl, Nat.zero_le, Nat.add_zero, x_no, x_ifnull, x_ifnonnull, x_acmp_eq, x_acmp_ne, x_swl, x_tsw, x_castC, true_or, or_true, nr_z, ft_z, nr_z0, nr_z1, ft_z0, ft_z1, nr_on, nr_an, ft_on, ft_an, tpR.ld ht kl]
    refine ⟨t k, rfl, tb, ?_⟩
    simp only [q_c, x_iload, x_lload, x_aload, q_istore, q_lstore, q_astore, q_astore2, x_iinc, q_iadd, q_isub, q_imul, q_iand, q_ior, q_ixor, q_ladd, q_lsub, q_lmul, q_land, q_lor, q_lxor, q_idiv, q_irem, q_ldiv, q_lrem, q_ineg, q_lneg, q_ishl, q_ishr, q_iushr, q_lshl, q_lshr, q_lushr, q_i2l, q_l2i, q_i2b, q_i2c, q_lcmp, q_if_eq, q_if_ne, q_if_lt, q_if_ge, q_if_gt, q_if_le, q_icmp_eq, q_icmp_ne, q_icmp_lt, q_icmp_ge, q_icmp_gt, q_icmp_le, q_dup, q_pop, q_dup_x1, q_dup2, x_iret, x_zret, x_lret, x_aret, x_vret, x_call, x_callv, x_calli, x_oinit, x_mmax, x_mmin, x_mabs, x_mmaxL, x_mminL, x_mabsL, lg_cmp_ge, lg_cmp_le, lg_cmp_gt, lg_cmp_lt, lg_cmp_eq, xlk, q_xs1, q_xs2, lv_args, Value.category, List.filter_cons, List.filter_nil, Nat.reduceAdd, Nat.reduceBEq, Nat.reduceEqDiff, Nat.reduceSub, Nat.sub_zero, beq_self_eq_true, Bool.not_true, Bool.not_false, Bool.and_true, Bool.and_false, Bool.true_and, Bool.false_and, reduceIte, reduceCtorEq, Bool.false_eq_true, Nat.one_ne_zero, Nat.zero_ne_one, Nat.zero_add, Option.toList_some, Option.toList_none, List.nil_append, List.cons_append, List.take_succ_cons, List.take_zero, List.take_nil, List.drop_succ_cons, List.drop_zero, List.length_cons, List.length_nil, List.reverse_cons, List.reverse_nil, List.head?_cons, List.map_cons, List.map_nil, List.sum_cons, List.sum_nil, true_and, and_true, List.getElem?_cons_zero, List.getElem?_cons_succ, Prod.eta, x_iast, x_bald, x_bast, x_last, x_alen, xup_s, xup_a1, xup_1a, xup_uu, nr_i, nr_l, nr_o, nr_a, ft_i, ft_l, ft_o, ft_a, Nat.reduceLT, i_cl0, i_cl1, i_n1, i_m1, List.set_cons_zero, List.set_cons_succ, Nat.reduceLeDiff, Nat.le_refl, Nat.zero_le, Nat.add_zero, x_no, x_ifnull, x_ifnonnull, x_acmp_eq, x_acmp_ne, x_swl, x_tsw, x_castC, true_or, or_true, nr_z, ft_z, nr_z0, nr_z1, ft_z0, ft_z1, nr_on, nr_an, ft_on, ft_an, ms.s6 w, ms.s7 w, ms.s9 w, ms.s15 w, ms.s23 w, ms.s24 w, ms.s25 w, ms.s26 w, ms.s8 w, ms.s10 w, ms.t6 w, ms.t9 w, ms.t15 w, ms.t23 w, ms.t24 w, ms.t7 w, ms.t7a w, ms.t7b w, ms.t25 w, ms.t25a w, ms.t25b w, ms.t26 w, ms.t26a w, ms.t26b w, e24, tpR.ld ht kl, xe, su_su, nk]
    have kp : k + 1 - p = (k - p) + 1 := by omega
    have pk' : p + (k - p) = k := by omega
    rw [← hK]
    refine xInvL.mk (e - (k + 1)) (M, e, ng, p, dgB (t k), k + 1) (by omega) ⟨rfl, rfl, rfl, rfl, rfl, trivial⟩ ⟨s, lo, hi, nn, ls, n, cs, f, most, t, _, rfl, by omega, by omega, e4, hm, hp, hng, by omega, by omega, fun dt => ⟨y1, y2, ?_, ?_⟩, fun df => ?_, w', ht.up, fun h' x' f' m' t' c' => hQ h' x' (fm.tr f' fm.up) m' t' c'⟩
    · rw [kp]
      show (alB t p (k - p) && dgB (t (p + (k - p)))) = true
      rw [y3, pk', dt]
      rfl
    · rw [kp]
      show _ = ((10 * dcV t p (k - p) + (t (p + (k - p)) - 48) : Nat) : Int)
      rw [pk']
      have : 48 ≤ t k ∧ t k ≤ 57 := of_decide_eq_true dt
      omega
    · unfold exB
      rw [← hp, alB_f (i := k - p + 1) (j := e - p) (by
        show (alB t p (k - p) && dgB (t (p + (k - p)))) = false
        rw [pk', df, Bool.and_false]) (by omega), Bool.and_false]
set_option maxHeartbeats 2000000 in
theorem cM_X14_readExponent (G : xG) (l : Launch) : xM G l yX14_readExponent cX14_readExponent 8 (some FieldType.boolean) r_X14_readExponent C_X14_readExponent := by
  refine xM_of (fun Q => b_X14_readExponent_0 Q (xInv cn_X14_readExponent (I_X14_readExponent Q))) RX14 false (fun Q => s_X14_readExponent_0 G l Q _ (re_loop G l Q)) (by decide) rfl (by decide) ?_
  rintro av ⟨h, S2⟩ Q ⟨M, s, lo, hi, nn, ls, n, cs, f, e, most, t, rfl, fe, e4, hm, w, ht, hQ⟩
  dsimp only at *
  refine ⟨Nat.le_of_ble_eq_true rfl, ?_⟩
  have q1 := nc_le (a := e) (b := f) (by omega) (by omega)
  have tb := ht.2 f
  have q45 : nI (t f) = 45 ↔ t f = 45 := nI_eq (b := 45) (by omega) (by decide)
  have q43 : nI (t f) = 43 ↔ t f = 43 := nI_eq (b := 43) (by omega) (by decide)
  have g79 : ∀ (ng is : Bool) (p : Nat), p = sgP t f e → ng = ngB t f e → p ≤ e → is = (decide (0 < e - p) && decide (e - p ≤ most)) → b_X14_readExponent_79 Q (xInv cn_X14_readExponent (I_X14_readExponent Q)) [(5, .int (nI p)), (4, .int (bI ng)), (0, .ref M), (1, .int (nI f)), (2, .int (nI e)), (3, .int (nI most))] [.int (bI is)] (h, S2) := by
    intro ng is p hp hng pe his
    have w' := w.sf (s' := su s 24 (.int (iZ 0))) rfl
    unfold b_X14_readExponent_79
    generalize hK : xInv cn_X14_readExponent (I_X14_readExponent Q) = K
    simp only [q_c, x_iload, x_lload, x_aload, q_istore, q_lstore, q_astore, q_astore2, x_iinc, q_iadd, q_isub, q_imul, q_iand, q_ior, q_ixor, q_ladd, q_lsub, q_lmul, q_land, q_lor, q_lxor, q_idiv, q_irem, q_ldiv, q_lrem, q_ineg, q_lneg, q_ishl, q_ishr, q_iushr, q_lshl, q_lshr, q_lushr, q_i2l, q_l2i, q_i2b, q_i2c, q_lcmp, q_if_eq, q_if_ne, q_if_lt, q_if_ge, q_if_gt, q_if_le, q_icmp_eq, q_icmp_ne, q_icmp_lt, q_icmp_ge, q_icmp_gt, q_icmp_le, q_dup, q_pop, q_dup_x1, q_dup2, x_iret, x_zret, x_lret, x_aret, x_vret, x_call, x_callv, x_calli, x_oinit, x_mmax, x_mmin, x_mabs, x_mmaxL, x_mminL, x_mabsL, lg_cmp_ge, lg_cmp_le, lg_cmp_gt, lg_cmp_lt, lg_cmp_eq, xlk, q_xs1, q_xs2, lv_args, Value.category, List.filter_cons, List.filter_nil, Nat.reduceAdd, Nat.reduceBEq, Nat.reduceEqDiff, Nat.reduceSub, Nat.sub_zero, beq_self_eq_true, Bool.not_true, Bool.not_false, Bool.and_true, Bool.and_false, Bool.true_and, Bool.false_and, reduceIte, reduceCtorEq, Bool.false_eq_true, Nat.one_ne_zero, Nat.zero_ne_one, Nat.zero_add, Option.toList_some, Option.toList_none, List.nil_append, List.cons_append, List.take_succ_cons, List.take_zero, List.take_nil, List.drop_succ_cons, List.drop_zero, List.length_cons, List.length_nil, List.reverse_cons, List.reverse_nil, List.head?_cons, List.map_cons, List.map_nil, List.sum_cons, List.sum_nil, true_and, and_true, List.getElem?_cons_zero, List.getElem?_cons_succ, Prod.eta, x_iast, x_bald, x_bast, x_last, x_alen, xup_s, xup_a1, xup_1a, xup_uu, nr_i, nr_l, nr_o, nr_a, ft_i, ft_l, ft_o, ft_a, Nat.reduceLT, i_cl0, i_cl1, i_n1, i_m1, List.set_cons_zero, List.set_cons_succ, Nat.reduceLeDiff, Nat.le_refl, Nat.zero_le, Nat.add_zero, x_no, x_ifnull, x_ifnonnull, x_acmp_eq, x_acmp_ne, x_swl, x_tsw, x_castC, true_or, or_true, nr_z, ft_z, nr_z0, nr_z1, ft_z0, ft_z1, nr_on, nr_an, ft_on, ft_an, ms.s6 w, ms.s7 w, ms.s9 w, ms.s15 w, ms.s23 w, ms.s24 w, ms.s25 w, ms.s26 w, ms.s8 w, ms.s10 w, ms.t6 w, ms.t9 w, ms.t15 w, ms.t23 w, ms.t24 w, ms.t7 w, ms.t7a w, ms.t7b w, ms.t25 w, ms.t25a w, ms.t25b w, ms.t26 w, ms.t26a w, ms.t26b w]
    rw [← hK]
    refine xInv.mk (e - p) (M, e, ng, p, is, p) ⟨rfl, rfl, rfl, rfl, rfl, trivial⟩ ⟨s, lo, hi, nn, ls, n, cs, f, most, t, 0, rfl, Nat.le_refl _, pe, e4, hm, hp, hng, by decide, by decide, fun it => ?_, fun i0 => ?_, w', ht.up, fun h' x' f' m' t' c' => hQ h' x' (fm.tr f' fm.up) m' t' c'⟩
    · rw [it, eq_comm, Bool.and_eq_true] at his
      have a1 : 0 < e - p := of_decide_eq_true his.1
      have a2 : e - p ≤ most := of_decide_eq_true his.2
      rw [Nat.sub_self]
      exact ⟨a1, a2, rfl, rfl⟩
    · unfold exB
      rw [← hp, ← his, i0]
      rfl
  have g57 : ∀ (ng : Bool) (p : Nat), p = sgP t f e → ng = ngB t f e → p ≤ e → b_X14_readExponent_57 Q (xInv cn_X14_readExponent (I_X14_readExponent Q)) [(4, .int (bI ng)), (0, .ref M), (1, .int (nI f)), (2, .int (nI e)), (3, .int (nI most))] [.int (nI p)] (h, S2) := by
    intro ng p hp hng pe
    have g := fun is => g79 ng is p hp hng pe
    unfold b_X14_readExponent_57 b_X14_readExponent_78
    generalize b_X14_readExponent_79 Q (xInv cn_X14_readExponent (I_X14_readExponent Q)) = J at *
    have es : nI e - nI p = nI (e - p) := pk_sub pe
    have l0 : nI (e - p) ≤ 0 ↔ e - p ≤ 0 := nc_le (b := 0) (by omega) (by decide)
    have lm := nc_lt (a := most) (b := e - p) (by omega) (by omega)
    simp only [q_c, x_iload, x_lload, x_aload, q_istore, q_lstore, q_astore, q_astore2, x_iinc, q_iadd, q_isub, q_imul, q_iand, q_ior, q_ixor, q_ladd, q_lsub, q_lmul, q_land, q_lor, q_lxor, q_idiv, q_irem, q_ldiv, q_lrem, q_ineg, q_lneg, q_ishl, q_ishr, q_iushr, q_lshl, q_lshr, q_lushr, q_i2l, q_l2i, q_i2b, q_i2c, q_lcmp, q_if_eq, q_if_ne, q_if_lt, q_if_ge, q_if_gt, q_if_le, q_icmp_eq, q_icmp_ne, q_icmp_lt, q_icmp_ge, q_icmp_gt, q_icmp_le, q_dup, q_pop, q_dup_x1, q_dup2, x_iret, x_zret, x_lret, x_aret, x_vret, x_call, x_callv, x_calli, x_oinit, x_mmax, x_mmin, x_mabs, x_mmaxL, x_mminL, x_mabsL, lg_cmp_ge, lg_cmp_le, lg_cmp_gt, lg_cmp_lt, lg_cmp_eq, xlk, q_xs1, q_xs2, lv_args, Value.category, List.filter_cons, List.filter_nil, Nat.reduceAdd, Nat.reduceBEq, Nat.reduceEqDiff, Nat.reduceSub, Nat.sub_zero, beq_self_eq_true, Bool.not_true, Bool.not_false, Bool.and_true, Bool.and_false, Bool.true_and, Bool.false_and, reduceIte, reduceCtorEq, Bool.false_eq_true, Nat.one_ne_zero, Nat.zero_ne_one, Nat.zero_add, Option.toList_some, Option.toList_none, List.nil_append, List.cons_append, List.take_succ_cons, List.take_zero, List.take_nil, List.drop_succ_cons, List.drop_zero, List.length_cons, List.length_nil, List.reverse_cons, List.reverse_nil, List.head?_cons, List.map_cons, List.map_nil, List.sum_cons, List.sum_nil, true_and, and_true, List.getElem?_cons_zero, List.getElem?_cons_succ, Prod.eta, x_iast, x_bald, x_bast, x_last, x_alen, xup_s, xup_a1, xup_1a, xup_uu, nr_i, nr_l, nr_o, nr_a, ft_i, ft_l, ft_o, ft_a, Nat.reduceLT, i_cl0, i_cl1, i_n1, i_m1, List.set_cons_zero, List.set_cons_succ, Nat.reduceLeDiff, Nat.le_refl, Nat.zero_le, Nat.add_zero, x_no, x_ifnull, x_ifnonnull, x_acmp_eq, x_acmp_ne, x_swl, x_tsw, x_castC, true_or, or_true, nr_z, ft_z, nr_z0, nr_z1, ft_z0, ft_z1, nr_on, nr_an, ft_on, ft_an, es, l0, lm]
    exact ⟨fun a => g false (by rw [decide_eq_false (by omega)]; rfl), fun a => ⟨fun b => g false (by rw [decide_eq_false (show ¬ e - p ≤ most by omega), Bool.and_false]), fun b => g true (by rw [decide_eq_true (by omega), decide_eq_true (show e - p ≤ most by omega)]; rfl)⟩⟩
  have g21 : ∀ ng : Bool, ng = ngB t f e → b_X14_readExponent_21 Q (xInv cn_X14_readExponent (I_X14_readExponent Q)) [(0, .ref M), (1, .int (nI f)), (2, .int (nI e)), (3, .int (nI most))] [.int (bI ng)] (h, S2) := by
    intro ng hng
    have g := fun p => g57 ng p
    unfold b_X14_readExponent_21 b_X14_readExponent_50 b_X14_readExponent_56
    generalize b_X14_readExponent_57 Q (xInv cn_X14_readExponent (I_X14_readExponent Q)) = J at *
    have nf : nI f + 1 = nI (f + 1) := nI_1 f
    simp only [q_c, x_iload, x_lload, x_aload, q_istore, q_lstore, q_astore, q_astore2, x_iinc, q_iadd, q_isub, q_imul, q_iand, q_ior, q_ixor, q_ladd, q_lsub, q_lmul, q_land, q_lor, q_lxor, q_idiv, q_irem, q_ldiv, q_lrem, q_ineg, q_lneg, q_ishl, q_ishr, q_iushr, q_lshl, q_lshr, q_lushr, q_i2l, q_l2i, q_i2b, q_i2c, q_lcmp, q_if_eq, q_if_ne, q_if_lt, q_if_ge, q_if_gt, q_if_le, q_icmp_eq, q_icmp_ne, q_icmp_lt, q_icmp_ge, q_icmp_gt, q_icmp_le, q_dup, q_pop, q_dup_x1, q_dup2, x_iret, x_zret, x_lret, x_aret, x_vret, x_call, x_callv, x_calli, x_oinit, x_mmax, x_mmin, x_mabs, x_mmaxL, x_mminL, x_mabsL, lg_cmp_ge, lg_cmp_le, lg_cmp_gt, lg_cmp_lt, lg_cmp_eq, xlk, q_xs1, q_xs2, lv_args, Value.category, List.filter_cons, List.filter_nil, Nat.reduceAdd, Nat.reduceBEq, Nat.reduceEqDiff, Nat.reduceSub, Nat.sub_zero, beq_self_eq_true, Bool.not_true, Bool.not_false, Bool.and_true, Bool.and_false, Bool.true_and, Bool.false_and, reduceIte, reduceCtorEq, Bool.false_eq_true, Nat.one_ne_zero, Nat.zero_ne_one, Nat.zero_add, Option.toList_some, Option.toList_none, List.nil_append, List.cons_append, List.take_succ_cons, List.take_zero, List.take_nil, List.drop_succ_cons, List.drop_zero, List.length_cons, List.length_nil, List.reverse_cons, List.reverse_nil, List.head?_cons, List.map_cons, List.map_nil, List.sum_cons, List.sum_nil, true_and, and_true, List.getElem?_cons_zero, List.getElem?_cons_succ, Prod.eta, x_iast, x_bald, x_bast, x_last, x_alen, xup_s, xup_a1, xup_1a, xup_uu, nr_i, nr_l, nr_o, nr_a, ft_i, ft_l, ft_o, ft_a, Nat.reduceLT, i_cl0, i_cl1, i_n1, i_m1, List.set_cons_zero, List.set_cons_succ, Nat.reduceLeDiff, Nat.le_refl, Nat.zero_le, Nat.add_zero, x_no, x_ifnull, x_ifnonnull, x_acmp_eq, x_acmp_ne, x_swl, x_tsw, x_castC, true_or, or_true, nr_z, ft_z, nr_z0, nr_z1, ft_z0, ft_z1, nr_on, nr_an, ft_on, ft_an, q1, ms.s6 w, ms.s7 w, ms.s9 w, ms.s15 w, ms.s23 w, ms.s24 w, ms.s25 w, ms.s26 w, ms.s8 w, ms.s10 w, ms.t6 w, ms.t9 w, ms.t15 w, ms.t23 w, ms.t24 w, ms.t7 w, ms.t7a w, ms.t7b w, ms.t25 w, ms.t25a w, ms.t25b w, ms.t26 w, ms.t26a w, ms.t26b w, nf]
    refine ⟨fun a => g f (by unfold sgP; rw [if_neg (by omega)]) hng fe, fun a => ?_⟩
    simp only [q_c, x_iload, x_lload, x_aload, q_istore, q_lstore, q_astore, q_astore2, x_iinc, q_iadd, q_isub, q_imul, q_iand, q_ior, q_ixor, q_ladd, q_lsub, q_lmul, q_land, q_lor, q_lxor, q_idiv, q_irem, q_ldiv, q_lrem, q_ineg, q_lneg, q_ishl, q_ishr, q_iushr, q_lshl, q_lshr, q_lushr, q_i2l, q_l2i, q_i2b, q_i2c, q_lcmp, q_if_eq, q_if_ne, q_if_lt, q_if_ge, q_if_gt, q_if_le, q_icmp_eq, q_icmp_ne, q_icmp_lt, q_icmp_ge, q_icmp_gt, q_icmp_le, q_dup, q_pop, q_dup_x1, q_dup2, x_iret, x_zret, x_lret, x_aret, x_vret, x_call, x_callv, x_calli, x_oinit, x_mmax, x_mmin, x_mabs, x_mmaxL, x_mminL, x_mabsL, lg_cmp_ge, lg_cmp_le, lg_cmp_gt, lg_cmp_lt, lg_cmp_eq, xlk, q_xs1, q_xs2, lv_args, Value.category, List.filter_cons, List.filter_nil, Nat.reduceAdd, Nat.reduceBEq, Nat.reduceEqDiff, Nat.reduceSub, Nat.sub_zero, beq_self_eq_true, Bool.not_true, Bool.not_false, Bool.and_true, Bool.and_false, Bool.true_and, Bool.false_and, reduceIte, reduceCtorEq, Bool.false_eq_true, Nat.one_ne_zero, Nat.zero_ne_one, Nat.zero_add, Option.toList_some, Option.toList_none, List.nil_append, List.cons_append, List.take_succ_cons, List.take_zero, List.take_nil, List.drop_succ_cons, List.drop_zero, List.length_cons, List.length_nil, List.reverse_cons, List.reverse_nil, List.head?_cons, List.map_cons, List.map_nil, List.sum_cons, List.sum_nil, true_and, and_true, List.getElem?_cons_zero, List.getElem?_cons_succ, Prod.eta, x_iast, x_bald, x_bast, x_last, x_alen, xup_s, xup_a1, xup_1a, xup_uu, nr_i, nr_l, nr_o, nr_a, ft_i, ft_l, ft_o, ft_a, Nat.reduceLT, i_cl0, i_cl1, i_n1, i_m1, List.set_cons_zero, List.set_cons_succ, Nat.reduceLeDiff, Nat.le_refl, Nat.zero_le, Nat.add_zero, x_no, x_ifnull, x_ifnonnull, x_acmp_eq, x_acmp_ne, x_swl, x_tsw, x_castC, true_or, or_true, nr_z, ft_z, nr_z0, nr_z1, ft_z0, ft_z1, nr_on, nr_an, ft_on, ft_an, tpR.ld ht (show f < 400 by omega), q45, q43, ms.s6 w, ms.s7 w, ms.s9 w, ms.s15 w, ms.s23 w, ms.s24 w, ms.s25 w, ms.s26 w, ms.s8 w, ms.s10 w, ms.t6 w, ms.t9 w, ms.t15 w, ms.t23 w, ms.t24 w, ms.t7 w, ms.t7a w, ms.t7b w, ms.t25 w, ms.t25a w, ms.t25b w, ms.t26 w, ms.t26a w, ms.t26b w, nf]
    exact ⟨fun b => g (f + 1) (by unfold sgP; rw [if_pos (by omega)]) hng (by omega), fun b => ⟨fun c => g f (by unfold sgP; rw [if_neg (by omega)]) hng fe, fun c => g (f + 1) (by unfold sgP; rw [if_pos (by omega)]) hng (by omega)⟩⟩
  unfold b_X14_readExponent_0 b_X14_readExponent_20
  generalize b_X14_readExponent_21 Q (xInv cn_X14_readExponent (I_X14_readExponent Q)) = J at *
  simp only [q_c, x_iload, x_lload, x_aload, q_istore, q_lstore, q_astore, q_astore2, x_iinc, q_iadd, q_isub, q_imul, q_iand, q_ior, q_ixor, q_ladd, q_lsub, q_lmul, q_land, q_lor, q_lxor, q_idiv, q_irem, q_ldiv, q_lrem, q_ineg, q_lneg, q_ishl, q_ishr, q_iushr, q_lshl, q_lshr, q_lushr, q_i2l, q_l2i, q_i2b, q_i2c, q_lcmp, q_if_eq, q_if_ne, q_if_lt, q_if_ge, q_if_gt, q_if_le, q_icmp_eq, q_icmp_ne, q_icmp_lt, q_icmp_ge, q_icmp_gt, q_icmp_le, q_dup, q_pop, q_dup_x1, q_dup2, x_iret, x_zret, x_lret, x_aret, x_vret, x_call, x_callv, x_calli, x_oinit, x_mmax, x_mmin, x_mabs, x_mmaxL, x_mminL, x_mabsL, lg_cmp_ge, lg_cmp_le, lg_cmp_gt, lg_cmp_lt, lg_cmp_eq, xlk, q_xs1, q_xs2, lv_args, Value.category, List.filter_cons, List.filter_nil, Nat.reduceAdd, Nat.reduceBEq, Nat.reduceEqDiff, Nat.reduceSub, Nat.sub_zero, beq_self_eq_true, Bool.not_true, Bool.not_false, Bool.and_true, Bool.and_false, Bool.true_and, Bool.false_and, reduceIte, reduceCtorEq, Bool.false_eq_true, Nat.one_ne_zero, Nat.zero_ne_one, Nat.zero_add, Option.toList_some, Option.toList_none, List.nil_append, List.cons_append, List.take_succ_cons, List.take_zero, List.take_nil, List.drop_succ_cons, List.drop_zero, List.length_cons, List.length_nil, List.reverse_cons, List.reverse_nil, List.head?_cons, List.map_cons, List.map_nil, List.sum_cons, List.sum_nil, true_and, and_true, List.getElem?_cons_zero, List.getElem?_cons_succ, Prod.eta, x_iast, x_bald, x_bast, x_last, x_alen, xup_s, xup_a1, xup_1a, xup_uu, nr_i, nr_l, nr_o, nr_a, ft_i, ft_l, ft_o, ft_a, Nat.reduceLT, i_cl0, i_cl1, i_n1, i_m1, List.set_cons_zero, List.set_cons_succ, Nat.reduceLeDiff, Nat.le_refl, Nat.zero_le, Nat.add_zero, x_no, x_ifnull, x_ifnonnull, x_acmp_eq, x_acmp_ne, x_swl, x_tsw, x_castC, true_or, or_true, nr_z, ft_z, nr_z0, nr_z1, ft_z0, ft_z1, nr_on, nr_an, ft_on, ft_an, q1, ms.s6 w, ms.s7 w, ms.s9 w, ms.s15 w, ms.s23 w, ms.s24 w, ms.s25 w, ms.s26 w, ms.s8 w, ms.s10 w, ms.t6 w, ms.t9 w, ms.t15 w, ms.t23 w, ms.t24 w, ms.t7 w, ms.t7a w, ms.t7b w, ms.t25 w, ms.t25a w, ms.t25b w, ms.t26 w, ms.t26a w, ms.t26b w]
  refine ⟨fun a => g21 false (decide_eq_false (by omega)).symm, fun a => ?_⟩
  simp only [q_c, x_iload, x_lload, x_aload, q_istore, q_lstore, q_astore, q_astore2, x_iinc, q_iadd, q_isub, q_imul, q_iand, q_ior, q_ixor, q_ladd, q_lsub, q_lmul, q_land, q_lor, q_lxor, q_idiv, q_irem, q_ldiv, q_lrem, q_ineg, q_lneg, q_ishl, q_ishr, q_iushr, q_lshl, q_lshr, q_lushr, q_i2l, q_l2i, q_i2b, q_i2c, q_lcmp, q_if_eq, q_if_ne, q_if_lt, q_if_ge, q_if_gt, q_if_le, q_icmp_eq, q_icmp_ne, q_icmp_lt, q_icmp_ge, q_icmp_gt, q_icmp_le, q_dup, q_pop, q_dup_x1, q_dup2, x_iret, x_zret, x_lret, x_aret, x_vret, x_call, x_callv, x_calli, x_oinit, x_mmax, x_mmin, x_mabs, x_mmaxL, x_mminL, x_mabsL, lg_cmp_ge, lg_cmp_le, lg_cmp_gt, lg_cmp_lt, lg_cmp_eq, xlk, q_xs1, q_xs2, lv_args, Value.category, List.filter_cons, List.filter_nil, Nat.reduceAdd, Nat.reduceBEq, Nat.reduceEqDiff, Nat.reduceSub, Nat.sub_zero, beq_self_eq_true, Bool.not_true, Bool.not_false, Bool.and_true, Bool.and_false, Bool.true_and, Bool.false_and, reduceIte, reduceCtorEq, Bool.false_eq_true, Nat.one_ne_zero, Nat.zero_ne_one, Nat.zero_add, Option.toList_some, Option.toList_none, List.nil_append, List.cons_append, List.take_succ_cons, List.take_zero, List.take_nil, List.drop_succ_cons, List.drop_zero, List.length_cons, List.length_nil, List.reverse_cons, List.reverse_nil, List.head?_cons, List.map_cons, List.map_nil, List.sum_cons, List.sum_nil, true_and, and_true, List.getElem?_cons_zero, List.getElem?_cons_succ, Prod.eta, x_iast, x_bald, x_bast, x_last, x_alen, xup_s, xup_a1, xup_1a, xup_uu, nr_i, nr_l, nr_o, nr_a, ft_i, ft_l, ft_o, ft_a, Nat.reduceLT, i_cl0, i_cl1, i_n1, i_m1, List.set_cons_zero, List.set_cons_succ, Nat.reduceLeDiff, Nat.le_refl, Nat.zero_le, Nat.add_zero, x_no, x_ifnull, x_ifnonnull, x_acmp_eq, x_acmp_ne, x_swl, x_tsw, x_castC, true_or, or_true, nr_z, ft_z, nr_z0, nr_z1, ft_z0, ft_z1, nr_on, nr_an, ft_on, ft_an, tpR.ld ht (show f < 400 by omega), q45]
  exact ⟨fun b => g21 false (decide_eq_false (by omega)).symm, fun b => g21 true (decide_eq_true (by omega)).symm⟩
