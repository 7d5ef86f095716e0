/-! decimals -/
theorem tn_z (m : Int) : tn m = (10 : Rat) ^ m := by
  unfold tn
  rcases ilt_ge m 0 with c | c
  · obtain ⟨k, hk⟩ : ∃ k : Nat, m = -(k : Int) := ⟨(-m).toNat, by omega⟩
    subst hk
    rw [show (-(k : Int)).toNat = 0 by omega, show (- -(k : Int)).toNat = k by omega, Nat.pow_zero, Rat.zpow_neg, Rat.zpow_natCast, Rat.natCast_pow, Rat.div_def]
    show ((1 : Nat) : Rat) * _ = _
    rw [show ((1 : Nat) : Rat) = 1 from rfl, Rat.one_mul]
    rfl
  · obtain ⟨k, hk⟩ : ∃ k : Nat, m = (k : Int) := ⟨m.toNat, by omega⟩
    subst hk
    rw [show (k : Int).toNat = k by omega, show (-(k : Int)).toNat = 0 by omega, Nat.pow_zero, Rat.zpow_natCast, Rat.natCast_pow, Rat.div_def, show ((1 : Nat) : Rat)⁻¹ = 1 from Rat.inv_eq_of_mul_eq_one (Rat.one_mul 1), Rat.mul_one]
    rfl
theorem tn_pos (m : Int) : 0 < tn m := by rw [tn_z]; exact Rat.zpow_pos (by decide)
theorem tn_add (a b : Int) : tn (a + b) = tn a * tn b := by rw [tn_z, tn_z, tn_z]; exact Rat.zpow_add (by decide) a b
theorem tn_nat (k : Nat) : tn k = ((10 ^ k : Nat) : Rat) := by
  rw [tn_z, Rat.zpow_natCast, Rat.natCast_pow]
  rfl
theorem tn_le {a b : Int} (h : a ≤ b) : tn a ≤ tn b := by
  have e : tn b = ((10 ^ (b - a).toNat : Nat) : Rat) * tn a := by rw [← tn_nat, ← tn_add]; congr 1; omega
  have l : (1 : Rat) ≤ ((10 ^ (b - a).toNat : Nat) : Rat) := Rat.natCast_le_natCast.mpr (Nat.pow_pos (by decide))
  have := Rat.mul_le_mul_of_nonneg_right l (Rat.le_of_lt (tn_pos a))
  rw [Rat.one_mul] at this
  rw [e]; exact this
theorem tq_lt {a b : Nat} (u : Int) : (a : Rat) * tn u < (b : Rat) * tn u ↔ a < b := by
  rw [Rat.mul_lt_mul_right (tn_pos u), Rat.natCast_lt_natCast]
theorem tq_le {a b : Nat} (u : Int) : (a : Rat) * tn u ≤ (b : Rat) * tn u ↔ a ≤ b := by
  rw [← Rat.not_lt, tq_lt, Nat.not_lt]
/-- x begins with the d digits W, W's first standing for 10 ^ P -/
def rdS (x : Rat) (d : Nat) (P : Int) (W : Nat) : Prop := 10 ^ (d - 1) ≤ W ∧ W < 10 ^ d ∧ (W : Rat) * tn (P - d + 1) ≤ x ∧ x < ((W + 1 : Nat) : Rat) * tn (P - d + 1)
theorem rdS_P {x : Rat} {d : Nat} {P : Int} {W : Nat} (hd : 1 ≤ d) (h : rdS x d P W) : tn P ≤ x ∧ x < tn (P + 1) := by
  obtain ⟨h1, h2, h3, h4⟩ := h
  have e1 : tn P = ((10 ^ (d - 1) : Nat) : Rat) * tn (P - d + 1) := by rw [← tn_nat, ← tn_add]; congr 1; omega
  have e2 : tn (P + 1) = ((10 ^ d : Nat) : Rat) * tn (P - d + 1) := by rw [← tn_nat, ← tn_add]; congr 1; omega
  have l1 := (tq_le (P - d + 1)).mpr h1
  have l2 := (tq_le (a := W + 1) (b := 10 ^ d) (P - d + 1)).mpr (by omega)
  rw [e1, e2]
  constructor <;> grind
theorem rdS_u {x : Rat} {d : Nat} {P P' : Int} {W W' : Nat} (hd : 1 ≤ d) (h : rdS x d P W) (h' : rdS x d P' W') : P = P' ∧ W = W' := by
  have a := rdS_P hd h
  have b := rdS_P hd h'
  have e : P = P' := by
    rcases (show P + 1 ≤ P' ∨ P' + 1 ≤ P ∨ P = P' by omega) with c | c | c
    · have := tn_le c; exact absurd a.2 (by grind)
    · have := tn_le c; exact absurd b.2 (by grind)
    · exact c
  subst e
  refine ⟨rfl, ?_⟩
  obtain ⟨-, -, h3, h4⟩ := h
  obtain ⟨-, -, g3, g4⟩ := h'
  have l1 := (tq_lt (a := W) (b := W' + 1) (P - d + 1)).mp (by grind)
  have l2 := (tq_lt (a := W') (b := W + 1) (P - d + 1)).mp (by grind)
  omega
noncomputable def pdF (x : Rat) (d : Nat) : Int × Nat := Classical.epsilon (fun q : Int × Nat => rdS x d q.1 q.2)
theorem rdS_F {x : Rat} {d : Nat} {P : Int} {W : Nat} (hd : 1 ≤ d) (h : rdS x d P W) : pdF x d = (P, W) := by
  have e : rdS x d (pdF x d).1 (pdF x d).2 := Classical.epsilon_spec (p := fun q : Int × Nat => rdS x d q.1 q.2) ⟨(P, W), h⟩
  have u := rdS_u hd e h
  exact Prod.ext u.1 u.2
def dgU (W : Nat) : Nat → List Nat
  | 0 => []
  | j + 1 => (48 + W / 10 ^ j % 10) :: dgU W j
theorem dgU_len (W j : Nat) : (dgU W j).length = j := by
  induction j with
  | zero => rfl
  | succ j ih => show (dgU W j).length + 1 = _; rw [ih]
def roL (d W : Nat) (P : Int) : List Nat := (48 + W / 10 ^ (d - 1)) :: ((if 1 < d then [46] else []) ++ (dgU W (d - 1) ++ (101 :: nD P)))
def roC (d W : Nat) (P : Int) : List Nat := if W = 10 ^ d then roL d (10 ^ (d - 1)) (P + 1) else roL d W P
/-- what is written of x with d digits -/
noncomputable def woL (x : Rat) (d : Nat) (ab : Bool) : List Nat := roC d (if ab = true ∧ ((pdF x d).2 : Rat) * tn ((pdF x d).1 - d + 1) < x then (pdF x d).2 + 1 else (pdF x d).2) (pdF x d).1
theorem b10_lo : tn (-324) ≤ p2 (-1074) := by
  have e1 : p2 (-1074) * ((2 ^ 1074 : Nat) : Rat) = 1 := by rw [← p2_nat, ← p2_add, show (-1074 : Int) + ((1074 : Nat) : Int) = 0 by decide, p2_0]
  have e2 : tn (-324) * ((10 ^ 324 : Nat) : Rat) = 1 := by rw [← tn_nat, ← tn_add, show (-324 : Int) + ((324 : Nat) : Int) = 0 by decide]; rw [tn_z]; exact Rat.zpow_zero 10
  have l : (2 : Nat) ^ 1074 ≤ 10 ^ 324 := by decide +kernel
  have l' : ((2 ^ 1074 : Nat) : Rat) ≤ ((10 ^ 324 : Nat) : Rat) := Rat.natCast_le_natCast.mpr l
  have t0 := tn_pos (-324)
  have p0 := p2_pos (-1074)
  have z1 : (0 : Rat) < ((2 ^ 1074 : Nat) : Rat) := q_pos (Nat.ne_of_gt (Nat.two_pow_pos _))
  generalize ((2 ^ 1074 : Nat) : Rat) = A at *
  generalize ((10 ^ 324 : Nat) : Rat) = B at *
  generalize tn (-324) = t at *
  generalize p2 (-1074) = p at *
  rw [← Rat.not_lt]
  intro c
  have k1 : p * A < t * A := (Rat.mul_lt_mul_right z1).mpr c
  have k2 : t * A ≤ t * B := Rat.mul_le_mul_of_nonneg_left l' (Rat.le_of_lt t0)
  grind
theorem b10_hi : p2 1024 ≤ tn 309 := by
  have e1 : p2 1024 = ((2 ^ 1024 : Nat) : Rat) := p2_nat 1024
  have e2 : tn 309 = ((10 ^ 309 : Nat) : Rat) := tn_nat 309
  rw [e1, e2]
  exact Rat.natCast_le_natCast.mpr (by decide +kernel)
theorem fv_10 {f : Nat} (h0 : 0 < f) (h1 : f < 9218868437227405312) : tn (-324) ≤ fv f ∧ fv f < tn 309 := by
  have a := b10_lo
  have b := b10_hi
  have g := fv_G
  have e1 : fv 1 = p2 (-1074) := by rw [fv_sm (by decide)]; exact Rat.one_mul _
  constructor
  · rcases (show f = 1 ∨ 1 < f by omega) with c | c
    · rw [c, e1]; exact a
    · have := fv_lt c (by omega)
      rw [e1] at this
      grind
  · rcases (show f = 9218868437227405311 ∨ f < 9218868437227405311 by omega) with c | c
    · rw [c]; grind
    · have := fv_lt c (by omega)
      grind
/-! the reference writes an end -/
theorem rng_L (L : List Nat) : (List.range L.length).map (fun j => L.getD j 0) = L := by
  apply List.ext_getElem
  · rw [List.length_map, List.length_range]
  · intro i h1 h2
    rw [List.getElem_map, List.getElem_range]
    exact (List.getElem_eq_getD 0).symm
theorem kk_txt {h : xH} {T : Nat × Nat × Nat} {K : xQ} {M : Nat} {s : Nat → Value} {lo hi : Int} {nn ls : Bool} {n : Nat} {cs : Nat → vC} {os a i : Nat} {o : Nat → Nat} {l : List Nat} (w : wS h M s lo hi nn ls n cs os o l) (L : List Nat) (e : xsB i = L.map nI) (hl : L.length ≤ 100) (hb : L.all (fun x => decide (x < 128)) = true) (ha : h a = some (.inl (5, (xsB i).length, .inl (fun j => (xsB i).getD j 0)))) (hr : os + l.length + L.length < 200) (c : ∀ h2, fo h2 h M → wS h2 M s lo hi nn ls n cs os o (l ++ L) → K none (h2, T)) : rcv h M ∧ C_X14_putText [.ref M, .ref a] (h, T) K := by
  have a1 : a ≠ M := fun q => by
    obtain ⟨b, fs, e1, e2⟩ := w.1.r
    cases e1
    rw [q, e2] at ha
    exact absurd ha (by simp)
  have a2 : a ≠ M + 21 := fun q => by
    have := w.2.1
    rw [q, this] at ha
    simp at ha
  refine ⟨w.1.r, M, s, lo, hi, nn, ls, n, cs, os, o, l, a, L.length, fun j => L.getD j 0, rfl, w, sS_k L e hl (lst_b hb) ha, ⟨a1, a2⟩, hr, fun h2 f2 w2 => c h2 f2 ?_⟩
  rw [rng_L] at w2
  exact w2
theorem dX14_putExact_0 : decode cX14_putExact 0 = .ok (.lload_n 1, 1) := by decide +kernel
theorem dX14_putExact_1 : decode cX14_putExact 1 = .ok (.bipush 52, 2) := by decide +kernel
theorem dX14_putExact_3 : decode cX14_putExact 3 = .ok (.lushr, 1) := by decide +kernel
theorem dX14_putExact_4 : decode cX14_putExact 4 = .ok (.lstore_n 3, 1) := by decide +kernel
theorem dX14_putExact_5 : decode cX14_putExact 5 = .ok (.aload_n 0, 1) := by decide +kernel
theorem dX14_putExact_6 : decode cX14_putExact 6 = .ok (.lload_n 3, 1) := by decide +kernel
theorem dX14_putExact_7 : decode cX14_putExact 7 = .ok (.lconst 0, 1) := by decide +kernel
theorem dX14_putExact_8 : decode cX14_putExact 8 = .ok (.lcmp, 1) := by decide +kernel
theorem dX14_putExact_9 : decode cX14_putExact 9 = .ok (.ifCond .ne 9, 3) := by decide +kernel
theorem dX14_putExact_12 : decode cX14_putExact 12 = .ok (.ldc_w 509, 3) := by decide +kernel
theorem dX14_putExact_15 : decode cX14_putExact 15 = .ok (.goto 6, 3) := by decide +kernel
theorem dX14_putExact_18 : decode cX14_putExact 18 = .ok (.ldc_w 511, 3) := by decide +kernel
theorem dX14_putExact_21 : decode cX14_putExact 21 = .ok (.invokevirtual 487, 3) := by decide +kernel
theorem dX14_putExact_24 : decode cX14_putExact 24 = .ok (.bipush 48, 2) := by decide +kernel
theorem dX14_putExact_26 : decode cX14_putExact 26 = .ok (.istore 5, 2) := by decide +kernel
theorem dX14_putExact_28 : decode cX14_putExact 28 = .ok (.iload 5, 2) := by decide +kernel
theorem dX14_putExact_30 : decode cX14_putExact 30 = .ok (.ifCond .lt 44, 3) := by decide +kernel
theorem dX14_putExact_33 : decode cX14_putExact 33 = .ok (.lload_n 1, 1) := by decide +kernel
theorem dX14_putExact_34 : decode cX14_putExact 34 = .ok (.iload 5, 2) := by decide +kernel
theorem dX14_putExact_36 : decode cX14_putExact 36 = .ok (.lushr, 1) := by decide +kernel
theorem dX14_putExact_37 : decode cX14_putExact 37 = .ok (.ldc2_w 513, 3) := by decide +kernel
theorem dX14_putExact_40 : decode cX14_putExact 40 = .ok (.land, 1) := by decide +kernel
theorem dX14_putExact_41 : decode cX14_putExact 41 = .ok (.l2i, 1) := by decide +kernel
theorem dX14_putExact_42 : decode cX14_putExact 42 = .ok (.istore 6, 2) := by decide +kernel
theorem dX14_putExact_44 : decode cX14_putExact 44 = .ok (.aload_n 0, 1) := by decide +kernel
theorem dX14_putExact_45 : decode cX14_putExact 45 = .ok (.iload 6, 2) := by decide +kernel
theorem dX14_putExact_47 : decode cX14_putExact 47 = .ok (.bipush 10, 2) := by decide +kernel
theorem dX14_putExact_49 : decode cX14_putExact 49 = .ok (.if_icmp .ge 11, 3) := by decide +kernel
theorem dX14_putExact_52 : decode cX14_putExact 52 = .ok (.bipush 48, 2) := by decide +kernel
theorem dX14_putExact_54 : decode cX14_putExact 54 = .ok (.iload 6, 2) := by decide +kernel
theorem dX14_putExact_56 : decode cX14_putExact 56 = .ok (.iadd, 1) := by decide +kernel
theorem dX14_putExact_57 : decode cX14_putExact 57 = .ok (.goto 8, 3) := by decide +kernel
theorem dX14_putExact_60 : decode cX14_putExact 60 = .ok (.bipush 87, 2) := by decide +kernel
theorem dX14_putExact_62 : decode cX14_putExact 62 = .ok (.iload 6, 2) := by decide +kernel
theorem dX14_putExact_64 : decode cX14_putExact 64 = .ok (.iadd, 1) := by decide +kernel
theorem dX14_putExact_65 : decode cX14_putExact 65 = .ok (.invokevirtual 476, 3) := by decide +kernel
theorem dX14_putExact_68 : decode cX14_putExact 68 = .ok (.iinc 5 (-4), 3) := by decide +kernel
theorem dX14_putExact_71 : decode cX14_putExact 71 = .ok (.goto (-43), 3) := by decide +kernel
theorem dX14_putExact_74 : decode cX14_putExact 74 = .ok (.aload_n 0, 1) := by decide +kernel
theorem dX14_putExact_75 : decode cX14_putExact 75 = .ok (.bipush 112, 2) := by decide +kernel
theorem dX14_putExact_77 : decode cX14_putExact 77 = .ok (.invokevirtual 476, 3) := by decide +kernel
theorem dX14_putExact_80 : decode cX14_putExact 80 = .ok (.aload_n 0, 1) := by decide +kernel
theorem dX14_putExact_81 : decode cX14_putExact 81 = .ok (.lload_n 3, 1) := by decide +kernel
theorem dX14_putExact_82 : decode cX14_putExact 82 = .ok (.lconst 0, 1) := by decide +kernel
theorem dX14_putExact_83 : decode cX14_putExact 83 = .ok (.lcmp, 1) := by decide +kernel
theorem dX14_putExact_84 : decode cX14_putExact 84 = .ok (.ifCond .ne 9, 3) := by decide +kernel
theorem dX14_putExact_87 : decode cX14_putExact 87 = .ok (.ldc2_w 515, 3) := by decide +kernel
theorem dX14_putExact_90 : decode cX14_putExact 90 = .ok (.goto 8, 3) := by decide +kernel
theorem dX14_putExact_93 : decode cX14_putExact 93 = .ok (.lload_n 3, 1) := by decide +kernel
theorem dX14_putExact_94 : decode cX14_putExact 94 = .ok (.ldc2_w 517, 3) := by decide +kernel
theorem dX14_putExact_97 : decode cX14_putExact 97 = .ok (.lsub, 1) := by decide +kernel
theorem dX14_putExact_98 : decode cX14_putExact 98 = .ok (.invokevirtual 519, 3) := by decide +kernel
theorem dX14_putExact_101 : decode cX14_putExact 101 = .ok (.return_, 1) := by decide +kernel
abbrev r_X14_putExact : Room := { frames := 5, cells := 0, slots := 0, locals := 107 }
abbrev m_X14_putExact : xMd := (cX14_putExact, RX14, 7, none, false, r_X14_putExact)
def b_X14_putExact_21 (Q : xQ) (K28 : xK) : xK := x_callv 13 C_X14_putText 2 0 0 <| x_c (.int 48) <| x_istore 5 <| K28
def b_X14_putExact_65 (Q : xQ) (K28 : xK) : xK := x_callv 13 C_X14_put 2 0 0 <| x_iinc 5 (-4) <| K28
def b_X14_putExact_98 (Q : xQ) (K28 : xK) : xK := x_callv 13 C_X14_putNumber 2 0 0 <| x_vret Q
def b_X14_putExact_0 (Q : xQ) (K28 : xK) : xK := x_lload 1 <| x_c (.int 52) <| x_lushr <| x_lstore 3 <| x_aload 0 <| x_lload 3 <| x_c (.long 0) <| x_lcmp <| x_if_ne (x_str 29 <| (b_X14_putExact_21 Q K28)) <| x_str 28 <| (b_X14_putExact_21 Q K28)
def b_X14_putExact_28 (Q : xQ) (K28 : xK) : xK := x_iload 5 <| x_if_lt (x_aload 0 <| x_c (.int 112) <| x_callv 13 C_X14_put 2 0 0 <| x_aload 0 <| x_lload 3 <| x_c (.long 0) <| x_lcmp <| x_if_ne (x_lload 3 <| x_c (.long 1023) <| x_lsub <| (b_X14_putExact_98 Q K28)) <| x_c (.long (-1022)) <| (b_X14_putExact_98 Q K28)) <| x_lload 1 <| x_iload 5 <| x_lushr <| x_c (.long 15) <| x_land <| x_l2i <| x_istore 6 <| x_aload 0 <| x_iload 6 <| x_c (.int 10) <| x_icmp_ge (x_c (.int 87) <| x_iload 6 <| x_iadd <| (b_X14_putExact_65 Q K28)) <| x_c (.int 48) <| x_iload 6 <| x_iadd <| (b_X14_putExact_65 Q K28)
theorem s_X14_putExact_21 (G : xG) (l : Launch) (Q : xQ) (K28 : xK) (h28 : xW G l m_X14_putExact xX0 (xPm G Q r_X14_putExact) 28 K28) : xW G l m_X14_putExact xX0 (xPm G Q r_X14_putExact) 21 (b_X14_putExact_21 Q K28) := xo_callV (pc := 21) (np := 1) (ci := 13) rfl (cM_X14_putText G l) dX14_putExact_21 kw1752 kw1749 kw1751 ks100 kw13 (by decide +kernel) (by decide) <| xo_bipush (pc := 24) dX14_putExact_24 (by decide) <| xo_istore (pc := 26) (i := 5) dX14_putExact_26 (by decide) <| h28
theorem s_X14_putExact_65 (G : xG) (l : Launch) (Q : xQ) (K28 : xK) (h28 : xW G l m_X14_putExact xX0 (xPm G Q r_X14_putExact) 28 K28) : xW G l m_X14_putExact xX0 (xPm G Q r_X14_putExact) 65 (b_X14_putExact_65 Q K28) := xo_callV (pc := 65) (np := 1) (ci := 13) rfl (cM_X14_put G l) dX14_putExact_65 kw1747 kw1744 kw1746 ks99 kw13 (by decide +kernel) (by decide) <| xo_iinc (pc := 68) dX14_putExact_68 (by decide) <| xo_goto (pc := 71) (tgt := 28) dX14_putExact_71 (by decide) <| h28
theorem s_X14_putExact_98 (G : xG) (l : Launch) (Q : xQ) (K28 : xK) (h28 : xW G l m_X14_putExact xX0 (xPm G Q r_X14_putExact) 28 K28) : xW G l m_X14_putExact xX0 (xPm G Q r_X14_putExact) 98 (b_X14_putExact_98 Q K28) := xo_callV (pc := 98) (np := 1) (ci := 13) rfl (cM_X14_putNumber G l) dX14_putExact_98 kw1769 kw1766 kw1768 ks103 kw13 (by decide +kernel) (by decide) <| xo_vret (pc := 101) rfl dX14_putExact_101
theorem s_X14_putExact_0 (G : xG) (l : Launch) (Q : xQ) (K28 : xK) (h28 : xW G l m_X14_putExact xX0 (xPm G Q r_X14_putExact) 28 K28) : xW G l m_X14_putExact xX0 (xPm G Q r_X14_putExact) 0 (b_X14_putExact_0 Q K28) := xo_lload_n (pc := 0) (i := 1) dX14_putExact_0 rfl <| xo_bipush (pc := 1) dX14_putExact_1 (by decide) <| xo_lushr (pc := 3) dX14_putExact_3 <| xo_lstore_n (pc := 4) (i := 3) dX14_putExact_4 rfl (by decide) <| xo_aload_n (pc := 5) (i := 0) dX14_putExact_5 rfl <| xo_lload_n (pc := 6) (i := 3) dX14_putExact_6 rfl <| xo_lconst (pc := 7) dX14_putExact_7 (by decide) <| xo_lcmp (pc := 8) dX14_putExact_8 <| xo_if_ne (pc := 9) (tgt := 18) dX14_putExact_9 (by decide) (xo_strW (pc := 18) (i := 29) (by decide) (by decide) (by decide) dX14_putExact_18 <| (s_X14_putExact_21 G l Q K28 h28)) <| xo_strW (pc := 12) (i := 28) (by decide) (by decide) (by decide) dX14_putExact_12 <| xo_goto (pc := 15) (tgt := 21) dX14_putExact_15 (by decide) <| (s_X14_putExact_21 G l Q K28 h28)
theorem s_X14_putExact_28 (G : xG) (l : Launch) (Q : xQ) (K28 : xK) (h28 : xW G l m_X14_putExact xX0 (xPm G Q r_X14_putExact) 28 K28) : xW G l m_X14_putExact xX0 (xPm G Q r_X14_putExact) 28 (b_X14_putExact_28 Q K28) := xo_iload (pc := 28) (i := 5) dX14_putExact_28 <| xo_if_lt (pc := 30) (tgt := 74) dX14_putExact_30 (by decide) (xo_aload_n (pc := 74) (i := 0) dX14_putExact_74 rfl <| xo_bipush (pc := 75) dX14_putExact_75 (by decide) <| xo_callV (pc := 77) (np := 1) (ci := 13) rfl (cM_X14_put G l) dX14_putExact_77 kw1747 kw1744 kw1746 ks99 kw13 (by decide +kernel) (by decide) <| xo_aload_n (pc := 80) (i := 0) dX14_putExact_80 rfl <| xo_lload_n (pc := 81) (i := 3) dX14_putExact_81 rfl <| xo_lconst (pc := 82) dX14_putExact_82 (by decide) <| xo_lcmp (pc := 83) dX14_putExact_83 <| xo_if_ne (pc := 84) (tgt := 93) dX14_putExact_84 (by decide) (xo_lload_n (pc := 93) (i := 3) dX14_putExact_93 rfl <| xo_ldc2_w (pc := 94) dX14_putExact_94 kw1765 <| xo_lsub (pc := 97) dX14_putExact_97 <| (s_X14_putExact_98 G l Q K28 h28)) <| xo_ldc2_w (pc := 87) dX14_putExact_87 kw1764 <| xo_goto (pc := 90) (tgt := 98) dX14_putExact_90 (by decide) <| (s_X14_putExact_98 G l Q K28 h28)) <| xo_lload_n (pc := 33) (i := 1) dX14_putExact_33 rfl <| xo_iload (pc := 34) (i := 5) dX14_putExact_34 <| xo_lushr (pc := 36) dX14_putExact_36 <| xo_ldc2_w (pc := 37) dX14_putExact_37 kw1763 <| xo_land (pc := 40) dX14_putExact_40 <| xo_l2i (pc := 41) dX14_putExact_41 <| xo_istore (pc := 42) (i := 6) dX14_putExact_42 (by decide) <| xo_aload_n (pc := 44) (i := 0) dX14_putExact_44 rfl <| xo_iload (pc := 45) (i := 6) dX14_putExact_45 <| xo_bipush (pc := 47) dX14_putExact_47 (by decide) <| xo_icmp_ge (pc := 49) (tgt := 60) dX14_putExact_49 (by decide) (xo_bipush (pc := 60) dX14_putExact_60 (by decide) <| xo_iload (pc := 62) (i := 6) dX14_putExact_62 <| xo_iadd (pc := 64) dX14_putExact_64 <| (s_X14_putExact_65 G l Q K28 h28)) <| xo_bipush (pc := 52) dX14_putExact_52 (by decide) <| xo_iload (pc := 54) (i := 6) dX14_putExact_54 <| xo_iadd (pc := 56) dX14_putExact_56 <| xo_goto (pc := 57) (tgt := 65) dX14_putExact_57 (by decide) <| (s_X14_putExact_65 G l Q K28 h28)

def hxC (d : Nat) : Nat := if d < 10 then 48 + d else 87 + d
def hxL (f : Nat) : Nat → List Nat
  | 0 => []
  | j + 1 => hxC (f / 16 ^ j % 16) :: hxL f j
theorem hxL_len (f j : Nat) : (hxL f j).length = j := by
  induction j with
  | zero => rfl
  | succ j ih => show (hxL f j).length + 1 = _; rw [ih]
def eEx (f : Nat) : Int := if f / 2 ^ 52 = 0 then -1022 else ((f / 2 ^ 52 : Nat) : Int) - 1023
def exL (f : Nat) : List Nat := [48, 120, if f / 2 ^ 52 = 0 then 48 else 49, 46] ++ (hxL f 13 ++ (112 :: nD (eEx f)))
def cn_X14_putExact : Nat × Nat × Nat → List (Nat × Value) := fun v => [(0, .ref v.1), (1, .long (lN v.2.1)), (3, .long (lN (v.2.1 / 2 ^ 52))), (5, .int (iZ (4 * (v.2.2 : Int) - 4)))]
def I_X14_putExact (Q : xQ) : Nat → Nat × Nat × Nat → xS → Prop := fun k v S => match v with
  | (M, f, j) => k = j ∧ j ≤ 13 ∧ f < 9218868437227405312 ∧ ∃ (s : Nat → Value) (lo hi : Int) (nn ls : Bool) (n : Nat) (cs : Nat → vC) (os : Nat) (o : Nat → Nat) (cur fin : List Nat), wS S.1 M s lo hi nn ls n cs os o cur ∧ cur ++ (hxL f j ++ (112 :: nD (eEx f))) = fin ∧ os + cur.length + j + 10 < 200 ∧ ∀ h', fo h' S.1 M → wS h' M s lo hi nn ls n cs os o fin → Q none (h', S.2)
def C_X14_putExact : xC := fun av S Q => ∃ (M f : Nat) (s : Nat → Value) (lo hi : Int) (nn ls : Bool) (n : Nat) (cs : Nat → vC) (os : Nat) (o : Nat → Nat) (l : List Nat), av = [.ref M, .long (lN f)] ∧ f < 9218868437227405312 ∧ wS S.1 M s lo hi nn ls n cs os o l ∧ os + l.length + 30 < 200 ∧ ∀ h', fo h' S.1 M → wS h' M s lo hi nn ls n cs os o (l ++ exL f) → Q none (h', S.2)
theorem cM_X14_putExact (G : xG) (l : Launch) : xM G l yX14_putExact cX14_putExact 7 none r_X14_putExact C_X14_putExact := by
  refine xM_of (fun Q => b_X14_putExact_0 Q (xInv cn_X14_putExact (I_X14_putExact Q))) RX14 false (fun Q => s_X14_putExact_0 G l Q _ (xW.lp (b_X14_putExact_28 Q) (fun K hK => s_X14_putExact_28 G l Q K hK) ?_)) (by decide) rfl (by decide) ?_
  · rintro c ⟨M, f, j⟩ ⟨h, S2⟩ ⟨rfl, hj, hf, s, lo, hi, nn, ls, n, cs, os, o, cur, fin, w, hfin, hr, hQ⟩
    dsimp only at *
    have c1 : cn_X14_putExact (M, f, c) = [(0, .ref M), (1, .long (lN f)), (3, .long (lN (f / 2 ^ 52))), (5, .int (iZ (4 * (c : Int) - 4)))] := rfl
    rw [c1]
    have fe : f / 2 ^ 52 < 2048 := by omega
    have q1 := iZ_lt0 (z := 4 * (c : Int) - 4) (by omega) (by omega)
    have q2 : lN (f / 2 ^ 52) = 0 ↔ f / 2 ^ 52 = 0 := by rw [← lZ_nat, lz_e0 ⟨by omega, by omega⟩]; omega
    generalize hK : xInvL cn_X14_putExact (I_X14_putExact Q) c = K
    rcases Nat.eq_zero_or_pos c with c0 | c0
    · subst c0
      have e0 : hxL f 0 = [] := rfl
      rw [e0, List.nil_append] at hfin
      simp only [q_c, x_iload, x_lload, x_aload, q_istore, q_lstore, q_astore, q_astore2, x_iinc, q_iadd, q_isub, q_imul, q_iand, q_ior, q_ixor, q_ladd, q_lsub, q_lmul, q_land, q_lor, q_lxor, q_idiv, q_irem, q_ldiv, q_lrem, q_ineg, q_lneg, q_ishl, q_ishr, q_iushr, q_lshl, q_lshr, q_lushr, q_i2l, q_l2i, q_i2b, q_i2c, q_lcmp, q_if_eq, q_if_ne, q_if_lt, q_if_ge, q_if_gt, q_if_le, q_icmp_eq, q_icmp_ne, q_icmp_lt, q_icmp_ge, q_icmp_gt, q_icmp_le, q_dup, q_pop, q_dup_x1, q_dup2, x_iret, x_zret, x_lret, x_aret, x_vret, x_call, x_callv, x_calli, x_oinit, x_mmax, x_mmin, x_mabs, x_mmaxL, x_mminL, x_mabsL, lg_cmp_ge, lg_cmp_le, lg_cmp_gt, lg_cmp_lt, lg_cmp_eq, xlk, q_xs1, q_xs2, lv_args, Value.category, List.filter_cons, List.filter_nil, Nat.reduceAdd, Nat.reduceBEq, Nat.reduceEqDiff, Nat.reduceSub, Nat.sub_zero, beq_self_eq_true, Bool.not_true, Bool.not_false, Bool.and_true, Bool.and_false, Bool.true_and, Bool.false_and, reduceIte, reduceCtorEq, Bool.false_eq_true, Nat.one_ne_zero, Nat.zero_ne_one, Nat.zero_add, Option.toList_some, Option.toList_none, List.nil_append, List.cons_append, List.take_succ_cons, List.take_zero, List.take_nil, List.drop_succ_cons, List.drop_zero, List.length_cons, List.length_nil, List.reverse_cons, List.reverse_nil, List.head?_cons, List.map_cons, List.map_nil, List.sum_cons, List.sum_nil, true_and, and_true, List.getElem?_cons_zero, List.getElem?_cons_succ, Prod.eta, x_iast, x_bald, x_bast, x_last, x_alen, xup_s, xup_a1, xup_1a, xup_uu, nr_i, nr_l, nr_o, nr_a, ft_i, ft_l, ft_o, ft_a, Nat.reduceLT, i_cl0, i_cl1, i_n1, i_m1, List.set_cons_zero, List.set_cons_succ, Nat.reduceLeDiff, Nat.le_refl, Nat.zero_le, Nat.add_zero, x_no, x_ifnull, x_ifnonnull, x_acmp_eq, x_acmp_ne, x_swl, x_tsw, x_castC, true_or, or_true, nr_z, ft_z, nr_z0, nr_z1, ft_z0, ft_z1, nr_on, nr_an, ft_on, ft_an, b_X14_putExact_28, b_X14_putExact_98, q1]
      refine ⟨fun _ => kk_put (b := 112) w (by decide) (by omega) fun h2 f2 w2 => ?_, fun y => by omega⟩
      have pn : ∀ z : Int, z = eEx f → ∀ (K : xQ), (∀ h3, fo h3 h2 M → wS h3 M s lo hi nn ls n cs os o fin → K none (h3, S2.1, 0, 0)) → C_X14_putNumber [.ref M, .long (lZ z)] (h2, S2.1, 0, 0) K := by
        intro z hz K hK
        have zb : -9999 ≤ z ∧ z ≤ 9999 := by rw [hz]; unfold eEx; split <;> omega
        refine ⟨M, s, lo, hi, nn, ls, n, cs, os, o, cur ++ [112], z, rfl, zb.1, zb.2, w2, by rw [List.length_append, List.length_singleton]; omega, fun h3 f3 w3 => hK h3 f3 ?_⟩
        rw [List.append_assoc, hz] at w3
        rw [← hfin]
        exact w3
      simp only [q_c, x_iload, x_lload, x_aload, q_istore, q_lstore, q_astore, q_astore2, x_iinc, q_iadd, q_isub, q_imul, q_iand, q_ior, q_ixor, q_ladd, q_lsub, q_lmul, q_land, q_lor, q_lxor, q_idiv, q_irem, q_ldiv, q_lrem, q_ineg, q_lneg, q_ishl, q_ishr, q_iushr, q_lshl, q_lshr, q_lushr, q_i2l, q_l2i, q_i2b, q_i2c, q_lcmp, q_if_eq, q_if_ne, q_if_lt, q_if_ge, q_if_gt, q_if_le, q_icmp_eq, q_icmp_ne, q_icmp_lt, q_icmp_ge, q_icmp_gt, q_icmp_le, q_dup, q_pop, q_dup_x1, q_dup2, x_iret, x_zret, x_lret, x_aret, x_vret, x_call, x_callv, x_calli, x_oinit, x_mmax, x_mmin, x_mabs, x_mmaxL, x_mminL, x_mabsL, lg_cmp_ge, lg_cmp_le, lg_cmp_gt, lg_cmp_lt, lg_cmp_eq, xlk, q_xs1, q_xs2, lv_args, Value.category, List.filter_cons, List.filter_nil, Nat.reduceAdd, Nat.reduceBEq, Nat.reduceEqDiff, Nat.reduceSub, Nat.sub_zero, beq_self_eq_true, Bool.not_true, Bool.not_false, Bool.and_true, Bool.and_false, Bool.true_and, Bool.false_and, reduceIte, reduceCtorEq, Bool.false_eq_true, Nat.one_ne_zero, Nat.zero_ne_one, Nat.zero_add, Option.toList_some, Option.toList_none, List.nil_append, List.cons_append, List.take_succ_cons, List.take_zero, List.take_nil, List.drop_succ_cons, List.drop_zero, List.length_cons, List.length_nil, List.reverse_cons, List.reverse_nil, List.head?_cons, List.map_cons, List.map_nil, List.sum_cons, List.sum_nil, true_and, and_true, List.getElem?_cons_zero, List.getElem?_cons_succ, Prod.eta, x_iast, x_bald, x_bast, x_last, x_alen, xup_s, xup_a1, xup_1a, xup_uu, nr_i, nr_l, nr_o, nr_a, ft_i, ft_l, ft_o, ft_a, Nat.reduceLT, i_cl0, i_cl1, i_n1, i_m1, List.set_cons_zero, List.set_cons_succ, Nat.reduceLeDiff, Nat.le_refl, Nat.zero_le, Nat.add_zero, x_no, x_ifnull, x_ifnonnull, x_acmp_eq, x_acmp_ne, x_swl, x_tsw, x_castC, true_or, or_true, nr_z, ft_z, nr_z0, nr_z1, ft_z0, ft_z1, nr_on, nr_an, ft_on, ft_an, q2]
      refine ⟨fun y => ⟨w2.1.r, ?_⟩, fun y => ⟨w2.1.r, ?_⟩⟩
      · rw [show (1023 : Int64) = lZ 1023 from rfl, ← lZ_nat, lZ_sub]
        refine pn _ ?_ _ fun h3 f3 w3 => ?_
        · unfold eEx; rw [if_neg y]
        · try simp only [q_c, x_iload, x_lload, x_aload, q_istore, q_lstore, q_astore, q_astore2, x_iinc, q_iadd, q_isub, q_imul, q_iand, q_ior, q_ixor, q_ladd, q_lsub, q_lmul, q_land, q_lor, q_lxor, q_idiv, q_irem, q_ldiv, q_lrem, q_ineg, q_lneg, q_ishl, q_ishr, q_iushr, q_lshl, q_lshr, q_lushr, q_i2l, q_l2i, q_i2b, q_i2c, q_lcmp, q_if_eq, q_if_ne, q_if_lt, q_if_ge, q_if_gt, q_if_le, q_icmp_eq, q_icmp_ne, q_icmp_lt, q_icmp_ge, q_icmp_gt, q_icmp_le, q_dup, q_pop, q_dup_x1, q_dup2, x_iret, x_zret, x_lret, x_aret, x_vret, x_call, x_callv, x_calli, x_oinit, x_mmax, x_mmin, x_mabs, x_mmaxL, x_mminL, x_mabsL, lg_cmp_ge, lg_cmp_le, lg_cmp_gt, lg_cmp_lt, lg_cmp_eq, xlk, q_xs1, q_xs2, lv_args, Value.category, List.filter_cons, List.filter_nil, Nat.reduceAdd, Nat.reduceBEq, Nat.reduceEqDiff, Nat.reduceSub, Nat.sub_zero, beq_self_eq_true, Bool.not_true, Bool.not_false, Bool.and_true, Bool.and_false, Bool.true_and, Bool.false_and, reduceIte, reduceCtorEq, Bool.false_eq_true, Nat.one_ne_zero, Nat.zero_ne_one, Nat.zero_add, Option.toList_some, Option.toList_none, List.nil_append, List.cons_append, List.take_succ_cons, List.take_zero, List.take_nil, List.drop_succ_cons, List.drop_zero, List.length_cons, List.length_nil, List.reverse_cons, List.reverse_nil, List.head?_cons, List.map_cons, List.map_nil, List.sum_cons, List.sum_nil, true_and, and_true, List.getElem?_cons_zero, List.getElem?_cons_succ, Prod.eta, x_iast, x_bald, x_bast, x_last, x_alen, xup_s, xup_a1, xup_1a, xup_uu, nr_i, nr_l, nr_o, nr_a, ft_i, ft_l, ft_o, ft_a, Nat.reduceLT, i_cl0, i_cl1, i_n1, i_m1, List.set_cons_zero, List.set_cons_succ, Nat.reduceLeDiff, Nat.le_refl, Nat.zero_le, Nat.add_zero, x_no, x_ifnull, x_ifnonnull, x_acmp_eq, x_acmp_ne, x_swl, x_tsw, x_castC, true_or, or_true, nr_z, ft_z, nr_z0, nr_z1, ft_z0, ft_z1, nr_on, nr_an, ft_on, ft_an]
          exact hQ h3 (f3.tr f2) w3
      · rw [show (-1022 : Int64) = lZ (-1022) from rfl]
        refine pn _ ?_ _ fun h3 f3 w3 => ?_
        · unfold eEx; rw [if_pos y]
        · try simp only [q_c, x_iload, x_lload, x_aload, q_istore, q_lstore, q_astore, q_astore2, x_iinc, q_iadd, q_isub, q_imul, q_iand, q_ior, q_ixor, q_ladd, q_lsub, q_lmul, q_land, q_lor, q_lxor, q_idiv, q_irem, q_ldiv, q_lrem, q_ineg, q_lneg, q_ishl, q_ishr, q_iushr, q_lshl, q_lshr, q_lushr, q_i2l, q_l2i, q_i2b, q_i2c, q_lcmp, q_if_eq, q_if_ne, q_if_lt, q_if_ge, q_if_gt, q_if_le, q_icmp_eq, q_icmp_ne, q_icmp_lt, q_icmp_ge, q_icmp_gt, q_icmp_le, q_dup, q_pop, q_dup_x1, q_dup2, x_iret, x_zret, x_lret, x_aret, x_vret, x_call, x_callv, x_calli, x_oinit, x_mmax, x_mmin, x_mabs, x_mmaxL, x_mminL, x_mabsL, lg_cmp_ge, lg_cmp_le, lg_cmp_gt, lg_cmp_lt, lg_cmp_eq, xlk, q_xs1, q_xs2, lv_args, Value.category, List.filter_cons, List.filter_nil, Nat.reduceAdd, Nat.reduceBEq, Nat.reduceEqDiff, Nat.reduceSub, Nat.sub_zero, beq_self_eq_true, Bool.not_true, Bool.not_false, Bool.and_true, Bool.and_false, Bool.true_and, Bool.false_and, reduceIte, reduceCtorEq, Bool.false_eq_true, Nat.one_ne_zero, Nat.zero_ne_one, Nat.zero_add, Option.toList_some, Option.toList_none, List.nil_append, List.cons_append, List.take_succ_cons, List.take_zero, List.take_nil, List.drop_succ_cons, List.drop_zero, List.length_cons, List.length_nil, List.reverse_cons, List.reverse_nil, List.head?_cons, List.map_cons, List.map_nil, List.sum_cons, List.sum_nil, true_and, and_true, List.getElem?_cons_zero, List.getElem?_cons_succ, Prod.eta, x_iast, x_bald, x_bast, x_last, x_alen, xup_s, xup_a1, xup_1a, xup_uu, nr_i, nr_l, nr_o, nr_a, ft_i, ft_l, ft_o, ft_a, Nat.reduceLT, i_cl0, i_cl1, i_n1, i_m1, List.set_cons_zero, List.set_cons_succ, Nat.reduceLeDiff, Nat.le_refl, Nat.zero_le, Nat.add_zero, x_no, x_ifnull, x_ifnonnull, x_acmp_eq, x_acmp_ne, x_swl, x_tsw, x_castC, true_or, or_true, nr_z, ft_z, nr_z0, nr_z1, ft_z0, ft_z1, nr_on, nr_an, ft_on, ft_an]
          exact hQ h3 (f3.tr f2) w3
    · obtain ⟨j, rfl⟩ : ∃ j, c = j + 1 := ⟨c - 1, by omega⟩
      have e1 : iZ (4 * ((j + 1 : Nat) : Int) - 4) = nI (4 * j) := by rw [← iZ_nat]; congr 1; omega
      have e2 : ((lN f).toUInt64 >>> ((nI (4 * j)).toInt64.toUInt64 &&& Int64.toUInt64 63)).toInt64 &&& 15 = lN (f / 16 ^ j % 16) := by
        rw [wb_shr (by omega) (by omega)]
        have := wb_mask (n := f / 2 ^ (4 * j)) (k := 4) (Nat.lt_of_le_of_lt (Nat.div_le_self _ _) (by omega)) (by decide)
        rw [show (16 : Nat) ^ j = 2 ^ (4 * j) by rw [show (16 : Nat) = 2 ^ 4 from rfl, ← Nat.pow_mul]]
        exact this
      have d16 : f / 16 ^ j % 16 < 16 := Nat.mod_lt _ (by decide)
      generalize hd : f / 16 ^ j % 16 = d at *
      have q3 : (10 : Int32) ≤ nI d ↔ 10 ≤ d := nc_le (a := 10) (by decide) (by omega)
      have e3 : (lN d).toInt32 = nI d := lN_l2i d
      have e5 : nI (4 * j) + Int32.ofInt (-4) = iZ (4 * (j : Int) - 4) := by
        rw [← iZ_nat, show Int32.ofInt (-4) = iZ (-4) from rfl, iZ_add]; congr 1
      have hs : hxL f (j + 1) = hxC d :: hxL f j := by rw [← hd]; rfl
      rw [hs, List.cons_append] at hfin
      have g65 : ∀ z : Nat, z = hxC d → b_X14_putExact_65 Q K [(6, .int (nI d)), (0, .ref M), (1, .long (lN f)), (3, .long (lN (f / 2 ^ 52))), (5, .int (nI (4 * j)))] [.int (nI z), .ref M] (h, S2) := by
        intro z hz
        have zb : z < 256 := by rw [hz]; unfold hxC; split <;> omega
        simp only [q_c, x_iload, x_lload, x_aload, q_istore, q_lstore, q_astore, q_astore2, x_iinc, q_iadd, q_isub, q_imul, q_iand, q_ior, q_ixor, q_ladd, q_lsub, q_lmul, q_land, q_lor, q_lxor, q_idiv, q_irem, q_ldiv, q_lrem, q_ineg, q_lneg, q_ishl, q_ishr, q_iushr, q_lshl, q_lshr, q_lushr, q_i2l, q_l2i, q_i2b, q_i2c, q_lcmp, q_if_eq, q_if_ne, q_if_lt, q_if_ge, q_if_gt, q_if_le, q_icmp_eq, q_icmp_ne, q_icmp_lt, q_icmp_ge, q_icmp_gt, q_icmp_le, q_dup, q_pop, q_dup_x1, q_dup2, x_iret, x_zret, x_lret, x_aret, x_vret, x_call, x_callv, x_calli, x_oinit, x_mmax, x_mmin, x_mabs, x_mmaxL, x_mminL, x_mabsL, lg_cmp_ge, lg_cmp_le, lg_cmp_gt, lg_cmp_lt, lg_cmp_eq, xlk, q_xs1, q_xs2, lv_args, Value.category, List.filter_cons, List.filter_nil, Nat.reduceAdd, Nat.reduceBEq, Nat.reduceEqDiff, Nat.reduceSub, Nat.sub_zero, beq_self_eq_true, Bool.not_true, Bool.not_false, Bool.and_true, Bool.and_false, Bool.true_and, Bool.false_and, reduceIte, reduceCtorEq, Bool.false_eq_true, Nat.one_ne_zero, Nat.zero_ne_one, Nat.zero_add, Option.toList_some, Option.toList_none, List.nil_append, List.cons_append, List.take_succ_cons, List.take_zero, List.take_nil, List.drop_succ_cons, List.drop_zero, List.length_cons, List.length_nil, List.reverse_cons, List.reverse_nil, List.head?_cons, List.map_cons, List.map_nil, List.sum_cons, List.sum_nil, true_and, and_true, List.getElem?_cons_zero, List.getElem?_cons_succ, Prod.eta, x_iast, x_bald, x_bast, x_last, x_alen, xup_s, xup_a1, xup_1a, xup_uu, nr_i, nr_l, nr_o, nr_a, ft_i, ft_l, ft_o, ft_a, Nat.reduceLT, i_cl0, i_cl1, i_n1, i_m1, List.set_cons_zero, List.set_cons_succ, Nat.reduceLeDiff, Nat.le_refl, Nat.zero_le, Nat.add_zero, x_no, x_ifnull, x_ifnonnull, x_acmp_eq, x_acmp_ne, x_swl, x_tsw, x_castC, true_or, or_true, nr_z, ft_z, nr_z0, nr_z1, ft_z0, ft_z1, nr_on, nr_an, ft_on, ft_an, b_X14_putExact_65]
        refine kk_put w zb (by omega) fun h2 f2 w2 => ?_
        simp only [q_c, x_iload, x_lload, x_aload, q_istore, q_lstore, q_astore, q_astore2, x_iinc, q_iadd, q_isub, q_imul, q_iand, q_ior, q_ixor, q_ladd, q_lsub, q_lmul, q_land, q_lor, q_lxor, q_idiv, q_irem, q_ldiv, q_lrem, q_ineg, q_lneg, q_ishl, q_ishr, q_iushr, q_lshl, q_lshr, q_lushr, q_i2l, q_l2i, q_i2b, q_i2c, q_lcmp, q_if_eq, q_if_ne, q_if_lt, q_if_ge, q_if_gt, q_if_le, q_icmp_eq, q_icmp_ne, q_icmp_lt, q_icmp_ge, q_icmp_gt, q_icmp_le, q_dup, q_pop, q_dup_x1, q_dup2, x_iret, x_zret, x_lret, x_aret, x_vret, x_call, x_callv, x_calli, x_oinit, x_mmax, x_mmin, x_mabs, x_mmaxL, x_mminL, x_mabsL, lg_cmp_ge, lg_cmp_le, lg_cmp_gt, lg_cmp_lt, lg_cmp_eq, xlk, q_xs1, q_xs2, lv_args, Value.category, List.filter_cons, List.filter_nil, Nat.reduceAdd, Nat.reduceBEq, Nat.reduceEqDiff, Nat.reduceSub, Nat.sub_zero, beq_self_eq_true, Bool.not_true, Bool.not_false, Bool.and_true, Bool.and_false, Bool.true_and, Bool.false_and, reduceIte, reduceCtorEq, Bool.false_eq_true, Nat.one_ne_zero, Nat.zero_ne_one, Nat.zero_add, Option.toList_some, Option.toList_none, List.nil_append, List.cons_append, List.take_succ_cons, List.take_zero, List.take_nil, List.drop_succ_cons, List.drop_zero, List.length_cons, List.length_nil, List.reverse_cons, List.reverse_nil, List.head?_cons, List.map_cons, List.map_nil, List.sum_cons, List.sum_nil, true_and, and_true, List.getElem?_cons_zero, List.getElem?_cons_succ, Prod.eta, x_iast, x_bald, x_bast, x_last, x_alen, xup_s, xup_a1, xup_1a, xup_uu, nr_i, nr_l, nr_o, nr_a, ft_i, ft_l, ft_o, ft_a, Nat.reduceLT, i_cl0, i_cl1, i_n1, i_m1, List.set_cons_zero, List.set_cons_succ, Nat.reduceLeDiff, Nat.le_refl, Nat.zero_le, Nat.add_zero, x_no, x_ifnull, x_ifnonnull, x_acmp_eq, x_acmp_ne, x_swl, x_tsw, x_castC, true_or, or_true, nr_z, ft_z, nr_z0, nr_z1, ft_z0, ft_z1, nr_on, nr_an, ft_on, ft_an, e5]
        rw [← hK]
        refine xInvL.mk j (M, f, j) (by omega) ⟨rfl, rfl, rfl, rfl, trivial⟩ ⟨rfl, by omega, hf, s, lo, hi, nn, ls, n, cs, os, o, cur ++ [z], fin, w2, ?_, by rw [List.length_append, List.length_singleton]; omega, fun h3 f3 w3 => hQ h3 (f3.tr f2) w3⟩
        rw [List.append_assoc, hz]
        exact hfin
      unfold b_X14_putExact_28
      generalize b_X14_putExact_65 Q K = J at *
      rw [e1] at q1
      simp only [q_c, x_iload, x_lload, x_aload, q_istore, q_lstore, q_astore, q_astore2, x_iinc, q_iadd, q_isub, q_imul, q_iand, q_ior, q_ixor, q_ladd, q_lsub, q_lmul, q_land, q_lor, q_lxor, q_idiv, q_irem, q_ldiv, q_lrem, q_ineg, q_lneg, q_ishl, q_ishr, q_iushr, q_lshl, q_lshr, q_lushr, q_i2l, q_l2i, q_i2b, q_i2c, q_lcmp, q_if_eq, q_if_ne, q_if_lt, q_if_ge, q_if_gt, q_if_le, q_icmp_eq, q_icmp_ne, q_icmp_lt, q_icmp_ge, q_icmp_gt, q_icmp_le, q_dup, q_pop, q_dup_x1, q_dup2, x_iret, x_zret, x_lret, x_aret, x_vret, x_call, x_callv, x_calli, x_oinit, x_mmax, x_mmin, x_mabs, x_mmaxL, x_mminL, x_mabsL, lg_cmp_ge, lg_cmp_le, lg_cmp_gt, lg_cmp_lt, lg_cmp_eq, xlk, q_xs1, q_xs2, lv_args, Value.category, List.filter_cons, List.filter_nil, Nat.reduceAdd, Nat.reduceBEq, Nat.reduceEqDiff, Nat.reduceSub, Nat.sub_zero, beq_self_eq_true, Bool.not_true, Bool.not_false, Bool.and_true, Bool.and_false, Bool.true_and, Bool.false_and, reduceIte, reduceCtorEq, Bool.false_eq_true, Nat.one_ne_zero, Nat.zero_ne_one, Nat.zero_add, Option.toList_some, Option.toList_none, List.nil_append, List.cons_append, List.take_succ_cons, List.take_zero, List.take_nil, List.drop_succ_cons, List.drop_zero, List.length_cons, List.length_nil, List.reverse_cons, List.reverse_nil, List.head?_cons, List.map_cons, List.map_nil, List.sum_cons, List.sum_nil, true_and, and_true, List.getElem?_cons_zero, List.getElem?_cons_succ, Prod.eta, x_iast, x_bald, x_bast, x_last, x_alen, xup_s, xup_a1, xup_1a, xup_uu, nr_i, nr_l, nr_o, nr_a, ft_i, ft_l, ft_o, ft_a, Nat.reduceLT, i_cl0, i_cl1, i_n1, i_m1, List.set_cons_zero, List.set_cons_succ, Nat.reduceLeDiff, Nat.le_refl, Nat.zero_le, Nat.add_zero, x_no, x_ifnull, x_ifnonnull, x_acmp_eq, x_acmp_ne, x_swl, x_tsw, x_castC, true_or, or_true, nr_z, ft_z, nr_z0, nr_z1, ft_z0, ft_z1, nr_on, nr_an, ft_on, ft_an, e1, q1]
      refine ⟨fun y => by omega, fun _ => ?_⟩
      simp only [q_c, x_iload, x_lload, x_aload, q_istore, q_lstore, q_astore, q_astore2, x_iinc, q_iadd, q_isub, q_imul, q_iand, q_ior, q_ixor, q_ladd, q_lsub, q_lmul, q_land, q_lor, q_lxor, q_idiv, q_irem, q_ldiv, q_lrem, q_ineg, q_lneg, q_ishl, q_ishr, q_iushr, q_lshl, q_lshr, q_lushr, q_i2l, q_l2i, q_i2b, q_i2c, q_lcmp, q_if_eq, q_if_ne, q_if_lt, q_if_ge, q_if_gt, q_if_le, q_icmp_eq, q_icmp_ne, q_icmp_lt, q_icmp_ge, q_icmp_gt, q_icmp_le, q_dup, q_pop, q_dup_x1, q_dup2, x_iret, x_zret, x_lret, x_aret, x_vret, x_call, x_callv, x_calli, x_oinit, x_mmax, x_mmin, x_mabs, x_mmaxL, x_mminL, x_mabsL, lg_cmp_ge, lg_cmp_le, lg_cmp_gt, lg_cmp_lt, lg_cmp_eq, xlk, q_xs1, q_xs2, lv_args, Value.category, List.filter_cons, List.filter_nil, Nat.reduceAdd, Nat.reduceBEq, Nat.reduceEqDiff, Nat.reduceSub, Nat.sub_zero, beq_self_eq_true, Bool.not_true, Bool.not_false, Bool.and_true, Bool.and_false, Bool.true_and, Bool.false_and, reduceIte, reduceCtorEq, Bool.false_eq_true, Nat.one_ne_zero, Nat.zero_ne_one, Nat.zero_add, Option.toList_some, Option.toList_none, List.nil_append, List.cons_append, List.take_succ_cons, List.take_zero, List.take_nil, List.drop_succ_cons, List.drop_zero, List.length_cons, List.length_nil, List.reverse_cons, List.reverse_nil, List.head?_cons, List.map_cons, List.map_nil, List.sum_cons, List.sum_nil, true_and, and_true, List.getElem?_cons_zero, List.getElem?_cons_succ, Prod.eta, x_iast, x_bald, x_bast, x_last, x_alen, xup_s, xup_a1, xup_1a, xup_uu, nr_i, nr_l, nr_o, nr_a, ft_i, ft_l, ft_o, ft_a, Nat.reduceLT, i_cl0, i_cl1, i_n1, i_m1, List.set_cons_zero, List.set_cons_succ, Nat.reduceLeDiff, Nat.le_refl, Nat.zero_le, Nat.add_zero, x_no, x_ifnull, x_ifnonnull, x_acmp_eq, x_acmp_ne, x_swl, x_tsw, x_castC, true_or, or_true, nr_z, ft_z, nr_z0, nr_z1, ft_z0, ft_z1, nr_on, nr_an, ft_on, ft_an, e2, e3, q3]
      refine ⟨fun y => ?_, fun y => ?_⟩
      · have := g65 (87 + d) (by unfold hxC; rw [if_neg (by omega)])
        rw [show (87 : Int32) + nI d = nI (87 + d) by rw [← iZ_nat, ← iZ_nat, show (87 : Int32) = iZ 87 from rfl, iZ_add]; congr 1]
        exact this
      · have := g65 (48 + d) (by unfold hxC; rw [if_pos (by omega)])
        rw [show (48 : Int32) + nI d = nI (48 + d) by rw [← iZ_nat, ← iZ_nat, show (48 : Int32) = iZ 48 from rfl, iZ_add]; congr 1]
        exact this
  · rintro av ⟨h, S2⟩ Q ⟨M, f, s, lo, hi, nn, ls, n, cs, os, o, l, rfl, hf, w, hr, hQ⟩
    dsimp only at *
    refine ⟨Nat.le_of_ble_eq_true rfl, ?_⟩
    have fe : f / 2 ^ 52 < 2048 := by omega
    have q2 : lN (f / 2 ^ 52) = 0 ↔ f / 2 ^ 52 = 0 := by rw [← lZ_nat, lz_e0 ⟨by omega, by omega⟩]; omega
    have e1 : ((lN f).toUInt64 >>> ((52 : Int32).toInt64.toUInt64 &&& Int64.toUInt64 63)).toInt64 = lN (f / 2 ^ 52) := wb_shr (k := 52) (by omega) (by decide)
    have goal : ∀ h2, fo h2 h M → wS h2 M s lo hi nn ls n cs os o (l ++ [48, 120, if f / 2 ^ 52 = 0 then 48 else 49, 46]) → (xInv cn_X14_putExact (I_X14_putExact Q)) [(5, .int 48), (3, .long (lN (f / 2 ^ 52))), (0, .ref M), (1, .long (lN f))] [] (h2, S2) := by
      intro h2 f2 w2
      refine ⟨rfl, 13, (M, f, 13), ⟨rfl, rfl, rfl, rfl, trivial⟩, rfl, by omega, hf, s, lo, hi, nn, ls, n, cs, os, o, _, l ++ exL f, w2, ?_, by rw [List.length_append]; show os + (l.length + 4) + _ + _ < _; omega, fun h3 f3 w3 => hQ h3 (f3.tr f2) w3⟩
      unfold exL
      rw [List.append_assoc]
    generalize hK : xInv cn_X14_putExact (I_X14_putExact Q) = K at *
    simp only [q_c, x_iload, x_lload, x_aload, q_istore, q_lstore, q_astore, q_astore2, x_iinc, q_iadd, q_isub, q_imul, q_iand, q_ior, q_ixor, q_ladd, q_lsub, q_lmul, q_land, q_lor, q_lxor, q_idiv, q_irem, q_ldiv, q_lrem, q_ineg, q_lneg, q_ishl, q_ishr, q_iushr, q_lshl, q_lshr, q_lushr, q_i2l, q_l2i, q_i2b, q_i2c, q_lcmp, q_if_eq, q_if_ne, q_if_lt, q_if_ge, q_if_gt, q_if_le, q_icmp_eq, q_icmp_ne, q_icmp_lt, q_icmp_ge, q_icmp_gt, q_icmp_le, q_dup, q_pop, q_dup_x1, q_dup2, x_iret, x_zret, x_lret, x_aret, x_vret, x_call, x_callv, x_calli, x_oinit, x_mmax, x_mmin, x_mabs, x_mmaxL, x_mminL, x_mabsL, lg_cmp_ge, lg_cmp_le, lg_cmp_gt, lg_cmp_lt, lg_cmp_eq, xlk, q_xs1, q_xs2, lv_args, Value.category, List.filter_cons, List.filter_nil, Nat.reduceAdd, Nat.reduceBEq, Nat.reduceEqDiff, Nat.reduceSub, Nat.sub_zero, beq_self_eq_true, Bool.not_true, Bool.not_false, Bool.and_true, Bool.and_false, Bool.true_and, Bool.false_and, reduceIte, reduceCtorEq, Bool.false_eq_true, Nat.one_ne_zero, Nat.zero_ne_one, Nat.zero_add, Option.toList_some, Option.toList_none, List.nil_append, List.cons_append, List.take_succ_cons, List.take_zero, List.take_nil, List.drop_succ_cons, List.drop_zero, List.length_cons, List.length_nil, List.reverse_cons, List.reverse_nil, List.head?_cons, List.map_cons, List.map_nil, List.sum_cons, List.sum_nil, true_and, and_true, List.getElem?_cons_zero, List.getElem?_cons_succ, Prod.eta, x_iast, x_bald, x_bast, x_last, x_alen, xup_s, xup_a1, xup_1a, xup_uu, nr_i, nr_l, nr_o, nr_a, ft_i, ft_l, ft_o, ft_a, Nat.reduceLT, i_cl0, i_cl1, i_n1, i_m1, List.set_cons_zero, List.set_cons_succ, Nat.reduceLeDiff, Nat.le_refl, Nat.zero_le, Nat.add_zero, x_no, x_ifnull, x_ifnonnull, x_acmp_eq, x_acmp_ne, x_swl, x_tsw, x_castC, true_or, or_true, nr_z, ft_z, nr_z0, nr_z1, ft_z0, ft_z1, nr_on, nr_an, ft_on, ft_an, b_X14_putExact_0, b_X14_putExact_21, e1, q2, x_str]
    refine ⟨fun y a ha => kk_txt w [48, 120, 49, 46] (by decide) (by decide) (by decide) ha (by show os + l.length + 4 < 200; omega) fun h2 f2 w2 => ?_, fun y a ha => kk_txt w [48, 120, 48, 46] (by decide) (by decide) (by decide) ha (by show os + l.length + 4 < 200; omega) fun h2 f2 w2 => ?_⟩
    · try simp only [q_c, x_iload, x_lload, x_aload, q_istore, q_lstore, q_astore, q_astore2, x_iinc, q_iadd, q_isub, q_imul, q_iand, q_ior, q_ixor, q_ladd, q_lsub, q_lmul, q_land, q_lor, q_lxor, q_idiv, q_irem, q_ldiv, q_lrem, q_ineg, q_lneg, q_ishl, q_ishr, q_iushr, q_lshl, q_lshr, q_lushr, q_i2l, q_l2i, q_i2b, q_i2c, q_lcmp, q_if_eq, q_if_ne, q_if_lt, q_if_ge, q_if_gt, q_if_le, q_icmp_eq, q_icmp_ne, q_icmp_lt, q_icmp_ge, q_icmp_gt, q_icmp_le, q_dup, q_pop, q_dup_x1, q_dup2, x_iret, x_zret, x_lret, x_aret, x_vret, x_call, x_callv, x_calli, x_oinit, x_mmax, x_mmin, x_mabs, x_mmaxL, x_mminL, x_mabsL, lg_cmp_ge, lg_cmp_le, lg_cmp_gt, lg_cmp_lt, lg_cmp_eq, xlk, q_xs1, q_xs2, lv_args, Value.category, List.filter_cons, List.filter_nil, Nat.reduceAdd, Nat.reduceBEq, Nat.reduceEqDiff, Nat.reduceSub, Nat.sub_zero, beq_self_eq_true, Bool.not_true, Bool.not_false, Bool.and_true, Bool.and_false, Bool.true_and, Bool.false_and, reduceIte, reduceCtorEq, Bool.false_eq_true, Nat.one_ne_zero, Nat.zero_ne_one, Nat.zero_add, Option.toList_some, Option.toList_none, List.nil_append, List.cons_append, List.take_succ_cons, List.take_zero, List.take_nil, List.drop_succ_cons, List.drop_zero, List.length_cons, List.length_nil, List.reverse_cons, List.reverse_nil, List.head?_cons, List.map_cons, List.map_nil, List.sum_cons, List.sum_nil, true_and, and_true, List.getElem?_cons_zero, List.getElem?_cons_succ, Prod.eta, x_iast, x_bald, x_bast, x_last, x_alen, xup_s, xup_a1, xup_1a, xup_uu, nr_i, nr_l, nr_o, nr_a, ft_i, ft_l, ft_o, ft_a, Nat.reduceLT, i_cl0, i_cl1, i_n1, i_m1, List.set_cons_zero, List.set_cons_succ, Nat.reduceLeDiff, Nat.le_refl, Nat.zero_le, Nat.add_zero, x_no, x_ifnull, x_ifnonnull, x_acmp_eq, x_acmp_ne, x_swl, x_tsw, x_castC, true_or, or_true, nr_z, ft_z, nr_z0, nr_z1, ft_z0, ft_z1, nr_on, nr_an, ft_on, ft_an]
      exact goal h2 f2 (by rw [if_neg y]; exact w2)
    · try simp only [q_c, x_iload, x_lload, x_aload, q_istore, q_lstore, q_astore, q_astore2, x_iinc, q_iadd, q_isub, q_imul, q_iand, q_ior, q_ixor, q_ladd, q_lsub, q_lmul, q_land, q_lor, q_lxor, q_idiv, q_irem, q_ldiv, q_lrem, q_ineg, q_lneg, q_ishl, q_ishr, q_iushr, q_lshl, q_lshr, q_lushr, q_i2l, q_l2i, q_i2b, q_i2c, q_lcmp, q_if_eq, q_if_ne, q_if_lt, q_if_ge, q_if_gt, q_if_le, q_icmp_eq, q_icmp_ne, q_icmp_lt, q_icmp_ge, q_icmp_gt, q_icmp_le, q_dup, q_pop, q_dup_x1, q_dup2, x_iret, x_zret, x_lret, x_aret, x_vret, x_call, x_callv, x_calli, x_oinit, x_mmax, x_mmin, x_mabs, x_mmaxL, x_mminL, x_mabsL, lg_cmp_ge, lg_cmp_le, lg_cmp_gt, lg_cmp_lt, lg_cmp_eq, xlk, q_xs1, q_xs2, lv_args, Value.category, List.filter_cons, List.filter_nil, Nat.reduceAdd, Nat.reduceBEq, Nat.reduceEqDiff, Nat.reduceSub, Nat.sub_zero, beq_self_eq_true, Bool.not_true, Bool.not_false, Bool.and_true, Bool.and_false, Bool.true_and, Bool.false_and, reduceIte, reduceCtorEq, Bool.false_eq_true, Nat.one_ne_zero, Nat.zero_ne_one, Nat.zero_add, Option.toList_some, Option.toList_none, List.nil_append, List.cons_append, List.take_succ_cons, List.take_zero, List.take_nil, List.drop_succ_cons, List.drop_zero, List.length_cons, List.length_nil, List.reverse_cons, List.reverse_nil, List.head?_cons, List.map_cons, List.map_nil, List.sum_cons, List.sum_nil, true_and, and_true, List.getElem?_cons_zero, List.getElem?_cons_succ, Prod.eta, x_iast, x_bald, x_bast, x_last, x_alen, xup_s, xup_a1, xup_1a, xup_uu, nr_i, nr_l, nr_o, nr_a, ft_i, ft_l, ft_o, ft_a, Nat.reduceLT, i_cl0, i_cl1, i_n1, i_m1, List.set_cons_zero, List.set_cons_succ, Nat.reduceLeDiff, Nat.le_refl, Nat.zero_le, Nat.add_zero, x_no, x_ifnull, x_ifnonnull, x_acmp_eq, x_acmp_ne, x_swl, x_tsw, x_castC, true_or, or_true, nr_z, ft_z, nr_z0, nr_z1, ft_z0, ft_z1, nr_on, nr_an, ft_on, ft_an]
      exact goal h2 f2 (by rw [if_pos y]; exact w2)
