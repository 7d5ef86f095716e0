/-! what is read is small enough -/
theorem ft_no {P : Prop} (h : false = true) : P := absurd h (by decide)
theorem tf_no {P : Prop} (h : true = false) : P := absurd h (by decide)
theorem n1_0 : (1 : Nat) ≠ 0 := by decide
theorem p5_1 {k : Nat} (hk : k ≤ 1399) : nb (5 ^ k) ≤ 3270 := by
  refine nb_mono_lt ?_
  have a : (5 : Nat) ^ k ≤ 5 ^ (3 * 467) := Nat.pow_le_pow_right (by decide) (by omega)
  have b : (5 : Nat) ^ (3 * 467) = (5 ^ 3) ^ 467 := Nat.pow_mul 5 3 467
  have c : ((5 : Nat) ^ 3) ^ 467 ≤ (2 ^ 7) ^ 467 := Nat.pow_le_pow_left (by decide) 467
  have d : ((2 : Nat) ^ 7) ^ 467 = 2 ^ 3269 := (Nat.pow_mul 2 7 467).symm
  have e : (2 : Nat) ^ 3269 < 2 ^ 3270 := Nat.pow_lt_pow_right (by decide) (by decide)
  omega
theorem p5_2 {k : Nat} (hk : k ≤ 999) : 5 ^ k ≤ 2 ^ 2331 := by
  have a : (5 : Nat) ^ k ≤ 5 ^ (3 * 333) := Nat.pow_le_pow_right (by decide) (by omega)
  have b : (5 : Nat) ^ (3 * 333) = (5 ^ 3) ^ 333 := Nat.pow_mul 5 3 333
  have c : ((5 : Nat) ^ 3) ^ 333 ≤ (2 ^ 7) ^ 333 := Nat.pow_le_pow_left (by decide) 333
  have d : ((2 : Nat) ^ 7) ^ 333 = 2 ^ 2331 := (Nat.pow_mul 2 7 333).symm
  omega
theorem p5_3 {v k : Nat} (hv : v < 2 ^ 1602) (hk : k ≤ 999) : nb (v * 5 ^ k) ≤ 3940 := by
  refine nb_mono_lt ?_
  have a : v * 5 ^ k ≤ 2 ^ 1602 * 2 ^ 2331 := Nat.mul_le_mul (Nat.le_of_lt hv) (p5_2 hk)
  rw [← Nat.pow_add] at a
  exact Nat.lt_of_le_of_lt a (Nat.pow_lt_pow_right (by decide) (by decide))
theorem kd_ten {s e M : Int} {i : Bool} {v : Nat} (hv : v < 2 ^ 1602) (he : -1 ≤ e ∧ e ≤ 0) (h1 : -1399 ≤ M) (h2 : M ≤ 999) : kdL (s, e + M, i, v * 5 ^ M.toNat, 1 * 5 ^ (-M).toNat) := by
  have n1 := nb_1
  have nv : nb v ≤ 1602 := nb_mono_lt hv
  rcases (show M = 0 ∨ 0 < M ∨ M < 0 by omega) with rfl | c | c
  · refine Or.inr ⟨?_, ?_, Or.inl ?_⟩
    · show nb (v * 5 ^ 0) ≤ 1610
      rw [Nat.pow_zero, Nat.mul_one]
      omega
    · show nb (1 * 5 ^ 0) ≤ 3300
      rw [Nat.pow_zero, Nat.mul_one]
      omega
    · show nb (1 * 5 ^ 0) ≤ 1610
      rw [Nat.pow_zero, Nat.mul_one]
      omega
  · refine Or.inl ⟨?_, ?_, ?_⟩
    · show 1 * 5 ^ (-M).toNat = 1
      rw [show (-M).toNat = 0 by omega, Nat.pow_zero]
    · show 0 ≤ e + M
      omega
    · exact p5_3 hv (by omega)
  · refine Or.inr ⟨?_, ?_, Or.inr ?_⟩
    · show nb (v * 5 ^ M.toNat) ≤ 1610
      rw [show M.toNat = 0 by omega, Nat.pow_zero, Nat.mul_one]
      omega
    · show nb (1 * 5 ^ (-M).toNat) ≤ 3300
      rw [Nat.one_mul]
      have := p5_1 (k := (-M).toNat) (by omega)
      omega
    · show e + M ≤ 0
      omega
theorem kd_sm {s e : Int} {i : Bool} {v q : Nat} (hv : v < 2 ^ 1602) (hq : q < 2 ^ 1602) : kdL (s, e, i, v, q) := by
  have nv : nb v ≤ 1602 := nb_mono_lt hv
  have nq : nb q ≤ 1602 := nb_mono_lt hq
  exact Or.inr ⟨by show nb v ≤ 1610; omega, by show nb q ≤ 3300; omega, Or.inl (by show nb q ≤ 1610; omega)⟩
theorem one_sm : (1 : Nat) < 2 ^ 1602 := Nat.lt_of_lt_of_le (by decide : 1 < 2 ^ 1) (Nat.pow_le_pow_right (by decide) (by decide))
theorem up_sm {v : Nat} (h : v < 2 ^ 1600) : v < 2 ^ 1602 := Nat.lt_of_lt_of_le h (Nat.pow_le_pow_right (by decide) (by decide))
theorem p5_ne (k : Nat) : 5 ^ k ≠ 0 := Nat.ne_of_gt (Nat.pow_pos (by decide))
theorem sgV_c (t : Nat → Nat) (n p : Nat) : sgV t n p = 1 ∨ sgV t n p = -1 := by
  unfold sgV
  split
  · exact Or.inr rfl
  · exact Or.inl rfl
theorem nE_b {t : Nat → Nat} {n k p' : Nat} {g0 ok : Bool} {E : Int} (h : nmE t n k g0 ok p' E) : -999 ≤ E ∧ E ≤ 999 := by
  rcases h with ⟨k1, k2, d, ⟨d1, d2, d3, d4⟩, hp', hEv, ok⟩ | ⟨k1, hp', hEv, ok⟩
  · have := dcV_lt d3
    have b : 10 ^ d ≤ 10 ^ 3 := Nat.pow_le_pow_right (by decide) d1
    rcases sgV_c t n (k + 1) with c | c <;> rw [c] at hEv <;> omega
  · omega
theorem nm_k {t : Nat → Nat} {n p p' : Nat} {s e : Int} {P q : Nat} (h : nmO t n p true p' s e P q) (hn : n ≤ 400) : rLw (s, e, false, P, q) ∧ kdL (s, e, false, P, q) := by
  obtain ⟨k, dg, sc, v, hs, h⟩ := h
  have s1 : -1 ≤ s ∧ s ≤ 1 := by
    rw [hs]
    rcases sgV_c t n p with c | c <;> rw [c] <;> split <;> decide
  have s2 : s ≠ 0 → v ≠ 0 := fun a b => a (by rw [hs, if_pos b])
  have i0 : (false = true → s ≠ 0) := fun a => absurd a (by decide)
  rcases h with ⟨hw, er, k1, d, hk1, hd, hp', he, hP, hq, ok⟩ | ⟨hw, er, h⟩
  · obtain ⟨b1, b2, b3⟩ := rdG_b (Or.inr rfl) _ _ _ _ _ _ er (by decide)
    subst hP hq
    exact ⟨⟨s1, i0, s2, n1_0⟩, kd_sm (up_sm (h16 b1 (by omega))) one_sm⟩
  · obtain ⟨b1, b2, b3⟩ := rdG_b (Or.inl rfl) _ _ _ _ _ _ er (by decide)
    have hv := up_sm (h16 b1 (by omega))
    rcases h with ⟨h1, h2, h3, dg2, sc2, er2, rfl, rfl, ok⟩ | ⟨h1, E, hE, hv'⟩
    · obtain ⟨c1, c2, c3⟩ := rdG_b (Or.inl rfl) _ _ _ _ _ _ er2 (by decide)
      rw [eq_comm, Bool.and_eq_true, Bool.and_eq_true, decide_eq_true_iff, decide_eq_true_iff, decide_eq_true_iff] at ok
      exact ⟨⟨s1, i0, s2, by show q ≠ 0; omega⟩, kd_sm hv (up_sm (h16 c1 (by omega)))⟩
    · have eb := nE_b hE
      have pl := pl_sc (by decide) er
      rw [pl] at hv'
      rcases hv' with ⟨z1, z2, z3, z4⟩ | ⟨z1, z2, z3, z4⟩
      · subst z3 z4
        exact ⟨⟨s1, i0, s2, n1_0⟩, kd_sm hv one_sm⟩
      · subst z2 z3 z4
        exact ⟨⟨s1, i0, fun a => Nat.mul_ne_zero (s2 a) (p5_ne _), by show 1 * 5 ^ _ ≠ 0; rw [Nat.one_mul]; exact p5_ne _⟩, kd_ten hv (by decide) (by omega) (by omega)⟩
theorem in_w : rLw infL ∧ kdL infL ∧ rLw infH ∧ kdL infH := by
  have h : (2 : Nat) ^ 52 < 2 ^ 1602 := Nat.pow_lt_pow_right (by decide) (by decide)
  exact ⟨⟨by decide, by decide, fun _ => Nat.ne_of_gt (Nat.two_pow_pos 52), by decide⟩, kd_sm h one_sm, ⟨by decide, by decide, fun _ => Nat.ne_of_gt (Nat.two_pow_pos 52), by decide⟩, kd_sm h one_sm⟩
theorem tn_k {M : Int} {a : rL} (hz : sz1 a 1602) (ha : rLw a) (h1 : -1399 ≤ M) (h2 : M ≤ 999) : rLw (tnL M a) ∧ kdL (tnL M a) := by
  obtain ⟨s, e, i, P, q⟩ := a
  obtain ⟨z1, z2, z3⟩ := hz
  obtain ⟨a1, a2, a3, a4⟩ := ha
  dsimp only at *
  subst z2
  unfold tnL
  dsimp only
  split
  · exact ⟨⟨a1, a2, a3, a4⟩, kd_sm z1 one_sm⟩
  · rename_i c
    have i0 : i = false := by
      cases i
      · rfl
      · exact absurd rfl c
    subst i0
    exact ⟨⟨a1, a2, fun x => Nat.mul_ne_zero (a3 x) (p5_ne _), by show 1 * 5 ^ _ ≠ 0; rw [Nat.one_mul]; exact p5_ne _⟩, kd_ten z1 (z3 rfl) h1 h2⟩
theorem sm_w {a b : rL} (ha : rLw a) (hb : rLw b) : rLw (smL a b) := by
  unfold smL
  split
  · exact ha
  · split
    · exact hb
    · obtain ⟨a1, -⟩ := ha
      obtain ⟨b1, -⟩ := hb
      refine ⟨?_, fun x => ft_no x, fun x => ?_, n1_0⟩
      · dsimp only
        split
        · decide
        · split
          · exact b1
          · exact a1
      · dsimp only at x ⊢
        intro y
        rw [if_pos y] at x
        exact x rfl
theorem sz_upL {a : rL} (h : sz1 a 1600) : sz1 a 1602 := ⟨up_sm h.1, h.2⟩
theorem un_k {t : Nat → Nat} {n p p' : Nat} {ok op : Bool} {a b : rL} (h : unO t n p ok op p' a b) (hn : n ≤ 400) : (rLw a ∧ kdL a) ∧ rLw b ∧ kdL b := by
  obtain ⟨k, dg, sc, v, k1, c1, k2, s, e, i, v2, up, k3, dn, k4, E, er, -, -, hra, -, -, -, -, hE, ha, hb⟩ := h
  obtain ⟨b1, b2, b3⟩ := rdG_b (Or.inl rfl) _ _ _ _ _ _ er (by decide)
  have hv := h16 b1 (by omega)
  have pl := pl_sc (by decide) er
  have eb := nE_b hE
  rw [pl] at ha hb
  have m1 : -1399 ≤ E - (sc : Int) := by omega
  have m2 : E - (sc : Int) ≤ 999 := by omega
  have mz : sz1 (mdU t n p v) 1600 := ⟨hv, rfl, fun _ => show -1 ≤ (0 : Int) ∧ (0 : Int) ≤ 0 by decide⟩
  have mw : rLw (mdU t n p v) := by
    refine ⟨?_, fun x => ft_no x, fun x y => x (if_pos y), n1_0⟩
    show -1 ≤ (if v = 0 then 0 else sgV t n p) ∧ (if v = 0 then 0 else sgV t n p) ≤ 1
    rcases sgV_c t n p with c | c <;> rw [c] <;> split <;> decide
  have one : (1 : Nat) < 2 ^ 1600 := Nat.lt_of_lt_of_le (by decide : 1 < 2 ^ 1) (Nat.pow_le_pow_right (by decide) (by decide))
  have rad : ∀ s', s' = s ∨ s' = -s → sz1 (s', e, i, v2, 1) 1600 ∧ rLw (s', e, i, v2, 1) := by
    intro s' hs'
    rcases hra with ⟨h1, h2, h3, h4, h5, h6, h7, h8⟩ | ⟨h1, h2, h3, dg2, sc2, w, er2, h4⟩
    · subst h5 h6 h7 h8
      refine ⟨⟨Nat.pow_lt_pow_right (by decide) (by decide), rfl, fun x => tf_no x⟩, by show -1 ≤ s' ∧ s' ≤ 1; omega, fun _ => by show s' ≠ 0; omega, fun _ => Nat.ne_of_gt (Nat.two_pow_pos 52), n1_0⟩
    · obtain ⟨c1, c2, c3⟩ := rdG_b (Or.inl rfl) _ _ _ _ _ _ er2 (by decide)
      have hw := h16 c1 (by omega)
      subst h3
      rcases h4 with ⟨d1, d2, d3, d4⟩ | ⟨d1, d2, d3, d4⟩
      · subst d2 d3
        refine ⟨⟨hw, rfl, fun _ => show -1 ≤ (0 : Int) ∧ (0 : Int) ≤ 0 by decide⟩, ?_, fun x => ft_no x, fun x y => ?_, n1_0⟩
        · show -1 ≤ s' ∧ s' ≤ 1
          split at d4 <;> omega
        · have x' : s' ≠ 0 := x
          have y' : v2 = 0 := y
          rw [if_pos y'] at d4
          omega
      · subst d2 d3 d4
        refine ⟨⟨one, rfl, fun _ => show -1 ≤ (-1 : Int) ∧ (-1 : Int) ≤ 0 by decide⟩, by show -1 ≤ s' ∧ s' ≤ 1; omega, fun x => ft_no x, fun x => n1_0, n1_0⟩
  have r1 := rad (-s) (Or.inr rfl)
  have r2 := rad s (Or.inl rfl)
  constructor
  · rw [ha]
    cases up
    · exact tn_k (smL_z mz r1.1) (sm_w mw r1.2) m1 m2
    · exact tn_k (sz_upL mz) mw m1 m2
  · rw [hb]
    cases dn
    · exact tn_k (smL_z mz r2.1) (sm_w mw r2.2) m1 m2
    · exact tn_k (sz_upL mz) mw m1 m2
