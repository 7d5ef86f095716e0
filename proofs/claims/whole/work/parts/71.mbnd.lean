/-! bounds of numbers that are read -/
theorem rdG_b {B : Nat} {t : Nat → Nat} (hB : B = 10 ∨ B = 16) : ∀ (k p : Nat) (pt : Bool) (dg sc v : Nat) {p' dg' sc' v' : Nat}, rdG B t k p pt dg sc v = (p', dg', sc', v') → v < 16 ^ dg → v' < 16 ^ dg' ∧ dg' ≤ dg + k ∧ sc' ≤ sc + k := by
  intro k
  induction k with
  | zero =>
    intro p pt dg sc v p' dg' sc' v' e hv
    simp only [rdG, Prod.mk.injEq] at e
    obtain ⟨-, rfl, rfl, rfl⟩ := e
    exact ⟨hv, by omega, by omega⟩
  | succ k ih =>
    intro p pt dg sc v p' dg' sc' v' e hv
    simp only [rdG] at e
    split at e
    · rename_i c
      split at e
      · have := ih _ _ _ _ _ e hv
        exact ⟨this.1, by omega, by omega⟩
      · rename_i d
        have hx : hxB (t p) < B := c.elim id (fun y => absurd y.1 d)
        have := ih _ _ _ _ _ e (dig_b hv hx hB)
        refine ⟨this.1, by omega, ?_⟩
        have h2 := this.2.2
        split at h2 <;> omega
    · simp only [Prod.mk.injEq] at e
      obtain ⟨-, rfl, rfl, rfl⟩ := e
      exact ⟨hv, by omega, by omega⟩
theorem ten2 {k : Nat} (h : k ≤ 1400) : 10 ^ k ≤ 2 ^ 4670 := by
  have a : (10 : Nat) ^ k ≤ 10 ^ (3 * 467) := Nat.pow_le_pow_right (by decide) (by omega)
  have b : (10 : Nat) ^ (3 * 467) = (10 ^ 3) ^ 467 := Nat.pow_mul 10 3 467
  have c : ((10 : Nat) ^ 3) ^ 467 ≤ (2 ^ 10) ^ 467 := Nat.pow_le_pow_left (by decide) 467
  have d : ((2 : Nat) ^ 10) ^ 467 = 2 ^ 4670 := (Nat.pow_mul 2 10 467).symm
  omega
theorem ten3 {k : Nat} (h : k ≤ 999) : 10 ^ k ≤ 2 ^ 3330 := by
  have a : (10 : Nat) ^ k ≤ 10 ^ (3 * 333) := Nat.pow_le_pow_right (by decide) (by omega)
  have b : (10 : Nat) ^ (3 * 333) = (10 ^ 3) ^ 333 := Nat.pow_mul 10 3 333
  have c : ((10 : Nat) ^ 3) ^ 333 ≤ (2 ^ 10) ^ 333 := Nat.pow_le_pow_left (by decide) 333
  have d : ((2 : Nat) ^ 10) ^ 333 = 2 ^ 3330 := (Nat.pow_mul 2 10 333).symm
  omega
theorem h16 {v k : Nat} (hv : v < 16 ^ k) (hk : k ≤ 400) : v < 2 ^ 1600 := by
  have a : (16 : Nat) ^ k ≤ 16 ^ 400 := Nat.pow_le_pow_right (by decide) hk
  have b : (16 : Nat) ^ 400 = 2 ^ 1600 := by rw [show (16 : Nat) = 2 ^ 4 from rfl, ← Nat.pow_mul]
  omega
theorem nTx_b {t : Nat → Nat} {f e P q : Nat} {x : Int} (h : nTx t f e P q x) (e4 : e ≤ 400) : P < 2 ^ 4940 ∧ q < 2 ^ 4940 ∧ q ≠ 0 := by
  have l1 : (2 : Nat) ^ 1600 ≤ 2 ^ 4940 := Nat.pow_le_pow_right (by decide) (by decide)
  have l2 : (2 : Nat) ^ 4670 < 2 ^ 4940 := Nat.pow_lt_pow_right (by decide) (by decide)
  have l0 : (1 : Nat) < 2 ^ 4940 := Nat.lt_of_lt_of_le (by decide : 1 < 2 ^ 1) (Nat.pow_le_pow_right (by decide) (by decide))
  rcases h with ⟨-, k, dg, sc, er, d0, -, -, -, rfl, -⟩ | ⟨-, -, sl, hs, hr, rfl, rfl, -⟩ | ⟨-, -, k, dg, sc, v, er, d0, -, E, hE, rfl, rfl⟩
  · obtain ⟨b1, b2, b3⟩ := rdG_b (Or.inr rfl) _ _ _ _ _ _ er (by decide)
    have := h16 b1 (by omega)
    exact ⟨by omega, l0, by decide⟩
  · unfold raB at hr
    simp only [Bool.and_eq_true, decide_eq_true_eq] at hr
    obtain ⟨⟨⟨⟨c1, c2⟩, c3⟩, c4⟩, c5⟩ := hr
    have hd : ∀ {p k}, alB t p k = true → k ≤ 400 → dcV t p k < 2 ^ 1600 := fun {p k} y z => h16 (Nat.lt_of_lt_of_le (dcV_lt y) (Nat.pow_le_pow_left (by decide) k)) z
    have s1 := hs.2.1
    have a1 := hd c3 (by omega)
    have a2 := hd c4 (by omega)
    exact ⟨by omega, by omega, c5⟩
  · obtain ⟨b1, b2, b3⟩ := rdG_b (Or.inl rfl) _ _ _ _ _ _ er (by decide)
    have hv := h16 b1 (by omega)
    have Eb : -1000 < E ∧ E < 1000 := by
      rcases hE with y | y
      · omega
      · have := exV_b y.2.2.1
        have e3 : ((10 ^ 3 : Nat) : Int) = 1000 := by decide
        rw [e3] at this
        omega
    refine ⟨?_, ?_, ten_ne _⟩
    · have a := ten3 (k := (E - sc).toNat) (by omega)
      have b : v * 10 ^ (E - sc).toNat ≤ 2 ^ 1600 * 2 ^ 3330 := Nat.mul_le_mul (Nat.le_of_lt hv) a
      rw [← Nat.pow_add] at b
      have c : (2 : Nat) ^ (1600 + 3330) < 2 ^ 4940 := Nat.pow_lt_pow_right (by decide) (by decide)
      omega
    · have a := ten2 (k := (-(E - sc)).toNat) (by omega)
      rw [Nat.one_mul]
      omega
theorem nTx_q {t : Nat → Nat} {f e P q f' e' P' q' : Nat} {x x' : Int} (h : nTx t f e P q x) (e4 : e ≤ 400) (h' : nTx t f' e' P' q' x') (e4' : e' ≤ 400) : P < 65536 ^ 639 ∧ 2 ^ 53 * q < 65536 ^ 639 ∧ P * q' < 65536 ^ 639 := by
  obtain ⟨a1, a2, -⟩ := nTx_b h e4
  obtain ⟨b1, b2, -⟩ := nTx_b h' e4'
  have e1 : (65536 : Nat) ^ 639 = 2 ^ 10224 := by rw [show (65536 : Nat) = 2 ^ 16 from rfl, ← Nat.pow_mul]
  have l1 : (2 : Nat) ^ 4940 < 2 ^ 10224 := Nat.pow_lt_pow_right (by decide) (by decide)
  have l2 : (2 : Nat) ^ (53 + 4940) < 2 ^ 10224 := Nat.pow_lt_pow_right (by decide) (by decide)
  have l3 : (2 : Nat) ^ (4940 + 4940) < 2 ^ 10224 := Nat.pow_lt_pow_right (by decide) (by decide)
  rw [e1]
  refine ⟨by omega, ?_, ?_⟩
  · have : 2 ^ 53 * q ≤ 2 ^ 53 * 2 ^ 4940 := Nat.mul_le_mul_left _ (Nat.le_of_lt a2)
    rw [← Nat.pow_add] at this
    omega
  · have : P * q' ≤ 2 ^ 4940 * 2 ^ 4940 := Nat.mul_le_mul (Nat.le_of_lt a1) (Nat.le_of_lt b2)
    rw [← Nat.pow_add] at this
    omega
