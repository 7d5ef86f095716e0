/-! products, quotients and sums of exact numbers -/
theorem p639 {n k : Nat} (h : n ≤ 2 ^ k) (hk : k < 10224) : n < 65536 ^ 639 := by
  rw [show (65536 : Nat) ^ 639 = 2 ^ (16 * 639) by rw [Nat.pow_mul]]
  exact Nat.lt_of_le_of_lt h (Nat.pow_lt_pow_right (by decide) (by omega))
theorem p640 {n k : Nat} (h : n ≤ 2 ^ k) (hk : k < 10240) : n < 65536 ^ 640 := by
  rw [show (65536 : Nat) ^ 640 = 2 ^ (16 * 640) by rw [Nat.pow_mul]]
  exact Nat.lt_of_le_of_lt h (Nat.pow_lt_pow_right (by decide) (by omega))
theorem si_mul (b1 b2 : Bool) (p1 p2 : Nat) : si (b1 != b2) (p1 * p2) = si b1 p1 * si b2 p2 := by
  cases b1 <;> cases b2 <;> simp [si, Int.neg_mul, Int.mul_neg]
theorem nval_mul (b1 b2 : Bool) (p1 q1 p2' q2 : Nat) (e1 e2 : Int) : nval (b1 != b2) (p1 * p2') (q1 * q2) (e1 + e2) = nval b1 p1 q1 e1 * nval b2 p2' q2 e2 := by
  unfold nval
  rw [si_mul, p2_add, Rat.intCast_mul, Rat.natCast_mul]
  generalize (si b1 p1 : Rat) = x
  generalize (si b2 p2' : Rat) = y
  generalize p2 e1 = u
  generalize p2 e2 = v
  rw [Rat.div_def, Rat.div_def, Rat.div_def, Rat.inv_mul_rev]
  grind
theorem nval_can (b : Bool) (p q : Nat) (e : Int) {c : Nat} (hc : c ≠ 0) : nval b (p * c) (q * c) e = nval b p q e := by
  unfold nval
  have h1 : si b (p * c) = si b p * (c : Int) := by cases b <;> simp [si, Int.neg_mul]
  rw [h1, Rat.intCast_mul, Rat.natCast_mul, Rat.intCast_natCast, Rat.div_def, Rat.div_def, Rat.inv_mul_rev]
  have hc' : (c : Rat) ≠ 0 := by
    intro z
    exact hc (Rat.natCast_inj.mp (by rw [z]; rfl))
  have := Rat.mul_inv_cancel (c : Rat) hc'
  generalize (si b p : Rat) = x
  generalize ((q : Rat))⁻¹ = y
  generalize ((c : Rat))⁻¹ = z at *
  generalize (c : Rat) = w at *
  grind
theorem nval_ne0 {b : Bool} {p q : Nat} (e : Int) (hp : p ≠ 0) (hq : q ≠ 0) : nval b p q e ≠ 0 := by
  have h := nval_pos e hp hq
  cases b
  · rw [nval_f]; grind
  · rw [nval_t]; grind
theorem nval_div (b1 b2 : Bool) (p1 q1 : Nat) {p2' q2 : Nat} (e1 e2 : Int) (hp : p2' ≠ 0) (hq : q2 ≠ 0) : nval (b1 != b2) (p1 * q2) (q1 * p2') (e1 - e2) = nval b1 p1 q1 e1 / nval b2 p2' q2 e2 := by
  have h := nval_mul (b1 != b2) b2 (p1 * q2) (q1 * p2') p2' q2 (e1 - e2) e2
  rw [show ((b1 != b2) != b2) = b1 by cases b1 <;> cases b2 <;> rfl, show e1 - e2 + e2 = e1 by omega, Nat.mul_assoc, Nat.mul_assoc, Nat.mul_comm p2' q2, nval_can b1 p1 q1 e1 (Nat.mul_ne_zero hq hp)] at h
  have hn := nval_ne0 (b := b2) e2 hp hq
  rw [Rat.div_def, h, Rat.mul_assoc, Rat.mul_inv_cancel _ hn, Rat.mul_one]
theorem nval_1 (b : Bool) (p : Nat) (e : Int) : nval b p 1 e = (si b p : Rat) * p2 e := by
  unfold nval
  rw [show ((1 : Nat) : Rat) = 1 from rfl, Rat.div_def, show (1 : Rat)⁻¹ = 1 by decide +kernel, Rat.mul_one]
theorem si_0 (b : Bool) : si b 0 = 0 := by cases b <;> rfl
theorem si_scale (b : Bool) (p c : Nat) : si b (p * c) = si b p * (c : Int) := by cases b <;> simp [si, Int.neg_mul]
theorem plusR_val {b1 b2 b3 : Bool} {p1 p2' p3 : Nat} {e1 e2 e3 : Int} (h : plusR b1 p1 e1 b2 p2' e2 b3 p3 e3) : nval b3 p3 1 e3 = nval b1 p1 1 e1 + nval b2 p2' 1 e2 := by
  obtain ⟨h1, h2, h3⟩ := h
  by_cases z1 : p1 = 0
  · obtain ⟨rfl, rfl, rfl⟩ := h1 z1
    rw [z1, nval_0, Rat.zero_add]
  · by_cases z2 : p2' = 0
    · obtain ⟨rfl, rfl, rfl⟩ := h2 z1 z2
      rw [z2, nval_0, Rat.add_zero]
    · obtain ⟨rfl, g⟩ := h3 z1 z2
      rw [nval_1, nval_1, nval_1, g, si_scale, si_scale, Rat.intCast_add, Rat.intCast_mul, Rat.intCast_mul, Rat.intCast_natCast, Rat.intCast_natCast]
      rw [p2_split (e := e1) (m := min e1 e2) (by omega), p2_split (e := e2) (m := min e1 e2) (by omega)]
      generalize (si b1 p1 : Rat) = x
      generalize (si b2 p2' : Rat) = y
      generalize ((2 ^ (e1 - min e1 e2).toNat : Nat) : Rat) = u
      generalize ((2 ^ (e2 - min e1 e2).toNat : Nat) : Rat) = v
      generalize p2 (min e1 e2) = w
      grind
theorem plusR_le {b1 b2 b3 : Bool} {p1 p2' p3 : Nat} {e1 e2 e3 : Int} (h : plusR b1 p1 e1 b2 p2' e2 b3 p3 e3) : p3 ≤ p1 * 2 ^ (e1 - min e1 e2).toNat + p2' * 2 ^ (e2 - min e1 e2).toNat := by
  obtain ⟨h1, h2, h3⟩ := h
  have t1 : p1 ≤ p1 * 2 ^ (e1 - min e1 e2).toNat := Nat.le_mul_of_pos_right _ (Nat.two_pow_pos _)
  have t2 : p2' ≤ p2' * 2 ^ (e2 - min e1 e2).toNat := Nat.le_mul_of_pos_right _ (Nat.two_pow_pos _)
  by_cases z1 : p1 = 0
  · obtain ⟨-, rfl, -⟩ := h1 z1
    omega
  · by_cases z2 : p2' = 0
    · obtain ⟨-, rfl, -⟩ := h2 z1 z2
      omega
    · obtain ⟨-, g⟩ := h3 z1 z2
      generalize p1 * 2 ^ (e1 - min e1 e2).toNat = A at *
      generalize p2' * 2 ^ (e2 - min e1 e2).toNat = B at *
      cases b1 <;> cases b2 <;> cases b3 <;> simp only [si, Bool.false_eq_true, reduceIte] at g <;> omega
/-- the float of order k -/
def nuF (h : xH) (r : Nat) (k : Int) : Prop := nuR h r (decide (2 ^ 63 ≤ foB k)) (fP (foB k)) 1 (fX (foB k))
theorem nuF.Q {h : xH} {r : Nat} {k : Int} (n : nuF h r k) (hk : oF k) : nuQ h r (fval k) :=
  ⟨_, _, _, _, n, nval_fo hk.1 hk.2, by decide, p639 (Nat.le_of_lt (fP_lt _)) (by decide), p639 (k := 53) (by rw [Nat.mul_one]; exact Nat.le_refl _) (by decide)⟩
theorem fP_0 {k : Int} (hk : oF k) : fP (foB k) = 0 ↔ k = 0 := by
  have e := nval_fo hk.1 hk.2
  constructor
  · intro z
    rw [z, nval_0] at e
    rcases Int.lt_trichotomy k 0 with c | c | c
    · have := fval_lt c hk.1 (by omega)
      rw [← e, fval_0] at this
      exact absurd this Rat.lt_irrefl
    · exact c
    · have := fval_lt c (by omega) hk.2
      rw [← e, fval_0] at this
      exact absurd this Rat.lt_irrefl
  · intro z
    subst z
    decide
theorem fval_ne0 {k : Int} (hk : oF k) (h : k ≠ 0) : fval k ≠ 0 := by
  rw [← nval_fo hk.1 hk.2]
  exact nval_ne0 _ (fun z => h ((fP_0 hk).mp z)) (by decide)
theorem fval_le {a b : Int} (ha : oF a) (hb : oF b) : fval a ≤ fval b ↔ a ≤ b := by
  constructor
  · intro h
    rcases Int.lt_or_le b a with c | c
    · exact absurd (fval_lt c hb.1 ha.2) (Rat.not_lt.mpr h)
    · exact c
  · intro h
    rcases Int.lt_or_eq_of_le h with c | c
    · exact Rat.le_of_lt (fval_lt c ha.1 hb.2)
    · rw [c]; exact Rat.le_refl
theorem fval_ltI {a b : Int} (ha : oF a) (hb : oF b) : fval a < fval b ↔ a < b := by
  rw [← Rat.not_le, fval_le hb ha]
  omega
/-- rounding keeps the order -/
theorem dnS_mono {x y : Rat} {k j : Int} (h1 : dnS x k) (h2 : dnS y j) (h : x ≤ y) : k ≤ j := by
  rcases h1 with ⟨rfl, -⟩ | ⟨k1, k2, k3, k4⟩
  · have := dnS_oF h2
    omega
  · rcases h2 with ⟨rfl, c⟩ | ⟨j1, j2, j3, j4⟩
    · have := (fval_le (a := -9218868437227405311) (b := k) ⟨by omega, by omega⟩ ⟨by omega, by omega⟩).mpr k1
      grind
    · rcases Int.lt_or_le j k with c | c
      · have t := j4 (by omega)
        have := (fval_le (a := j + 1) (b := k) ⟨by omega, by omega⟩ ⟨by omega, by omega⟩).mpr (by omega)
        grind
      · exact c
/-- a float's own order -/
theorem dnS_f {k : Int} (h1 : -9218868437227405311 ≤ k) (h2 : k ≤ 9218868437227405311) : dnS (fval k) k :=
  Or.inr ⟨h1, h2, Rat.le_refl, fun _ => fval_lt (by omega) (by omega) (by omega)⟩
theorem dnF_f {k : Int} (h1 : -9218868437227405311 ≤ k) (h2 : k ≤ 9218868437227405311) : dnF (fval k) = k := (dnS_F (dnS_f h1 h2)).symm
theorem upF_f {k : Int} (h1 : -9218868437227405311 ≤ k) (h2 : k ≤ 9218868437227405311) : upF (fval k) = k := by
  unfold upF
  rw [← fval_neg, dnF_f (by omega) (by omega)]
  omega
