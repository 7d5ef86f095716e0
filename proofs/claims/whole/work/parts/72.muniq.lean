/-! a text is one number at most -/
theorem slP_u {t : Nat → Nat} {p e a a' : Nat} (h : slP t p e a) (h' : slP t p e a') : a = a' := by
  obtain ⟨a1, a2, a3, a4⟩ := h
  obtain ⟨b1, b2, b3, b4⟩ := h'
  rcases Nat.lt_trichotomy a a' with c | c | c
  · exact absurd a3 (b4 a a1 c)
  · exact c
  · exact absurd b3 (a4 a' b1 c)
theorem nTx_u {t : Nat → Nat} {f e P q P' q' : Nat} {x x' : Int} (h : nTx t f e P q x) (h' : nTx t f e P' q' x') : P = P' ∧ q = q' ∧ x = x' := by
  rcases h with ⟨c1, k, dg, sc, er, d0, -, -, -, rfl, rfl⟩ | ⟨c1, c2, sl, hs, hr, rfl, rfl, rfl⟩ | ⟨c1, c2, k, dg, sc, v, er, d0, rfl, E, hE, rfl, rfl⟩
  · rcases h' with ⟨-, k', dg', sc', er', -, -, -, -, rfl, rfl⟩ | ⟨y, -⟩ | ⟨y, -⟩
    · rw [er] at er'
      simp only [Prod.mk.injEq] at er'
      obtain ⟨rfl, rfl, rfl, rfl⟩ := er'
      exact ⟨rfl, rfl, rfl⟩
    · exact absurd c1 y
    · exact absurd c1 y
  · rcases h' with ⟨y, -⟩ | ⟨-, -, sl', hs', -, rfl, rfl, rfl⟩ | ⟨-, y, -⟩
    · exact absurd y c1
    · obtain rfl := slP_u hs hs'
      exact ⟨rfl, rfl, rfl⟩
    · exact absurd c2 y
  · rcases h' with ⟨y, -⟩ | ⟨-, y, -⟩ | ⟨-, -, k', dg', sc', v', er', -, rfl, E', hE', rfl, rfl⟩
    · exact absurd y c1
    · exact absurd y c2
    · rw [er] at er'
      simp only [Prod.mk.injEq] at er'
      obtain ⟨rfl, rfl, rfl, rfl⟩ := er'
      have : E = E' := by
        rcases hE with ⟨a1, a2⟩ | ⟨a1, a2, a3, a4⟩
        · rcases hE' with ⟨b1, b2⟩ | ⟨b1, b2, b3, b4⟩
          · omega
          · omega
        · rcases hE' with ⟨b1, b2⟩ | ⟨b1, b2, b3, b4⟩
          · omega
          · omega
      rw [this]
      exact ⟨rfl, rfl, rfl⟩
/-- blanks are left out: from the right, from the left -/
def rT (t : Nat → Nat) (f : Nat) : Nat → Nat
  | 0 => f
  | k + 1 => if blB (t (f + k)) = true then rT t f k else f + (k + 1)
def lT (t : Nat → Nat) (e : Nat) : Nat → Nat
  | 0 => e
  | k + 1 => if blB (t (e - (k + 1))) = true then lT t e k else e - (k + 1)
theorem rT_b (t : Nat → Nat) (f k : Nat) : f ≤ rT t f k ∧ rT t f k ≤ f + k := by
  induction k with
  | zero => exact ⟨Nat.le_refl _, Nat.le_refl _⟩
  | succ k ih =>
    simp only [rT]
    split <;> omega
theorem lT_b (t : Nat → Nat) (e k : Nat) (h : k ≤ e) : e - k ≤ lT t e k ∧ lT t e k ≤ e := by
  induction k with
  | zero => exact ⟨Nat.sub_le _ _, Nat.le_refl _⟩
  | succ k ih =>
    have := ih (by omega)
    simp only [lT]
    split <;> omega
