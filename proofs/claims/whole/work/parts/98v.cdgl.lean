/-! digits: where a row of them ends -/
theorem rdG_s (B : Nat) (t : Nat → Nat) (k p : Nat) (pt : Bool) (dg sc v : Nat) : rdG B t (k + 1) p pt dg sc v = if hxB (t p) < B ∨ (t p = 46 ∧ pt = false) then (if t p = 46 then rdG B t k (p + 1) true dg sc v else rdG B t k (p + 1) pt (dg + 1) (if pt = true then sc + 1 else sc) (v * B + hxB (t p))) else (p, dg, sc, v) := rfl
theorem rdG_0 (B : Nat) (t : Nat → Nat) (p : Nat) (pt : Bool) (dg sc v : Nat) : rdG B t 0 p pt dg sc v = (p, dg, sc, v) := rfl
/-- only what stands ahead of the first other byte counts -/
theorem rdG_cut {B : Nat} {t : Nat → Nat} : ∀ (k m p : Nat) (pt : Bool) (dg sc v : Nat), k ≤ m → (k = m ∨ ¬ hxB (t (p + k)) < B ∧ t (p + k) ≠ 46) → rdG B t m p pt dg sc v = rdG B t k p pt dg sc v := by
  intro k
  induction k with
  | zero =>
    intro m p pt dg sc v hm h
    cases m with
    | zero => rfl
    | succ m =>
      rw [rdG_0, rdG_s]
      have := h.resolve_left (by omega)
      rw [Nat.add_zero] at this
      rw [if_neg (fun q => q.elim this.1 (fun r => this.2 r.1))]
  | succ k ih =>
    intro m p pt dg sc v hm h
    obtain ⟨m, rfl⟩ : ∃ m', m = m' + 1 := ⟨m - 1, by omega⟩
    have h' : k = m ∨ ¬ hxB (t (p + 1 + k)) < B ∧ t (p + 1 + k) ≠ 46 := by
      rcases h with h | h
      · exact Or.inl (by omega)
      · rw [show p + 1 + k = p + (k + 1) by omega]; exact Or.inr h
    rw [rdG_s, rdG_s, ih m _ _ _ _ _ (by omega) h', ih m _ _ _ _ _ (by omega) h']
theorem rdG_p {B : Nat} {t : Nat → Nat} (hB : B ≤ 16) : ∀ (k p : Nat) (pt : Bool) (dg sc v : Nat) {p' dg' sc' v' : Nat}, rdG B t k p pt dg sc v = (p', dg', sc', v') → p ≤ p' ∧ p' ≤ p + k ∧ dg ≤ dg' ∧ (∀ j, p ≤ j → j < p' → hxB (t j) < B ∨ t j = 46) ∧ (p' = p + k ∨ ¬ hxB (t p') < B) ∧ p' + dg ≤ p + dg' + 1 ∧ (pt = true → p' + dg = p + dg') ∧ (p' + dg = p + dg' → pt = false → sc' = sc) ∧ (p' + dg = p + dg' → pt = false → p' = p + k ∨ t p' ≠ 46) ∧ p + dg' ≤ p' + dg := by
  intro k
  induction k with
  | zero =>
    intro p pt dg sc v p' dg' sc' v' e
    rw [rdG_0] at e
    simp only [Prod.mk.injEq] at e
    obtain ⟨rfl, rfl, rfl, rfl⟩ := e
    exact ⟨by omega, by omega, by omega, fun j a b => by omega, Or.inl (by omega), by omega, fun _ => rfl, fun _ _ => rfl, fun _ _ => Or.inl (by omega), by omega⟩
  | succ k ih =>
    intro p pt dg sc v p' dg' sc' v' e
    rw [rdG_s] at e
    split at e
    · rename_i c
      have one : ∀ j, p ≤ j → j < p' → (∀ j, p + 1 ≤ j → j < p' → hxB (t j) < B ∨ t j = 46) → hxB (t j) < B ∨ t j = 46 := by
        intro j a b h
        rcases (show j = p ∨ p + 1 ≤ j by omega) with rfl | d
        · exact c.elim Or.inl (fun r => Or.inr r.1)
        · exact h j d b
      split at e
      · rename_i d
        obtain ⟨a1, a2, a3, a4, a5, a6, a7, a8, a9, a10⟩ := ih _ _ _ _ _ e
        have a7 := a7 rfl
        refine ⟨by omega, by omega, a3, fun j x y => one j x y a4, by rw [show p + (k + 1) = p + 1 + k by omega]; exact a5, by omega, fun z => ?_, fun z => by omega, fun z => by omega, by omega⟩
        rcases c with c | c
        · rw [d, hx_46] at c
          omega
        · exact absurd (z.symm.trans c.2) (by decide)
      · rename_i d
        obtain ⟨a1, a2, a3, a4, a5, a6, a7, a8, a9, a10⟩ := ih _ _ _ _ _ e
        refine ⟨by omega, by omega, by omega, fun j x y => one j x y a4, by rw [show p + (k + 1) = p + 1 + k by omega]; exact a5, by omega, fun z => by have := a7 z; omega, fun z y => ?_, fun z y => by rw [show p + (k + 1) = p + 1 + k by omega]; exact a9 (by omega) y, by omega⟩
        have := a8 (by omega) y
        rw [y] at this
        exact this
    · rename_i c
      simp only [Prod.mk.injEq] at e
      obtain ⟨rfl, rfl, rfl, rfl⟩ := e
      refine ⟨by omega, by omega, by omega, fun j a b => by omega, Or.inr (fun q => c (Or.inl q)), by omega, fun _ => rfl, fun _ _ => rfl, fun _ y => Or.inr (fun q => c (Or.inr ⟨q, y⟩)), by omega⟩
/-- a limit behind the row's end changes nothing -/
theorem rdG_lim {B : Nat} {t : Nat → Nat} : ∀ (k p : Nat) (pt : Bool) (dg sc v : Nat) {p' dg' sc' v' : Nat}, rdG B t k p pt dg sc v = (p', dg', sc', v') → ∀ L, p' ≤ p + L → L ≤ k → rdG B t L p pt dg sc v = (p', dg', sc', v') := by
  intro k
  induction k with
  | zero =>
    intro p pt dg sc v p' dg' sc' v' e L h1 h2
    rw [show L = 0 by omega]
    exact e
  | succ k ih =>
    intro p pt dg sc v p' dg' sc' v' e L h1 h2
    cases L with
    | zero =>
      rw [rdG_s] at e
      have stop : ∀ (a : Bool) (b c d : Nat), rdG B t k (p + 1) a b c d = (p', dg', sc', v') → False := by
        intro a b c d y
        have : ∀ (k p : Nat) (pt : Bool) (dg sc v : Nat) {p' dg' sc' v' : Nat}, rdG B t k p pt dg sc v = (p', dg', sc', v') → p ≤ p' := by
          intro k
          induction k with
          | zero =>
            intro p pt dg sc v p' dg' sc' v' e
            rw [rdG_0] at e
            simp only [Prod.mk.injEq] at e
            omega
          | succ k ih =>
            intro p pt dg sc v p' dg' sc' v' e
            rw [rdG_s] at e
            split at e
            · split at e
              · have := ih _ _ _ _ _ e
                omega
              · have := ih _ _ _ _ _ e
                omega
            · simp only [Prod.mk.injEq] at e
              omega
        have := this _ _ _ _ _ _ y
        omega
      split at e
      · split at e
        · exact (stop _ _ _ _ e).elim
        · exact (stop _ _ _ _ e).elim
      · rw [rdG_0]
        exact e
    | succ L =>
      rw [rdG_s] at e ⊢
      split at e
      · rename_i c
        rw [if_pos c]
        split at e
        · rename_i d
          rw [if_pos d]
          exact ih _ _ _ _ _ e L (by omega) (by omega)
        · rename_i d
          rw [if_neg d]
          exact ih _ _ _ _ _ e L (by omega) (by omega)
      · rename_i c
        rw [if_neg c]
        exact e
theorem hx10 {b : Nat} : hxB b < 10 ↔ dgB b = true := by
  unfold hxB dgB
  rw [decide_eq_true_iff]
  split
  · omega
  · split <;> omega
theorem hx_d {b : Nat} (h : dgB b = true) : hxB b = b - 48 ∧ b ≠ 46 := by
  have := of_decide_eq_true h
  unfold hxB
  rw [if_pos this]
  omega
theorem alB_s (t : Nat → Nat) (p k : Nat) : alB t p (k + 1) = (alB t p k && dgB (t (p + k))) := rfl
theorem dcV_s (t : Nat → Nat) (p k : Nat) : dcV t p (k + 1) = 10 * dcV t p k + (t (p + k) - 48) := rfl
theorem alB_at {t : Nat → Nat} {p d : Nat} (h : alB t p d = true) {j : Nat} (h1 : p ≤ j) (h2 : j < p + d) : dgB (t j) = true := by
  induction d with
  | zero => omega
  | succ d ih =>
    rw [alB_s, Bool.and_eq_true] at h
    rcases (show j < p + d ∨ j = p + d by omega) with c | rfl
    · exact ih h.1 c
    · exact h.2
theorem rdG_al {t : Nat → Nat} {p : Nat} {pt : Bool} : ∀ (d k dg sc v : Nat), alB t p d = true → d ≤ k → rdG 10 t k p pt dg sc v = rdG 10 t (k - d) (p + d) pt (dg + d) (if pt = true then sc + d else sc) (v * 10 ^ d + dcV t p d) := by
  intro d
  induction d with
  | zero =>
    intro k dg sc v _ _
    have : v * 10 ^ 0 + dcV t p 0 = v := by rw [Nat.pow_zero, Nat.mul_one]; rfl
    rw [this]
    cases pt <;> rfl
  | succ d ih =>
    intro k dg sc v h hk
    rw [alB_s, Bool.and_eq_true] at h
    obtain ⟨e1, e2⟩ := hx_d h.2
    obtain ⟨m, hm⟩ : ∃ m, k - d = m + 1 := ⟨k - d - 1, by omega⟩
    rw [ih k dg sc v h.1 (by omega), hm, rdG_s, if_pos (Or.inl (hx10.mpr h.2)), if_neg e2, e1, show k - (d + 1) = m by omega, dcV_s]
    have : (v * 10 ^ d + dcV t p d) * 10 + (t (p + d) - 48) = v * 10 ^ (d + 1) + (10 * dcV t p d + (t (p + d) - 48)) := by
      rw [Nat.pow_succ, ← Nat.mul_assoc]
      omega
    rw [this]
    cases pt <;> rfl
theorem run_ex (t : Nat → Nat) (p k : Nat) : ∃ d, d ≤ k ∧ alB t p d = true ∧ (d = k ∨ dgB (t (p + d)) = false) := by
  induction k with
  | zero => exact ⟨0, by omega, rfl, Or.inl rfl⟩
  | succ k ih =>
    obtain ⟨d, d1, d2, d3⟩ := ih
    rcases d3 with rfl | d3
    · rcases Bool.eq_false_or_eq_true (dgB (t (p + d))) with c | c
      · exact ⟨d + 1, by omega, by rw [alB_s, d2, c]; rfl, Or.inl rfl⟩
      · exact ⟨d, by omega, d2, Or.inr c⟩
    · exact ⟨d, by omega, d2, Or.inr d3⟩
theorem rd_run {t : Nat → Nat} {p k d : Nat} {pt : Bool} (h1 : d ≤ k) (h2 : alB t p d = true) (h3 : d = k ∨ dgB (t (p + d)) = false ∧ (t (p + d) ≠ 46 ∨ pt = true)) : rdG 10 t k p pt 0 0 0 = (p + d, d, if pt = true then d else 0, dcV t p d) := by
  rw [rdG_al d k 0 0 0 h2 h1, Nat.zero_add, Nat.zero_mul, Nat.zero_add]
  rcases (show d = k ∨ d < k by omega) with rfl | c
  · rw [Nat.sub_self, rdG_0]
  · have h := h3.resolve_left (by omega)
    obtain ⟨m, hm⟩ : ∃ m, k - d = m + 1 := ⟨k - d - 1, by omega⟩
    rw [hm, rdG_s, if_neg]
    rintro (q | q)
    · rw [hx10, h.1] at q
      exact absurd q (by decide)
    · rcases h.2 with y | y
      · exact y q.1
      · rw [y] at q
        exact absurd q.2 (by decide)
theorem rd_t {t : Nat → Nat} {p k p' dg sc v : Nat} (h : rdG 10 t k p true 0 0 0 = (p', dg, sc, v)) : p' = p + dg ∧ dg ≤ k ∧ alB t p dg = true ∧ v = dcV t p dg ∧ (dg = k ∨ dgB (t p') = false) := by
  obtain ⟨d, d1, d2, d3⟩ := run_ex t p k
  rw [rd_run d1 d2 (d3.elim Or.inl (fun y => Or.inr ⟨y, Or.inr rfl⟩))] at h
  simp only [Prod.mk.injEq] at h
  obtain ⟨rfl, rfl, -, rfl⟩ := h
  exact ⟨rfl, d1, d2, rfl, d3⟩
theorem rd_n {t : Nat → Nat} {p k p' dg sc v : Nat} (h : rdG 10 t k p false 0 0 0 = (p', dg, sc, v)) (e : p' = p + dg) : alB t p dg = true ∧ v = dcV t p dg ∧ sc = 0 ∧ dg ≤ k := by
  obtain ⟨d, d1, d2, d3⟩ := run_ex t p k
  by_cases c : d < k ∧ t (p + d) = 46
  · exfalso
    obtain ⟨m, hm⟩ : ∃ m, k - d = m + 1 := ⟨k - d - 1, by omega⟩
    rw [rdG_al d k 0 0 0 d2 d1, hm, rdG_s, if_pos (Or.inr ⟨c.2, rfl⟩), if_pos c.2] at h
    have := (rdG_p (by decide) _ _ _ _ _ _ h).2.2.2.2.2.2.1 rfl
    omega
  · rw [rd_run d1 d2 (d3.elim Or.inl (fun y => by
      rcases (show d = k ∨ d < k by omega) with q | q
      · exact Or.inl q
      · exact Or.inr ⟨y, Or.inl (fun z => c ⟨q, z⟩)⟩))] at h
    simp only [Prod.mk.injEq] at h
    obtain ⟨-, rfl, h3, rfl⟩ := h
    exact ⟨d2, rfl, h3.symm, d1⟩
/-- an exponent's digits end where the text ends -/
theorem exD_e {t : Nat → Nat} {n p e most d : Nat} (h : exD t n p most d) (pe : p ≤ e) (en : e ≤ n) (hm : e - p ≤ most) (ha : alB t p (e - p) = true) (hs : e = n ∨ dgB (t e) = false) : d = e - p := by
  obtain ⟨h1, h2, h3, h4⟩ := h
  rcases Nat.lt_trichotomy d (e - p) with c | c | c
  · have := alB_at ha (show p ≤ p + d by omega) (by omega)
    rcases h4 with y | y | y
    · omega
    · omega
    · rw [this] at y
      exact absurd y (by decide)
  · exact c
  · have := alB_at h3 (show p ≤ e by omega) (by omega)
    rcases hs with y | y
    · omega
    · rw [this] at y
      exact absurd y (by decide)
