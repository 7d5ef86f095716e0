/-! ends between brackets: both readers take the same -/
theorem nl_1 {t : Nat → Nat} {p e : Nat} : nlB t p e ↔ e = p ∨ (wdL t p e wMi ∨ wdL t p e (wMi ++ wInity)) := Iff.rfl
theorem lo_fw {t : Nat → Nat} {n p p2 : Nat} {i1 : Bool} {a : rL} (h : loO t n p i1 true p2 a) (hp : p ≤ n) (hn : n ≤ 400) : p ≤ p2 ∧ p2 ≤ n ∧ (∀ j, p ≤ j → j < p2 → owB (t j) = true) ∧ (i1 = true ↔ nlB t p p2) ∧ (i1 = true → vL a = .inr true ∧ (p2 = p → atB t n p 44)) ∧ (i1 = false → p < p2 ∧ ∃ X, nuX t p p2 X ∧ vL a = .inl X) ∧ rLw a ∧ kdL a := by
  rcases h with ⟨h1, h2, -, h4, h5⟩ | ⟨h1, h2, h3, -, h5, h6⟩ | ⟨h1, h2, h3, s, e, P, q, h4, h5⟩
  · subst h2 h4 h5
    exact ⟨Nat.le_refl _, hp, fun j a b => by omega, ⟨fun _ => Or.inl rfl, fun _ => rfl⟩, fun _ => ⟨rfl, fun _ => h1⟩, fun x => absurd x (by decide), in_w.1, in_w.2.1⟩
  · have k := in_fw (L := wMi) h2 (by decide)
    obtain ⟨k1, k2, k3, k4⟩ := k
    have e : inP t n (p + wMi.length) = p2 := h5.symm
    rw [e] at k1 k2 k3 k4
    subst h3 h6
    have l4 : wMi.length = 4 := rfl
    exact ⟨by omega, k2, k3, ⟨fun _ => Or.inr k4, fun _ => rfl⟩, fun _ => ⟨rfl, fun y => by omega⟩, fun x => absurd x (by decide), in_w.1, in_w.2.1⟩
  · obtain ⟨k1, k2, k3, P', q', x, k4, k5⟩ := nm_fw h4 hp
    obtain ⟨w1, w2⟩ := nm_k h4 hn
    subst h3 h5
    refine ⟨by omega, k2, fun j a b => nc_w (k3 j a b), ⟨fun x => absurd x (by decide), fun y => ?_⟩, fun x => absurd x (by decide), fun _ => ⟨k1, _, ⟨P', q', x, k4, rfl⟩, ?_⟩, w1, w2⟩
    · rcases y with y | y | y
      · omega
      · exact absurd (wd_wk y k2) h2
      · exact absurd (wd_wk (wd_sp (L := wMi) (R := wInity) y).1 (by have := y.1; show p + 4 ≤ n; have : p + 9 = p2 := this; omega)) h2
    · show vlX s e false P q = _
      rw [vlX_f, k5]
theorem hi_fw {t : Nat → Nat} {n p p2 : Nat} {i2 : Bool} {a b : rL} (h : hiO t n p true i2 true p2 a b) (hp : p ≤ n) (hn : n ≤ 400) : p ≤ p2 ∧ p2 ≤ n ∧ (∀ j, p ≤ j → j < p2 → owB (t j) = true) ∧ (i2 = true ↔ nhB t p p2) ∧ (i2 = true → vL b = .inr false ∧ (p2 = p → atB t n p 93)) ∧ (i2 = false → p < p2 ∧ ∃ X, nuX t p p2 X ∧ vL b = .inl X) ∧ rLw b ∧ kdL b := by
  rcases h with ⟨h1, -⟩ | ⟨-, h1, h2, -, h4, h5⟩ | ⟨-, h1, h2, h3, -, h5, h6⟩ | ⟨-, h1, h0, h2, h3, -, h5, h6⟩ | ⟨-, h1, h0, h2, h3, s, e, P, q, h4, h5⟩
  · exact absurd h1 (by decide)
  · subst h2 h4 h5
    exact ⟨Nat.le_refl _, hp, fun j a b => by omega, ⟨fun _ => Or.inl rfl, fun _ => rfl⟩, fun _ => ⟨rfl, fun _ => h1⟩, fun x => absurd x (by decide), in_w.2.2⟩
  · obtain ⟨k1, k2, k3, k4⟩ := in_fw (L := wI1) h2 (by decide)
    have e : inP t n (p + wI1.length) = p2 := h5.symm
    rw [e] at k1 k2 k3 k4
    subst h3 h6
    have l4 : wI1.length = 3 := rfl
    exact ⟨by omega, k2, k3, ⟨fun _ => Or.inr (k4.elim Or.inl (fun y => Or.inr (Or.inr (Or.inl y)))), fun _ => rfl⟩, fun _ => ⟨rfl, fun y => by omega⟩, fun x => absurd x (by decide), in_w.2.2⟩
  · obtain ⟨k1, k2, k3, k4⟩ := in_fw (L := wI2) h2 (by decide)
    have e : inP t n (p + wI2.length) = p2 := h5.symm
    rw [e] at k1 k2 k3 k4
    subst h3 h6
    have l4 : wI2.length = 4 := rfl
    exact ⟨by omega, k2, k3, ⟨fun _ => Or.inr (k4.elim (fun y => Or.inr (Or.inl y)) (fun y => Or.inr (Or.inr (Or.inr y)))), fun _ => rfl⟩, fun _ => ⟨rfl, fun y => by omega⟩, fun x => absurd x (by decide), in_w.2.2⟩
  · obtain ⟨k1, k2, k3, P', q', x, k4, k5⟩ := nm_fw h4 hp
    obtain ⟨w1, w2⟩ := nm_k h4 hn
    subst h3 h5
    refine ⟨by omega, k2, fun j a b => nc_w (k3 j a b), ⟨fun x => absurd x (by decide), fun y => ?_⟩, fun x => absurd x (by decide), fun _ => ⟨k1, _, ⟨P', q', x, k4, rfl⟩, ?_⟩, w1, w2⟩
    · rcases y with y | y | y | y | y
      · omega
      · exact absurd (wd_wk y k2) h0
      · exact absurd (wd_wk y k2) h2
      · exact absurd (wd_wk (wd_sp (L := wI1) (R := wInity) y).1 (by have : p + 8 = p2 := y.1; show p + 3 ≤ n; omega)) h0
      · exact absurd (wd_wk (wd_sp (L := wI2) (R := wInity) y).1 (by have : p + 9 = p2 := y.1; show p + 4 ≤ n; omega)) h2
    · show vlX s e false P q = _
      rw [vlX_f, k5]
/-- a number begins with a sign, a digit or a point -/
theorem nu_f {t : Nat → Nat} {p e : Nat} {X : Rat} (h : nuX t p e X) : p < e ∧ (t p = 43 ∨ t p = 45 ∨ t p = 46 ∨ dgB (t p) = true) ∧ ((t p = 43 ∨ t p = 45) → p + 1 < e ∧ (t (p + 1) = 46 ∨ dgB (t (p + 1)) = true)) := by
  obtain ⟨P, q, x, h, -⟩ := h
  obtain ⟨a1, a2, a3⟩ := nTx_f h
  unfold sgP at a2 a3
  split at a2
  · rename_i c
    rw [if_pos c] at a3
    refine ⟨a1, by omega, fun _ => ⟨a2, a3.symm⟩⟩
  · rename_i c
    rw [if_neg c] at a3
    refine ⟨a1, ?_, fun y => absurd ⟨a1, y.symm⟩ c⟩
    rcases a3 with y | y
    · exact Or.inr (Or.inr (Or.inr y))
    · exact Or.inr (Or.inr (Or.inl y))
theorem dg_48 {b : Nat} (h : dgB b = true) : 48 ≤ b ∧ b ≤ 57 := of_decide_eq_true h
theorem lo_bw {t : Nat → Nat} {n p a' p2 : Nat} {i1 o1 : Bool} {a : rL} (h : loO t n p i1 o1 p2 a) (pa : p ≤ a') (an : a' < n) (st : blB (t a') = true ∨ t a' = 44 ∨ t a' = 93) (hb : blB (t p) = false) (h93 : t p ≠ 93) : (nlB t p a' → o1 = true ∧ i1 = true ∧ p2 = a' ∧ vL a = .inr true) ∧ (∀ X, ¬ nlB t p a' → nuX t p a' X → o1 = true ∧ i1 = false ∧ p2 = a' ∧ vL a = .inl X) := by
  have s1 : t a' ≠ 105 ∧ ¬ ncB (t a') := by
    unfold ncB
    rcases st with y | y | y
    · have := of_decide_eq_true y
      omega
    · omega
    · omega
  constructor
  · intro y
    rcases y with y | y
    · have h44 : t p = 44 := by
        rw [y] at st
        rcases st with z | z | z
        · rw [hb] at z
          exact absurd z (by decide)
        · exact z
        · exact absurd z h93
      rw [y] at an ⊢
      rcases h with ⟨h1, h2, h3, h4, h5⟩ | ⟨h1, -⟩ | ⟨h1, -⟩
      · exact ⟨h3, h2, h4, by rw [h5]; rfl⟩
      · exact absurd ⟨an, h44⟩ h1
      · exact absurd ⟨an, h44⟩ h1
    · obtain ⟨k1, k2⟩ := in_bw (L := wMi) (Nat.le_of_lt an) (fun _ => s1.1) y
      have t45 : t p = 45 := k1.2 0 (by decide)
      rcases h with ⟨h1, -⟩ | ⟨h1, h2, h3, h4, h5, h6⟩ | ⟨h1, h2, -⟩
      · have := h1.2; omega
      · exact ⟨h4, h3, by rw [h5]; exact k2, by rw [h6]; rfl⟩
      · exact absurd k1 h2
  · intro X y hX
    obtain ⟨f1, f2, f3⟩ := nu_f hX
    rcases h with ⟨h1, -⟩ | ⟨h1, h2, -⟩ | ⟨h1, h2, h3, s, e, P, q, h4, h5⟩
    · have := h1.2
      rcases f2 with z | z | z | z
      · omega
      · omega
      · omega
      · have := dg_48 z; omega
    · have t45 : t p = 45 := h2.2 0 (by decide)
      have t105 : t (p + 1) = 105 := h2.2 1 (by decide)
      obtain ⟨g1, g2⟩ := f3 (Or.inr t45)
      rcases g2 with z | z
      · omega
      · have := dg_48 z; omega
    · obtain ⟨P', q', x, k1, k2⟩ := hX
      obtain ⟨m1, m2, m3⟩ := nm_bw k1 (Nat.le_of_lt an) (Or.inr s1.2) h4
      refine ⟨m1, h3, m2, ?_⟩
      rw [h5, k2, m3]
      exact vlX_f _ _ _ _
theorem hi_bw {t : Nat → Nat} {n p e' p2 : Nat} {i2 o2 : Bool} {a b : rL} (h : hiO t n p true i2 o2 p2 a b) (pe : p ≤ e') (en : e' < n) (st : blB (t e') = true ∨ t e' = 93) : (t p = 93 → o2 = true ∧ i2 = true ∧ p2 = p ∧ vL b = .inr false) ∧ (p < e' → nhB t p e' → o2 = true ∧ i2 = true ∧ p2 = e' ∧ vL b = .inr false) ∧ (∀ X, nuX t p e' X → o2 = true ∧ i2 = false ∧ p2 = e' ∧ vL b = .inl X) := by
  have s1 : t e' ≠ 105 ∧ ¬ ncB (t e') := by
    unfold ncB
    rcases st with y | y
    · have := of_decide_eq_true y
      omega
    · omega
  refine ⟨fun y => ?_, fun lt y => ?_, fun X hX => ?_⟩
  · rcases h with ⟨h1, -⟩ | ⟨-, h1, h2, h3, h4, h5⟩ | ⟨-, h1, -⟩ | ⟨-, h1, -⟩ | ⟨-, h1, -⟩
    · exact absurd h1 (by decide)
    · exact ⟨h3, h2, h4, by rw [h5]; rfl⟩
    · exact absurd ⟨by omega, y⟩ h1
    · exact absurd ⟨by omega, y⟩ h1
    · exact absurd ⟨by omega, y⟩ h1
  · have y' : (wdL t p e' wI1 ∨ wdL t p e' (wI1 ++ wInity)) ∨ (wdL t p e' wI2 ∨ wdL t p e' (wI2 ++ wInity)) := by
      rcases y with y | y | y | y | y
      · omega
      · exact Or.inl (Or.inl y)
      · exact Or.inr (Or.inl y)
      · exact Or.inl (Or.inr y)
      · exact Or.inr (Or.inr y)
    rcases y' with y | y
    · obtain ⟨k1, k2⟩ := in_bw (L := wI1) (Nat.le_of_lt en) (fun _ => s1.1) y
      have t0 : t p = 105 := k1.2 0 (by decide)
      rcases h with ⟨h1, -⟩ | ⟨-, h1, -⟩ | ⟨-, h1, h2, h3, h4, h5, h6⟩ | ⟨-, h1, h2, -⟩ | ⟨-, h1, h2, -⟩
      · exact absurd h1 (by decide)
      · have := h1.2; omega
      · exact ⟨h4, h3, by rw [h5]; exact k2, by rw [h6]; rfl⟩
      · exact absurd k1 h2
      · exact absurd k1 h2
    · obtain ⟨k1, k2⟩ := in_bw (L := wI2) (Nat.le_of_lt en) (fun _ => s1.1) y
      have t0 : t p = 43 := k1.2 0 (by decide)
      rcases h with ⟨h1, -⟩ | ⟨-, h1, -⟩ | ⟨-, h1, h2, -⟩ | ⟨-, h1, h0, h2, h3, h4, h5, h6⟩ | ⟨-, h1, h0, h2, -⟩
      · exact absurd h1 (by decide)
      · have := h1.2; omega
      · have : t p = 105 := h2.2 0 (by decide)
        omega
      · exact ⟨h4, h3, by rw [h5]; exact k2, by rw [h6]; rfl⟩
      · exact absurd k1 h2
  · obtain ⟨f1, f2, f3⟩ := nu_f hX
    have n93 : t p ≠ 93 ∧ t p ≠ 105 := by
      rcases f2 with z | z | z | z
      · omega
      · omega
      · omega
      · have := dg_48 z; omega
    rcases h with ⟨h1, -⟩ | ⟨-, h1, -⟩ | ⟨-, h1, h2, -⟩ | ⟨-, h1, h0, h2, -⟩ | ⟨-, h1, h0, h2, h3, s, e, P, q, h4, h5⟩
    · exact absurd h1 (by decide)
    · exact absurd h1.2 n93.1
    · exact absurd (h2.2 0 (by decide)) n93.2
    · have t43 : t p = 43 := h2.2 0 (by decide)
      have t105 : t (p + 1) = 105 := h2.2 1 (by decide)
      obtain ⟨g1, g2⟩ := f3 (Or.inl t43)
      rcases g2 with z | z
      · omega
      · have := dg_48 z; omega
    · obtain ⟨P', q', x, k1, k2⟩ := hX
      obtain ⟨m1, m2, m3⟩ := nm_bw k1 (Nat.le_of_lt en) (Or.inr s1.2) h4
      refine ⟨m1, h3, m2, ?_⟩
      rw [h5, k2, m3]
      exact vlX_f _ _ _ _
