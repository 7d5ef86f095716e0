/-! blanks and words -/
theorem lT_sp (t : Nat → Nat) (e : Nat) : ∀ k, k ≤ e → e - k ≤ lT t e k ∧ lT t e k ≤ e ∧ (∀ j, e - k ≤ j → j < lT t e k → blB (t j) = true) ∧ (lT t e k = e ∨ blB (t (lT t e k)) = false) := by
  intro k
  induction k with
  | zero => exact fun _ => ⟨Nat.sub_le _ _, Nat.le_refl _, fun j a b => absurd b (by show ¬ j < e; omega), Or.inl rfl⟩
  | succ k ih =>
    intro hk
    obtain ⟨a1, a2, a3, a4⟩ := ih (by omega)
    simp only [lT]
    split
    · rename_i c
      refine ⟨by omega, a2, fun j x y => ?_, a4⟩
      rcases (show j = e - (k + 1) ∨ e - k ≤ j by omega) with rfl | d
      · exact c
      · exact a3 j d y
    · rename_i c
      exact ⟨Nat.le_refl _, by omega, fun j x y => by omega, Or.inr (eq_false_of_ne_true c)⟩
theorem sk_sp {t : Nat → Nat} {n p : Nat} (h : p ≤ n) : p ≤ skV t n p ∧ skV t n p ≤ n ∧ (∀ j, p ≤ j → j < skV t n p → blB (t j) = true) ∧ (skV t n p = n ∨ blB (t (skV t n p)) = false) := by
  have := lT_sp t n (n - p) (by omega)
  rw [show n - (n - p) = p by omega] at this
  exact this
theorem sk_uq {t : Nat → Nat} {n p q : Nat} (h1 : p ≤ q) (h2 : q ≤ n) (h3 : ∀ j, p ≤ j → j < q → blB (t j) = true) (h4 : q = n ∨ blB (t q) = false) : skV t n p = q := by
  obtain ⟨a1, a2, a3, a4⟩ := sk_sp (t := t) (show p ≤ n by omega)
  rcases Nat.lt_trichotomy (skV t n p) q with c | c | c
  · have := h3 _ a1 c
    rcases a4 with y | y
    · omega
    · rw [this] at y
      exact absurd y (by decide)
  · exact c
  · have := a3 q h1 c
    rcases h4 with y | y
    · omega
    · rw [this] at y
      exact absurd y (by decide)
theorem sk_n {t : Nat → Nat} {n p : Nat} (h1 : p < n) (h2 : blB (t p) = false) : skV t n p = p := sk_uq (Nat.le_refl _) (by omega) (fun j a b => by omega) (Or.inr h2)
theorem rT_sp (t : Nat → Nat) (f : Nat) : ∀ k, f ≤ rT t f k ∧ rT t f k ≤ f + k ∧ (∀ j, rT t f k ≤ j → j < f + k → blB (t j) = true) ∧ (rT t f k = f ∨ blB (t (rT t f k - 1)) = false) := by
  intro k
  induction k with
  | zero => exact ⟨Nat.le_refl _, Nat.le_refl _, fun j a b => absurd b (by have : f ≤ j := a; omega), Or.inl rfl⟩
  | succ k ih =>
    obtain ⟨a1, a2, a3, a4⟩ := ih
    simp only [rT]
    split
    · rename_i c
      refine ⟨a1, by omega, fun j x y => ?_, a4⟩
      rcases (show j = f + k ∨ j < f + k by omega) with rfl | d
      · exact c
      · exact a3 j x d
    · rename_i c
      refine ⟨by omega, Nat.le_refl _, fun j x y => by omega, Or.inr ?_⟩
      rw [show f + (k + 1) - 1 = f + k by omega]
      exact eq_false_of_ne_true c
theorem rT_uq {t : Nat → Nat} {f k r : Nat} (h1 : f ≤ r) (h2 : r ≤ f + k) (h3 : ∀ j, r ≤ j → j < f + k → blB (t j) = true) (h4 : r = f ∨ blB (t (r - 1)) = false) : rT t f k = r := by
  obtain ⟨a1, a2, a3, a4⟩ := rT_sp t f k
  rcases Nat.lt_trichotomy (rT t f k) r with c | c | c
  · have := a3 (r - 1) (by omega) (by omega)
    rcases h4 with y | y
    · omega
    · rw [this] at y
      exact absurd y (by decide)
  · exact c
  · have := h3 (rT t f k - 1) (by omega) (by omega)
    rcases a4 with y | y
    · omega
    · rw [this] at y
      exact absurd y (by decide)
def owB (b : Nat) : Bool := decide (b ≠ 44 ∧ b ≠ 93 ∧ b ≠ 95 ∧ b ≠ 91 ∧ b ≠ 32 ∧ b ≠ 9)
theorem ow_bl {b : Nat} (h : owB b = true) : blB b = false := by
  have := of_decide_eq_true h
  exact decide_eq_false (by omega)
theorem nc_w {b : Nat} (h : ncB b) : owB b = true := by
  unfold ncB at h
  exact decide_eq_true (by omega)
theorem wk_o {t : Nat → Nat} {n p k : Nat} {g : Nat → Nat} (h : wkB t n p g 0 k) (hg : ∀ i, i < k → owB (g (0 + i)) = true) : ∀ j, p ≤ j → j < p + k → owB (t j) = true := by
  intro j a b
  have := h.2 (j - p) (by omega)
  rw [show p + (j - p) = j by omega] at this
  rw [this]
  exact hg _ (by omega)
theorem wk_wd {t : Nat → Nat} {n p : Nat} {L : List Nat} (h : wkB t n p (fun j => L.getD j 0) 0 L.length) : wdL t p (p + L.length) L := ⟨rfl, fun j hj => by
  have := h.2 j hj
  rw [Nat.zero_add] at this
  exact this⟩
theorem wd_wk {t : Nat → Nat} {n p e : Nat} {L : List Nat} (h : wdL t p e L) (he : e ≤ n) : wkB t n p (fun j => L.getD j 0) 0 L.length := ⟨by have := h.1; omega, fun j hj => by
  have := h.2 j hj
  rw [Nat.zero_add]
  exact this⟩
theorem wd_ap {t : Nat → Nat} {p e m : Nat} {L R : List Nat} (h : wdL t p m L) (h2 : wdL t m e R) : wdL t p e (L ++ R) := by
  obtain ⟨a1, a2⟩ := h
  obtain ⟨b1, b2⟩ := h2
  refine ⟨by rw [List.length_append]; omega, fun j hj => ?_⟩
  rw [List.length_append] at hj
  rcases Nat.lt_or_ge j L.length with c | c
  · rw [a2 j c]
    show L.getD j 0 = (L ++ R).getD j 0
    rw [List.getD_eq_getElem?_getD, List.getD_eq_getElem?_getD, List.getElem?_append_left c]
  · have := b2 (j - L.length) (by omega)
    rw [show m + (j - L.length) = p + j by omega] at this
    rw [this]
    show R.getD (j - L.length) 0 = (L ++ R).getD j 0
    rw [List.getD_eq_getElem?_getD, List.getD_eq_getElem?_getD, List.getElem?_append_right c]
theorem wd_sp {t : Nat → Nat} {p e : Nat} {L R : List Nat} (h : wdL t p e (L ++ R)) : wdL t p (p + L.length) L ∧ wdL t (p + L.length) e R := by
  obtain ⟨a1, a2⟩ := h
  rw [List.length_append] at a1
  refine ⟨⟨rfl, fun j hj => ?_⟩, by omega, fun j hj => ?_⟩
  · have := a2 j (by rw [List.length_append]; omega)
    rw [this]
    show (L ++ R).getD j 0 = L.getD j 0
    rw [List.getD_eq_getElem?_getD, List.getD_eq_getElem?_getD, List.getElem?_append_left hj]
  · have := a2 (L.length + j) (by rw [List.length_append]; omega)
    rw [show p + L.length + j = p + (L.length + j) by omega, this]
    show (L ++ R).getD (L.length + j) 0 = R.getD j 0
    rw [List.getD_eq_getElem?_getD, List.getD_eq_getElem?_getD, List.getElem?_append_right (by omega), show L.length + j - L.length = j by omega]
/-- behind 'inf' the letters 'inity' may follow -/
theorem in_fw {t : Nat → Nat} {n p : Nat} {L : List Nat} (h : wkB t n p (fun j => L.getD j 0) 0 L.length) (hL : ∀ i, i < L.length → owB (L.getD i 0) = true) : p + L.length ≤ inP t n (p + L.length) ∧ inP t n (p + L.length) ≤ n ∧ (∀ j, p ≤ j → j < inP t n (p + L.length) → owB (t j) = true) ∧ (wdL t p (inP t n (p + L.length)) L ∨ wdL t p (inP t n (p + L.length)) (L ++ wInity)) := by
  have o1 := wk_o h (fun i hi => by rw [Nat.zero_add]; exact hL i hi)
  have w1 := wk_wd h
  unfold inP
  split
  · rename_i c
    have o2 := wk_o c (by decide)
    have w2 := wk_wd (L := wInity) c
    refine ⟨by omega, c.1, fun j a b => ?_, Or.inr (wd_ap w1 w2)⟩
    rcases Nat.lt_or_ge j (p + L.length) with d | d
    · exact o1 j a d
    · exact o2 j d b
  · exact ⟨Nat.le_refl _, h.1, o1, Or.inl w1⟩
theorem in_bw {t : Nat → Nat} {n p e : Nat} {L : List Nat} (en : e ≤ n) (hs : e < n → t e ≠ 105) (h : wdL t p e L ∨ wdL t p e (L ++ wInity)) : wkB t n p (fun j => L.getD j 0) 0 L.length ∧ inP t n (p + L.length) = e := by
  rcases h with h | h
  · have h1 := h.1
    refine ⟨wd_wk h en, ?_⟩
    unfold inP
    rw [if_neg, h1]
    intro q
    have := q.2 0 (by decide)
    rw [Nat.add_zero, h1] at this
    exact hs (by have := q.1; omega) this
  · obtain ⟨a, b⟩ := wd_sp h
    have b1 := b.1
    refine ⟨wd_wk a (by omega), ?_⟩
    unfold inP
    rw [if_pos (show wkB t n (p + L.length) (fun j => wInity.getD j 0) 0 5 from wd_wk b en)]
    exact b1
abbrev rLw (a : rL) : Prop := (-1 ≤ a.1 ∧ a.1 ≤ 1) ∧ (a.2.2.1 = true → a.1 ≠ 0) ∧ (a.1 ≠ 0 → a.2.2.2.1 ≠ 0) ∧ a.2.2.2.2 ≠ 0
theorem od_cm {a b : rL} (ha : rLw a) (hb : rLw b) : odV a b = cmX (vL a) (vL b) := or_V ha.1 ha.2.1 ha.2.2.1 ha.2.2.2 hb.1 hb.2.1 hb.2.2.1 hb.2.2.2
/-- the kinds of numbers that are read: what Exact.order's room needs -/
def kdL (a : rL) : Prop := (a.2.2.2.2 = 1 ∧ 0 ≤ a.2.1 ∧ nb a.2.2.2.1 ≤ 3940) ∨ (nb a.2.2.2.1 ≤ 1610 ∧ nb a.2.2.2.2 ≤ 3300 ∧ (nb a.2.2.2.2 ≤ 1610 ∨ a.2.1 ≤ 0))
theorem od_P {a b : rL} (ha : rLw a) (hb : rLw b) (ka : kdL a) (kb : kdL b) : odP a b := by
  intro e h0 hi
  have h0' : b.1 ≠ 0 := by omega
  refine ⟨ha.2.2.1 h0, ha.2.2.2, hb.2.2.1 h0', hb.2.2.2, fun g1 g2 => ?_⟩
  unfold gapI at g1 g2
  have n1 := nb_1
  rcases ka with ⟨a1, a2, a3⟩ | ⟨a1, a2, a3⟩
  · rcases kb with ⟨b1, b2, b3⟩ | ⟨b1, b2, b3⟩
    · rw [a1, b1, n1]
      omega
    · rw [a1, n1] at g1 g2 ⊢
      rcases b3 with b3 | b3 <;> omega
  · rcases kb with ⟨b1, b2, b3⟩ | ⟨b1, b2, b3⟩
    · rw [b1, n1] at g1 g2 ⊢
      rcases a3 with a3 | a3 <;> omega
    · omega
theorem kd_6 {a : rL} (h : kdL a) : nb a.2.2.2.1 ≤ 6200 ∧ nb a.2.2.2.2 ≤ 6200 := by
  rcases h with ⟨a1, a2, a3⟩ | ⟨a1, a2, a3⟩
  · rw [a1, nb_1]; omega
  · omega
