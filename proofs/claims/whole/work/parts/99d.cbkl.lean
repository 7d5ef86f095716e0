theorem wd_o {t : Nat → Nat} {p e : Nat} {L : List Nat} (h : wdL t p e L) (hL : ∀ i, i < L.length → owB (L.getD i 0) = true) : ∀ j, p ≤ j → j < e → owB (t j) = true := by
  intro j a b
  have h1 := h.1
  have := h.2 (j - p) (by omega)
  rw [show p + (j - p) = j by omega] at this
  rw [this]
  exact hL _ (by omega)
theorem wk_0 {t : Nat → Nat} {n p k : Nat} {g : Nat → Nat} (h : wkB t n p g 0 k) (i : Nat) (hi : i < k) : t (p + i) = g i := by
  have := h.2 i hi
  rw [Nat.zero_add] at this
  exact this
theorem bl_n {b : Nat} (h : blB b = true) : b ≠ 95 ∧ b ≠ 44 ∧ b ≠ 93 := by
  have := of_decide_eq_true h
  omega
theorem ow_n {b : Nat} (h : owB b = true) : b ≠ 95 ∧ b ≠ 44 ∧ b ≠ 93 ∧ b ≠ 91 := by
  have := of_decide_eq_true h
  omega
theorem b93 {b : Nat} (h : b = 93 ∨ b = 44 ∨ b = 91) : blB b = false := decide_eq_false (by omega)
theorem nu_e {t : Nat → Nat} {p e : Nat} {X : Rat} (h : nuX t p e X) : t p ≠ 101 ∧ t p ≠ 93 ∧ t p ≠ 44 ∧ (t p = 45 → t (p + 1) ≠ 105) := by
  obtain ⟨f1, f2, f3⟩ := nu_f h
  refine ⟨?_, ?_, ?_, ?_⟩
  · rcases f2 with z | z | z | z
    · omega
    · omega
    · omega
    · have := dg_48 z; omega
  · rcases f2 with z | z | z | z
    · omega
    · omega
    · omega
    · have := dg_48 z; omega
  · rcases f2 with z | z | z | z
    · omega
    · omega
    · omega
    · have := dg_48 z; omega
  · intro y
    rcases (f3 (Or.inr y)).2 with z | z
    · omega
    · have := dg_48 z; omega
theorem bk_fw {t : Nat → Nat} {n f p1 : Nat} {op em : Bool} {a b : rL} (h : bkO t n (f + 1) true op em p1 a b) (fn : f < n) (f91 : t f = 91) (hn : n ≤ 400) : f + 1 < p1 ∧ p1 ≤ n ∧ t (p1 - 1) = 93 ∧ (∀ j, f ≤ j → j < p1 → t j ≠ 95) ∧ (em = false → (rLw a ∧ kdL a) ∧ rLw b ∧ kdL b) ∧ ((em = false → cmX (vL a) (vL b) ≤ 0) → ∃ L H, brR t (lT t (p1 - 1) (p1 - 1 - (f + 1))) (rT t (lT t (p1 - 1) (p1 - 1 - (f + 1))) (p1 - 1 - lT t (p1 - 1) (p1 - 1 - (f + 1)))) 9218868437227405312 (-9218868437227405312) em op L H) := by
  obtain ⟨o1, c, p6, hb, hc, hp1, hok⟩ := h
  rw [eq_comm, Bool.and_eq_true] at hok
  obtain ⟨rfl, rfl⟩ := hok
  rw [if_pos rfl] at hp1
  obtain ⟨z1, z2⟩ := hc.mp rfl
  obtain ⟨q1, q2, q3, q4⟩ := sk_sp (t := t) (n := n) (p := f + 1) (by omega)
  generalize hz : skV t n p6 = z at *
  subst hp1
  rw [show z + 1 - 1 = z by omega]
  generalize hq : skV t n (f + 1) = q0 at *
  -- what is common
  have com : ∀ ei, q0 ≤ p6 → p6 ≤ n → q0 ≤ ei → ei ≤ p6 → (∀ j, ei ≤ j → j < p6 → blB (t j) = true) → (ei = q0 ∨ blB (t (ei - 1)) = false) → q0 ≤ z ∧ p6 ≤ z ∧ lT t z (z - (f + 1)) = q0 ∧ rT t q0 (z - q0) = ei ∧ (∀ j, p6 ≤ j → j < z → blB (t j) = true) := by
    intro ei a1 a2 a3 a4 a5 a6
    obtain ⟨y1, y2, y3, y4⟩ := sk_sp (t := t) a2
    rw [hz] at y1 y2 y3 y4
    refine ⟨by omega, y1, ?_, ?_, y3⟩
    · exact sk_uq (n := z) q1 (by omega) q3 (Or.inr (q4.resolve_left (by omega)))
    · refine rT_uq a3 (by omega) (fun j x y => ?_) a6
      rcases Nat.lt_or_ge j p6 with d | d
      · exact a5 j x d
      · exact y3 j d (by omega)
  have n95 : q0 ≤ z → (∀ j, q0 ≤ j → j < z → t j ≠ 95) → ∀ j, f ≤ j → j < z + 1 → t j ≠ 95 := by
    intro k0 k j x y
    rcases (show j = f ∨ (f + 1 ≤ j ∧ j < q0) ∨ (q0 ≤ j ∧ j < z) ∨ j = z by omega) with d | d | d | d
    · rw [d, f91]; decide
    · exact (bl_n (q3 j d.1 d.2)).1
    · exact k j d.1 d.2
    · rw [d, z2]; decide
  rcases hb with ⟨b1, -, rfl, rfl, rfl, rfl, rfl⟩ | ⟨b0, b1, -, rfl, rfl, rfl⟩ | ⟨b0, b1, b2, -, rfl, rfl, rfl⟩ | ⟨b0, b1, b2, rfl, i1, i2, oo1, oo2, pr, p2, p4, hlo, hpr, hp4, hhi, hop, hok⟩
  · have o := wk_o b1 (by decide)
    obtain ⟨c1, c2, c3, c4, c5⟩ := com (q0 + 6) (by omega) b1.1 (by omega) (Nat.le_refl _) (fun j x y => by omega) (Or.inr (ow_bl (o _ (by omega) (by omega))))
    refine ⟨by omega, by omega, z2, n95 c1 (fun j x y => ?_), fun _ => ⟨⟨in_w.1, in_w.2.1⟩, in_w.2.2⟩, fun _ => ⟨-9218868437227405312, 9218868437227405312, ?_⟩⟩
    · rcases Nat.lt_or_ge j (q0 + 6) with d | d
      · exact (ow_n (o j x d)).1
      · exact (bl_n (c5 j d y)).1
    · rw [c3, c4]
      have w := wk_wd (L := wEnt) b1
      refine Or.inr (Or.inl ⟨?_, w, rfl, rfl, rfl, rfl⟩)
      rintro (y | y)
      · omega
      · have := y.1
        have l5 : wEmp.length = 5 := rfl
        omega
  · obtain ⟨c1, c2, c3, c4, c5⟩ := com p6 (Nat.le_refl _) (by omega) (Nat.le_refl _) (Nat.le_refl _) (fun j x y => by omega) (Or.inl rfl)
    refine ⟨by omega, by omega, z2, n95 c1 (fun j x y => (bl_n (c5 j x y)).1), fun x => absurd x (by decide), fun _ => ⟨9218868437227405312, -9218868437227405312, ?_⟩⟩
    rw [c3, c4]
    exact Or.inl ⟨Or.inl rfl, rfl, rfl, rfl, rfl⟩
  · have o := wk_o b2 (by decide)
    obtain ⟨c1, c2, c3, c4, c5⟩ := com (q0 + 5) (by omega) b2.1 (by omega) (Nat.le_refl _) (fun j x y => by omega) (Or.inr (ow_bl (o _ (by omega) (by omega))))
    refine ⟨by omega, by omega, z2, n95 c1 (fun j x y => ?_), fun x => absurd x (by decide), fun _ => ⟨9218868437227405312, -9218868437227405312, ?_⟩⟩
    · rcases Nat.lt_or_ge j (q0 + 5) with d | d
      · exact (ow_n (o j x d)).1
      · exact (bl_n (c5 j d y)).1
    · rw [c3, c4]
      exact Or.inl ⟨Or.inr (wk_wd (L := wEmp) b2), rfl, rfl, rfl, rfl⟩
  · rw [eq_comm, Bool.and_eq_true, Bool.and_eq_true] at hok
    obtain ⟨⟨rfl, rfl⟩, hpi⟩ := hok
    obtain ⟨l1, l2, l3, l4, l5, l6, l7, l8⟩ := lo_fw hlo q2 hn
    obtain ⟨s1, s2, s3, s4⟩ := sk_sp (t := t) l2
    generalize hcc : skV t n p2 = cc at *
    cases pr
    · -- no comma
      rw [if_neg (by decide)] at hp4
      subst hp4
      have i1f : i1 = false := by
        cases i1
        · rfl
        · exact absurd hpi (by decide)
      subst i1f
      obtain ⟨m1, X, m2, m3⟩ := l6 rfl
      have sc : skV t n p4 = p4 := by
        rcases s4 with y | y
        · rw [y]
          exact sk_uq (Nat.le_refl _) (Nat.le_refl _) (fun j a b => by omega) (Or.inl rfl)
        · rcases (show p4 = n ∨ p4 < n by omega) with d | d
          · rw [d]
            exact sk_uq (Nat.le_refl _) (Nat.le_refl _) (fun j a b => by omega) (Or.inl rfl)
          · exact sk_n d y
      rcases hhi with ⟨-, rfl, -, h4, rfl⟩ | ⟨h1, -⟩ | ⟨h1, -⟩ | ⟨h1, -⟩ | ⟨h1, -⟩
      · rw [sc] at h4
        subst h4
        rw [sc] at hz
        subst hz
        obtain ⟨c1, c2, c3, c4, c5⟩ := com p2 (by omega) s2 l1 s1 s3 (Or.inr (ow_bl (l3 _ (by omega) (by omega))))
        refine ⟨by omega, by omega, z2, n95 c1 (fun j x y => ?_), fun _ => ⟨⟨l7, l8⟩, l7, l8⟩, fun _ => ⟨dnF X, upF X, ?_⟩⟩
        · rcases Nat.lt_or_ge j p2 with d | d
          · exact (ow_n (l3 j x d)).1
          · exact (bl_n (s3 j d y)).1
        · rw [c3, c4]
          have ne := nu_e m2
          refine Or.inr (Or.inr (Or.inr ⟨?_, ?_, rfl, ?_, by rw [hop]; rfl, X, m2, rfl, rfl⟩))
          · rintro (y | y)
            · omega
            · exact ne.1 (y.2 0 (by decide))
          · intro y
            exact ne.1 (y.2 0 (by decide))
          · rintro ⟨k, k1, k2, k3, -⟩
            exact (ow_n (l3 k k1 k2)).2.1 k3
      · exact absurd h1 (by decide)
      · exact absurd h1 (by decide)
      · exact absurd h1 (by decide)
      · exact absurd h1 (by decide)
    · -- a comma
      rw [if_pos rfl] at hp4
      subst hp4
      obtain ⟨k1, k2⟩ := hpr.mp rfl
      obtain ⟨u1, u2, u3, u4⟩ := sk_sp (t := t) (n := n) (p := cc + 1) (by omega)
      obtain ⟨h1, h2, h3, h4, h5, h6, h7, h8⟩ := hi_fw hhi u2 hn
      generalize hq3 : skV t n (cc + 1) = r3 at *
      have ex : ∃ ei, cc < ei ∧ ei ≤ p6 ∧ (∀ j, ei ≤ j → j < p6 → blB (t j) = true) ∧ blB (t (ei - 1)) = false ∧ (i2 = true ↔ nhB t (lT t ei (ei - (cc + 1))) ei) ∧ (i2 = false → lT t ei (ei - (cc + 1)) = r3 ∧ ei = p6) := by
        rcases (show r3 = p6 ∨ r3 < p6 by omega) with d | d
        · have it : i2 = true := by
            cases i2
            · have := (h6 rfl).1
              omega
            · rfl
          refine ⟨cc + 1, by omega, by omega, fun j x y => u3 j x (by omega), ?_, ⟨fun _ => Or.inl ?_, fun _ => it⟩, fun x => absurd (it.symm.trans x) (by decide)⟩
          · rw [show cc + 1 - 1 = cc by omega]
            exact b93 (Or.inr (Or.inl k2))
          · rw [Nat.sub_self]
            rfl
        · have e3 : lT t p6 (p6 - (cc + 1)) = r3 := sk_uq (n := p6) u1 (by omega) u3 (Or.inr (u4.resolve_left (by omega)))
          refine ⟨p6, by omega, Nat.le_refl _, fun j x y => by omega, ow_bl (h3 _ (by omega) (by omega)), ?_, fun _ => ⟨e3, rfl⟩⟩
          rw [e3]
          exact h4
      obtain ⟨ei, e1, e2, e3, e4, e5, e6⟩ := ex
      obtain ⟨c1, c2, c3, c4, c5⟩ := com ei (by omega) h2 (by omega) e2 e3 (Or.inr e4)
      refine ⟨by omega, by omega, z2, n95 c1 (fun j x y => ?_), fun _ => ⟨⟨l7, l8⟩, h7, h8⟩, fun hcm => ?_⟩
      · rcases (show j < p2 ∨ (p2 ≤ j ∧ j < cc) ∨ j = cc ∨ (cc + 1 ≤ j ∧ j < r3) ∨ (r3 ≤ j ∧ j < p6) ∨ p6 ≤ j by omega) with d | d | d | d | d | d
        · exact (ow_n (l3 j x d)).1
        · exact (bl_n (s3 j d.1 d.2)).1
        · rw [d, k2]; decide
        · exact (bl_n (u3 j d.1 d.2)).1
        · exact (ow_n (h3 j d.1 d.2)).1
        · exact (bl_n (c5 j d y)).1
      · have hcm := hcm rfl
        have ra : rT t q0 (cc - q0) = p2 := by
          refine rT_uq l1 (by omega) (fun j x y => s3 j x (by omega)) ?_
          rcases (show p2 = q0 ∨ q0 < p2 by omega) with d | d
          · exact Or.inl d
          · exact Or.inr (ow_bl (l3 _ (by omega) (by omega)))
        have noE : ∀ L : List Nat, (∀ i, i < L.length → owB (L.getD i 0) = true) → ¬ wdL t q0 ei L := by
          intro L hL y
          exact (ow_n (wd_o y hL cc (by omega) e1)).2.1 k2
        rw [c3, c4]
        have fin : ∀ (X Y : Rat), (i1 = false → nuX t q0 p2 X) → (i2 = false → nuX t r3 p6 Y) → (op = false → X ≤ Y) → ∃ L H, brR t q0 ei 9218868437227405312 (-9218868437227405312) false op L H := by
          intro X Y hX hY hXY
          refine ⟨_, _, Or.inr (Or.inr (Or.inl ⟨?_, noE wEnt (by decide), rfl, cc, ⟨by omega, e1, k2, fun j x y => ?_⟩, i1, i2, X, Y, ?_, e5, hop, ?_, ?_, hXY, rfl, rfl⟩))⟩
          · rintro (y | y)
            · omega
            · exact noE wEmp (by decide) y
          · rcases Nat.lt_or_ge j p2 with d | d
            · exact (ow_n (l3 j x d)).2.1
            · exact (bl_n (s3 j d y)).2.1
          · rw [ra]; exact l4
          · intro q
            rw [ra]
            exact hX q
          · intro q
            obtain ⟨w1, w2⟩ := e6 q
            rw [w1, w2]
            exact hY q
        rcases Bool.eq_false_or_eq_true i1 with ci | ci
        · have op1 : op = true := by rw [hop, ci]; rfl
          rcases Bool.eq_false_or_eq_true i2 with cj | cj
          · exact fin 0 0 (fun q => absurd (ci.symm.trans q) (by decide)) (fun q => absurd (cj.symm.trans q) (by decide)) (fun q => absurd (op1.symm.trans q) (by decide))
          · obtain ⟨-, Y, m2, -⟩ := h6 cj
            exact fin 0 Y (fun q => absurd (ci.symm.trans q) (by decide)) (fun _ => m2) (fun q => absurd (op1.symm.trans q) (by decide))
        · obtain ⟨-, X, m2, m3⟩ := l6 ci
          rcases Bool.eq_false_or_eq_true i2 with cj | cj
          · exact fin X 0 (fun _ => m2) (fun q => absurd (cj.symm.trans q) (by decide)) (fun q => absurd (q.symm.trans hop) (by rw [ci, cj]; decide))
          · obtain ⟨-, Y, m4, m5⟩ := h6 cj
            refine fin X Y (fun _ => m2) (fun _ => m4) (fun _ => ?_)
            rw [m3, m5] at hcm
            exact cmpR_z.mp hcm
