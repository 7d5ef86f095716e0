theorem sg_st {t : Nat → Nat} {p e n : Nat} (pe : p ≤ e) (en : e ≤ n) (hs : e = n ∨ ¬ ncB (t e)) : sgP t p e = sgP t p n := by
  rcases (show p < e ∨ p = e by omega) with c | rfl
  · exact sg_c c en
  · rcases hs with rfl | hs
    · rfl
    · unfold sgP
      rw [if_neg (by omega), if_neg (fun q => hs (by unfold ncB; omega))]
/-- a number's first bytes -/
theorem nTx_f {t : Nat → Nat} {f e P q : Nat} {x : Int} (h : nTx t f e P q x) : f < e ∧ sgP t f e < e ∧ (dgB (t (sgP t f e)) = true ∨ t (sgP t f e) = 46) := by
  obtain ⟨g1, g2, g3, g4⟩ := sg_b t f e
  have key : sgP t f e < e → (dgB (t (sgP t f e)) = true ∨ t (sgP t f e) = 46) → f < e ∧ sgP t f e < e ∧ (dgB (t (sgP t f e)) = true ∨ t (sgP t f e) = 46) := fun a b => ⟨by omega, a, b⟩
  rcases h with ⟨c1, -⟩ | ⟨-, -, sl, hs, hr, -⟩ | ⟨-, -, k, dg, sc, v, er, d0, -⟩
  · refine key (by have := c1.1; omega) (Or.inl ?_)
    rw [c1.2.1]
    decide
  · unfold raB at hr
    simp only [Bool.and_eq_true, decide_eq_true_eq] at hr
    obtain ⟨⟨⟨⟨c1, c2⟩, c3⟩, c4⟩, c5⟩ := hr
    exact key (by omega) (Or.inl (alB_at c3 (Nat.le_refl _) (by omega)))
  · obtain ⟨r1, r2, r3, r4, r5, r6, r7, r8, r9, r10⟩ := rdG_p (by decide) _ _ _ _ _ _ er
    refine key (by omega) ?_
    rcases r4 _ (Nat.le_refl _) (by omega) with c | c
    · exact Or.inl (hx10.mp c)
    · exact Or.inr c
theorem nm_bw {t : Nat → Nat} {n p e' p' : Nat} {ok : Bool} {s e : Int} {P q P' q' : Nat} {x : Int} (h : nTx t p e' P' q' x) (en : e' ≤ n) (hs : e' = n ∨ ¬ ncB (t e')) (hn : nmO t n p ok p' s e P q) : ok = true ∧ p' = e' ∧ nval (ngB t p e') P' q' x = rv s e P q := by
  obtain ⟨f1, f2, f3⟩ := nTx_f h
  obtain ⟨g1, g2, g3, g4⟩ := sg_b t p e'
  obtain ⟨k, dg, sc, v, hsv, hn⟩ := hn
  rw [sg_v f1 en] at hsv
  have sge := sg_c (t := t) f1 en
  rw [← sge] at hn
  unfold nTx at h
  generalize hg : sgP t p e' = p1 at *
  have stp : ∀ B, B ≤ 16 → ∀ a, a ≤ e' → (e' - a = n - a ∨ ¬ hxB (t (a + (e' - a))) < B ∧ t (a + (e' - a)) ≠ 46) := by
    intro B hB a ha
    rcases hs with hs | hs
    · exact Or.inl (by omega)
    · rw [show a + (e' - a) = e' by omega]
      exact Or.inr (nc_st hB hs)
  have hexI : wkB t n p1 hxG 0 2 → hexB t p1 e' := by
    intro q
    have x0 : t p1 = 48 := q.2 0 (by decide)
    have x1 : t (p1 + 1) = 120 := q.2 1 (by decide)
    have q1 := q.1
    refine ⟨?_, x0, x1⟩
    refine Decidable.byContradiction fun c => ?_
    rcases hs with hs | hs
    · omega
    · rw [show e' = p1 + 1 by omega, x1] at hs
      exact hs (by unfold ncB; omega)
  have sd : e' = n ∨ dgB (t e') = false := hs.imp id (fun q => by
    rcases Bool.eq_false_or_eq_true (dgB (t e')) with c | c
    · exact absurd (nc_d c) q
    · exact c)
  rcases h with ⟨c1, k', dg', sc', er', d0, k1', k2', ex', rfl, rfl⟩ | ⟨c1, -, sl, hsl, hr, rfl, rfl, rfl⟩ | ⟨c1, c2, k', dg', sc', v', er', d0, rfl, E', hE, rfl, rfl⟩
  · rcases hn with ⟨hw, er, k1, d, hk1, hd, hp', he, hP, hq, okk⟩ | ⟨hw, -⟩
    · rw [rdG_cut (e' - (p1 + 2)) (n - (p1 + 2)) _ _ _ _ _ (by omega) (stp 16 (by decide) _ (by have := c1.1; omega)), er'] at er
      simp only [Prod.mk.injEq] at er
      obtain ⟨rfl, rfl, rfl, rfl⟩ := er
      rw [if_pos ⟨by omega, k2'⟩] at hk1
      subst hk1 hP hq
      have pl := pl_sc (by decide) er'
      unfold exB at ex'
      simp only [Bool.and_eq_true, decide_eq_true_eq] at ex'
      obtain ⟨⟨x1, x2⟩, x3⟩ := ex'
      have u := sg_b t (k' + 1) e'
      have sc2 := sg_c (t := t) (p := k' + 1) (e := e') (n := n) (by omega) en
      have ev := ex_V (t := t) (p := k' + 1) (e := e') (n := n) (by omega) en
      rw [← sc2] at hd hp' he ev
      have dd := exD_e hd (by omega) en (by omega) x3 sd
      refine ⟨?_, by omega, ?_⟩
      · rw [okk, decide_eq_true d0, decide_eq_true ⟨by omega, k2'⟩, decide_eq_true (show 0 < d by omega)]
        rfl
      · rw [he, pl, ev, dd]
        exact (v_eq hsv id).symm
    · exact absurd ⟨by have := c1.1; omega, fun i hi => by
        rcases (show i = 0 ∨ i = 1 by omega) with rfl | rfl
        · exact c1.2.1
        · exact c1.2.2⟩ hw
  · rcases hn with ⟨hw, -⟩ | ⟨hw, er, hn⟩
    · exact absurd (hexI hw) c1
    · unfold raB at hr
      simp only [Bool.and_eq_true, decide_eq_true_eq] at hr
      obtain ⟨⟨⟨⟨c1, c2⟩, c3⟩, c4⟩, c5⟩ := hr
      obtain ⟨s1, s2, s3, s4⟩ := hsl
      rw [rd_run (d := sl - p1) (by omega) c3 (Or.inr (by rw [show p1 + (sl - p1) = sl by omega, s3]; exact ⟨by decide, Or.inl (by decide)⟩))] at er
      simp only [Prod.mk.injEq] at er
      obtain ⟨e1, e2, e3, e4⟩ := er
      have ek : k = sl := by omega
      subst ek
      rcases hn with ⟨h1, h2, h3, dg2, sc2, er2, rfl, rfl, okk⟩ | ⟨h1, -⟩
      · rw [rd_run (d := e' - (k + 1)) (by omega) c4 (by
          rcases sd with y | y
          · exact Or.inl (by omega)
          · rw [show k + 1 + (e' - (k + 1)) = e' by omega]
            exact Or.inr ⟨y, Or.inr rfl⟩)] at er2
        simp only [Prod.mk.injEq] at er2
        obtain ⟨i1, i2, i3, i4⟩ := er2
        refine ⟨?_, by omega, ?_⟩
        · rw [okk, decide_eq_true (show 0 < dg by omega), decide_eq_true (show 0 < dg2 by omega), decide_eq_true (show 0 < q by omega)]
          rfl
        · rw [e4, i4]
          exact (v_eq hsv id).symm
      · exact absurd ⟨by omega, by omega, s3⟩ h1
  · rcases hn with ⟨hw, -⟩ | ⟨hw, er, hn⟩
    · exact absurd (hexI hw) c1
    · rw [rdG_cut (e' - p1) (n - p1) _ _ _ _ _ (by omega) (stp 10 (by decide) _ (by omega)), er'] at er
      simp only [Prod.mk.injEq] at er
      obtain ⟨rfl, rfl, rfl, rfl⟩ := er
      obtain ⟨r1, r2, -⟩ := rdG_p (by decide) _ _ _ _ _ _ er'
      have pl := pl_sc (by decide) er'
      rcases hn with ⟨h1, h2, h3, -⟩ | ⟨h1, E, hE2, hv⟩
      · exfalso
        have r4 := (rdG_p (by decide) _ _ _ _ _ _ er').2.2.2.1
        rcases (show k' < e' ∨ k' = e' by omega) with c | c
        · refine c2 ⟨k', by omega, c, h3, fun j a b z => ?_⟩
          have := r4 j a b
          rw [z] at this
          exact absurd this (by decide)
        · rcases hs with y | y
          · omega
          · rw [← c, h3] at y
            exact y (by unfold ncB; omega)
      · have val : E = E' → nval (ngB t p e') (v' * 10 ^ (E' - (sc' : Int)).toNat) (1 * 10 ^ (-(E' - (sc' : Int))).toNat) 0 = rv s e P q := by
          intro eE
          rw [pl, eE] at hv
          rcases hv with ⟨z1, z2, z3, z4⟩ | ⟨z1, z2, z3, z4⟩
          · have v0 : v' = 0 := by
              refine Decidable.byContradiction fun c => ?_
              rw [hsv, if_neg c] at z1
              split at z1 <;> omega
            rw [v0, Nat.zero_mul, nval_0, z1, rv_0]
          · rw [z2, z3, z4]
            exact (v_ten hsv).symm
        rcases hE with ⟨a1, a2⟩ | ⟨a1, a2, a3, a4⟩
        · rcases hE2 with ⟨b1, b2, -⟩ | ⟨b1, hp', hEv, okk⟩
          · exfalso
            rcases hs with y | y
            · omega
            · rw [← a1, b2] at y
              exact y (by unfold ncB; omega)
          · exact ⟨by rw [okk, decide_eq_true d0], by omega, val (by omega)⟩
        · rcases hE2 with ⟨b1, b2, d, hd, hp', hEv, okk⟩ | ⟨b1, -⟩
          · unfold exB at a3
            simp only [Bool.and_eq_true, decide_eq_true_eq] at a3
            obtain ⟨⟨x1, x2⟩, x3⟩ := a3
            have u := sg_b t (k' + 1) e'
            have sc2 := sg_c (t := t) (p := k' + 1) (e := e') (n := n) (by omega) en
            have ev := ex_V (t := t) (p := k' + 1) (e := e') (n := n) (by omega) en
            rw [← sc2] at hd hp' hEv ev
            have dd := exD_e hd (by omega) en (by omega) x3 sd
            refine ⟨?_, by omega, val ?_⟩
            · rw [okk, decide_eq_true d0, decide_eq_true (show 0 < d by omega)]
              rfl
            · rw [hEv, a4, ev, dd]
          · exact absurd ⟨by omega, a2⟩ b1
