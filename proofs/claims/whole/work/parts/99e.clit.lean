theorem cm_l (X : vE) : cmX (.inr true) X ≤ 0 := by
  rcases X with x | b
  · exact show (-1 : Int32) ≤ 0 by decide
  · cases b <;> decide
theorem cm_h (X : vE) : cmX X (.inr false) ≤ 0 := by
  rcases X with x | b
  · exact show (-1 : Int32) ≤ 0 by decide
  · cases b <;> decide
theorem bk_bw {t : Nat → Nat} {n f z p1 : Nat} {ok op em nn op' : Bool} {a b : rL} {L H : Int} (h : brR t (lT t z (z - (f + 1))) (rT t (lT t z (z - (f + 1))) (z - lT t z (z - (f + 1)))) 9218868437227405312 (-9218868437227405312) nn op' L H) (fz : f < z) (zn : z < n) (z93 : t z = 93) (hk : bkO t n (f + 1) ok op em p1 a b) : ok = true ∧ p1 = z + 1 ∧ op = op' ∧ em = nn ∧ (nn = false → L = dnX (vL a) ∧ H = upX (vL b) ∧ cmX (vL a) (vL b) ≤ 0) := by
  obtain ⟨o1, c, p6, hb, hc, hp1, hok⟩ := hk
  obtain ⟨q1, q2, q3, q4⟩ := sk_sp (t := t) (n := z) (p := f + 1) (by omega)
  have bz : blB (t z) = false := b93 (Or.inl z93)
  have e0 : skV t n (f + 1) = lT t z (z - (f + 1)) := by
    refine sk_uq q1 (Nat.le_trans q2 (by omega)) q3 (Or.inr ?_)
    rcases q4 with y | y
    · show blB (t (skV t z (f + 1))) = false
      rw [y]
      exact bz
    · exact y
  rw [e0] at hb
  have q1 : f + 1 ≤ lT t z (z - (f + 1)) := q1
  have q2 : lT t z (z - (f + 1)) ≤ z := q2
  have q4 : lT t z (z - (f + 1)) = z ∨ blB (t (lT t z (z - (f + 1)))) = false := q4
  generalize lT t z (z - (f + 1)) = fi at *
  obtain ⟨r1, r2, r3, r4⟩ := rT_sp t fi (z - fi)
  generalize rT t fi (z - fi) = ei at *
  have skz : ∀ p, ei ≤ p → p ≤ z → skV t n p = z := fun p x y => sk_uq y (by omega) (fun j u v => r3 j (by omega) (by omega)) (Or.inr bz)
  have nbf : fi < z → blB (t fi) = false := fun x => q4.resolve_left (by omega)
  have fin : ei ≤ p6 → p6 ≤ z → o1 = true → ok = true ∧ p1 = z + 1 := by
    intro x y w
    have e := skz p6 x y
    rw [e] at hc hp1
    have ct : c = true := hc.mpr ⟨zn, z93⟩
    subst ct w
    rw [if_pos rfl] at hp1
    exact ⟨hok, hp1⟩
  have ste : fi < ei → blB (t ei) = true ∨ t ei = 93 := by
    intro x
    rcases (show ei < z ∨ ei = z by omega) with d | d
    · exact Or.inl (r3 ei (Nat.le_refl _) (by omega))
    · rw [d]; exact Or.inr z93
  rcases h with ⟨h1, h2, h3, h4, h5⟩ | ⟨h1, h2, h3, h4, h5, h6⟩ | ⟨h1, h2, h3, c', ⟨m1, m2, m3, m4⟩, nl, nh, X, Y, g1, g2, g3, g4, g5, g6, g7, g8⟩ | ⟨h1, h2, h3, h4, h5, X, h6, h7, h8⟩
  · subst h2 h3
    rcases h1 with h1 | h1
    · have fz' : fi = z := by
        rcases (show fi < z ∨ fi = z by omega) with d | d
        · have := r3 fi (by omega) (by omega)
          rw [nbf d] at this
          exact absurd this (by decide)
        · exact d
      have t93 : t fi = 93 := by rw [fz']; exact z93
      rcases hb with ⟨b1, -⟩ | ⟨b0, b1, b2, b3, b4, b5⟩ | ⟨b0, b1, -⟩ | ⟨b0, b1, -⟩
      · have : t fi = 101 := b1.2 0 (by decide)
        omega
      · obtain ⟨f1, f2⟩ := fin (by omega) (by omega) b2
        exact ⟨f1, f2, b3, b4, fun x => absurd x (by decide)⟩
      · exact absurd ⟨by omega, t93⟩ b1
      · exact absurd ⟨by omega, t93⟩ b1
    · have w := wd_wk h1 (show ei ≤ n by omega)
      have l5 : fi + 5 = ei := h1.1
      have t0 : t fi = 101 := w.2 0 (by decide)
      have t1 : t (fi + 1) = 109 := w.2 1 (by decide)
      rcases hb with ⟨b1, -⟩ | ⟨b0, b1, -⟩ | ⟨b0, b1, b2, b3, b4, b5, b6⟩ | ⟨b0, b1, b2, -⟩
      · have : t (fi + 1) = 110 := b1.2 1 (by decide)
        omega
      · have := b1.2
        omega
      · obtain ⟨f1, f2⟩ := fin (by omega) (by omega) b3
        exact ⟨f1, f2, b4, b5, fun x => absurd x (by decide)⟩
      · exact absurd w b2
  · subst h3 h4 h5 h6
    have w := wd_wk h2 (show ei ≤ n by omega)
    have l6 : fi + 6 = ei := h2.1
    rcases hb with ⟨b1, b2, b3, b4, b5, b6, b7⟩ | ⟨b0, -⟩ | ⟨b0, -⟩ | ⟨b0, -⟩
    · obtain ⟨f1, f2⟩ := fin (by omega) (by omega) b2
      refine ⟨f1, f2, b3, b4, fun _ => ?_⟩
      rw [b6, b7]
      exact ⟨rfl, rfl, cm_l _⟩
    · exact absurd w b0
    · exact absurd w b0
    · exact absurd w b0
  · subst h3
    have fz2 : fi < z := by omega
    have nb0 := nbf fz2
    obtain ⟨a1, a2, a3, a4⟩ := rT_sp t fi (c' - fi)
    have sta : blB (t (rT t fi (c' - fi))) = true ∨ t (rT t fi (c' - fi)) = 44 := by
      rcases (show rT t fi (c' - fi) < c' ∨ rT t fi (c' - fi) = c' by omega) with d | d
      · exact Or.inl (a3 _ (Nat.le_refl _) (by omega))
      · rw [d]; exact Or.inr m3
    generalize rT t fi (c' - fi) = a' at *
    have first : t fi ≠ 101 ∧ t fi ≠ 93 := by
      rcases Bool.eq_false_or_eq_true nl with y | y
      · rcases g1.mp y with u | u | u
        · rw [u] at sta
          rcases sta with v | v
          · rw [nb0] at v
            exact absurd v (by decide)
          · omega
        · have : t fi = 45 := u.2 0 (by decide)
          omega
        · have : t fi = 45 := u.2 0 (by decide)
          omega
      · have := nu_e (g4 y)
        exact ⟨this.1, this.2.1⟩
    rcases hb with ⟨b1, -⟩ | ⟨b0, b1, -⟩ | ⟨b0, b1, b2, -⟩ | ⟨b0, b1, b2, b3, i1, i2, oo1, oo2, pr, p2, p4, hlo, hpr, hp4, hhi, hop, hok2⟩
    · exact absurd (b1.2 0 (by decide)) first.1
    · exact absurd b1.2 first.2
    · exact absurd (b2.2 0 (by decide)) first.1
    · obtain ⟨lb1, lb2⟩ := lo_bw hlo a1 (by omega) (sta.imp id Or.inl) nb0 first.2
      have lo : oo1 = true ∧ i1 = nl ∧ p2 = a' ∧ vL a = (if nl = true then .inr true else .inl X) := by
        rcases Bool.eq_false_or_eq_true nl with y | y
        · obtain ⟨u1, u2, u3, u4⟩ := lb1 (g1.mp y)
          exact ⟨u1, u2.trans y.symm, u3, by rw [if_pos y]; exact u4⟩
        · obtain ⟨u1, u2, u3, u4⟩ := lb2 X (fun q => absurd (y.symm.trans (g1.mpr q)) (by decide)) (g4 y)
          exact ⟨u1, u2.trans y.symm, u3, by rw [y, if_neg (by decide)]; exact u4⟩
      obtain ⟨u1, u2, u3, u4⟩ := lo
      have sc : skV t n p2 = c' := by
        rw [u3]
        exact sk_uq (by omega) (by omega) (fun j x y => a3 j x (by omega)) (Or.inr (b93 (Or.inr (Or.inl m3))))
      rw [sc] at hpr hp4
      have prt : pr = true := hpr.mpr ⟨by omega, m3⟩
      subst prt
      rw [if_pos rfl] at hp4
      subst hp4
      obtain ⟨v1, v2, v3, v4⟩ := sk_sp (t := t) (n := ei) (p := c' + 1) (by omega)
      have v1 : c' + 1 ≤ lT t ei (ei - (c' + 1)) := v1
      have v2 : lT t ei (ei - (c' + 1)) ≤ ei := v2
      have v3 : ∀ j, c' + 1 ≤ j → j < lT t ei (ei - (c' + 1)) → blB (t j) = true := v3
      have v4 : lT t ei (ei - (c' + 1)) = ei ∨ blB (t (lT t ei (ei - (c' + 1)))) = false := v4
      generalize lT t ei (ei - (c' + 1)) = b' at *
      have hi : oo2 = true ∧ i2 = nh ∧ ei ≤ p6 ∧ p6 ≤ z ∧ vL b = (if nh = true then .inr false else .inl Y) := by
        rcases (show b' = ei ∨ b' < ei by omega) with d | d
        · have ec : ei = c' + 1 := by
            refine Decidable.byContradiction fun q => ?_
            have x1 := r4.resolve_left (by omega)
            have x2 := v3 (ei - 1) (by omega) (by omega)
            rw [x1] at x2
            exact absurd x2 (by decide)
          have qz : skV t n (c' + 1) = z := skz _ (by omega) (by omega)
          rw [qz] at hhi
          obtain ⟨w1, w2, w3, w4⟩ := (hi_bw hhi (Nat.le_refl _) zn (Or.inr z93)).1 z93
          have nht : nh = true := g2.mpr (Or.inl d)
          exact ⟨w1, w2.trans nht.symm, by omega, by omega, by rw [if_pos nht]; exact w4⟩
        · have q3' : skV t n (c' + 1) = b' := sk_uq v1 (by omega) v3 (Or.inr (v4.resolve_left (by omega)))
          rw [q3'] at hhi
          obtain ⟨-, w2, w3⟩ := hi_bw hhi (by omega) (by omega) (ste (by omega))
          rcases Bool.eq_false_or_eq_true nh with y | y
          · obtain ⟨x1, x2, x3, x4⟩ := w2 d (g2.mp y)
            exact ⟨x1, x2.trans y.symm, by omega, by omega, by rw [if_pos y]; exact x4⟩
          · obtain ⟨x1, x2, x3, x4⟩ := w3 Y (g5 y)
            exact ⟨x1, x2.trans y.symm, by omega, by omega, by rw [y, if_neg (by decide)]; exact x4⟩
      obtain ⟨x1, x2, x3, x4, x5⟩ := hi
      obtain ⟨f1, f2⟩ := fin x3 x4 (by rw [hok2, u1, x1]; rfl)
      refine ⟨f1, f2, by rw [hop, g3, u2, x2], b3, fun _ => ?_⟩
      rw [u4, x5, g7, g8]
      refine ⟨?_, ?_, ?_⟩
      · cases nl <;> rfl
      · cases nh <;> rfl
      · cases nl
        · cases nh
          · exact cmpR_z.mpr (g6 g3)
          · exact cm_h _
        · exact cm_l _
  · subst h3 h5
    have ne := nu_e h6
    have f1 := (nu_f h6).1
    have nb0 := nbf (by omega)
    rcases hb with ⟨b1, -⟩ | ⟨b0, b1, -⟩ | ⟨b0, b1, b2, -⟩ | ⟨b0, b1, b2, b3, i1, i2, oo1, oo2, pr, p2, p4, hlo, hpr, hp4, hhi, hop, hok2⟩
    · exact absurd (b1.2 0 (by decide)) ne.1
    · exact absurd b1.2 ne.2.1
    · exact absurd (b2.2 0 (by decide)) ne.1
    · obtain ⟨u1, u2, u3, u4⟩ := (lo_bw hlo (Nat.le_of_lt f1) (by omega) ((ste f1).imp id Or.inr) nb0 ne.2.1).2 X (by
        rintro (y | y | y)
        · omega
        · exact ne.2.2.2 (y.2 0 (by decide)) (y.2 1 (by decide))
        · exact ne.2.2.2 (y.2 0 (by decide)) (y.2 1 (by decide))) h6
      have sc : skV t n p2 = z := skz _ (by omega) (by omega)
      rw [sc] at hpr hp4
      have prf : pr = false := by
        cases pr
        · rfl
        · have := (hpr.mp rfl).2
          omega
      subst prf
      rw [if_neg (by decide)] at hp4
      subst hp4
      rcases hhi with ⟨-, rfl, d3, d4, rfl⟩ | ⟨d1, -⟩ | ⟨d1, -⟩ | ⟨d1, -⟩ | ⟨d1, -⟩
      · rw [sk_n zn bz] at d4
        obtain ⟨w1, w2⟩ := fin (by omega) (by omega) (by rw [hok2, u1, d3, u2]; rfl)
        refine ⟨w1, w2, by rw [hop, u2]; rfl, b3, fun _ => ?_⟩
        rw [u4, h7, h8]
        exact ⟨rfl, rfl, cmpR_z.mpr Rat.le_refl⟩
      · exact absurd d1 (by decide)
      · exact absurd d1 (by decide)
      · exact absurd d1 (by decide)
      · exact absurd d1 (by decide)
