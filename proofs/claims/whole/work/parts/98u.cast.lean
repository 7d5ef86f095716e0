/-! an end that was rounded right is not astray -/
theorem cmpR_z {x y : Rat} : cmpR x y ≤ 0 ↔ x ≤ y := by
  unfold cmpR
  by_cases a : x < y
  · rw [if_pos a]
    exact ⟨fun _ => Rat.le_of_lt a, fun _ => by decide⟩
  · rw [if_neg a]
    by_cases b : x = y
    · rw [if_pos b]
      exact ⟨fun _ => by rw [b]; exact Rat.le_refl, fun _ => by decide⟩
    · rw [if_neg b]
      exact ⟨fun h => absurd h (by decide), fun h => absurd h (by grind)⟩
theorem cmpR_g {x y : Rat} : 0 ≤ cmpR x y ↔ y ≤ x := by
  unfold cmpR
  by_cases a : x < y
  · rw [if_pos a]
    exact ⟨fun h => absurd h (by decide), fun h => absurd h (by grind)⟩
  · rw [if_neg a]
    by_cases b : x = y
    · rw [if_pos b]
      exact ⟨fun _ => by rw [b]; exact Rat.le_refl, fun _ => by decide⟩
    · rw [if_neg b]
      exact ⟨fun _ => by grind, fun _ => by decide⟩
theorem fl_mI : fl (-9218868437227405312) = .inr true := by rw [fl_i (by decide)]; rfl
theorem fl_pI : fl 9218868437227405312 = .inr false := by rw [fl_i (by decide)]; rfl
theorem cm_dn {X : vE} {k : Int} (h : dnX X = k) (hk : k < 9218868437227405312) : cmX (fl k) X ≤ 0 ∧ 0 < cmX (fl (k + 1)) X := by
  rcases X with x | b
  · have s := dnF_s x
    rw [show dnF x = k from h] at s
    rcases s with ⟨e, s⟩ | ⟨a1, a2, a3, a4⟩
    · subst e
      rw [fl_mI, show (-9218868437227405312 + 1 : Int) = -9218868437227405311 by decide, fl_f (by decide)]
      exact ⟨show (-1 : Int32) ≤ 0 by decide, cmpR_p.mpr s⟩
    · rw [fl_f (iN_ff (by omega) (by omega))]
      refine ⟨cmpR_z.mpr a3, ?_⟩
      by_cases g : k < 9218868437227405311
      · rw [fl_f (iN_ff (by omega) (by omega))]
        exact cmpR_p.mpr (a4 g)
      · rw [show k + 1 = 9218868437227405312 by omega, fl_pI]
        exact (show (0 : Int32) < 1 by decide)
  · cases b
    · have e : (9218868437227405312 : Int) = k := h
      omega
    · have e : (-9218868437227405312 : Int) = k := h
      subst e
      rw [fl_mI, show (-9218868437227405312 + 1 : Int) = -9218868437227405311 by decide, fl_f (by decide)]
      exact ⟨by decide, by decide⟩
theorem cm_up {X : vE} {k : Int} (h : upX X = k) (hk : -9218868437227405312 < k) : 0 ≤ cmX (fl k) X ∧ cmX (fl (k - 1)) X < 0 := by
  rcases X with x | b
  · have s := upF_s x
    rw [show upF x = k from h] at s
    unfold upS at s
    rcases s with ⟨e, s⟩ | ⟨a1, a2, a3, a4⟩
    · have e : k = 9218868437227405312 := by omega
      subst e
      rw [fl_pI, show (9218868437227405312 - 1 : Int) = 9218868437227405311 by decide, fl_f (by decide)]
      refine ⟨show (0 : Int32) ≤ 1 by decide, cmpR_n.mpr ?_⟩
      rw [fval_neg] at s
      grind
    · rw [fl_f (iN_ff (by omega) (by omega))]
      rw [fval_neg] at a3
      refine ⟨cmpR_g.mpr (by grind), ?_⟩
      by_cases g : -k < 9218868437227405311
      · rw [fl_f (iN_ff (by omega) (by omega))]
        have := a4 g
        rw [show -k + 1 = -(k - 1) by omega, fval_neg] at this
        exact cmpR_n.mpr (by grind)
      · rw [show k - 1 = -9218868437227405312 by omega, fl_mI]
        exact (show (-1 : Int32) < 0 by decide)
  · cases b
    · have e : (9218868437227405312 : Int) = k := h
      subst e
      rw [fl_pI, show (9218868437227405312 - 1 : Int) = 9218868437227405311 by decide, fl_f (by decide)]
      exact ⟨by decide, by decide⟩
    · have e : (-9218868437227405312 : Int) = k := h
      omega
theorem or_K {k s e : Int} {i t : Bool} {p q : Nat} (hk : bF k) (hs : -1 ≤ s ∧ s ≤ 1) (hi : i = true → s ≠ 0) (hp : s ≠ 0 → p ≠ 0) (hq : q ≠ 0) (h : t = false ∨ i = true) : orK k s i t (rv s e p q) = cmX (fl k) (vlX s e i p q) := by
  unfold orK
  rw [if_neg (by rcases h with h | h <;> (intro z; rw [h] at z; exact absurd z (by simp only [reduceCtorEq, false_and, and_false, not_false_eq_true]))), ← fv_rv hk, fl_V hk]
  refine or_V ?_ ?_ ?_ (by decide) hs hi hp hq
  · rcases ilt_ge k 0 with c | c
    · rw [sgn_n c]; decide
    · rcases (show k = 0 ∨ 0 < k by omega) with rfl | d
      · decide
      · rw [sgn_p d]; decide
  · intro z
    have := of_decide_eq_true z
    rw [Ne, sg0]
    omega
  · intro z
    rw [Ne, sg0] at z
    exact fP_nz hk z
theorem G_big : p2 1023 ≤ fval 9218868437227405311 := by
  have e := fv_xt (e := 2046) (f := 2 ^ 52 - 1) (by decide) (by decide) (by decide)
  rw [show (9218868437227405311 : Int) = ((2046 * 2 ^ 52 + (2 ^ 52 - 1) : Nat) : Int) by decide, fval_nn', e, p2_split (show (((2046 : Nat) : Int) - 1075) ≤ 1023 by decide), rq_le]
  decide
theorem v_big {e : Int} {p : Nat} (hp : p < 2 ^ 53) (he : e ≤ 972) : (p : Rat) * p2 e < fval 9218868437227405311 * fval 9218868437227405311 := by
  have a1 : (p : Rat) < p2 53 := p2_ltn hp
  have a2 := p2_le he
  have a3 := p2_pos e
  have a4 : (p : Rat) * p2 e < p2 53 * p2 e := Rat.mul_lt_mul_of_pos_right a1 a3
  have a5 : p2 53 * p2 e ≤ p2 53 * p2 972 := Rat.mul_le_mul_of_nonneg_left a2 (Rat.le_of_lt (p2_pos 53))
  rw [← p2_add 53 972] at a5
  have a6 : p2 (53 + 972) ≤ p2 1023 * p2 1023 := by rw [← p2_add]; exact p2_le (by decide)
  have a7 := sq_mono (Rat.le_of_lt (p2_pos 1023)) G_big
  grind
theorem sq_slt {a b : Int} (h0 : 0 ≤ a) (h : a < b) (hb : b < 9223372036854775808) : fval a * fval a < fval b * fval b := by
  have oa : oF a := ⟨by omega, by omega⟩
  have ob : oF b := ⟨by omega, by omega⟩
  have v := (fval_ltI oa ob).mpr h
  have va := (fval_nn oa).mpr h0
  have k1 := Rat.mul_le_mul_of_nonneg_left (Rat.le_of_lt v) va
  have k2 := Rat.mul_lt_mul_of_pos_right v (show 0 < fval b by grind)
  grind
theorem as_lo {k s e : Int} {i t : Bool} {p q : Nat} (hs : -1 ≤ s ∧ s ≤ 1) (hz : szP s e i t p q) (hq : q ≠ 0) (h : dnT t (vlX s e i p q) = k) (hk : k < 9218868437227405312) (hb : -9218868437227405312 ≤ k) : orK k s i t (rv s e p q) ≤ 0 ∧ 0 < orK (k + 1) s i t (rv s e p q) := by
  have std : t = false ∨ i = true → orK k s i t (rv s e p q) ≤ 0 ∧ 0 < orK (k + 1) s i t (rv s e p q) := by
    intro c
    have hp : i = false → s ≠ 0 → p ≠ 0 := fun a b => (hz.2 a b).1
    have hd : dnX (vlX s e i p q) = k := by
      rcases c with c | c
      · rw [← h, c, dnT_f]
      · rw [← h, c, vlX_t]
        rfl
    rcases Bool.eq_false_or_eq_true i with ci | ci
    · subst ci
      have e1 : ∀ k', orK k' s true t (rv s e p q) = orK k' s true t (rv s e 1 1) := by
        intro k'
        unfold orK
        rw [if_neg (fun z => absurd z.2.1 (by decide)), if_neg (fun z => absurd z.2.1 (by decide))]
        unfold orX
        rw [Bool.or_true]
        simp only [Bool.or_false, Bool.false_or, Bool.or_true, Bool.true_or, Bool.and_true, Bool.true_and, Bool.and_false, Bool.false_and, Bool.not_true, Bool.not_false, reduceCtorEq, reduceIte, true_and, and_true, false_and, and_false, true_or, or_true, false_or, or_false, not_true_eq_false, not_false_eq_true, Nat.reduceEqDiff, Nat.reduceLT]
      rw [e1, e1, or_K ⟨hb, by omega⟩ hs hz.1 (fun _ => by decide) (by decide) (Or.inr rfl), or_K ⟨by omega, by omega⟩ hs hz.1 (fun _ => by decide) (by decide) (Or.inr rfl)]
      rw [vlX_t] at hd ⊢
      exact cm_dn hd hk
    · subst ci
      rw [or_K ⟨hb, by omega⟩ hs hz.1 (hp rfl) hq c, or_K ⟨by omega, by omega⟩ hs hz.1 (hp rfl) hq c]
      exact cm_dn hd hk
  cases t
  · exact std (Or.inl rfl)
  · cases i
    · rw [vlX_f] at h
      rw [dnT_t] at h
      by_cases s0 : s = 0
      · subst s0
        rw [rv_0, rd_0] at h
        subst h
        exact ⟨show (0 : Int32) ≤ 0 by decide, show (0 : Int32) < 1 by decide⟩
      · obtain ⟨p0, -, -, t1⟩ := hz.2 rfl s0
        obtain ⟨rfl, rfl, t2, t3, t4⟩ := t1 rfl
        have pv : 0 < rv 1 e p 1 := by rw [rv_1]; exact sv_pos p0 (by decide)
        have r := rd_s (x := rv 1 e p 1) (Rat.le_of_lt pv) (by rw [rv_1, sv_1]; exact v_big t2 t4)
        rw [h] at r
        obtain ⟨r1, r2, r3, r4⟩ := r
        have g : ∀ k' : Int, 0 < k' → k' < 9218868437227405312 → orK k' 1 false true (rv 1 e p 1) = cmpR (fval k' * fval k') (rv 1 e p 1) := by
          intro k' g1 g2
          unfold orK
          rw [if_pos ⟨rfl, rfl, g1, by omega⟩]
          rfl
        refine ⟨?_, by rw [g _ (by omega) (by omega)]; exact cmpR_p.mpr r4⟩
        rcases (show k = 0 ∨ 0 < k by omega) with rfl | c
        · unfold orK
          rw [if_neg (fun z => absurd z.2.2.1 (by decide))]
          show (-1 : Int32) ≤ 0
          decide
        · rw [g _ c (by omega)]
          exact cmpR_z.mpr r3
    · exact std (Or.inr rfl)
theorem as_hi {k s e : Int} {i t : Bool} {p q : Nat} (hs : -1 ≤ s ∧ s ≤ 1) (hz : szP s e i t p q) (hq : q ≠ 0) (h : upT t (vlX s e i p q) = k) (hk : -9218868437227405312 < k) (hb : k ≤ 9218868437227405312) : 0 ≤ orK k s i t (rv s e p q) ∧ orK (k - 1) s i t (rv s e p q) < 0 := by
  have std : t = false ∨ i = true → 0 ≤ orK k s i t (rv s e p q) ∧ orK (k - 1) s i t (rv s e p q) < 0 := by
    intro c
    have hp : i = false → s ≠ 0 → p ≠ 0 := fun a b => (hz.2 a b).1
    have hd : upX (vlX s e i p q) = k := by
      rcases c with c | c
      · rw [← h, c, upT_f]
      · rw [← h, c, vlX_t]
        rfl
    rcases Bool.eq_false_or_eq_true i with ci | ci
    · subst ci
      have e1 : ∀ k', orK k' s true t (rv s e p q) = orK k' s true t (rv s e 1 1) := by
        intro k'
        unfold orK
        rw [if_neg (fun z => absurd z.2.1 (by decide)), if_neg (fun z => absurd z.2.1 (by decide))]
        unfold orX
        rw [Bool.or_true]
        simp only [Bool.or_false, Bool.false_or, Bool.or_true, Bool.true_or, Bool.and_true, Bool.true_and, Bool.and_false, Bool.false_and, Bool.not_true, Bool.not_false, reduceCtorEq, reduceIte, true_and, and_true, false_and, and_false, true_or, or_true, false_or, or_false, not_true_eq_false, not_false_eq_true, Nat.reduceEqDiff, Nat.reduceLT]
      rw [e1, e1, or_K ⟨by omega, by omega⟩ hs hz.1 (fun _ => by decide) (by decide) (Or.inr rfl), or_K ⟨by omega, by omega⟩ hs hz.1 (fun _ => by decide) (by decide) (Or.inr rfl)]
      rw [vlX_t] at hd ⊢
      exact cm_up hd hk
    · subst ci
      rw [or_K ⟨by omega, by omega⟩ hs hz.1 (hp rfl) hq c, or_K ⟨by omega, by omega⟩ hs hz.1 (hp rfl) hq c]
      exact cm_up hd hk
  cases t
  · exact std (Or.inl rfl)
  · cases i
    · rw [vlX_f] at h
      rw [upT_t] at h
      by_cases s0 : s = 0
      · subst s0
        rw [rv_0, ru_0] at h
        subst h
        exact ⟨show (0 : Int32) ≤ 0 by decide, show (-1 : Int32) < 0 by decide⟩
      · obtain ⟨p0, -, -, t1⟩ := hz.2 rfl s0
        obtain ⟨rfl, rfl, t2, t3, t4⟩ := t1 rfl
        have pv : 0 < rv 1 e p 1 := by rw [rv_1]; exact sv_pos p0 (by decide)
        obtain ⟨r1, r2, r3, r4⟩ := rd_s (x := rv 1 e p 1) (Rat.le_of_lt pv) (by rw [rv_1, sv_1]; exact v_big t2 t4)
        have g : ∀ k' : Int, 0 < k' → k' < 9218868437227405312 → orK k' 1 false true (rv 1 e p 1) = cmpR (fval k' * fval k') (rv 1 e p 1) := by
          intro k' g1 g2
          unfold orK
          rw [if_pos ⟨rfl, rfl, g1, by omega⟩]
          rfl
        have g0 : orK 0 1 false true (rv 1 e p 1) < 0 := by
          unfold orK
          rw [if_neg (fun z => absurd z.2.2.1 (by decide))]
          show (-1 : Int32) < 0
          decide
        unfold ruF at h
        generalize rdF (rv 1 e p 1) = k0 at *
        by_cases c : fval k0 * fval k0 = rv 1 e p 1
        · rw [if_pos c] at h
          subst h
          have k0p : 0 < k0 := by
            rcases (show k0 = 0 ∨ 0 < k0 by omega) with rfl | d
            · rw [fval_0, Rat.zero_mul] at c
              rw [← c] at pv
              exact absurd pv (by decide)
            · exact d
          refine ⟨by rw [g _ k0p (by omega)]; exact cmpR_g.mpr (by rw [c]; exact Rat.le_refl), ?_⟩
          rcases (show k0 = 1 ∨ 0 < k0 - 1 by omega) with d | d
          · rw [show k0 - 1 = 0 by omega]; exact g0
          · rw [g _ d (by omega)]
            have := sq_slt (a := k0 - 1) (b := k0) (by omega) (by omega) (by omega)
            exact cmpR_n.mpr (by grind)
        · rw [if_neg c] at h
          subst h
          refine ⟨by rw [g _ (by omega) (by omega)]; exact cmpR_g.mpr (Rat.le_of_lt r4), ?_⟩
          rw [show k0 + 1 - 1 = k0 by omega]
          rcases (show k0 = 0 ∨ 0 < k0 by omega) with rfl | d
          · exact g0
          · rw [g _ d (by omega)]
            exact cmpR_n.mpr (by grind)
    · exact std (Or.inr rfl)
