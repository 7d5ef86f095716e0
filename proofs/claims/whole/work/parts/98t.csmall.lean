/-! questions, order, numbers, marks: both sides alike -/
theorem ibC {lo hi : Int} (n : nC lo hi) : ibB false lo hi = bC lo hi := ib_b (nC_l n) (nC_h n)
theorem su_is {k : Nat} {c : vC} (hc : cOk c) (hk : k ≤ 4) : suB k c.2.1 c.2.2 c.1 = isB k c := by
  unfold suB isB
  by_cases m : c.1 = 0
  · rw [if_pos m, decide_eq_true m, if_pos m]
    by_cases q : k = 2
    · rw [if_pos q, decide_eq_true q]
    · rw [if_neg q, decide_eq_false q]
  · rw [if_neg m, decide_eq_false m, if_neg m, eB_C hc m, rLo_n m, rHi_n m]
    have w := cC hc m
    rcases (show k = 0 ∨ k = 1 ∨ k = 2 ∨ k = 3 ∨ k = 4 by omega) with rfl | rfl | rfl | rfl | rfl
    · simp only [Bool.or_false, Bool.false_or, Bool.or_true, Bool.true_or, Bool.and_true, Bool.true_and, Bool.and_false, Bool.false_and, Bool.not_true, Bool.not_false, reduceCtorEq, reduceIte, true_and, and_true, false_and, and_false, true_or, or_true, false_or, or_false, not_true_eq_false, not_false_eq_true, Nat.reduceEqDiff, Nat.reduceLT]
    · simp only [Bool.or_false, Bool.false_or, Bool.or_true, Bool.true_or, Bool.and_true, Bool.true_and, Bool.and_false, Bool.false_and, Bool.not_true, Bool.not_false, reduceCtorEq, reduceIte, true_and, and_true, false_and, and_false, true_or, or_true, false_or, or_false, not_true_eq_false, not_false_eq_true, Nat.reduceEqDiff, Nat.reduceLT]
      unfold eC iN
      unfold wC bF at w
      rw [Bool.eq_iff_iff]
      simp only [Bool.and_eq_true, Bool.not_eq_true', decide_eq_true_eq, decide_eq_false_iff_not]
      omega
    · simp only [Bool.or_false, Bool.false_or, Bool.or_true, Bool.true_or, Bool.and_true, Bool.true_and, Bool.and_false, Bool.false_and, Bool.not_true, Bool.not_false, reduceCtorEq, reduceIte, true_and, and_true, false_and, and_false, true_or, or_true, false_or, or_false, not_true_eq_false, not_false_eq_true, Nat.reduceEqDiff, Nat.reduceLT]
    · simp only [Bool.or_false, Bool.false_or, Bool.or_true, Bool.true_or, Bool.and_true, Bool.true_and, Bool.and_false, Bool.false_and, Bool.not_true, Bool.not_false, reduceCtorEq, reduceIte, true_and, and_true, false_and, and_false, true_or, or_true, false_or, or_false, not_true_eq_false, not_false_eq_true, Nat.reduceEqDiff, Nat.reduceLT]
      rcases Bool.eq_false_or_eq_true (eC c.2.1 c.2.2) with e | e
      · have : bdB c = false := by
          unfold bdB
          rw [eB_C hc m, e]
          rfl
        rw [e, this]
        rfl
      · rw [bdB_C hc m e, e]
        rfl
    · simp only [Bool.or_false, Bool.false_or, Bool.or_true, Bool.true_or, Bool.and_true, Bool.true_and, Bool.and_false, Bool.false_and, Bool.not_true, Bool.not_false, reduceCtorEq, reduceIte, true_and, and_true, false_and, and_false, true_or, or_true, false_or, or_false, not_true_eq_false, not_false_eq_true, Nat.reduceEqDiff, Nat.reduceLT]
      unfold eC
      unfold wC bF at w
      rw [Bool.eq_iff_iff]
      simp only [Bool.and_eq_true, Bool.not_eq_true', decide_eq_true_eq, decide_eq_false_iff_not]
      omega
theorem st_sB {k : Nat} {x y : vC} (hx : cOk x) (hy : cOk y) (m1 : x.1 ≠ 0) (m2 : y.1 ≠ 0) (hk : k ≤ 7) : stC k x.2.1 x.2.2 y.2.1 y.2.2 = sB k x y := by
  have wx := cC hx m1
  have wy := cC hy m2
  unfold stC sB
  rw [eB_C hx m1, eB_C hy m2, rLo_n m1, rHi_n m1, rLo_n m2, rHi_n m2]
  rcases Bool.eq_false_or_eq_true (eC x.2.1 x.2.2 || eC y.2.1 y.2.2) with e | e
  · rw [e]
    by_cases k0 : k = 0
    · subst k0
      have z : decide (0 < 0) = false := rfl
      rw [z]
      simp only [Bool.or_false, Bool.false_or, Bool.or_true, Bool.true_or, Bool.and_true, Bool.true_and, Bool.and_false, Bool.false_and, Bool.not_true, Bool.not_false, reduceCtorEq, reduceIte, true_and, and_true, false_and, and_false, true_or, or_true, false_or, or_false, not_true_eq_false, not_false_eq_true, Nat.reduceEqDiff, Nat.reduceLT]
      unfold eC at *
      unfold wC bF at wx wy
      rw [Bool.or_eq_true, decide_eq_true_iff, decide_eq_true_iff] at e
      rw [Bool.eq_iff_iff]
      simp only [Bool.and_eq_true, decide_eq_true_eq]
      omega
    · rw [if_neg k0, if_pos rfl, if_pos rfl, decide_eq_true (show 0 < k by omega)]
      unfold seC
      generalize eC x.2.1 x.2.2 = a at *
      generalize eC y.2.1 y.2.2 = b at *
      rcases (show k = 1 ∨ k = 2 ∨ k = 3 ∨ k = 4 ∨ k = 5 ∨ k = 6 ∨ k = 7 by omega) with rfl | rfl | rfl | rfl | rfl | rfl | rfl <;> revert e <;> revert a b <;> decide
  · rw [e]
    have e' := Bool.or_eq_false_iff.mp e
    have nx := wC_n wx e'.1
    have ny := wC_n wy e'.2
    unfold nC bF at nx ny
    rcases (show k = 0 ∨ k = 1 ∨ k = 2 ∨ k = 3 ∨ k = 4 ∨ k = 5 ∨ k = 6 ∨ k = 7 by omega) with rfl | rfl | rfl | rfl | rfl | rfl | rfl | rfl
    · simp only [Bool.or_false, Bool.false_or, Bool.or_true, Bool.true_or, Bool.and_true, Bool.true_and, Bool.and_false, Bool.false_and, Bool.not_true, Bool.not_false, reduceCtorEq, reduceIte, true_and, and_true, false_and, and_false, true_or, or_true, false_or, or_false, not_true_eq_false, not_false_eq_true, Nat.reduceEqDiff, Nat.reduceLT]
    · simp only [Bool.or_false, Bool.false_or, Bool.or_true, Bool.true_or, Bool.and_true, Bool.true_and, Bool.and_false, Bool.false_and, Bool.not_true, Bool.not_false, reduceCtorEq, reduceIte, true_and, and_true, false_and, and_false, true_or, or_true, false_or, or_false, not_true_eq_false, not_false_eq_true, Nat.reduceEqDiff, Nat.reduceLT]
    · simp only [Bool.or_false, Bool.false_or, Bool.or_true, Bool.true_or, Bool.and_true, Bool.true_and, Bool.and_false, Bool.false_and, Bool.not_true, Bool.not_false, reduceCtorEq, reduceIte, true_and, and_true, false_and, and_false, true_or, or_true, false_or, or_false, not_true_eq_false, not_false_eq_true, Nat.reduceEqDiff, Nat.reduceLT]
    · simp only [Bool.or_false, Bool.false_or, Bool.or_true, Bool.true_or, Bool.and_true, Bool.true_and, Bool.and_false, Bool.false_and, Bool.not_true, Bool.not_false, reduceCtorEq, reduceIte, true_and, and_true, false_and, and_false, true_or, or_true, false_or, or_false, not_true_eq_false, not_false_eq_true, Nat.reduceEqDiff, Nat.reduceLT]
    · simp only [Bool.or_false, Bool.false_or, Bool.or_true, Bool.true_or, Bool.and_true, Bool.true_and, Bool.and_false, Bool.false_and, Bool.not_true, Bool.not_false, reduceCtorEq, reduceIte, true_and, and_true, false_and, and_false, true_or, or_true, false_or, or_false, not_true_eq_false, not_false_eq_true, Nat.reduceEqDiff, Nat.reduceLT]
      unfold byB iN
      rw [Bool.eq_iff_iff]
      simp only [Bool.and_eq_true, decide_eq_true_eq]
      omega
    · simp only [Bool.or_false, Bool.false_or, Bool.or_true, Bool.true_or, Bool.and_true, Bool.true_and, Bool.and_false, Bool.false_and, Bool.not_true, Bool.not_false, reduceCtorEq, reduceIte, true_and, and_true, false_and, and_false, true_or, or_true, false_or, or_false, not_true_eq_false, not_false_eq_true, Nat.reduceEqDiff, Nat.reduceLT]
      unfold byB iN
      rw [Bool.eq_iff_iff]
      simp only [Bool.and_eq_true, decide_eq_true_eq]
      omega
    · simp only [Bool.or_false, Bool.false_or, Bool.or_true, Bool.true_or, Bool.and_true, Bool.true_and, Bool.and_false, Bool.false_and, Bool.not_true, Bool.not_false, reduceCtorEq, reduceIte, true_and, and_true, false_and, and_false, true_or, or_true, false_or, or_false, not_true_eq_false, not_false_eq_true, Nat.reduceEqDiff, Nat.reduceLT]
    · simp only [Bool.or_false, Bool.false_or, Bool.or_true, Bool.true_or, Bool.and_true, Bool.true_and, Bool.and_false, Bool.false_and, Bool.not_true, Bool.not_false, reduceCtorEq, reduceIte, true_and, and_true, false_and, and_false, true_or, or_true, false_or, or_false, not_true_eq_false, not_false_eq_true, Nat.reduceEqDiff, Nat.reduceLT]
theorem mid_b {l h : Int} (hl : bF l) (hh : bF h) (il : iN l = false) (ih : iN h = false) (hlh : l ≤ h) : l ≤ nrF ((fval l + fval h) / 2) ∧ nrF ((fval l + fval h) / 2) ≤ h := by
  have v := (fval_le (iN_o hl) (iN_o hh)).mpr hlh
  have fl1 := iNf il
  have fh1 := iNf ih
  unfold bF at hl hh
  have e2 : (fval l + fval h) / 2 * 2 = fval l + fval h := Rat.div_mul_cancel (by decide)
  have a1 : fval l ≤ (fval l + fval h) / 2 := by grind
  have a2 : (fval l + fval h) / 2 ≤ fval h := by grind
  have d1 := dnF_mono a1
  have u2 := upF_mono a2
  rw [dnF_f (by omega) (by omega)] at d1
  rw [upF_f (by omega) (by omega)] at u2
  have du := dn_up ((fval l + fval h) / 2)
  unfold nrF
  repeat' split
  all_goals omega
theorem me_nm {k : Nat} {c : vC} (hc : cOk c) (m : c.1 ≠ 0) (e : eC c.2.1 c.2.2 = false) (hk : k ≤ 4) : meC k c.2.1 c.2.2 = nmR k c := by
  have n := wC_n (cC hc m) e
  obtain ⟨bl, bh, b5, b6, b7⟩ := id n
  have ao : ∀ k, aO k = max k (-k) := by
    intro k
    unfold aO
    split <;> omega
  have md : miC c.2.1 c.2.2 = mdF c := by
    unfold miC mdF
    rw [rLo_n m, rHi_n m]
    by_cases q : c.2.1 = -9218868437227405312
    · have i1 : iN c.2.1 = true := decide_eq_true (Or.inr q)
      rw [if_pos q, i1]
      simp only [Bool.or_false, Bool.false_or, Bool.or_true, Bool.true_or, Bool.and_true, Bool.true_and, Bool.and_false, Bool.false_and, Bool.not_true, Bool.not_false, reduceCtorEq, reduceIte, true_and, and_true, false_and, and_false, true_or, or_true, false_or, or_false, not_true_eq_false, not_false_eq_true, Nat.reduceEqDiff, Nat.reduceLT]
      by_cases r : c.2.2 = 9218868437227405312
      · have i2 : iN c.2.2 = true := decide_eq_true (Or.inl r)
        rw [if_pos r, i2, if_pos rfl]
      · have i2 : iN c.2.2 = false := decide_eq_false (by omega)
        rw [if_neg r, i2]
        simp only [Bool.or_false, Bool.false_or, Bool.or_true, Bool.true_or, Bool.and_true, Bool.true_and, Bool.and_false, Bool.false_and, Bool.not_true, Bool.not_false, reduceCtorEq, reduceIte, true_and, and_true, false_and, and_false, true_or, or_true, false_or, or_false, not_true_eq_false, not_false_eq_true, Nat.reduceEqDiff, Nat.reduceLT]
    · have i1 : iN c.2.1 = false := decide_eq_false (by omega)
      rw [if_neg q, i1]
      by_cases r : c.2.2 = 9218868437227405312
      · have i2 : iN c.2.2 = true := decide_eq_true (Or.inl r)
        rw [if_pos r, i2]
        simp only [Bool.or_false, Bool.false_or, Bool.or_true, Bool.true_or, Bool.and_true, Bool.true_and, Bool.and_false, Bool.false_and, Bool.not_true, Bool.not_false, reduceCtorEq, reduceIte, true_and, and_true, false_and, and_false, true_or, or_true, false_or, or_false, not_true_eq_false, not_false_eq_true, Nat.reduceEqDiff, Nat.reduceLT]
      · have i2 : iN c.2.2 = false := decide_eq_false (by omega)
        rw [if_neg r, i2, Rat.add_comm]
        simp only [Bool.or_false, Bool.false_or, Bool.or_true, Bool.true_or, Bool.and_true, Bool.true_and, Bool.and_false, Bool.false_and, Bool.not_true, Bool.not_false, reduceCtorEq, reduceIte, true_and, and_true, false_and, and_false, true_or, or_true, false_or, or_false, not_true_eq_false, not_false_eq_true, Nat.reduceEqDiff, Nat.reduceLT]
  unfold meC nmR nmF
  rw [if_neg (show ¬ (c.1 = 0 ∨ eB c = true) by rw [eB_C hc m, e]; rintro (q | q); exact m q; exact absurd q (by decide)), md, bdB_C hc m e, zB_C hc m e, rLo_n m, rHi_n m, ao, ao]
  by_cases k0 : k = 0
  · rw [if_pos k0, if_pos k0]
  · rw [if_neg k0, if_neg k0]
    by_cases k4 : k = 4
    · rw [if_pos k4, if_pos k4]
      unfold zC
      by_cases z : c.2.1 ≤ 0 ∧ 0 ≤ c.2.2
      · rw [if_pos (decide_eq_true z)]; omega
      · rw [if_neg (by rw [decide_eq_false z]; decide)]; omega
    · rw [if_neg k4, if_neg k4]
      rcases Bool.eq_false_or_eq_true (bC c.2.1 c.2.2) with b | b
      · have bb := of_decide_eq_true b
        have i1 : iN c.2.1 = false := iN_ff (by omega) (by omega)
        have i2 : iN c.2.2 = false := iN_ff (by omega) (by omega)
        rw [b]
        simp only [Bool.or_false, Bool.false_or, Bool.or_true, Bool.true_or, Bool.and_true, Bool.true_and, Bool.and_false, Bool.false_and, Bool.not_true, Bool.not_false, reduceCtorEq, reduceIte, true_and, and_true, false_and, and_false, true_or, or_true, false_or, or_false, not_true_eq_false, not_false_eq_true, Nat.reduceEqDiff, Nat.reduceLT]
        have mb : iN (mdF c) = false := by
          rw [← md]
          unfold miC
          rw [if_neg (by omega), if_neg (by omega)]
          have := mid_b bl bh i1 i2 b5
          exact iN_ff (by omega) (by omega)
        by_cases k3 : k = 3
        · rw [if_pos k3, if_pos k3]; omega
        · rw [if_neg k3, if_neg k3]
          unfold diC
          rw [fl_f i2, fl_f mb, fl_f (k := -c.2.1) (by rw [iN_neg]; exact i1), fl_f (k := -mdF c) (by rw [iN_neg]; exact mb)]
          rfl
      · rw [b, if_pos rfl, if_pos rfl]
theorem sg_C {c : vC} (hc : cOk c) (m : c.1 ≠ 0) : sgM (eB c) (rLo c) (rHi c) = sC c.2.1 c.2.2 := by
  unfold sgM sC
  rw [eB_C hc m, rLo_n m, rHi_n m]
  rcases Bool.eq_false_or_eq_true (eC c.2.1 c.2.2) with e | e
  · rw [e]
    simp only [Bool.or_false, Bool.false_or, Bool.or_true, Bool.true_or, Bool.and_true, Bool.true_and, Bool.and_false, Bool.false_and, Bool.not_true, Bool.not_false, reduceCtorEq, reduceIte, true_and, and_true, false_and, and_false, true_or, or_true, false_or, or_false, not_true_eq_false, not_false_eq_true, Nat.reduceEqDiff, Nat.reduceLT]
  · rw [e, ibC (wC_n (cC hc m) e)]
theorem sC_b {lo hi : Int} : 1 ≤ sC lo hi ∧ sC lo hi ≤ 4 := by
  unfold sC
  repeat' split
  all_goals decide
theorem mk_C {k : Nat} {c : vC} (hc : cOk c) (h1 : 1 ≤ k) (h4 : k ≤ 4) : rMk k c = (if c.1 = 0 then (0, 0, 0) else (min k (sC c.2.1 c.2.2), c.2.1, c.2.2)) ∧ cOk (rMk k c) := by
  have sb := @sC_b c.2.1 c.2.2
  have e : rMk k c = (if c.1 = 0 then (0, 0, 0) else (min k (sC c.2.1 c.2.2), c.2.1, c.2.2)) := by
    unfold rMk
    by_cases m : c.1 = 0
    · rw [if_pos m, if_pos m, Nat.min_zero]
      rfl
    · rw [if_neg m, if_neg m, sg_C hc m]
      unfold kC
      rw [if_neg (by omega), eB_C hc m, rLo_n m, rHi_n m]
      rcases Bool.eq_false_or_eq_true (eC c.2.1 c.2.2) with e | e
      · have ex : c.2.1 = 9218868437227405312 ∧ c.2.2 = -9218868437227405312 := by
          rcases cC hc m with w | w
          · exact w
          · have := of_decide_eq_true e; have := w.2.2.1; omega
        rw [if_pos e, ex.1, ex.2]
      · rw [if_neg (by rw [e]; decide)]
  refine ⟨e, ?_⟩
  rw [e]
  by_cases m : c.1 = 0
  · rw [if_pos m]; exact ill_ok
  · rw [if_neg m]
    obtain ⟨-, q⟩ := hc
    exact ⟨by show min k _ ≤ 4; omega, Or.inr ⟨by show min k _ ≠ 0; omega, (q.resolve_left (fun z => m z.1)).2⟩⟩
theorem cl_C {u v : Nat} (hu : u < 2 ^ 64) (hv : v < 2 ^ 64) : rCl u v = (if (!decide (9218868437227405312 < u % 2 ^ 63) && !decide (9218868437227405312 < v % 2 ^ 63) && decide (ordB u ≤ ordB v ∧ ordB u < 9218868437227405312 ∧ -9218868437227405312 < ordB v)) = true then (sC (ordB u) (ordB v), ordB u, ordB v) else (0, 0, 0)) ∧ cOk (rCl u v) := by
  have g : gdB u v = (!decide (9218868437227405312 < u % 2 ^ 63) && !decide (9218868437227405312 < v % 2 ^ 63) && decide (ordB u ≤ ordB v ∧ ordB u < 9218868437227405312 ∧ -9218868437227405312 < ordB v)) := by
    unfold gdB ordB
    rw [Bool.eq_iff_iff]
    simp only [Bool.and_eq_true, Bool.not_eq_true', decide_eq_true_eq, decide_eq_false_iff_not]
    split <;> split <;> omega
  unfold rCl
  rw [← g]
  rcases Bool.eq_false_or_eq_true (gdB u v) with c | c
  · rw [if_pos c, if_pos c]
    have n : nC (ordB u) (ordB v) := by
      rw [g] at c
      simp only [Bool.and_eq_true, Bool.not_eq_true', decide_eq_true_eq, decide_eq_false_iff_not] at c
      unfold ordB at *
      unfold nC bF
      split at c <;> split at c <;> (repeat' split) <;> omega
    have s : sgM false (ordB u) (ordB v) = sC (ordB u) (ordB v) := by
      unfold sgM sC
      rw [nC_e n, ibC n]
    rw [s]
    have b := @sC_b (ordB u) (ordB v)
    unfold kC
    rw [if_neg (by omega), if_neg (by decide)]
    exact ⟨rfl, nC_ok n b.1 b.2⟩
  · rw [if_neg (by rw [c]; decide), if_neg (by rw [c]; decide)]
    exact ⟨rfl, ill_ok⟩
theorem hs_C {u : Nat} {c : vC} (hu : u < 2 ^ 64) (hc : cOk c) : hsB u c = decide ((ordB u).natAbs < 9218868437227405312 ∧ c.1 ≠ 0 ∧ c.2.1 ≤ ordB u ∧ ordB u ≤ c.2.2) := by
  unfold hsB
  by_cases m : c.1 = 0
  · rw [decide_eq_false (show ¬ c.1 ≠ 0 by omega), decide_eq_false (show ¬ ((ordB u).natAbs < 9218868437227405312 ∧ c.1 ≠ 0 ∧ c.2.1 ≤ ordB u ∧ ordB u ≤ c.2.2) from fun q => q.2.1 m)]
    rfl
  · rw [eB_C hc m, rLo_n m, rHi_n m]
    unfold eC ordB
    rw [Bool.eq_iff_iff]
    simp only [Bool.and_eq_true, Bool.not_eq_true', decide_eq_true_eq, decide_eq_false_iff_not]
    split <;> omega
