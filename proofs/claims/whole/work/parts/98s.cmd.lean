/-! sets, order, numbers -/
theorem rn_cn {x y : vC} {c d : Int} (hx : cOk x) (hy : cOk y) (m1 : x.1 ≠ 0) (m2 : y.1 ≠ 0) (hc : eC y.2.1 y.2.2 = false → bC y.2.1 y.2.2 = true → bF c ∧ bF d ∧ iN c = false ∧ iN d = false) : kC 1 (rCn x y c d).2.2 (rCn x y c d).1 (rCn x y c d).2.1 = (1, (cnC 9218868437227405312 (-9218868437227405312) x.2.1 x.2.2 y.2.1 y.2.2 c d).1, (cnC 9218868437227405312 (-9218868437227405312) x.2.1 x.2.2 y.2.1 y.2.2 c d).2) ∧ cOk (kC 1 (rCn x y c d).2.2 (rCn x y c d).1 (rCn x y c d).2.1) := by
  have wx := cC hx m1
  have wy := cC hy m2
  have k1 : (!eB y && !bdB y) = !(eC y.2.1 y.2.2 || bC y.2.1 y.2.2) := by
    rw [eB_C hy m2]
    rcases Bool.eq_false_or_eq_true (eC y.2.1 y.2.2) with e | e
    · rw [e]; rfl
    · rw [bdB_C hy m2 e, e]; rfl
  have k2 : eB x = eC x.2.1 x.2.2 := eB_C hx m1
  have k3 : eB y = eC y.2.1 y.2.2 := eB_C hy m2
  unfold rCn cnC
  rw [k1, k2, k3]
  have ent : kC 1 ((-9218868437227405312, 9218868437227405312, false) : v3).2.2 ((-9218868437227405312, 9218868437227405312, false) : v3).1 ((-9218868437227405312, 9218868437227405312, false) : v3).2.1 = (1, -9218868437227405312, 9218868437227405312) ∧ cOk (kC 1 ((-9218868437227405312, 9218868437227405312, false) : v3).2.2 ((-9218868437227405312, 9218868437227405312, false) : v3).1 ((-9218868437227405312, 9218868437227405312, false) : v3).2.1) := ⟨rfl, nC_ok (m := 1) (lo := -9218868437227405312) (hi := 9218868437227405312) ⟨⟨by decide, by decide⟩, ⟨by decide, by decide⟩, by decide, by decide, by decide⟩ (by decide) (by decide)⟩
  rcases Bool.eq_false_or_eq_true (eC x.2.1 x.2.2) with e | e
  · rcases Bool.eq_false_or_eq_true (eC y.2.1 y.2.2 || bC y.2.1 y.2.2) with f | f
    · rw [e, f]
      simp only [Bool.or_false, Bool.false_or, Bool.or_true, Bool.true_or, Bool.and_true, Bool.true_and, Bool.and_false, Bool.false_and, Bool.not_true, Bool.not_false, reduceCtorEq, reduceIte, true_and, and_true, false_and, and_false, true_or, or_true, false_or, or_false, not_true_eq_false, not_false_eq_true, Nat.reduceEqDiff, Nat.reduceLT]
      exact ⟨rfl, em_ok (m := 1) (by decide) (by decide)⟩
    · rw [e, f]
      simp only [Bool.or_false, Bool.false_or, Bool.or_true, Bool.true_or, Bool.and_true, Bool.true_and, Bool.and_false, Bool.false_and, Bool.not_true, Bool.not_false, reduceCtorEq, reduceIte, true_and, and_true, false_and, and_false, true_or, or_true, false_or, or_false, not_true_eq_false, not_false_eq_true, Nat.reduceEqDiff, Nat.reduceLT]
      exact ent
  · rw [e, bdB_C hx m1 e]
    rcases Bool.eq_false_or_eq_true (eC y.2.1 y.2.2) with f | f
    · rw [f]
      simp only [Bool.or_false, Bool.false_or, Bool.or_true, Bool.true_or, Bool.and_true, Bool.true_and, Bool.and_false, Bool.false_and, Bool.not_true, Bool.not_false, reduceCtorEq, reduceIte, true_and, and_true, false_and, and_false, true_or, or_true, false_or, or_false, not_true_eq_false, not_false_eq_true, Nat.reduceEqDiff, Nat.reduceLT]
      exact ent
    · rw [f]
      rcases Bool.eq_false_or_eq_true (bC y.2.1 y.2.2) with g | g
      · rcases Bool.eq_false_or_eq_true (bC x.2.1 x.2.2) with b | b
        · obtain ⟨c1, c2, c3, c4⟩ := hc f g
          have nx := wC_n wx e
          have bx := of_decide_eq_true b
          have i1 : iN x.2.1 = false := iN_ff (by omega) (by have := nx.2.2.2.1; omega)
          have i2 : iN x.2.2 = false := iN_ff (by have := nx.2.2.2.2; omega) (by omega)
          rw [b, g, rLo_n m1, rHi_n m1, fl_f i1, fl_f i2, fl_f (k := -x.2.1) (by rw [iN_neg]; exact i1), fl_f c4, fl_f (k := -c) (by rw [iN_neg]; exact c3), fl_f (k := -d) (by rw [iN_neg]; exact c4)]
          have q : cmX (adX (.inl (fval x.2.2)) (.inl (fval (-x.2.1)))) (adX (.inl (fval d)) (.inl (fval (-c)))) < 0 ↔ fval x.2.2 - fval x.2.1 < fval d - fval c := by
            show cmpR (fval x.2.2 + fval (-x.2.1)) (fval d + fval (-c)) < 0 ↔ _
            rw [cmpR_n, fval_neg, fval_neg, ← Rat.sub_eq_add_neg, ← Rat.sub_eq_add_neg]
          by_cases s : fval x.2.2 - fval x.2.1 < fval d - fval c
          · simp only [Bool.or_false, Bool.false_or, Bool.or_true, Bool.true_or, Bool.and_true, Bool.true_and, Bool.and_false, Bool.false_and, Bool.not_true, Bool.not_false, reduceCtorEq, reduceIte, true_and, and_true, false_and, and_false, true_or, or_true, false_or, or_false, not_true_eq_false, not_false_eq_true, Nat.reduceEqDiff, Nat.reduceLT, q, s]
            exact ent
          · simp only [Bool.or_false, Bool.false_or, Bool.or_true, Bool.true_or, Bool.and_true, Bool.true_and, Bool.and_false, Bool.false_and, Bool.not_true, Bool.not_false, reduceCtorEq, reduceIte, true_and, and_true, false_and, and_false, true_or, or_true, false_or, or_false, not_true_eq_false, not_false_eq_true, Nat.reduceEqDiff, Nat.reduceLT, q, s]
            have a1 := dnF_b (fval x.2.1 + fval (-c))
            have a2 := upF_b (fval x.2.2 + fval (-d))
            have a3 : dnF (fval x.2.1 + fval (-c)) ≤ upF (fval x.2.2 + fval (-d)) := dn_up2 (by rw [fval_neg, fval_neg]; grind)
            have m1 : min 9218868437227405312 (dnF (fval x.2.1 + fval (-c))) = dnF (fval x.2.1 + fval (-c)) := by omega
            have m2 : max (-9218868437227405312) (upF (fval x.2.2 + fval (-d))) = upF (fval x.2.2 + fval (-d)) := by omega
            rw [m1, m2]
            refine ⟨rfl, ?_⟩
            exact nC_ok (m := 1) (lo := dnF (fval x.2.1 + fval (-c))) (hi := upF (fval x.2.2 + fval (-d))) ⟨⟨by omega, by omega⟩, ⟨by omega, by omega⟩, a3, by omega, by omega⟩ (by decide) (by decide)
        · rw [b, g]
          simp only [Bool.or_false, Bool.false_or, Bool.or_true, Bool.true_or, Bool.and_true, Bool.true_and, Bool.and_false, Bool.false_and, Bool.not_true, Bool.not_false, reduceCtorEq, reduceIte, true_and, and_true, false_and, and_false, true_or, or_true, false_or, or_false, not_true_eq_false, not_false_eq_true, Nat.reduceEqDiff, Nat.reduceLT]
          exact ent
      · rw [g]
        simp only [Bool.or_false, Bool.false_or, Bool.or_true, Bool.true_or, Bool.and_true, Bool.true_and, Bool.and_false, Bool.false_and, Bool.not_true, Bool.not_false, reduceCtorEq, reduceIte, true_and, and_true, false_and, and_false, true_or, or_true, false_or, or_false, not_true_eq_false, not_false_eq_true, Nat.reduceEqDiff, Nat.reduceLT]
        exact ent
theorem md_6 {o : Nat} {x y : vC} (hx : cOk x) (hy : cOk y) (m1 : x.1 ≠ 0) (m2 : y.1 ≠ 0) (h1 : 6 ≤ o) (h2 : o ≤ 9) : rTwo o x y = (1, (mdL o x.1 y.1 x.2.1 x.2.2 y.2.1 y.2.2).1, (mdL o x.1 y.1 x.2.1 x.2.2 y.2.1 y.2.2).2) ∧ cOk (rTwo o x y) := by
  have wx := cC hx m1
  have wy := cC hy m2
  have k2 : eB x = eC x.2.1 x.2.2 := eB_C hx m1
  have k3 : eB y = eC y.2.1 y.2.2 := eB_C hy m2
  have bx := wx.b
  have by' := wy.b
  unfold bF at bx by'
  have r : rTwo o x y = kC 1 (rCb o x y).2.2 (rCb o x y).1 (rCb o x y).2.1 := by
    unfold rTwo
    rw [if_neg (by omega), if_neg (by omega), if_pos (by omega)]
  rw [r]
  rcases (show o = 6 ∨ o = 7 ∨ o = 8 ∨ o = 9 by omega) with rfl | rfl | rfl | rfl
  · unfold rCb mdL
    rw [if_pos rfl, if_pos rfl]
    dsimp only
    rw [k2, k3, rLo_n m1, rLo_n m2, rHi_n m1, rHi_n m2]
    by_cases c : max x.2.1 y.2.1 ≤ min x.2.2 y.2.2
    · have n1 : eC x.2.1 x.2.2 = false := decide_eq_false (by omega)
      have n2 : eC y.2.1 y.2.2 = false := decide_eq_false (by omega)
      rw [if_pos c, n1, n2, decide_eq_false (by omega)]
      have a1 := wC_n wx n1
      have a2 := wC_n wy n2
      unfold nC bF at a1 a2
      exact ⟨rfl, nC_ok (m := 1) (lo := max x.2.1 y.2.1) (hi := min x.2.2 y.2.2) ⟨⟨by omega, by omega⟩, ⟨by omega, by omega⟩, c, by omega, by omega⟩ (by decide) (by decide)⟩
    · rw [if_neg c, decide_eq_true (by omega), Bool.or_true]
      exact ⟨rfl, em_ok (m := 1) (by decide) (by decide)⟩
  · unfold rCb mdL
    rw [k2, k3, rLo_n m1, rLo_n m2, rHi_n m1, rHi_n m2]
    simp only [Bool.or_false, Bool.false_or, Bool.or_true, Bool.true_or, Bool.and_true, Bool.true_and, Bool.and_false, Bool.false_and, Bool.not_true, Bool.not_false, reduceCtorEq, reduceIte, true_and, and_true, false_and, and_false, true_or, or_true, false_or, or_false, not_true_eq_false, not_false_eq_true, Nat.reduceEqDiff, Nat.reduceLT]
    rcases Bool.eq_false_or_eq_true (eC x.2.1 x.2.2) with e | e
    · have ex : x.2.1 = 9218868437227405312 ∧ x.2.2 = -9218868437227405312 := by
        rcases wx with w | w
        · exact w
        · have := of_decide_eq_true e; have := w.2.2.1; omega
      rw [e, ex.1, ex.2, show min 9218868437227405312 y.2.1 = y.2.1 by omega, show max (-9218868437227405312) y.2.2 = y.2.2 by omega]
      simp only [Bool.or_false, Bool.false_or, Bool.or_true, Bool.true_or, Bool.and_true, Bool.true_and, Bool.and_false, Bool.false_and, Bool.not_true, Bool.not_false, reduceCtorEq, reduceIte, true_and, and_true, false_and, and_false, true_or, or_true, false_or, or_false, not_true_eq_false, not_false_eq_true, Nat.reduceEqDiff, Nat.reduceLT]
      rcases Bool.eq_false_or_eq_true (eC y.2.1 y.2.2) with f | f
      · have ey : y.2.1 = 9218868437227405312 ∧ y.2.2 = -9218868437227405312 := by
          rcases wy with w | w
          · exact w
          · have := of_decide_eq_true f; have := w.2.2.1; omega
        rw [f, ey.1, ey.2]
        exact ⟨rfl, em_ok (m := 1) (by decide) (by decide)⟩
      · rw [f]
        exact ⟨rfl, nC_ok (m := 1) (wC_n wy f) (by decide) (by decide)⟩
    · rw [e]
      simp only [Bool.or_false, Bool.false_or, Bool.or_true, Bool.true_or, Bool.and_true, Bool.true_and, Bool.and_false, Bool.false_and, Bool.not_true, Bool.not_false, reduceCtorEq, reduceIte, true_and, and_true, false_and, and_false, true_or, or_true, false_or, or_false, not_true_eq_false, not_false_eq_true, Nat.reduceEqDiff, Nat.reduceLT]
      rcases Bool.eq_false_or_eq_true (eC y.2.1 y.2.2) with f | f
      · have ey : y.2.1 = 9218868437227405312 ∧ y.2.2 = -9218868437227405312 := by
          rcases wy with w | w
          · exact w
          · have := of_decide_eq_true f; have := w.2.2.1; omega
        rw [f, ey.1, ey.2, show min x.2.1 9218868437227405312 = x.2.1 by omega, show max x.2.2 (-9218868437227405312) = x.2.2 by omega]
        simp only [Bool.or_false, Bool.false_or, Bool.or_true, Bool.true_or, Bool.and_true, Bool.true_and, Bool.and_false, Bool.false_and, Bool.not_true, Bool.not_false, reduceCtorEq, reduceIte, true_and, and_true, false_and, and_false, true_or, or_true, false_or, or_false, not_true_eq_false, not_false_eq_true, Nat.reduceEqDiff, Nat.reduceLT]
        exact ⟨rfl, nC_ok (m := 1) (wC_n wx e) (by decide) (by decide)⟩
      · rw [f]
        simp only [Bool.or_false, Bool.false_or, Bool.or_true, Bool.true_or, Bool.and_true, Bool.true_and, Bool.and_false, Bool.false_and, Bool.not_true, Bool.not_false, reduceCtorEq, reduceIte, true_and, and_true, false_and, and_false, true_or, or_true, false_or, or_false, not_true_eq_false, not_false_eq_true, Nat.reduceEqDiff, Nat.reduceLT]
        have a1 := wC_n wx e
        have a2 := wC_n wy f
        unfold nC bF at a1 a2
        exact ⟨rfl, nC_ok (m := 1) (lo := min x.2.1 y.2.1) (hi := max x.2.2 y.2.2) ⟨⟨by omega, by omega⟩, ⟨by omega, by omega⟩, by omega, by omega, by omega⟩ (by decide) (by decide)⟩
  · have r2 : rCb 8 x y = rCn x y y.2.1 y.2.2 := by
      unfold rCb
      rw [if_neg (by decide), if_neg (by decide), if_neg (by omega), if_neg (by omega), rLo_n m2, rHi_n m2]
    have r3 : mdL 8 x.1 y.1 x.2.1 x.2.2 y.2.1 y.2.2 = cnC 9218868437227405312 (-9218868437227405312) x.2.1 x.2.2 y.2.1 y.2.2 y.2.1 y.2.2 := by
      unfold mdL
      rw [if_neg (by decide), if_neg (by decide), if_pos rfl]
    rw [r2, r3]
    refine rn_cn hx hy m1 m2 fun f g => ?_
    have n := wC_n wy f
    have g := of_decide_eq_true g
    exact ⟨n.1, n.2.1, iN_ff (by omega) n.2.2.2.1, iN_ff n.2.2.2.2 (by omega)⟩
  · have r3 : mdL 9 x.1 y.1 x.2.1 x.2.2 y.2.1 y.2.2 = cnC 9218868437227405312 (-9218868437227405312) x.2.1 x.2.2 y.2.1 y.2.2 (-y.2.2) (-y.2.1) := by
      unfold mdL
      rw [if_neg (by decide), if_neg (by decide), if_neg (by decide), if_pos rfl]
    have r2 : rCb 9 x y = rCn x y (-y.2.2) (-y.2.1) := by
      unfold rCb
      rw [if_neg (by decide), if_neg (by decide), k3, rLo_n m2, rHi_n m2]
      rcases Bool.eq_false_or_eq_true (eC y.2.1 y.2.2) with f | f
      · rw [f, if_neg (fun q => absurd q.2 (by decide)), if_neg (fun q => absurd q.2 (by decide))]
        have g : eB y = true := k3.trans f
        unfold rCn
        rw [g]
        by_cases q : eB x = true ∧ (!true && !bdB y) = false
        · rw [if_pos q, if_pos q]
        · rw [if_neg q, if_neg q, if_pos (Or.inr (Or.inr (Or.inl rfl))), if_pos (Or.inr (Or.inr (Or.inl rfl)))]
      · rw [f, if_pos ⟨rfl, rfl⟩, if_pos ⟨rfl, rfl⟩]
    rw [r2, r3]
    refine rn_cn hx hy m1 m2 fun f g => ?_
    have n := wC_n wy f
    have g := of_decide_eq_true g
    unfold nC bF at n
    exact ⟨⟨by omega, by omega⟩, ⟨by omega, by omega⟩, iN_ff (by omega) (by omega), iN_ff (by omega) (by omega)⟩
theorem qu_Q {a b : Int} (ha : bF a) (hb : bF b) (h : iN a = false) (h0 : b ≠ 0) : quX (fl a) (fl b) = .inl (rQv a b) := by
  unfold rQv
  rcases Bool.eq_false_or_eq_true (iN b) with c | c
  · rw [if_pos c]; exact qu_0 ha (Or.inr c)
  · rw [if_neg (by rw [c]; decide)]; exact qu_f ha hb c h h0
theorem md_10 {fi : Bool} {x y : vC} (hx : cOk x) (hy : cOk y) (m1 : x.1 ≠ 0) (m2 : y.1 ≠ 0) (hz : fi = true → zC y.2.1 y.2.2 = true) : rRev fi x y = (1, (if eC x.2.1 x.2.2 = false ∧ zC y.2.1 y.2.2 = true then ptC fi 9218868437227405312 (-9218868437227405312) x.2.1 x.2.2 y.2.1 y.2.2 else (9218868437227405312, -9218868437227405312)).1, (if eC x.2.1 x.2.2 = false ∧ zC y.2.1 y.2.2 = true then ptC fi 9218868437227405312 (-9218868437227405312) x.2.1 x.2.2 y.2.1 y.2.2 else (9218868437227405312, -9218868437227405312)).2) ∧ cOk (rRev fi x y) := by
  have wx := cC hx m1
  have wy := cC hy m2
  have emp : ((1, 9218868437227405312, -9218868437227405312) : vC) = (1, ((9218868437227405312, -9218868437227405312) : Int × Int).1, ((9218868437227405312, -9218868437227405312) : Int × Int).2) ∧ cOk (1, 9218868437227405312, -9218868437227405312) := ⟨rfl, em_ok (m := 1) (by decide) (by decide)⟩
  unfold rRev
  rw [eB_C hx m1, eB_C hy m2]
  rcases Bool.eq_false_or_eq_true (eC x.2.1 x.2.2) with e | e
  · rw [e]
    simp only [Bool.or_false, Bool.false_or, Bool.or_true, Bool.true_or, Bool.and_true, Bool.true_and, Bool.and_false, Bool.false_and, Bool.not_true, Bool.not_false, reduceCtorEq, reduceIte, true_and, and_true, false_and, and_false, true_or, or_true, false_or, or_false, not_true_eq_false, not_false_eq_true, Nat.reduceEqDiff, Nat.reduceLT]
    first | exact emp | exact emp.2
  · rcases Bool.eq_false_or_eq_true (eC y.2.1 y.2.2) with f | f
    · have zf : zC y.2.1 y.2.2 = false := by
        rcases wy with w | w
        · rw [w.1, w.2]; decide
        · have := of_decide_eq_true f; have := w.2.2.1; omega
      rw [e, f, zf]
      simp only [Bool.or_false, Bool.false_or, Bool.or_true, Bool.true_or, Bool.and_true, Bool.true_and, Bool.and_false, Bool.false_and, Bool.not_true, Bool.not_false, reduceCtorEq, reduceIte, true_and, and_true, false_and, and_false, true_or, or_true, false_or, or_false, not_true_eq_false, not_false_eq_true, Nat.reduceEqDiff, Nat.reduceLT]
      first | exact emp | exact emp.2
    · rw [e, f, zB_C hy m2 f, zB_C hx m1 e]
      simp only [Bool.or_false, Bool.false_or, Bool.or_true, Bool.true_or, Bool.and_true, Bool.true_and, Bool.and_false, Bool.false_and, Bool.not_true, Bool.not_false, reduceCtorEq, reduceIte, true_and, and_true, false_and, and_false, true_or, or_true, false_or, or_false, not_true_eq_false, not_false_eq_true, Nat.reduceEqDiff, Nat.reduceLT]
      have nx := wC_n wx e
      have ny := wC_n wy f
      unfold nC bF at nx ny
      rcases Bool.eq_false_or_eq_true (zC y.2.1 y.2.2) with z | z
      · rw [z]
        simp only [Bool.or_false, Bool.false_or, Bool.or_true, Bool.true_or, Bool.and_true, Bool.true_and, Bool.and_false, Bool.false_and, Bool.not_true, Bool.not_false, reduceCtorEq, reduceIte, true_and, and_true, false_and, and_false, true_or, or_true, false_or, or_false, not_true_eq_false, not_false_eq_true, Nat.reduceEqDiff, Nat.reduceLT]
        have zy := of_decide_eq_true z
        unfold ptC
        rcases Bool.eq_false_or_eq_true (zC x.2.1 x.2.2) with g | g
        · rw [g]
          simp only [Bool.or_false, Bool.false_or, Bool.or_true, Bool.true_or, Bool.and_true, Bool.true_and, Bool.and_false, Bool.false_and, Bool.not_true, Bool.not_false, reduceCtorEq, reduceIte, true_and, and_true, false_and, and_false, true_or, or_true, false_or, or_false, not_true_eq_false, not_false_eq_true, Nat.reduceEqDiff, Nat.reduceLT]
          cases fi
          · first | exact emp | exact emp.2
          · exact ⟨rfl, nC_ok (m := 1) (lo := -9218868437227405312) (hi := 9218868437227405312) ⟨⟨by decide, by decide⟩, ⟨by decide, by decide⟩, by decide, by decide, by decide⟩ (by decide) (by decide)⟩
        · have zx := of_decide_eq_false g
          rw [g]
          simp only [Bool.or_false, Bool.false_or, Bool.or_true, Bool.true_or, Bool.and_true, Bool.true_and, Bool.and_false, Bool.false_and, Bool.not_true, Bool.not_false, reduceCtorEq, reduceIte, true_and, and_true, false_and, and_false, true_or, or_true, false_or, or_false, not_true_eq_false, not_false_eq_true, Nat.reduceEqDiff, Nat.reduceLT]
          unfold rRT rRP
          rw [rLo_n m1, rHi_n m1, rLo_n m2, rHi_n m2]
          have lowr : ∀ a b : Int, bF a → bF b → iN a = false → b ≠ 0 → kC 1 false (-9218868437227405312) (max (-9218868437227405312) (upF (rQv a b))) = (1, -9218868437227405312, upX (quX (fl a) (fl b))) ∧ cOk (kC 1 false (-9218868437227405312) (max (-9218868437227405312) (upF (rQv a b)))) := by
            intro a b ha hb hi h0
            have u := upF_b (rQv a b)
            rw [qu_Q ha hb hi h0, show max (-9218868437227405312) (upF (rQv a b)) = upF (rQv a b) by omega]
            exact ⟨rfl, nC_ok (m := 1) (lo := -9218868437227405312) (hi := upF (rQv a b)) ⟨⟨by decide, by decide⟩, ⟨by omega, by omega⟩, by omega, by decide, by omega⟩ (by decide) (by decide)⟩
          have hir : ∀ a b : Int, bF a → bF b → iN a = false → b ≠ 0 → kC 1 false (min 9218868437227405312 (dnF (rQv a b))) 9218868437227405312 = (1, dnX (quX (fl a) (fl b)), 9218868437227405312) ∧ cOk (kC 1 false (min 9218868437227405312 (dnF (rQv a b))) 9218868437227405312) := by
            intro a b ha hb hi h0
            have u := dnF_b (rQv a b)
            rw [qu_Q ha hb hi h0, show min 9218868437227405312 (dnF (rQv a b)) = dnF (rQv a b) by omega]
            exact ⟨rfl, nC_ok (m := 1) (lo := dnF (rQv a b)) (hi := 9218868437227405312) ⟨⟨by omega, by omega⟩, ⟨by decide, by decide⟩, by omega, by omega, by decide⟩ (by decide) (by decide)⟩
          rcases ilt_ge 0 x.2.1 with p | p
          · have i1 : iN x.2.1 = false := iN_ff (by omega) (by omega)
            have e1 : (0 < x.2.1) = True := eq_true (by omega)
            have e2 : (x.2.2 < 0) = False := eq_false (by omega)
            rcases (show y.2.1 < 0 ∨ y.2.1 = 0 by omega) with u | u
            · have e3 : (y.2.1 < 0) = True := eq_true (by omega)
              have e5 : (y.2.1 = 0) = False := eq_false (by omega)
              rcases (show 0 < y.2.2 ∨ y.2.2 = 0 by omega) with v | v
              · have e4 : (0 < y.2.2) = True := eq_true (by omega)
                have e6 : (y.2.2 = 0) = False := eq_false (by omega)
                cases fi
                · simp only [Bool.or_false, Bool.false_or, Bool.or_true, Bool.true_or, Bool.and_true, Bool.true_and, Bool.and_false, Bool.false_and, Bool.not_true, Bool.not_false, reduceCtorEq, reduceIte, true_and, and_true, false_and, and_false, true_or, or_true, false_or, or_false, not_true_eq_false, not_false_eq_true, Nat.reduceEqDiff, Nat.reduceLT, rSel, ne_eq, decide_true, decide_false, e1, e2, e3, e4, e5, e6]
                  exact hir _ _ ⟨by omega, by omega⟩ ⟨by omega, by omega⟩ i1 (by omega)
                · simp only [Bool.or_false, Bool.false_or, Bool.or_true, Bool.true_or, Bool.and_true, Bool.true_and, Bool.and_false, Bool.false_and, Bool.not_true, Bool.not_false, reduceCtorEq, reduceIte, true_and, and_true, false_and, and_false, true_or, or_true, false_or, or_false, not_true_eq_false, not_false_eq_true, Nat.reduceEqDiff, Nat.reduceLT, rSel, ne_eq, decide_true, decide_false, e1, e2, e3, e4, e5, e6]
                  exact lowr _ _ ⟨by omega, by omega⟩ ⟨by omega, by omega⟩ i1 (by omega)
              · have e4 : (0 < y.2.2) = False := eq_false (by omega)
                have e6 : (y.2.2 = 0) = True := eq_true (by omega)
                cases fi
                · simp only [Bool.or_false, Bool.false_or, Bool.or_true, Bool.true_or, Bool.and_true, Bool.true_and, Bool.and_false, Bool.false_and, Bool.not_true, Bool.not_false, reduceCtorEq, reduceIte, true_and, and_true, false_and, and_false, true_or, or_true, false_or, or_false, not_true_eq_false, not_false_eq_true, Nat.reduceEqDiff, Nat.reduceLT, rSel, ne_eq, decide_true, decide_false, e1, e2, e3, e4, e5, e6]
                  first | exact emp | exact emp.2
                · simp only [Bool.or_false, Bool.false_or, Bool.or_true, Bool.true_or, Bool.and_true, Bool.true_and, Bool.and_false, Bool.false_and, Bool.not_true, Bool.not_false, reduceCtorEq, reduceIte, true_and, and_true, false_and, and_false, true_or, or_true, false_or, or_false, not_true_eq_false, not_false_eq_true, Nat.reduceEqDiff, Nat.reduceLT, rSel, ne_eq, decide_true, decide_false, e1, e2, e3, e4, e5, e6]
                  exact lowr _ _ ⟨by omega, by omega⟩ ⟨by omega, by omega⟩ i1 (by omega)
            · have e3 : (y.2.1 < 0) = False := eq_false (by omega)
              have e5 : (y.2.1 = 0) = True := eq_true (by omega)
              rcases (show 0 < y.2.2 ∨ y.2.2 = 0 by omega) with v | v
              · have e4 : (0 < y.2.2) = True := eq_true (by omega)
                have e6 : (y.2.2 = 0) = False := eq_false (by omega)
                cases fi
                · simp only [Bool.or_false, Bool.false_or, Bool.or_true, Bool.true_or, Bool.and_true, Bool.true_and, Bool.and_false, Bool.false_and, Bool.not_true, Bool.not_false, reduceCtorEq, reduceIte, true_and, and_true, false_and, and_false, true_or, or_true, false_or, or_false, not_true_eq_false, not_false_eq_true, Nat.reduceEqDiff, Nat.reduceLT, rSel, ne_eq, decide_true, decide_false, e1, e2, e3, e4, e5, e6]
                  first | exact emp | exact emp.2
                · simp only [Bool.or_false, Bool.false_or, Bool.or_true, Bool.true_or, Bool.and_true, Bool.true_and, Bool.and_false, Bool.false_and, Bool.not_true, Bool.not_false, reduceCtorEq, reduceIte, true_and, and_true, false_and, and_false, true_or, or_true, false_or, or_false, not_true_eq_false, not_false_eq_true, Nat.reduceEqDiff, Nat.reduceLT, rSel, ne_eq, decide_true, decide_false, e1, e2, e3, e4, e5, e6]
                  exact hir _ _ ⟨by omega, by omega⟩ ⟨by omega, by omega⟩ i1 (by omega)
              · have e4 : (0 < y.2.2) = False := eq_false (by omega)
                have e6 : (y.2.2 = 0) = True := eq_true (by omega)
                cases fi
                · simp only [Bool.or_false, Bool.false_or, Bool.or_true, Bool.true_or, Bool.and_true, Bool.true_and, Bool.and_false, Bool.false_and, Bool.not_true, Bool.not_false, reduceCtorEq, reduceIte, true_and, and_true, false_and, and_false, true_or, or_true, false_or, or_false, not_true_eq_false, not_false_eq_true, Nat.reduceEqDiff, Nat.reduceLT, rSel, ne_eq, decide_true, decide_false, e1, e2, e3, e4, e5, e6]
                  first | exact emp | exact emp.2
                · simp only [Bool.or_false, Bool.false_or, Bool.or_true, Bool.true_or, Bool.and_true, Bool.true_and, Bool.and_false, Bool.false_and, Bool.not_true, Bool.not_false, reduceCtorEq, reduceIte, true_and, and_true, false_and, and_false, true_or, or_true, false_or, or_false, not_true_eq_false, not_false_eq_true, Nat.reduceEqDiff, Nat.reduceLT, rSel, ne_eq, decide_true, decide_false, e1, e2, e3, e4, e5, e6]
                  first | exact emp | exact emp.2
          · have i1 : iN x.2.2 = false := iN_ff (by omega) (by omega)
            have e1 : (0 < x.2.1) = False := eq_false (by omega)
            have e2 : (x.2.2 < 0) = True := eq_true (by omega)
            rcases (show y.2.1 < 0 ∨ y.2.1 = 0 by omega) with u | u
            · have e3 : (y.2.1 < 0) = True := eq_true (by omega)
              have e5 : (y.2.1 = 0) = False := eq_false (by omega)
              rcases (show 0 < y.2.2 ∨ y.2.2 = 0 by omega) with v | v
              · have e4 : (0 < y.2.2) = True := eq_true (by omega)
                have e6 : (y.2.2 = 0) = False := eq_false (by omega)
                cases fi
                · simp only [Bool.or_false, Bool.false_or, Bool.or_true, Bool.true_or, Bool.and_true, Bool.true_and, Bool.and_false, Bool.false_and, Bool.not_true, Bool.not_false, reduceCtorEq, reduceIte, true_and, and_true, false_and, and_false, true_or, or_true, false_or, or_false, not_true_eq_false, not_false_eq_true, Nat.reduceEqDiff, Nat.reduceLT, rSel, ne_eq, decide_true, decide_false, e1, e2, e3, e4, e5, e6]
                  exact hir _ _ ⟨by omega, by omega⟩ ⟨by omega, by omega⟩ i1 (by omega)
                · simp only [Bool.or_false, Bool.false_or, Bool.or_true, Bool.true_or, Bool.and_true, Bool.true_and, Bool.and_false, Bool.false_and, Bool.not_true, Bool.not_false, reduceCtorEq, reduceIte, true_and, and_true, false_and, and_false, true_or, or_true, false_or, or_false, not_true_eq_false, not_false_eq_true, Nat.reduceEqDiff, Nat.reduceLT, rSel, ne_eq, decide_true, decide_false, e1, e2, e3, e4, e5, e6]
                  exact lowr _ _ ⟨by omega, by omega⟩ ⟨by omega, by omega⟩ i1 (by omega)
              · have e4 : (0 < y.2.2) = False := eq_false (by omega)
                have e6 : (y.2.2 = 0) = True := eq_true (by omega)
                cases fi
                · simp only [Bool.or_false, Bool.false_or, Bool.or_true, Bool.true_or, Bool.and_true, Bool.true_and, Bool.and_false, Bool.false_and, Bool.not_true, Bool.not_false, reduceCtorEq, reduceIte, true_and, and_true, false_and, and_false, true_or, or_true, false_or, or_false, not_true_eq_false, not_false_eq_true, Nat.reduceEqDiff, Nat.reduceLT, rSel, ne_eq, decide_true, decide_false, e1, e2, e3, e4, e5, e6]
                  first | exact emp | exact emp.2
                · simp only [Bool.or_false, Bool.false_or, Bool.or_true, Bool.true_or, Bool.and_true, Bool.true_and, Bool.and_false, Bool.false_and, Bool.not_true, Bool.not_false, reduceCtorEq, reduceIte, true_and, and_true, false_and, and_false, true_or, or_true, false_or, or_false, not_true_eq_false, not_false_eq_true, Nat.reduceEqDiff, Nat.reduceLT, rSel, ne_eq, decide_true, decide_false, e1, e2, e3, e4, e5, e6]
                  exact hir _ _ ⟨by omega, by omega⟩ ⟨by omega, by omega⟩ i1 (by omega)
            · have e3 : (y.2.1 < 0) = False := eq_false (by omega)
              have e5 : (y.2.1 = 0) = True := eq_true (by omega)
              rcases (show 0 < y.2.2 ∨ y.2.2 = 0 by omega) with v | v
              · have e4 : (0 < y.2.2) = True := eq_true (by omega)
                have e6 : (y.2.2 = 0) = False := eq_false (by omega)
                cases fi
                · simp only [Bool.or_false, Bool.false_or, Bool.or_true, Bool.true_or, Bool.and_true, Bool.true_and, Bool.and_false, Bool.false_and, Bool.not_true, Bool.not_false, reduceCtorEq, reduceIte, true_and, and_true, false_and, and_false, true_or, or_true, false_or, or_false, not_true_eq_false, not_false_eq_true, Nat.reduceEqDiff, Nat.reduceLT, rSel, ne_eq, decide_true, decide_false, e1, e2, e3, e4, e5, e6]
                  first | exact emp | exact emp.2
                · simp only [Bool.or_false, Bool.false_or, Bool.or_true, Bool.true_or, Bool.and_true, Bool.true_and, Bool.and_false, Bool.false_and, Bool.not_true, Bool.not_false, reduceCtorEq, reduceIte, true_and, and_true, false_and, and_false, true_or, or_true, false_or, or_false, not_true_eq_false, not_false_eq_true, Nat.reduceEqDiff, Nat.reduceLT, rSel, ne_eq, decide_true, decide_false, e1, e2, e3, e4, e5, e6]
                  exact lowr _ _ ⟨by omega, by omega⟩ ⟨by omega, by omega⟩ i1 (by omega)
              · have e4 : (0 < y.2.2) = False := eq_false (by omega)
                have e6 : (y.2.2 = 0) = True := eq_true (by omega)
                cases fi
                · simp only [Bool.or_false, Bool.false_or, Bool.or_true, Bool.true_or, Bool.and_true, Bool.true_and, Bool.and_false, Bool.false_and, Bool.not_true, Bool.not_false, reduceCtorEq, reduceIte, true_and, and_true, false_and, and_false, true_or, or_true, false_or, or_false, not_true_eq_false, not_false_eq_true, Nat.reduceEqDiff, Nat.reduceLT, rSel, ne_eq, decide_true, decide_false, e1, e2, e3, e4, e5, e6]
                  first | exact emp | exact emp.2
                · simp only [Bool.or_false, Bool.false_or, Bool.or_true, Bool.true_or, Bool.and_true, Bool.true_and, Bool.and_false, Bool.false_and, Bool.not_true, Bool.not_false, reduceCtorEq, reduceIte, true_and, and_true, false_and, and_false, true_or, or_true, false_or, or_false, not_true_eq_false, not_false_eq_true, Nat.reduceEqDiff, Nat.reduceLT, rSel, ne_eq, decide_true, decide_false, e1, e2, e3, e4, e5, e6]
                  first | exact emp | exact emp.2
      · cases fi
        · rw [z]
          simp only [Bool.or_false, Bool.false_or, Bool.or_true, Bool.true_or, Bool.and_true, Bool.true_and, Bool.and_false, Bool.false_and, Bool.not_true, Bool.not_false, reduceCtorEq, reduceIte, true_and, and_true, false_and, and_false, true_or, or_true, false_or, or_false, not_true_eq_false, not_false_eq_true, Nat.reduceEqDiff, Nat.reduceLT]
          first | exact emp | exact emp.2
        · exact absurd (hz rfl) (by rw [z]; decide)
theorem md_q {x y : vC} (hx : cOk x) (hy : cOk y) (hz : zC y.2.1 y.2.2 = false) : rTwo 10 x y = rTwo 3 x y := by
  unfold rTwo
  by_cases m : x.1 = 0 ∨ y.1 = 0
  · rw [if_pos m, if_pos m]
  · have m1 : x.1 ≠ 0 := by omega
    have m2 : y.1 ≠ 0 := by omega
    rw [if_neg m, if_neg m, if_pos (by decide), if_neg (by decide), if_neg (by decide), decide_eq_true rfl]
    unfold rRev
    rcases Bool.eq_false_or_eq_true (eB x || eB y) with e | e
    · rw [e, if_pos rfl, if_pos rfl]
    · have e2 := (Bool.or_eq_false_iff.mp e).2
      rw [eB_C hy m2] at e2
      have z := (zB_C hy m2 e2).trans hz
      rw [e, z]
      simp only [Bool.or_false, Bool.false_or, Bool.or_true, Bool.true_or, Bool.and_true, Bool.true_and, Bool.and_false, Bool.false_and, Bool.not_true, Bool.not_false, reduceCtorEq, reduceIte, true_and, and_true, false_and, and_false, true_or, or_true, false_or, or_false, not_true_eq_false, not_false_eq_true, Nat.reduceEqDiff, Nat.reduceLT]
      unfold rTX rK2
      rw [z]
      simp only [Bool.or_false, Bool.false_or, Bool.or_true, Bool.true_or, Bool.and_true, Bool.true_and, Bool.and_false, Bool.false_and, Bool.not_true, Bool.not_false, reduceCtorEq, reduceIte, true_and, and_true, false_and, and_false, true_or, or_true, false_or, or_false, not_true_eq_false, not_false_eq_true, Nat.reduceEqDiff, Nat.reduceLT]
      have : min (min x.1 y.1) (bW (rRC x y)) = min (oW true (bdB x && bdB y) true true true (ibB (decide (rLo y = 0 ∧ rHi y = 0)) (rVL 9218868437227405312 (rLo x) (rHi x) (rLo y) (rHi y)) (rVH (-9218868437227405312) (rLo x) (rHi x) (rLo y) (rHi y)))) (min x.1 y.1) := by
        rw [Nat.min_comm]
        congr 1
      rw [this]
