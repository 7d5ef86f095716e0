/-! one, power, two, fused -/
theorem ow_st {o : Nat} {L H l h : Int} {wi al : Bool} (h5 : 5 ≤ o) (h9 : o ≤ 9) (h1 : bF L ∧ L < 9218868437227405312) (h2 : bF H ∧ -9218868437227405312 < H) (hw : wi = decide (L = H)) (ha : L = H → al = !(jmB o l || jmB o h)) : owN false 1 (o : Int) L H l h l h l h = oW true (bC l h) true wi al (ibB false L H) := by
  have hd : dfB 1 (o : Int) l h l h = true := by rw [f_D, if_neg (by omega), if_neg (by omega)]
  unfold owN oW
  rw [if_neg (show ¬ (false = true ∨ dfB 1 (o : Int) l h l h = false) by rw [hd]; decide), if_pos (show (true && true) = true from rfl), Int.toNat_natCast]
  by_cases c : L = H
  · rw [if_neg (fun q => q.2.2 c), if_neg (show ¬ wi = false by rw [hw, decide_eq_true c]; decide), ha c, ib_b h1 h2]
    rcases Bool.eq_false_or_eq_true (jmB o l || jmB o h) with d | d
    · rw [if_pos ⟨rfl, by omega, d⟩, d]
      rfl
    · rw [if_neg (fun q => absurd (d.symm.trans q.2.2) (by decide)), d, Bool.and_self, Bool.and_self, Bool.not_false, Bool.true_and]
  · rw [if_pos ⟨rfl, by omega, c⟩, if_pos (by rw [hw, decide_eq_false c])]
theorem rk_one {o : Nat} {c : vC} (hc : cOk c) (ho : o ≤ 9) : rkC 1 (o : Int) c c c = rOne o c := by
  by_cases m : c.1 = 0
  · unfold rkC rOne
    rw [if_pos (Or.inl m), if_pos m]
  · have w := cC hc m
    rcases Bool.eq_false_or_eq_true (eC c.2.1 c.2.2) with e | e
    · refine (rk_emp m m m (by rw [e]; rfl)).trans ?_
      unfold rOne
      rw [if_neg m, if_pos ((eB_C hc m).trans e)]
    · have n := wC_n w e
      have bd := bdB_C hc m e
      have zb := zB_C hc m e
      have eL := rLo_n m
      have eH := rHi_n m
      have hk : c.1 = min c.1 (min c.1 c.1) := by omega
      have fO : fiO 1 (o : Int) := Or.inr (Or.inr (Or.inl ⟨rfl, by omega, by omega⟩))
      have b3 : bC c.2.1 c.2.2 = (bC c.2.1 c.2.2 && bC c.2.1 c.2.2 && bC c.2.1 c.2.2) := by rw [Bool.and_self, Bool.and_self]
      obtain ⟨⟨b1, b2⟩, ⟨b4, b5⟩, b6, b7, b8⟩ := id n
      unfold rOne
      rw [if_neg m, if_neg (by rw [eB_C hc m, e]; decide)]
      rcases (show o = 0 ∨ o = 1 ∨ o = 2 ∨ o = 3 ∨ o = 4 ∨ o = 5 ∨ 6 ≤ o by omega) with rfl | rfl | rfl | rfl | rfl | rfl | h6
      · rw [show rOX 0 c = rX0 c from rfl]
        unfold rK rX0
        dsimp only
        rw [eL, eH, bd]
        refine rk_gen m m m n n n fO f_E (fun _ => ?_) (fun q => absurd q (by decide)) f_D (fun _ q g => ow_std (nC_l g) (nC_h g) (f_D.trans rfl) (by omega) b3) hk
        rw [f_T, f_L, f_H, decide_eq_false (by decide), dnT_f, upT_f]
        rw [foL_0, foH_0, dnX_fl ⟨by omega, by omega⟩, upX_fl ⟨by omega, by omega⟩]
        omega
      · rw [show rOX 1 c = rX1 c from rfl]
        unfold rK rX1
        dsimp only
        rw [eL, eH, bd, zb]
        refine rk_gen m m m n n n fO f_E (fun q => ?_) (fun q => ?_) f_D (fun _ q g => ow_std (nC_l g) (nC_h g) (f_D.trans q) (by omega) b3) hk
        · rw [f_T, f_L, f_H, decide_eq_false (by decide), dnT_f, upT_f]
          rw [foL_1, foH_1, rv_bl (nC_l n) (nC_h n) n.2.2.1, rv_bh (nC_l n) (nC_h n) n.2.2.1]
          exact ⟨rb_lo (nC_l n) (nC_h n) n.2.2.1 (of_decide_eq_false q) (by decide), rb_hi (nC_l n) (nC_h n) n.2.2.1 (of_decide_eq_false q) (by decide)⟩
        · have := of_decide_eq_true q
          unfold zC
          rw [decide_eq_true (by omega)]
          rfl
      · rw [show rOX 2 c = rX2 c from rfl]
        unfold rK rX2
        dsimp only
        rw [eL, eH, bd, zb]
        refine rk_gen m m m n n n fO f_E (fun _ => ?_) (fun q => absurd q (by decide)) f_D (fun _ q g => ow_std (nC_l g) (nC_h g) (f_D.trans rfl) (by omega) b3) hk
        rw [f_T, f_L, f_H, decide_eq_false (by decide), dnT_f, upT_f]
        rw [foL_2, foH_2, ra_loE (nC_l n) (nC_h n) n.2.2.1 (by decide) (by decide), ra_hiE (nC_l n) (nC_h n) n.2.2.1 (by decide) (by decide)]
        unfold zC
        by_cases z : c.2.1 ≤ 0 ∧ 0 ≤ c.2.2
        · rw [if_pos z, if_pos z, if_pos (decide_eq_true z), if_pos (decide_eq_true z)]
          exact ⟨rfl, rfl⟩
        · rw [if_neg z, if_neg z, if_neg (by rw [decide_eq_false z]; decide), if_neg (by rw [decide_eq_false z]; decide)]
          exact ⟨rfl, rfl⟩
      · rw [show rOX 3 c = rX3 c from rfl]
        unfold rK rX3
        dsimp only
        rw [eL, eH, bd]
        refine rk_gen m m m n n n fO f_E (fun q => ?_) (fun q => ?_) f_D (fun _ q g => ow_std (nC_l g) (nC_h g) (f_D.trans q) (by omega) b3) hk
        · have q0 := of_decide_eq_false q
          rw [f_T, f_L, f_H, decide_eq_true rfl]
          rw [foL_3, foH_3, rt_L (nC_l n), rt_H n.2.1 (by omega), if_neg q0, if_neg q0]
          exact ⟨rfl, rfl⟩
        · have := of_decide_eq_true q
          exact decide_eq_false (by omega)
      · rw [show rOX 4 c = rX4 c from rfl]
        unfold rK rX4
        dsimp only
        rw [eL, eH, bd, zb]
        refine rk_gen m m m n n n fO f_E (fun _ => ?_) (fun q => absurd q (by decide)) f_D (fun _ q g => ow_std (nC_l g) (nC_h g) (f_D.trans rfl) (by omega) b3) hk
        rw [f_T, f_L, f_H, decide_eq_false (by decide), dnT_f, upT_f]
        rw [foL_4, foH_4, dnX_fl ⟨by omega, by omega⟩, upX_fl ⟨by omega, by omega⟩]
        have ao : ∀ k, aO k = max k (-k) := by
          intro k
          unfold aO
          split <;> omega
        rw [ao, ao]
        unfold zC
        by_cases z : c.2.1 ≤ 0 ∧ 0 ≤ c.2.2
        · rw [decide_eq_true z]
          simp only [Bool.or_false, Bool.false_or, Bool.or_true, Bool.true_or, Bool.and_true, Bool.true_and, Bool.and_false, Bool.false_and, Bool.not_true, Bool.not_false, reduceCtorEq, reduceIte, true_and, and_true, false_and, and_false, true_or, or_true, false_or, or_false, not_true_eq_false, not_false_eq_true, Nat.reduceEqDiff, Nat.reduceLT]
          omega
        · rw [decide_eq_false z]
          simp only [Bool.or_false, Bool.false_or, Bool.or_true, Bool.true_or, Bool.and_true, Bool.true_and, Bool.and_false, Bool.false_and, Bool.not_true, Bool.not_false, reduceCtorEq, reduceIte, true_and, and_true, false_and, and_false, true_or, or_true, false_or, or_false, not_true_eq_false, not_false_eq_true, Nat.reduceEqDiff, Nat.reduceLT]
          omega
      · rw [show rOX 5 c = rX5 c from rfl]
        unfold rK rX5
        dsimp only
        rw [eL, eH, bd, zb]
        have s := sgF_n n.2.2.1
        have s1 : min (min 9218868437227405312 (sgF c.2.1)) (sgF c.2.2) = sgF c.2.1 := by
          have := s.1.2; have := s.2.2.1; omega
        have s2 : max (max (-9218868437227405312) (sgF c.2.1)) (sgF c.2.2) = sgF c.2.2 := by
          have := s.1.1; have := s.2.2.1; omega
        rw [s1, s2]
        refine rk_gen m m m n n n fO f_E (fun _ => ?_) (fun q => absurd q (by decide)) f_D (fun _ q g => ow_st (by decide) (by decide) (nC_l g) (nC_h g) rfl fun q => ?_) hk
        · rw [f_T, f_L, f_H, decide_eq_false (by decide), dnT_f, upT_f]
          rw [foL_5 (by decide), foH_5 (by decide), st_sg, st_sg, dnX_fl s.1, upX_fl s.2.1]
          exact ⟨rfl, rfl⟩
        · have j : ∀ k, jmB 5 k = decide (k = 0) := fun k => rfl
          rw [j, j]
          congr 1
          unfold zC
          unfold sgF at q
          rw [Bool.eq_iff_iff, Bool.or_eq_true, decide_eq_true_iff, decide_eq_true_iff, decide_eq_true_iff]
          repeat' split at q
          all_goals omega
      · have r : rOX o c = rX6 o c := by
          unfold rOX
          rw [if_neg (by omega), if_neg (by omega), if_neg (by omega), if_neg (by omega), if_neg (by omega), if_neg (by omega)]
        rw [r]
        have hh : hwO o ≤ 3 := by
          unfold hwO
          repeat' split
          all_goals decide
        have s := st_n (show 5 ≤ o by omega) ho n
        rw [st_wR n.1 h6 ho, st_wR n.2.1 h6 ho] at s
        have s1 : rXL o c = wR c.2.1 (hwO o) := by
          unfold rXL
          rw [eL, eH]
          have := s.1.2; have := s.2.2.1; omega
        have s2 : rXH o c = wR c.2.2 (hwO o) := by
          unfold rXH
          rw [eL, eH]
          have := s.1.1; have := s.2.2.1; omega
        have s3 : wR c.2.1 (hwO o) = wR c.2.2 (hwO o) → iN c.2.1 = false ∧ iN c.2.2 = false := by
          intro q
          constructor
          · rcases Bool.eq_false_or_eq_true (iN c.2.1) with d | d
            · rw [wR_w n.1 (Or.inl d)] at q
              have := iNt d
              have := s.2.2.2.2
              omega
            · exact d
          · rcases Bool.eq_false_or_eq_true (iN c.2.2) with d | d
            · rw [wR_w n.2.1 (Or.inl d)] at q
              have := iNt d
              have := s.2.2.2.1
              omega
            · exact d
        have s4 : rXW o c = decide (wR c.2.1 (hwO o) = wR c.2.2 (hwO o)) := by
          unfold rXW
          rw [s1, s2, bd]
          by_cases q : wR c.2.1 (hwO o) = wR c.2.2 (hwO o)
          · obtain ⟨d1, d2⟩ := s3 q
            have d1 := iNf d1
            have d2 := iNf d2
            unfold bC
            rw [decide_eq_true (show -9218868437227405312 < c.2.1 ∧ c.2.2 < 9218868437227405312 by omega), Bool.and_true]
          · rw [decide_eq_false q, Bool.false_and]
        unfold rK rX6
        dsimp only
        rw [s1, s2, s4, eL, eH, bd]
        refine rk_gen m m m n n n fO (f_E.trans ?_) (fun _ => ?_) (fun q => absurd q (by decide)) (f_D.trans ?_) (fun _ q g => ow_st (by omega) ho (nC_l g) (nC_h g) rfl fun q => ?_) hk
        · unfold foE
          rw [if_neg (by omega), if_neg (by omega)]
        · rw [f_T, f_L, f_H, decide_eq_false (by omega), dnT_f, upT_f]
          rw [foL_5 (by omega), foH_5 (by omega), st_wR n.1 h6 ho, st_wR n.2.1 h6 ho, dnX_fl s.1, upX_fl s.2.1]
          exact ⟨rfl, rfl⟩
        · rw [if_neg (by omega), if_neg (by omega)]
        · obtain ⟨d1, d2⟩ := s3 q
          rw [← jm_sl h6 ho n.1 n.2.1 d1 d2 n.2.2.1 q, decide_eq_true q, Bool.true_and]
theorem rk_pow {p : Int} {c : vC} (hc : cOk c) (h1 : -40 ≤ p) (h2 : p ≤ 40) : rkC 4 p c c c = rPow p c := by
  by_cases m : c.1 = 0
  · unfold rkC rPow
    rw [if_pos (Or.inl m), if_pos m]
  · have w := cC hc m
    rcases Bool.eq_false_or_eq_true (eC c.2.1 c.2.2) with e | e
    · refine (rk_emp m m m (by rw [e]; rfl)).trans ?_
      unfold rPow
      rw [if_neg m, if_pos ((eB_C hc m).trans e)]
    · have n := wC_n w e
      have bd := bdB_C hc m e
      have zb := zB_C hc m e
      have eL := rLo_n m
      have eH := rHi_n m
      have hk : c.1 = min c.1 (min c.1 c.1) := by omega
      have fO : fiO 4 p := Or.inl ⟨rfl, h1, h2⟩
      have b3 : bC c.2.1 c.2.2 = (bC c.2.1 c.2.2 && bC c.2.1 c.2.2 && bC c.2.1 c.2.2) := by rw [Bool.and_self, Bool.and_self]
      have gL : fiL 4 p c.2.1 c.2.2 c.2.1 c.2.2 c.2.1 = rwL p c.2.1 c.2.2 := if_pos rfl
      have gH : fiH 4 p c.2.1 c.2.2 c.2.1 c.2.2 c.2.2 = rwH p c.2.1 c.2.2 := if_pos rfl
      have gE : fiE 4 p c.2.1 c.2.2 c.2.1 c.2.2 = decide (p < 0 ∧ c.2.1 = 0 ∧ c.2.2 = 0) := if_pos rfl
      have gD : dfB 4 p c.2.1 c.2.2 c.2.1 c.2.2 = if p < 0 then !zC c.2.1 c.2.2 else true := by
        unfold dfB
        rw [if_neg (by omega), if_neg (by omega)]
        by_cases q : p < 0
        · rw [if_pos ⟨rfl, q⟩, if_pos q]
        · rw [if_neg (by omega), if_neg (by omega), if_neg q]
      obtain ⟨⟨b1, b2⟩, ⟨b4, b5⟩, b6, b7, b8⟩ := id n
      unfold rPow
      rw [if_neg m, if_neg (by rw [eB_C hc m, e]; decide)]
      unfold rPX
      rcases (show p = 0 ∨ 0 < p ∨ p < 0 by omega) with rfl | hp | hp
      · rw [if_pos rfl]
        unfold rK
        dsimp only
        rw [bd]
        refine rk_gen m m m n n n fO (gE.trans (decide_eq_false (by omega))) (fun _ => ?_) (fun q => absurd q (by decide)) (gD.trans (if_neg (by omega))) (fun _ q g => ow_std (nC_l g) (nC_h g) (gD.trans (if_neg (by omega))) (by omega) b3) hk
        rw [fiT_f (by decide), gL, gH, dnT_f, upT_f]
        have d1 : dnF 1 = 4607182418800017408 := by rw [← fval_one]; exact dnF_f (by decide) (by decide)
        have u1 : upF 1 = 4607182418800017408 := by rw [← fval_one]; exact upF_f (by decide) (by decide)
        have pe : ∀ k, pwX k 0 = .inl 1 := fun k => rfl
        unfold rwL rwH
        rw [if_neg (by omega), if_neg (by omega), if_neg (by omega), if_neg (by omega), if_neg (by omega), if_neg (by omega), pe, pe]
        exact ⟨d1.trans (by decide), u1.trans (by decide)⟩
      · rw [if_neg (by omega), if_pos hp]
        unfold rK
        dsimp only
        rw [eL, eH, bd, zb]
        refine rk_gen m m m n n n fO (gE.trans (decide_eq_false (by omega))) (fun _ => ?_) (fun q => absurd q (by decide)) (gD.trans (if_neg (by omega))) (fun _ q g => ow_std (nC_l g) (nC_h g) (gD.trans (if_neg (by omega))) (by omega) b3) hk
        rw [fiT_f (by decide), gL, gH, dnT_f, upT_f]
        unfold zC
        rcases (show p.toNat % 2 = 0 ∨ p.toNat % 2 = 1 by omega) with q | q
        · rw [ra_loE (nC_l n) (nC_h n) n.2.2.1 hp q, ra_hiE (nC_l n) (nC_h n) n.2.2.1 hp q]
          by_cases z : c.2.1 ≤ 0 ∧ 0 ≤ c.2.2
          · rw [if_pos z, if_pos z, if_pos ⟨q, decide_eq_true z⟩, if_pos ⟨q, decide_eq_true z⟩]
            exact ⟨rfl, rfl⟩
          · rw [if_neg z, if_neg z, if_neg (fun k => z (of_decide_eq_true k.2)), if_neg (fun k => z (of_decide_eq_true k.2))]
            exact ⟨rfl, rfl⟩
        · rw [ra_loO (nC_l n) (nC_h n) n.2.2.1 hp q, ra_hiO (nC_l n) (nC_h n) n.2.2.1 hp q, if_neg (by omega), if_neg (by omega)]
          exact ⟨rfl, rfl⟩
      · rw [if_neg (by omega), if_neg (by omega)]
        unfold rK
        dsimp only
        rw [eL, eH, bd, zb]
        have gD' := gD.trans (if_pos hp)
        have gE' : fiE 4 p c.2.1 c.2.2 c.2.1 c.2.2 = decide (c.2.1 = 0 ∧ c.2.2 = 0) := by
          rw [gE, Bool.eq_iff_iff, decide_eq_true_iff, decide_eq_true_iff]
          omega
        refine rk_gen m m m n n n fO gE' (fun q => ?_) (fun q => ?_) gD' (fun _ q g => ow_std (nC_l g) (nC_h g) (gD'.trans q) (by omega) b3) hk
        · rw [fiT_f (by decide), gL, gH, dnT_f, upT_f]
          exact ⟨rb_lo (nC_l n) (nC_h n) n.2.2.1 (of_decide_eq_false q) hp, rb_hi (nC_l n) (nC_h n) n.2.2.1 (of_decide_eq_false q) hp⟩
        · have := of_decide_eq_true q
          unfold zC
          rw [decide_eq_true (by omega)]
          rfl
theorem rk_two {o : Nat} {x y : vC} (hx : cOk x) (hy : cOk y) (ho : o ≤ 5) : rkC 2 (o : Int) x y y = rTwo o x y := by
  by_cases m : x.1 = 0 ∨ y.1 = 0
  · unfold rkC rTwo
    rw [if_pos (by omega), if_pos m]
  · have m1 : x.1 ≠ 0 := by omega
    have m2 : y.1 ≠ 0 := by omega
    rcases Bool.eq_false_or_eq_true (eC x.2.1 x.2.2 || eC y.2.1 y.2.2) with e | e
    · refine (rk_emp m1 m2 m2 (by rw [e]; rfl)).trans ?_
      unfold rTwo
      rw [if_neg m, if_neg (by omega), if_neg (by omega), if_pos (by rw [eB_C hx m1, eB_C hy m2]; exact e)]
    · have e' := Bool.or_eq_false_iff.mp e
      have n1 := wC_n (cC hx m1) e'.1
      have n2 := wC_n (cC hy m2) e'.2
      have bd1 := bdB_C hx m1 e'.1
      have bd2 := bdB_C hy m2 e'.2
      have zb := zB_C hy m2 e'.2
      have hk : min x.1 y.1 = min x.1 (min y.1 y.1) := by omega
      have fO : fiO 2 (o : Int) := Or.inr (Or.inl ⟨rfl, by omega, by omega⟩)
      have b3 : (bC x.2.1 x.2.2 && bC y.2.1 y.2.2) = (bC x.2.1 x.2.2 && bC y.2.1 y.2.2 && bC y.2.1 y.2.2) := by rw [Bool.and_assoc, Bool.and_self]
      obtain ⟨⟨b1, b2⟩, ⟨b4, b5⟩, b6, b7, b8⟩ := id n1
      obtain ⟨⟨c1, c2⟩, ⟨c4, c5⟩, c6, c7, c8⟩ := id n2
      unfold rTwo
      rw [if_neg m, if_neg (by omega), if_neg (by omega), if_neg (by rw [eB_C hx m1, eB_C hy m2, e]; decide)]
      unfold rTX rK2
      rcases (show o = 0 ∨ o = 1 ∨ o = 2 ∨ o = 3 ∨ o = 4 ∨ o = 5 by omega) with rfl | rfl | rfl | rfl | rfl | rfl
      · rw [if_pos rfl]
        dsimp only
        rw [rLo_n m1, rHi_n m1, rLo_n m2, rHi_n m2, bd1, bd2]
        refine rk_gen m1 m2 m2 n1 n2 n2 fO t_E (fun _ => ?_) (fun q => absurd q (by decide)) t_D (fun _ q g => ow_std (nC_l g) (nC_h g) (t_D.trans rfl) (by omega) b3) hk
        rw [fiT_f (by decide), t_L, t_H, dnT_f, upT_f]
        rw [ftL_0, ftH_0]
        exact ⟨ad_lo (nC_l n1) (nC_l n2), ad_hi (nC_h n1) (nC_h n2)⟩
      · rw [if_neg (by decide), if_pos rfl]
        dsimp only
        rw [rLo_n m1, rHi_n m1, rLo_n m2, rHi_n m2, bd1, bd2]
        refine rk_gen m1 m2 m2 n1 n2 n2 fO t_E (fun _ => ?_) (fun q => absurd q (by decide)) t_D (fun _ q g => ow_std (nC_l g) (nC_h g) (t_D.trans rfl) (by omega) b3) hk
        rw [fiT_f (by decide), t_L, t_H, dnT_f, upT_f]
        rw [ftL_1, ftH_1]
        exact ⟨ad_lo (nC_l n1) ⟨⟨by omega, by omega⟩, by omega⟩, ad_hi (nC_h n1) ⟨⟨by omega, by omega⟩, by omega⟩⟩
      · rw [if_neg (by decide), if_neg (by decide), if_pos rfl]
        dsimp only
        rw [bd1, bd2]
        refine rk_gen m1 m2 m2 n1 n2 n2 fO t_E (fun _ => ?_) (fun q => absurd q (by decide)) t_D (fun _ q g => ow_std (nC_l g) (nC_h g) (t_D.trans rfl) (by omega) b3) hk
        rw [fiT_f (by decide), t_L, t_H, dnT_f, upT_f]
        rw [ftL_2, ftH_2]
        have z0 : iN 0 = false := by decide
        have f0 : fval 0 = 0 := fval_0
        have ck : ∀ k, cX x y k = cK x.2.1 x.2.2 y.2.1 y.2.2 k := fun k => by unfold cX cK; rw [rLo_n m1, rHi_n m1, rLo_n m2, rHi_n m2]
        have a0 : ∀ X : vE, adX X (.inl 0) = X := by
          intro X
          rcases X with t | b
          · show (Sum.inl (t + 0) : vE) = _
            rw [Rat.add_zero]
          · rfl
        rw [mL_m4 (by rw [rLo_n m1]; exact n1.1) (by rw [rHi_n m1]; exact n1.2.1) (by rw [rLo_n m2]; exact n2.1) (by rw [rHi_n m2]; exact n2.2.1) z0, mH_x4 (by rw [rLo_n m1]; exact n1.1) (by rw [rHi_n m1]; exact n1.2.1) (by rw [rLo_n m2]; exact n2.1) (by rw [rHi_n m2]; exact n2.2.1) z0, f0, a0, a0, ck, ck, ck, ck, mnI_4, mxI_4]
        exact ⟨rfl, rfl⟩
      · rw [if_neg (by decide), if_neg (by decide), if_neg (by decide), if_pos rfl]
        dsimp only
        rw [rLo_n m1, rHi_n m1, rLo_n m2, rHi_n m2, bd1, bd2, zb]
        refine rk_gen m1 m2 m2 n1 n2 n2 fO t_E (fun q => ?_) (fun q => ?_) t_D (fun _ q g => ow_std (nC_l g) (nC_h g) (t_D.trans q) (by omega) b3) hk
        · rw [fiT_f (by decide), t_L, t_H, dnT_f, upT_f]
          rw [ftL_3, ftH_3]
          exact ⟨dv_lo (nC_l n1) (nC_h n1) n1.2.2.1 (nC_l n2) (nC_h n2) n2.2.2.1 (of_decide_eq_false q), dv_hi (nC_l n1) (nC_h n1) n1.2.2.1 (nC_l n2) (nC_h n2) n2.2.2.1 (of_decide_eq_false q)⟩
        · have := of_decide_eq_true q
          unfold zC
          rw [decide_eq_true (by omega)]
          rfl
      · rw [if_neg (by decide), if_neg (by decide), if_neg (by decide), if_neg (by decide), if_pos rfl]
        dsimp only
        rw [rLo_n m1, rHi_n m1, rLo_n m2, rHi_n m2, bd1, bd2]
        refine rk_gen m1 m2 m2 n1 n2 n2 fO t_E (fun _ => ?_) (fun q => absurd q (by decide)) t_D (fun _ q g => ow_std (nC_l g) (nC_h g) (t_D.trans rfl) (by omega) b3) hk
        rw [fiT_f (by decide), t_L, t_H, dnT_f, upT_f]
        rw [ftL_4, ftH_4]
        exact ⟨dnX_fl ⟨by omega, by omega⟩, upX_fl ⟨by omega, by omega⟩⟩
      · rw [if_neg (by decide), if_neg (by decide), if_neg (by decide), if_neg (by decide), if_neg (by decide)]
        dsimp only
        rw [rLo_n m1, rHi_n m1, rLo_n m2, rHi_n m2, bd1, bd2]
        refine rk_gen m1 m2 m2 n1 n2 n2 fO t_E (fun _ => ?_) (fun q => absurd q (by decide)) t_D (fun _ q g => ow_std (nC_l g) (nC_h g) (t_D.trans rfl) (by omega) b3) hk
        rw [fiT_f (by decide), t_L, t_H, dnT_f, upT_f]
        rw [ftL_5, ftH_5]
        exact ⟨dnX_fl ⟨by omega, by omega⟩, upX_fl ⟨by omega, by omega⟩⟩
theorem rk_fus {x y z : vC} (hx : cOk x) (hy : cOk y) (hz : cOk z) : rkC 3 0 x y z = rFus x y z := by
  by_cases m : x.1 = 0 ∨ y.1 = 0 ∨ z.1 = 0
  · unfold rkC rFus
    rw [if_pos m, if_pos m]
  · have m1 : x.1 ≠ 0 := by omega
    have m2 : y.1 ≠ 0 := by omega
    have m3 : z.1 ≠ 0 := by omega
    rcases Bool.eq_false_or_eq_true (eC x.2.1 x.2.2 || eC y.2.1 y.2.2 || eC z.2.1 z.2.2) with e | e
    · refine (rk_emp m1 m2 m3 e).trans ?_
      unfold rFus
      rw [if_neg m, if_pos (by rw [eB_C hx m1, eB_C hy m2, eB_C hz m3]; exact e)]
    · have e' := Bool.or_eq_false_iff.mp e
      have e'' := Bool.or_eq_false_iff.mp e'.1
      have n1 := wC_n (cC hx m1) e''.1
      have n2 := wC_n (cC hy m2) e''.2
      have n3 := wC_n (cC hz m3) e'.2
      have bd1 := bdB_C hx m1 e''.1
      have bd2 := bdB_C hy m2 e''.2
      have bd3 := bdB_C hz m3 e'.2
      have hk : min (min x.1 y.1) z.1 = min x.1 (min y.1 z.1) := by omega
      have fO : fiO 3 0 := Or.inr (Or.inr (Or.inr ⟨rfl, rfl⟩))
      unfold rFus
      rw [if_neg m, if_neg (by rw [eB_C hx m1, eB_C hy m2, eB_C hz m3, e]; decide), bd1, bd2, bd3]
      refine rk_gen m1 m2 m3 n1 n2 n3 fO rfl (fun _ => ?_) (fun q => absurd q (by decide)) rfl (fun _ q g => ow_std (nC_l g) (nC_h g) rfl (by omega) rfl) hk
      rw [fiT_f (by decide), dnT_f, upT_f]
      show dnX (adX (mnI (cK x.2.1 x.2.2 y.2.1 y.2.2) 4) (fl z.2.1)) = _ ∧ upX (adX (mxI (cK x.2.1 x.2.2 y.2.1 y.2.2) 4) (fl z.2.2)) = _
      obtain ⟨k1, k2, k3⟩ := mu_le (nC_l n1) (nC_h n1) n1.2.2.1 (nC_l n2) (nC_h n2) n2.2.2.1
      have l1 := ad_dn k2 (nC_l n3)
      have u1 := ad_up k3 (nC_h n3)
      have ck : ∀ k, cX x y k = cK x.2.1 x.2.2 y.2.1 y.2.2 k := fun k => by unfold cX cK; rw [rLo_n m1, rHi_n m1, rLo_n m2, rHi_n m2]
      unfold rFL rFH
      rw [rLo_n m3, rHi_n m3]
      constructor
      · rcases Bool.eq_false_or_eq_true (iN z.2.1) with c | c
        · rw [if_pos c]; exact l1.2 c
        · rw [if_neg (by rw [c]; decide), mL_m4 (by rw [rLo_n m1]; exact n1.1) (by rw [rHi_n m1]; exact n1.2.1) (by rw [rLo_n m2]; exact n2.1) (by rw [rHi_n m2]; exact n2.2.1) c, ck, ck, ck, ck, mnI_4, fl_f c]
      · rcases Bool.eq_false_or_eq_true (iN z.2.2) with c | c
        · rw [if_pos c]; exact u1.2 c
        · rw [if_neg (by rw [c]; decide), mH_x4 (by rw [rLo_n m1]; exact n1.1) (by rw [rHi_n m1]; exact n1.2.1) (by rw [rLo_n m2]; exact n2.1) (by rw [rHi_n m2]; exact n2.2.1) c, ck, ck, ck, ck, mxI_4, fl_f c]
