/-! roots, steps, and the cells that reckon makes -/
theorem sqf_mono {a b : Int} (h0 : 0 ≤ a) (h : a ≤ b) (hb : b < 9223372036854775808) : fval a * fval a ≤ fval b * fval b := by
  have oa : oF a := ⟨by omega, by omega⟩
  have ob : oF b := ⟨by omega, by omega⟩
  have v := (fval_le oa ob).mpr h
  have va := (fval_nn oa).mpr h0
  have k1 := Rat.mul_le_mul_of_nonneg_left v va
  have k2 := Rat.mul_le_mul_of_nonneg_right v (show 0 ≤ fval b by grind)
  grind
theorem rt_find {x : Rat} (h0 : 0 ≤ x) : ∀ N : Nat, ¬ fval N * fval N ≤ x → ∃ k : Nat, k < N ∧ fval k * fval k ≤ x ∧ ¬ fval ((k : Int) + 1) * fval ((k : Int) + 1) ≤ x := by
  intro N
  induction N with
  | zero =>
    intro h
    exact absurd (show fval ((0 : Nat) : Int) * fval ((0 : Nat) : Int) ≤ x by rw [show ((0 : Nat) : Int) = 0 from rfl, fval_0, Rat.zero_mul]; exact h0) h
  | succ n ih =>
    intro h
    by_cases c : fval n * fval n ≤ x
    · exact ⟨n, Nat.lt_succ_self n, c, h⟩
    · obtain ⟨k, k1, k2, k3⟩ := ih c
      exact ⟨k, by omega, k2, k3⟩
theorem rd_s {x : Rat} (h0 : 0 ≤ x) (h1 : x < fval 9218868437227405311 * fval 9218868437227405311) : rtS x (rdF x) := by
  obtain ⟨k, k1, k2, k3⟩ := rt_find h0 9218868437227405311 (fun q => by
    rw [show ((9218868437227405311 : Nat) : Int) = 9218868437227405311 from rfl] at q
    grind)
  have r : rtS x (k : Int) := ⟨by omega, by omega, k2, by grind⟩
  rw [← rtS_F r]
  exact r
theorem rd_f {k : Int} (h1 : 0 ≤ k) (h2 : k ≤ 9218868437227405311) : rtS (fval k) (rdF (fval k)) := rd_s ((fval_nn ⟨by omega, by omega⟩).mpr h1) (fval_sqm h1 h2)
theorem ru_b {x : Rat} (h : rtS x (rdF x)) : rdF x ≤ ruF x ∧ ruF x ≤ rdF x + 1 ∧ 0 ≤ rdF x ∧ rdF x < 9218868437227405311 := by
  obtain ⟨a, b, -, -⟩ := h
  unfold ruF
  split <;> omega
theorem rd_ru {a b : Int} (h0 : 0 ≤ a) (h : a ≤ b) (hb : b ≤ 9218868437227405311) : rdF (fval a) ≤ ruF (fval b) := by
  have ra := rd_f h0 (by omega)
  have rb := rd_f (show 0 ≤ b by omega) hb
  have u := ru_b rb
  have ua := ru_b ra
  obtain ⟨a1, a2, a3, a4⟩ := ra
  obtain ⟨b1, b2, b3, b4⟩ := rb
  have v := (fval_le (a := a) (b := b) ⟨by omega, by omega⟩ ⟨by omega, by omega⟩).mpr h
  rcases ilt_ge (rdF (fval b)) (rdF (fval a)) with c | c
  · have k := sqf_mono (a := rdF (fval b) + 1) (b := rdF (fval a)) (by omega) (by omega) (by omega)
    grind
  · omega
theorem wv0 (k : Int) : wv k 0 = wF k := by
  unfold wv wF
  rw [wA_0]
  by_cases c : k < 0
  · rw [if_pos c, if_pos c, decide_eq_true c, if_pos rfl]
  · rw [if_neg c, if_neg c, decide_eq_false c, if_neg (by decide), Int.add_zero]
theorem wv1 (k : Int) : wv k 1 = wF k + 1 := by
  unfold wv wF
  rw [wA_1]
  by_cases c : k < 0
  · rw [if_pos c, if_pos c, decide_eq_true c, if_neg (by decide)]; omega
  · rw [if_neg c, if_neg c, decide_eq_false c, if_pos (by decide)]
theorem wv2 (k : Int) : wv k 2 = if k < 0 then wF k + 1 else wF k := by
  unfold wv wF
  rw [wA_2]
  simp only [Bool.or_false, Bool.false_or, Bool.or_true, Bool.true_or, Bool.and_true, Bool.true_and, Bool.and_false, Bool.false_and, Bool.not_true, Bool.not_false, reduceCtorEq, reduceIte, true_and, and_true, false_and, and_false, true_or, or_true, false_or, or_false, not_true_eq_false, not_false_eq_true, Nat.reduceEqDiff, Nat.reduceLT]
  repeat' split
  all_goals omega
theorem fval_inj2 {a b : Int} (ha : oF a) (hb : oF b) (h : fval a = fval b) : a = b := by
  have h1 := (fval_le ha hb).mp (by rw [h]; exact Rat.le_refl)
  have h2 := (fval_le hb ha).mp (by rw [h]; exact Rat.le_refl)
  omega
theorem wh_sm {u : Nat} (h : u < 4607182418800017408) (w : whB u = true) : u = 0 := by
  have k := (wh_ct (u := u) (by omega)).mp w
  unfold ctF at k
  rw [if_pos (show u / 2 ^ 52 < 1023 by omega)] at k
  exact k.symm
theorem wR_b {k : Int} {how : Nat} (h : bF k) : bF (wR k how) := by
  rcases Bool.eq_false_or_eq_true (iN k) with c | c
  · rw [wR_w h (Or.inl c)]; exact h
  · have := wR_f (how := how) h c
    exact ⟨by omega, by omega⟩
theorem wh_1 : whB 4607182418800017408 = true := by decide +kernel
theorem wR_1 {how : Nat} : wR 4607182418800017408 how = 4607182418800017408 := wR_w ⟨by decide, by decide⟩ (Or.inr wh_1)
theorem wR_m1 {how : Nat} : wR (-4607182418800017408) how = -4607182418800017408 := wR_w ⟨by decide, by decide⟩ (Or.inr wh_1)
theorem wh_0 : whB 0 = true := by decide +kernel
theorem wR_0 {how : Nat} : wR 0 how = 0 := wR_w ⟨by decide, by decide⟩ (Or.inr wh_0)
theorem wT_z {u : Nat} (hu : u < 9218868437227405312) (h : whB u = false) (t : wT u = 0) : u < 4607182418800017408 := by
  have b := (wT_b h).2
  rw [t] at b
  have e1 : ((0 + 1 : Nat) : Rat) = fval 4607182418800017408 := by rw [fval_one]; rfl
  rw [e1, ← fval_nn'] at b
  have := (fval_ltI (a := (u : Int)) (b := 4607182418800017408) ⟨by omega, by omega⟩ ⟨by decide, by decide⟩).mp b
  omega
theorem jm_sl {o : Nat} {l h : Int} (h1 : 6 ≤ o) (h2 : o ≤ 9) (bl : bF l) (bh : bF h) (fl' : iN l = false) (fh : iN h = false) (hlh : l ≤ h) (eq : wR l (hwO o) = wR h (hwO o)) : (if o = 8 ∧ -4607182418800017408 < l ∧ h < 4607182418800017408 then true else slB o l h) = !(jmB o l || jmB o h) := by
  have nl := iN_fin bl fl'
  have nh := iN_fin bh fh
  have ol := iN_o bl
  have oh := iN_o bh
  rcases (show o = 9 ∨ o ≤ 8 by omega) with rfl | h3
  · rw [if_neg (by omega)]
    unfold slB jmB
    rw [if_pos rfl, if_neg (by decide), if_pos rfl, if_neg (by decide), if_pos rfl, hw_hf (by omega) (by omega), hw_hf (by omega) (by omega), hf_fo bl, hf_fo bh, Bool.not_or]
  · have j : ∀ k : Int, k.natAbs < 9218868437227405312 → jmB o k = (whB k.natAbs && decide (o ≠ 8 ∨ k ≠ 0)) := by
      intro k hk
      unfold jmB
      rw [if_neg (by omega), if_neg (by omega), Bool.eq_iff_iff, Bool.and_eq_true, decide_eq_true_iff, decide_eq_true_iff, wh_ct (by omega)]
    rw [j l nl, j h nh]
    by_cases s : o = 8 ∧ -4607182418800017408 < l ∧ h < 4607182418800017408
    · rw [if_pos s]
      have g : ∀ k : Int, k.natAbs < 4607182418800017408 → (whB k.natAbs && decide (o ≠ 8 ∨ k ≠ 0)) = false := by
        intro k hk
        rcases Bool.eq_false_or_eq_true (whB k.natAbs) with w | w
        · have := wh_sm hk w
          rw [decide_eq_false (by omega), Bool.and_false]
        · rw [w, Bool.false_and]
      rw [g l (by omega), g h (by omega)]
      rfl
    · rw [if_neg s]
      unfold slB
      rw [if_neg (by omega), (wh_fo ol).1, (wh_fo oh).1]
      rcases Bool.eq_false_or_eq_true (whB l.natAbs) with wl | wl
      · have : decide (o ≠ 8 ∨ l ≠ 0) = true := by
          rw [decide_eq_true_iff]
          refine Decidable.byContradiction fun q => ?_
          have q8 : o = 8 := by omega
          have q0 : l = 0 := by omega
          subst q8 q0
          have k := wR_mono (how := 2) (by decide) (a := 4607182418800017408) (b := h) ⟨by decide, by decide⟩ bh (by omega)
          rw [wR_1] at k
          have e : wR 0 2 = wR h 2 := eq
          rw [wR_0] at e
          omega
        rw [wl, this]
        rfl
      · rcases Bool.eq_false_or_eq_true (whB h.natAbs) with wh | wh
        · have : decide (o ≠ 8 ∨ h ≠ 0) = true := by
            rw [decide_eq_true_iff]
            refine Decidable.byContradiction fun q => ?_
            have q8 : o = 8 := by omega
            have q0 : h = 0 := by omega
            subst q8 q0
            have k := wR_mono (how := 2) (by decide) (a := l) (b := -4607182418800017408) bl ⟨by decide, by decide⟩ (by omega)
            rw [wR_m1] at k
            have e : wR l 2 = wR 0 2 := eq
            rw [wR_0] at e
            omega
          rw [wl, wh, this]
          rfl
        · rw [wl, wh]
          have ev : wv l (hwO o) = wv h (hwO o) := by
            have k := congrArg fval eq
            rw [wR_v bl fl' wl, wR_v bh fh wh] at k
            exact Rat.intCast_inj.mp k
          have ef : wF l = wF h := by
            rcases (show o = 6 ∨ o = 7 ∨ o = 8 by omega) with rfl | rfl | rfl
            · have e : wv l 1 = wv h 1 := ev
              rw [wv1, wv1] at e
              omega
            · have e : wv l 0 = wv h 0 := ev
              rw [wv0, wv0] at e
              exact e
            · have e : wv l 2 = wv h 2 := ev
              rw [wv2, wv2] at e
              rcases ilt_ge l 0 with cl | cl
              · rcases ilt_ge h 0 with ch | ch
                · rw [if_pos cl, if_pos ch] at e
                  omega
                · exfalso
                  rw [if_pos cl, if_neg (by omega)] at e
                  unfold wF at e
                  rw [if_pos cl, if_neg (by omega)] at e
                  have t1 := wT_z nl wl (by omega)
                  have t2 := wT_z nh wh (by omega)
                  exact s ⟨rfl, by omega, by omega⟩
              · rw [if_neg (by omega), if_neg (by omega)] at e
                exact e
          have e0 : wR l 0 = wR h 0 := by
            refine fval_inj2 (iN_o (wR_b bl)) (iN_o (wR_b bh)) ?_
            rw [wR_v bl fl' wl, wR_v bh fh wh, wv0, wv0, ef]
          rw [decide_eq_true e0]
          rfl
def rkE (kd : Nat) (op : Int) (x y z : vC) : Bool := (eC x.2.1 x.2.2 || eC y.2.1 y.2.2 || eC z.2.1 z.2.2) || fiE kd op x.2.1 x.2.2 y.2.1 y.2.2
noncomputable def rkL (kd : Nat) (op : Int) (x y z : vC) : Int := if rkE kd op x y z = true then 9218868437227405312 else dnT (fiT kd op) (fiL kd op x.2.1 x.2.2 y.2.1 y.2.2 z.2.1)
noncomputable def rkH (kd : Nat) (op : Int) (x y z : vC) : Int := if rkE kd op x y z = true then -9218868437227405312 else upT (fiT kd op) (fiH kd op x.2.1 x.2.2 y.2.1 y.2.2 z.2.2)
noncomputable def rkC (kd : Nat) (op : Int) (x y z : vC) : vC := if x.1 = 0 ∨ y.1 = 0 ∨ z.1 = 0 then (0, 0, 0) else (min (min x.1 (min y.1 z.1)) (owN (eC x.2.1 x.2.2 || eC y.2.1 y.2.2 || eC z.2.1 z.2.2) kd op (rkL kd op x y z) (rkH kd op x y z) x.2.1 x.2.2 y.2.1 y.2.2 z.2.1 z.2.2), rkL kd op x y z, rkH kd op x y z)
theorem owN_b {em : Bool} {kd : Nat} {op l0 h0 l h l' h' l'' h'' : Int} : 1 ≤ owN em kd op l0 h0 l h l' h' l'' h'' ∧ owN em kd op l0 h0 l h l' h' l'' h'' ≤ 4 := by
  unfold owN
  repeat' split
  all_goals decide
theorem rk_emp {kd : Nat} {op : Int} {x y z : vC} (m1 : x.1 ≠ 0) (m2 : y.1 ≠ 0) (m3 : z.1 ≠ 0) (e : (eC x.2.1 x.2.2 || eC y.2.1 y.2.2 || eC z.2.1 z.2.2) = true) : rkC kd op x y z = (1, 9218868437227405312, -9218868437227405312) := by
  have rE : rkE kd op x y z = true := by unfold rkE; rw [e]; rfl
  have eL : rkL kd op x y z = 9218868437227405312 := if_pos rE
  have eH : rkH kd op x y z = -9218868437227405312 := if_pos rE
  unfold rkC
  rw [if_neg (by omega), eL, eH, e]
  have : owN true kd op 9218868437227405312 (-9218868437227405312) x.2.1 x.2.2 y.2.1 y.2.2 z.2.1 z.2.2 = 1 := if_pos (Or.inl rfl)
  rw [this, show min (min x.1 (min y.1 z.1)) 1 = 1 by omega]
theorem ib_b {L H : Int} (h1 : bF L ∧ L < 9218868437227405312) (h2 : bF H ∧ -9218868437227405312 < H) : ibB false L H = bC L H := by
  obtain ⟨⟨a1, a2⟩, a3⟩ := h1
  obtain ⟨⟨b1, b2⟩, b3⟩ := h2
  unfold ibB bC iN
  rw [Bool.eq_iff_iff]
  simp only [Bool.and_eq_true, Bool.not_eq_true', decide_eq_true_eq, decide_eq_false_iff_not, Bool.not_false, true_and]
  omega
theorem ow_std {kd : Nat} {op L H l h l' h' l'' h'' : Int} {bd : Bool} (h1 : bF L ∧ L < 9218868437227405312) (h2 : bF H ∧ -9218868437227405312 < H) (hd : dfB kd op l h l' h' = true) (hn : ¬ (kd = 1 ∧ 5 ≤ op)) (hb : bd = (bC l h && bC l' h' && bC l'' h'')) : owN false kd op L H l h l' h' l'' h'' = oW true bd true true true (ibB false L H) := by
  unfold owN oW
  rw [if_neg (show ¬ (false = true ∨ dfB kd op l h l' h' = false) by rw [hd]; decide), if_neg (fun q => hn ⟨q.1, q.2.1⟩), if_neg (fun q => hn ⟨q.1, q.2.1⟩), if_pos (show (true && true) = true from rfl), if_neg (show ¬ true = false by decide), ib_b h1 h2, hb, Bool.true_and]
