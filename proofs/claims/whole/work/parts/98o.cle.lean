/-! what reckon makes: the links to what the reference makes -/
theorem cC {c : vC} (h : cOk c) (m : c.1 ≠ 0) : wC c.2.1 c.2.2 := by
  obtain ⟨-, h⟩ := h
  rcases h with h | ⟨-, h | h⟩
  · exact absurd h.1 m
  · exact Or.inl h
  · exact Or.inr ⟨⟨h.1, by omega⟩, ⟨by omega, h.2.2.2.1⟩, h.2.2.2.2, h.2.1, h.2.2.1⟩
theorem rLo_n {c : vC} (m : c.1 ≠ 0) : rLo c = c.2.1 := if_neg m
theorem rHi_n {c : vC} (m : c.1 ≠ 0) : rHi c = c.2.2 := if_neg m
theorem eB_C {c : vC} (h : cOk c) (m : c.1 ≠ 0) : eB c = eC c.2.1 c.2.2 := by
  unfold eB eC
  have w := cC h m
  unfold wC bF at w
  rw [Bool.eq_iff_iff, decide_eq_true_iff, decide_eq_true_iff]
  omega
theorem bdB_C {c : vC} (h : cOk c) (m : c.1 ≠ 0) (e : eC c.2.1 c.2.2 = false) : bdB c = bC c.2.1 c.2.2 := by
  obtain ⟨⟨w1, w2⟩, ⟨w3, w4⟩, w5, w6, w7⟩ := (cC h m).n e
  unfold bdB bC iN
  rw [eB_C h m, e, rLo_n m, rHi_n m, Bool.eq_iff_iff]
  simp only [Bool.and_eq_true, Bool.not_eq_true', decide_eq_true_eq, decide_eq_false_iff_not, Bool.not_false, true_and]
  omega
theorem zB_C {c : vC} (h : cOk c) (m : c.1 ≠ 0) (e : eC c.2.1 c.2.2 = false) : zB c = zC c.2.1 c.2.2 := by
  unfold zB zC
  rw [eB_C h m, e, rLo_n m, rHi_n m, Bool.eq_iff_iff]
  simp only [Bool.and_eq_true, decide_eq_true_eq, Bool.not_false, true_and]
theorem dn_up2 {x y : Rat} (h : x ≤ y) : dnF x ≤ upF y := Int.le_trans (dn_up x) (upF_mono h)
/-- the low end is below the high one, and no end is beyond what may be -/
def leD (X Y : vE) : Prop := dnX X ≤ upX Y ∧ dnX X < 9218868437227405312 ∧ -9218868437227405312 < upX Y
theorem leD_f {x y : Rat} (h : x ≤ y) : leD (.inl x) (.inl y) := ⟨dn_up2 h, by have := dnF_b x; show dnF x < _; omega, by have := upF_b y; show _ < upF y; omega⟩
theorem leD_lf (y : Rat) : leD (.inr true) (.inl y) := ⟨by have := upF_b y; show -9218868437227405312 ≤ upF y; omega, by decide, by have := upF_b y; show _ < upF y; omega⟩
theorem leD_fh (x : Rat) : leD (.inl x) (.inr false) := ⟨by have := dnF_b x; show dnF x ≤ 9218868437227405312; omega, by have := dnF_b x; show dnF x < _; omega, by decide⟩
theorem leD_i : leD (.inr true) (.inr false) := ⟨by decide, by decide, by decide⟩
theorem leD_fl {a b : Int} (ha : bF a) (hb : bF b) (h1 : a ≤ b) (h2 : a < 9218868437227405312) (h3 : -9218868437227405312 < b) : leD (fl a) (fl b) := by
  unfold leD
  rw [dnX_fl ha, upX_fl hb]
  exact ⟨h1, h2, h3⟩
theorem pinv_le {A B : Int} {m : Nat} (h0 : 0 < A) (h : A ≤ B) (hB : B ≤ 9218868437227405312) : (if iN B = true then 0 else 1 / fval B ^ m) ≤ (if iN A = true then (0 : Rat) else 1 / fval A ^ m) := by
  rw [← rIv_f, ← rIv_f]
  exact (iv_mono h0 h hB m).1
theorem inv_leN {A B : Int} {m : Nat} (hm : m % 2 = 1) (h0 : B < 0) (h : A ≤ B) (hA : -9218868437227405312 ≤ A) : (if iN B = true then 0 else 1 / fval B ^ m) ≤ (if iN A = true then (0 : Rat) else 1 / fval A ^ m) := by
  have k := pinv_le (A := -B) (B := -A) (m := m) (by omega) (by omega) (by omega)
  rw [iN_neg, iN_neg, fval_neg, fval_neg, pw_neg, pw_neg, if_neg (show ¬ m % 2 = 0 by omega), if_neg (show ¬ m % 2 = 0 by omega), inv_neg', inv_neg'] at k
  split at k <;> split at k <;> (repeat' split) <;> grind
theorem rw_le {n lo hi : Int} (hl : bF lo ∧ lo < 9218868437227405312) (hh : bF hi ∧ -9218868437227405312 < hi) (hlh : lo ≤ hi) : leD (rwL n lo hi) (rwH n lo hi) := by
  obtain ⟨⟨l1, l2⟩, l3⟩ := hl
  obtain ⟨⟨h1, h2⟩, h3⟩ := hh
  unfold rwL rwH
  have hA : n % 2 = 0 ∧ 0 ≤ rwA n lo hi ∧ rwA n lo hi < 9218868437227405312 ∧ rwA n lo hi ≤ rwB n lo hi ∧ rwB n lo hi ≤ 9218868437227405312 ∨ n % 2 = 1 ∧ rwA n lo hi = lo ∧ rwB n lo hi = hi := by
    unfold rwA rwB
    rcases (show n % 2 = 0 ∨ n % 2 = 1 by omega) with c | c
    · rw [if_pos c, if_pos c]; left; omega
    · rw [if_neg (by omega), if_neg (by omega)]; right; omega
  generalize rwA n lo hi = A at *
  generalize rwB n lo hi = B at *
  rcases ilt_ge n 0 with c | c
  · by_cases c1 : n < 0 ∧ A < 0 ∧ 0 < B
    · rw [if_pos c1, if_pos c1]; exact leD_i
    · rw [if_neg c1, if_neg c1]
      by_cases cB : n < 0 ∧ B = 0
      · rw [if_pos cB]
        by_cases cA : n < 0 ∧ A = 0
        · rw [if_pos cA]; exact leD_i
        · rw [if_neg cA, if_pos c, pw_m c]; exact leD_lf _
      · rw [if_neg cB, if_pos c, pw_m c]
        by_cases cA : n < 0 ∧ A = 0
        · rw [if_pos cA]; exact leD_fh _
        · rw [if_neg cA, if_pos c, pw_m c]
          refine leD_f ?_
          rcases ilt_ge 0 A with d | d
          · exact pinv_le d (by omega) (by omega)
          · refine inv_leN ?_ (by omega) (by omega) (by omega)
            have : n % 2 = 1 := by omega
            omega
  · rw [if_neg (by omega), if_neg (by omega), if_neg (by omega), if_neg (by omega), if_neg (by omega), if_neg (by omega)]
    rcases (show n = 0 ∨ 0 < n by omega) with rfl | d
    · have e : ∀ k, pwX k 0 = .inl 1 := fun k => rfl
      rw [e, e]
      exact leD_f Rat.le_refl
    · rcases hA with ⟨e, a1, a2, a3, a4⟩ | ⟨e, rfl, rfl⟩
      · have fA : iN A = false := iN_ff (by omega) (by omega)
        rw [pw_f d fA]
        rcases Bool.eq_false_or_eq_true (iN B) with f | f
        · rw [pw_i d f, decide_eq_false (by omega)]; exact leD_fh _
        · rw [pw_f d f]
          refine leD_f (pw_mono ((fval_nn ⟨by omega, by omega⟩).mpr a1) ((fval_le ⟨by omega, by omega⟩ ⟨by omega, by omega⟩).mpr a3) _)
      · have o2 : n.toNat % 2 = 1 := by omega
        rcases Bool.eq_false_or_eq_true (iN A) with g | g
        · have gA : A = -9218868437227405312 := by have := iNt g; omega
          rw [pw_i d g, decide_eq_true (by omega)]
          rcases Bool.eq_false_or_eq_true (iN B) with f | f
          · have gB : B = 9218868437227405312 := by have := iNt f; omega
            rw [pw_i d f, decide_eq_false (by omega)]; exact leD_i
          · rw [pw_f d f]; exact leD_lf _
        · rw [pw_f d g]
          rcases Bool.eq_false_or_eq_true (iN B) with f | f
          · have gB : B = 9218868437227405312 := by have := iNt f; omega
            rw [pw_i d f, decide_eq_false (by omega)]; exact leD_fh _
          · rw [pw_f d f]
            exact leD_f (pw_odd ((fval_le ⟨by omega, by omega⟩ ⟨by omega, by omega⟩).mpr hlh) o2)
theorem ad_le {a b c d : Int} (ha : bF a ∧ a < 9218868437227405312) (hb : bF b ∧ -9218868437227405312 < b) (hc : bF c ∧ c < 9218868437227405312) (hd : bF d ∧ -9218868437227405312 < d) (h1 : a ≤ b) (h2 : c ≤ d) : leD (adX (fl a) (fl c)) (adX (fl b) (fl d)) := by
  have sA : iN a = true → a < 0 := fun e => by have := iNt e; omega
  have sC : iN c = true → c < 0 := fun e => by have := iNt e; omega
  have sB : iN b = true → ¬ b < 0 := fun e => by have := iNt e; have := hb.2; omega
  have sD : iN d = true → ¬ d < 0 := fun e => by have := iNt e; have := hd.2; omega
  have o1 := iN_o ha.1
  have o2 := iN_o hb.1
  have o3 := iN_o hc.1
  have o4 := iN_o hd.1
  rcases Bool.eq_false_or_eq_true (iN a) with e1 | e1
  · rw [fl_i e1, decide_eq_true (sA e1)]
    show leD (.inr true) _
    rcases Bool.eq_false_or_eq_true (iN b) with e2 | e2
    · rw [fl_i e2, decide_eq_false (sB e2)]; exact leD_i
    · rw [fl_f e2]
      rcases Bool.eq_false_or_eq_true (iN d) with e4 | e4
      · rw [fl_i e4, decide_eq_false (sD e4)]; exact leD_i
      · rw [fl_f e4]; exact leD_lf _
  · rw [fl_f e1]
    rcases Bool.eq_false_or_eq_true (iN c) with e3 | e3
    · rw [fl_i e3, decide_eq_true (sC e3)]
      show leD (.inr true) _
      rcases Bool.eq_false_or_eq_true (iN b) with e2 | e2
      · rw [fl_i e2, decide_eq_false (sB e2)]; exact leD_i
      · rw [fl_f e2]
        rcases Bool.eq_false_or_eq_true (iN d) with e4 | e4
        · rw [fl_i e4, decide_eq_false (sD e4)]; exact leD_i
        · rw [fl_f e4]; exact leD_lf _
    · rw [fl_f e3]
      show leD (.inl _) _
      rcases Bool.eq_false_or_eq_true (iN b) with e2 | e2
      · rw [fl_i e2, decide_eq_false (sB e2)]; exact leD_fh _
      · rw [fl_f e2]
        rcases Bool.eq_false_or_eq_true (iN d) with e4 | e4
        · rw [fl_i e4, decide_eq_false (sD e4)]; exact leD_fh _
        · rw [fl_f e4]
          have := (fval_le o1 o2).mpr h1
          have := (fval_le o3 o4).mpr h2
          exact leD_f (by grind)
theorem q_le {a b c d : Int} (ha : bF a) (ha2 : a < 9218868437227405312) (hb : bF b) (hb2 : -9218868437227405312 < b) (hab : a ≤ b) (hc : 0 ≤ c) (hc2 : c < 9218868437227405312) (hd : 0 < d) (hd2 : d ≤ 9218868437227405312) (hcd : c ≤ d) : leD (quX (fl a) (fl (if a < 0 then c else d))) (quX (fl b) (fl (if b < 0 then d else c))) := by
  unfold leD
  rw [q_lo ha ha2 hc hc2 hd hd2, q_hi hb hb2 hc hc2 hd hd2]
  have fa := iN_o ha
  have fb := iN_o hb
  have fc : oF c := ⟨by omega, by omega⟩
  have fd : oF d := ⟨by omega, by omega⟩
  have va : 0 ≤ fval a ↔ 0 ≤ a := fval_nn fa
  have vb : 0 ≤ fval b ↔ 0 ≤ b := fval_nn fb
  have vab : fval a ≤ fval b := (fval_le fa fb).mpr hab
  have pd : 0 < fval d := (fval_p fd).mpr hd
  have vcd : fval c ≤ fval d := (fval_le fc fd).mpr hcd
  have nb0 : b ≤ 0 → fval b ≤ 0 := fun h => by
    have := (fval_le fb oF0).mpr h
    rwa [fval_0] at this
  have na0 : a ≤ 0 → fval a ≤ 0 := fun h => by
    have := (fval_le fa oF0).mpr h
    rwa [fval_0] at this
  have pc : c ≠ 0 → 0 < fval c := fun h => (fval_p fc).mpr (by omega)
  have dv : ∀ x y : Rat, 0 < y → x / y * y = x := fun x y hy => Rat.div_mul_cancel (by grind)
  unfold rDL rDH
  have key : ∀ x y : Rat, x ≤ y → min 9218868437227405312 (dnF x) ≤ max (-9218868437227405312) (upF y) ∧ min 9218868437227405312 (dnF x) < 9218868437227405312 ∧ -9218868437227405312 < max (-9218868437227405312) (upF y) := fun x y h => by
    have := dn_up2 h
    have := dnF_b x
    have := upF_b y
    omega
  have hi0 : ∀ y : Rat, -9218868437227405312 < max (-9218868437227405312) (upF y) := fun y => by have := upF_b y; omega
  have lo0 : ∀ x : Rat, min 9218868437227405312 (dnF x) < 9218868437227405312 := fun x => by have := dnF_b x; omega
  have z1 : ∀ y : Rat, 0 ≤ y → 0 ≤ max (-9218868437227405312) (upF y) := fun y h => by have := up_nn h; omega
  have z2 : ∀ x : Rat, x ≤ 0 → min 9218868437227405312 (dnF x) ≤ 0 := fun x h => by
    have := dn_up2 h
    rw [up_0] at this
    omega
  have qn : ∀ x y : Rat, 0 ≤ x → 0 < y → 0 ≤ x / y := fun x y h1 h2 => by
    rw [Rat.div_def]
    exact Rat.mul_nonneg h1 (Rat.le_of_lt (Rat.inv_pos.mpr h2))
  have qp : ∀ x y : Rat, x ≤ 0 → 0 < y → x / y ≤ 0 := fun x y h1 h2 => by
    have := qn (-x) y (by grind) h2
    rw [Rat.div_def] at *
    grind
  have mono : ∀ x y u v : Rat, 0 < u → 0 < v → x * v ≤ y * u → x / u ≤ y / v := fun x y u v hu hv h => by
    rw [Rat.div_def, Rat.div_def]
    have e1 : u * u⁻¹ = 1 := Rat.mul_inv_cancel u (by grind)
    have e2 : v * v⁻¹ = 1 := Rat.mul_inv_cancel v (by grind)
    have k := Rat.mul_le_mul_of_nonneg_right h (Rat.mul_nonneg (Rat.le_of_lt (Rat.inv_pos.mpr hu)) (Rat.le_of_lt (Rat.inv_pos.mpr hv)))
    have f1 : x * v * (u⁻¹ * v⁻¹) = x * u⁻¹ := by grind
    have f2 : y * u * (u⁻¹ * v⁻¹) = y * v⁻¹ := by grind
    rw [f1, f2] at k
    exact k
  rcases ilt_ge a 0 with sa | sa
  · rw [if_neg (show ¬ 0 ≤ a by omega)]
    by_cases c0 : c ≠ 0 ∧ iN a = false
    · rw [if_pos c0]
      have pc0 := pc c0.1
      rcases ilt_ge 0 b with sb | sb
      · rw [if_neg (show ¬ b ≤ 0 by omega)]
        by_cases c1 : c ≠ 0 ∧ iN b = false
        · rw [if_pos c1]
          exact key _ _ (mono _ _ _ _ pc0 pc0 (Rat.mul_le_mul_of_nonneg_right vab (Rat.le_of_lt pc0)))
        · rw [if_neg c1]
          have := lo0 (fval a / fval c)
          exact ⟨by omega, this, by decide⟩
      · rw [if_pos sb]
        by_cases di : iN d = false
        · rw [if_pos di]
          have k1 := Rat.mul_le_mul_of_nonneg_right vab (Rat.le_of_lt pc0)
          have k2 := Rat.mul_le_mul_of_nonneg_left vcd (show 0 ≤ -fval a by have := na0 (by omega); grind)
          exact key _ _ (mono _ _ _ _ pc0 pd (by grind))
        · rw [if_neg di]
          have := z2 _ (qp (fval a) (fval c) (na0 (by omega)) pc0)
          exact ⟨by omega, lo0 _, by decide⟩
    · rw [if_neg c0]
      have hH : -9218868437227405312 < (if b ≤ 0 then (if iN d = false then max (-9218868437227405312) (upF (fval b / fval d)) else max (-9218868437227405312) 0) else if c ≠ 0 ∧ iN b = false then max (-9218868437227405312) (upF (fval b / fval c)) else (9218868437227405312 : Int)) := by
        repeat' split
        all_goals first | exact hi0 _ | decide
      exact ⟨by omega, by decide, hH⟩
  · rw [if_pos sa]
    rcases ilt_ge 0 b with sb | sb
    · rw [if_neg (show ¬ b ≤ 0 by omega)]
      by_cases c1 : c ≠ 0 ∧ iN b = false
      · rw [if_pos c1]
        have pc0 := pc c1.1
        by_cases di : iN d = false
        · rw [if_pos di]
          have k1 := Rat.mul_le_mul_of_nonneg_left vcd (va.mpr sa)
          have k2 := Rat.mul_le_mul_of_nonneg_right vab (Rat.le_of_lt pd)
          exact key _ _ (mono _ _ _ _ pd pc0 (by grind))
        · rw [if_neg di]
          have := z1 _ (qn (fval b) (fval c) (vb.mpr (by omega)) pc0)
          exact ⟨by omega, by decide, hi0 _⟩
      · rw [if_neg c1]
        by_cases di : iN d = false
        · rw [if_pos di]
          have := lo0 (fval a / fval d)
          exact ⟨by omega, this, by decide⟩
        · rw [if_neg di]; exact ⟨by decide, by decide, by decide⟩
    · have e0 : a = b := by omega
      subst e0
      rw [if_pos sb]
      by_cases di : iN d = false
      · rw [if_pos di, if_pos di]; exact key _ _ Rat.le_refl
      · rw [if_neg di, if_neg di]; exact ⟨by decide, by decide, by decide⟩
theorem dv_le {a b c d : Int} (ha : bF a ∧ a < 9218868437227405312) (hb : bF b ∧ -9218868437227405312 < b) (hab : a ≤ b) (hc : bF c ∧ c < 9218868437227405312) (hd : bF d ∧ -9218868437227405312 < d) (hcd : c ≤ d) (h0 : ¬ (c = 0 ∧ d = 0)) : leD (dvL a b c d) (dvH a b c d) := by
  obtain ⟨⟨a1, a2⟩, a3⟩ := ha
  obtain ⟨⟨b1, b2⟩, b3⟩ := hb
  obtain ⟨⟨c1, c2⟩, c3⟩ := hc
  obtain ⟨⟨d1, d2⟩, d3⟩ := hd
  unfold dvL dvH
  by_cases z : a = 0 ∧ b = 0
  · rw [if_pos z, if_pos z]
    exact leD_fl ⟨by decide, by decide⟩ ⟨by decide, by decide⟩ (by decide) (by decide) (by decide)
  · rw [if_neg z, if_neg z]
    by_cases s : c < 0 ∧ 0 < d
    · rw [if_pos s, if_pos s]
      exact leD_fl ⟨by decide, by decide⟩ ⟨by decide, by decide⟩ (by decide) (by decide) (by decide)
    · rw [if_neg s, if_neg s]
      by_cases dd : d ≤ 0
      · rw [if_pos dd, if_pos dd]
        exact q_le ⟨by omega, by omega⟩ (by omega) ⟨by omega, by omega⟩ (by omega) (by omega) (by omega) (by omega) (by omega) (by omega) (by omega)
      · rw [if_neg dd, if_neg dd]
        exact q_le ⟨a1, a2⟩ a3 ⟨b1, b2⟩ b3 hab (by omega) c3 (by omega) d2 hcd
theorem mu_lo {x y : Int} (hx : bF x) (hy : bF y) (h : ¬ ((iN x = true ∨ iN y = true) ∧ (0 < x ∧ 0 < y ∨ x < 0 ∧ y < 0))) : dnX (muX (fl x) (fl y)) < 9218868437227405312 := by
  rcases Bool.eq_false_or_eq_true (pIn x y) with c | c
  · rw [mu_p hx hy c]
    unfold pIn at c
    rw [Bool.and_eq_true, decide_eq_true_iff, Bool.or_eq_true] at c
    have e : decide (decide (x < 0) ≠ decide (y < 0)) = true := by
      rw [decide_eq_true_iff]
      intro e
      refine h ⟨c.2, ?_⟩
      rcases ilt_ge x 0 with d | d
      · rw [decide_eq_true d] at e
        have := of_decide_eq_true e.symm
        omega
      · rw [decide_eq_false (by omega)] at e
        have := of_decide_eq_false e.symm
        omega
    rw [e]
    show (-9218868437227405312 : Int) < 9218868437227405312
    decide
  · rw [mu_n hx hy c]
    have := dnF_b (fval x * fval y)
    show dnF _ < _
    omega
theorem mu_hi {x y : Int} (hx : bF x) (hy : bF y) (h : ¬ ((iN x = true ∨ iN y = true) ∧ (0 < x ∧ y < 0 ∨ x < 0 ∧ 0 < y))) : -9218868437227405312 < upX (muX (fl x) (fl y)) := by
  rcases Bool.eq_false_or_eq_true (pIn x y) with c | c
  · rw [mu_p hx hy c]
    unfold pIn at c
    rw [Bool.and_eq_true, decide_eq_true_iff, Bool.or_eq_true] at c
    have e : decide (decide (x < 0) ≠ decide (y < 0)) = false := by
      rw [decide_eq_false_iff_not]
      intro e
      refine h ⟨c.2, ?_⟩
      rcases ilt_ge x 0 with d | d
      · rw [decide_eq_true d] at e
        have : ¬ y < 0 := fun q => e (decide_eq_true q).symm
        omega
      · rw [decide_eq_false (by omega)] at e
        have : y < 0 := Decidable.byContradiction fun q => e (decide_eq_false q).symm
        omega
    rw [e]
    show (-9218868437227405312 : Int) < 9218868437227405312
    decide
  · rw [mu_n hx hy c]
    have := upF_b (fval x * fval y)
    show _ < upF _
    omega
theorem dX_uX (X : vE) : dnX X ≤ upX X := by
  rcases X with x | b
  · exact dn_up x
  · cases b <;> decide
theorem dn_m4 (a b c d : vE) : dnX (m4 a b c d) = min (min (min (dnX a) (dnX b)) (dnX c)) (dnX d) := by unfold m4; rw [mnX_dn, mnX_dn, mnX_dn]
theorem up_x4 (a b c d : vE) : upX (x4 a b c d) = max (max (max (upX a) (upX b)) (upX c)) (upX d) := by unfold x4; rw [mxX_up, mxX_up, mxX_up]
theorem mu_le {a b c d : Int} (ha : bF a ∧ a < 9218868437227405312) (hb : bF b ∧ -9218868437227405312 < b) (hab : a ≤ b) (hc : bF c ∧ c < 9218868437227405312) (hd : bF d ∧ -9218868437227405312 < d) (hcd : c ≤ d) : leD (mnI (cK a b c d) 4) (mxI (cK a b c d) 4) := by
  unfold leD
  rw [mnI_4, mxI_4, dn_m4, up_x4]
  have e0 : cK a b c d 0 = muX (fl a) (fl c) := rfl
  have e1 : cK a b c d 1 = muX (fl a) (fl d) := rfl
  have e2 : cK a b c d 2 = muX (fl b) (fl c) := rfl
  have e3 : cK a b c d 3 = muX (fl b) (fl d) := rfl
  have k := dX_uX (cK a b c d 0)
  refine ⟨by omega, ?_, ?_⟩
  · rw [e0, e1, e2, e3]
    have i1 : iN a = true → a = -9218868437227405312 := fun e => by have := iNt e; omega
    have i2 : iN c = true → c = -9218868437227405312 := fun e => by have := iNt e; omega
    have i3 : iN b = true → b = 9218868437227405312 := fun e => by have := iNt e; omega
    have i4 : iN d = true → d = 9218868437227405312 := fun e => by have := iNt e; omega
    by_cases q0 : (iN a = true ∨ iN c = true) ∧ (0 < a ∧ 0 < c ∨ a < 0 ∧ c < 0)
    · by_cases q3 : (iN b = true ∨ iN d = true) ∧ (0 < b ∧ 0 < d ∨ b < 0 ∧ d < 0)
      · have s0 : a < 0 ∧ c < 0 := by
          rcases q0.1 with e | e
          · have := i1 e; omega
          · have := i2 e; omega
        have s3 : 0 < b ∧ 0 < d := by
          rcases q3.1 with e | e
          · have := i3 e; omega
          · have := i4 e; omega
        have := mu_lo ha.1 hd.1 (fun q => by omega)
        omega
      · have := mu_lo hb.1 hd.1 q3
        omega
    · have := mu_lo ha.1 hc.1 q0
      omega
  · rw [e0, e1, e2, e3]
    have i1 : iN a = true → a = -9218868437227405312 := fun e => by have := iNt e; omega
    have i2 : iN c = true → c = -9218868437227405312 := fun e => by have := iNt e; omega
    have i3 : iN b = true → b = 9218868437227405312 := fun e => by have := iNt e; omega
    have i4 : iN d = true → d = 9218868437227405312 := fun e => by have := iNt e; omega
    by_cases q0 : (iN a = true ∨ iN c = true) ∧ (0 < a ∧ c < 0 ∨ a < 0 ∧ 0 < c)
    · by_cases q3 : (iN b = true ∨ iN d = true) ∧ (0 < b ∧ d < 0 ∨ b < 0 ∧ 0 < d)
      · rcases q0.2 with s | s
        · have := mu_hi ha.1 hd.1 (fun q => by
            rcases q.1 with e | e
            · have := i1 e; omega
            · have := i4 e; omega)
          omega
        · have := mu_hi hb.1 hc.1 (fun q => by
            rcases q.1 with e | e
            · have := i3 e; omega
            · have := i2 e; omega)
          omega
      · have := mu_hi hb.1 hd.1 q3
        omega
    · have := mu_hi ha.1 hc.1 q0
      omega
theorem ad_m4 (a b c d : vE) (e : Rat) : adX (m4 a b c d) (.inl e) = m4 (adX a (.inl e)) (adX b (.inl e)) (adX c (.inl e)) (adX d (.inl e)) := by unfold m4; rw [ad_mn, ad_mn, ad_mn]
theorem ad_x4 (a b c d : vE) (e : Rat) : adX (x4 a b c d) (.inl e) = x4 (adX a (.inl e)) (adX b (.inl e)) (adX c (.inl e)) (adX d (.inl e)) := by unfold x4; rw [ad_mx, ad_mx, ad_mx]
theorem ad_dn {X : vE} (h : dnX X < 9218868437227405312) {k : Int} (hk : bF k ∧ k < 9218868437227405312) : dnX (adX X (fl k)) < 9218868437227405312 ∧ (iN k = true → dnX (adX X (fl k)) = -9218868437227405312) := by
  rcases Bool.eq_false_or_eq_true (iN k) with c | c
  · have e : dnX (adX X (fl k)) = -9218868437227405312 := by
      rw [fl_i c, decide_eq_true (show k < 0 by have := iNt c; omega)]
      rcases X with x | b
      · rfl
      · cases b
        · exact absurd h (by decide)
        · rfl
    exact ⟨by rw [e]; decide, fun _ => e⟩
  · refine ⟨?_, fun e => absurd (c.symm.trans e) (by decide)⟩
    rw [fl_f c]
    rcases X with x | b
    · have := dnF_b (x + fval k)
      show dnF _ < _
      omega
    · exact h
theorem ad_up {X : vE} (h : -9218868437227405312 < upX X) {k : Int} (hk : bF k ∧ -9218868437227405312 < k) : -9218868437227405312 < upX (adX X (fl k)) ∧ (iN k = true → upX (adX X (fl k)) = 9218868437227405312) := by
  rcases Bool.eq_false_or_eq_true (iN k) with c | c
  · have e : upX (adX X (fl k)) = 9218868437227405312 := by
      rw [fl_i c, decide_eq_false (show ¬ k < 0 by have := iNt c; have := hk.2; omega)]
      rcases X with x | b
      · rfl
      · cases b
        · rfl
        · exact absurd h (by decide)
    exact ⟨by rw [e]; decide, fun _ => e⟩
  · refine ⟨?_, fun e => absurd (c.symm.trans e) (by decide)⟩
    rw [fl_f c]
    rcases X with x | b
    · have := upF_b (x + fval k)
      show _ < upF _
      omega
    · exact h
theorem fu_le {a b c d e f : Int} (ha : bF a ∧ a < 9218868437227405312) (hb : bF b ∧ -9218868437227405312 < b) (hab : a ≤ b) (hc : bF c ∧ c < 9218868437227405312) (hd : bF d ∧ -9218868437227405312 < d) (hcd : c ≤ d) (he : bF e ∧ e < 9218868437227405312) (hf : bF f ∧ -9218868437227405312 < f) (hef : e ≤ f) : leD (adX (mnI (cK a b c d) 4) (fl e)) (adX (mxI (cK a b c d) 4) (fl f)) := by
  obtain ⟨k1, k2, k3⟩ := mu_le ha hb hab hc hd hcd
  have l1 := ad_dn k2 he
  have u1 := ad_up k3 hf
  refine ⟨?_, l1.1, u1.1⟩
  rcases Bool.eq_false_or_eq_true (iN e) with ce | ce
  · have := l1.2 ce; omega
  · rcases Bool.eq_false_or_eq_true (iN f) with cf | cf
    · have := u1.2 cf; omega
    · rw [fl_f ce, fl_f cf, mnI_4, mxI_4, ad_m4, ad_x4, dn_m4, up_x4]
      have : dnX (adX (cK a b c d 0) (.inl (fval e))) ≤ upX (adX (cK a b c d 0) (.inl (fval f))) := by
        have ve := (fval_le (iN_o he.1) (iN_o hf.1)).mpr hef
        rcases cK a b c d 0 with x | q
        · exact dn_up2 (by grind)
        · exact dX_uX (.inr q)
      omega
