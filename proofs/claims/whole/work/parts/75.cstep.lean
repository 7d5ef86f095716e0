theorem rat_cn {a b c : Rat} (hc : c ≠ 0) (h : a * c = b * c) : a = b := by
  have := congrArg (· * c⁻¹) h
  simpa only [Rat.mul_assoc, Rat.mul_inv_cancel c hc, Rat.mul_one] using this
theorem fv_xt {e f : Nat} (he : 1 ≤ e) (hf : f ≤ 2 ^ 52) (hx : e * 2 ^ 52 + f < 2 ^ 63) : fv (e * 2 ^ 52 + f) = ((2 ^ 52 + f : Nat) : Rat) * p2 ((e : Int) - 1075) := by
  rcases Nat.lt_or_ge f (2 ^ 52) with c | c
  · have e1 : fE (e * 2 ^ 52 + f) = e := by unfold fE; omega
    have e2 : fF (e * 2 ^ 52 + f) = f := by unfold fF; omega
    unfold fv fP fX
    rw [e1, e2, if_neg (by omega), if_neg (by omega), Nat.add_comm]
  · have e1 : fE (e * 2 ^ 52 + f) = e + 1 := by unfold fE; omega
    have e2 : fF (e * 2 ^ 52 + f) = 0 := by unfold fF; omega
    unfold fv fP fX
    rw [e1, e2, if_neg (by omega), if_neg (by omega), show f = 2 ^ 52 by omega, Nat.zero_add, show ((e + 1 : Nat) : Int) - 1075 = ((1 : Nat) : Int) + ((e : Int) - 1075) by omega, p2_add, p2_nat, ← Rat.mul_assoc, ← Rat.natCast_mul]
theorem p2_cn {k : Nat} (n : Nat) : ((n * 2 ^ k : Nat) : Rat) * p2 (-(k : Int)) = n := by
  rw [Rat.natCast_mul, Rat.mul_assoc, ← p2_nat, ← p2_add, Int.add_right_neg, p2_0, Rat.mul_one]
theorem sh_n {u : Nat} (hu : u < 2 ^ 63) (h0 : 0 < u / 2 ^ 52) (h : u / 2 ^ 52 ≤ 1075) : (shI u).toNat = 1075 - u / 2 ^ 52 ∧ fP u = 2 ^ 52 + u % 2 ^ 52 := by
  have es := fE_s hu
  unfold shI fP fF
  rw [es, if_neg (by omega), if_neg (by omega)]
  omega
theorem ct_sh {u : Nat} (hu : u < 2 ^ 63) (h1 : 1023 ≤ u / 2 ^ 52) (h : u / 2 ^ 52 ≤ 1074) : ∃ g, ctF u = u / 2 ^ 52 * 2 ^ 52 + g * 2 ^ (1075 - u / 2 ^ 52) ∧ (g + 1) * 2 ^ (1075 - u / 2 ^ 52) ≤ 2 ^ 52 ∧ wT u * 2 ^ (1075 - u / 2 ^ 52) = 2 ^ 52 + g * 2 ^ (1075 - u / 2 ^ 52) := by
  obtain ⟨s1, s2⟩ := sh_n hu (by omega) (by omega)
  unfold ctF
  rw [if_neg (by omega), if_neg (by omega)]
  unfold wT
  rw [s1, s2]
  generalize hk : 1075 - u / 2 ^ 52 = k
  have hE : u / 2 ^ 52 * 2 ^ 52 + u % 2 ^ 52 = u := by omega
  have k1 : k ≤ 52 := by omega
  have p0 : 0 < 2 ^ k := Nat.pow_pos (by decide)
  have hp : 2 ^ 52 = 2 ^ (52 - k) * 2 ^ k := by rw [← Nat.pow_add, show 52 - k + k = 52 by omega]
  refine ⟨u % 2 ^ 52 / 2 ^ k, ?_, ?_, ?_⟩
  · have : u = u % 2 ^ 52 + u / 2 ^ 52 * 2 ^ (52 - k) * 2 ^ k := by rw [Nat.mul_assoc, ← hp]; omega
    rw [show u / 2 ^ k = u % 2 ^ 52 / 2 ^ k + u / 2 ^ 52 * 2 ^ (52 - k) by
      rw [← Nat.add_mul_div_right _ _ p0, ← this], Nat.add_mul, Nat.mul_assoc (u / 2 ^ 52), ← hp, Nat.add_comm]
  · have : u % 2 ^ 52 / 2 ^ k < 2 ^ (52 - k) := by
      rw [Nat.div_lt_iff_lt_mul p0, ← hp]
      exact Nat.mod_lt _ (by decide)
    calc (u % 2 ^ 52 / 2 ^ k + 1) * 2 ^ k ≤ 2 ^ (52 - k) * 2 ^ k := Nat.mul_le_mul_right _ this
      _ = 2 ^ 52 := hp.symm
  · rw [show (2 ^ 52 + u % 2 ^ 52) / 2 ^ k = u % 2 ^ 52 / 2 ^ k + 2 ^ (52 - k) by
        rw [← Nat.add_mul_div_right _ _ p0, ← hp, Nat.add_comm], Nat.add_mul, ← hp, Nat.add_comm]
theorem ct_fv {u : Nat} (hu : u < 2 ^ 63) (h : u / 2 ^ 52 ≤ 1074) : fv (ctF u) = (wT u : Rat) := by
  have fl := fP_lt u
  by_cases c : u / 2 ^ 52 < 1023
  · unfold ctF
    rw [if_pos c, fv_0]
    have es := fE_s hu
    have : wT u = 0 := by
      unfold wT
      apply Nat.div_eq_of_lt
      apply Nat.lt_of_lt_of_le fl
      apply Nat.pow_le_pow_right (by decide)
      unfold shI
      split <;> omega
    rw [this]
    rfl
  · obtain ⟨g, e1, e2, e3⟩ := ct_sh hu (by omega) h
    have cl := ctF_le u
    rw [Nat.add_mul] at e2
    rw [e1, fv_xt (by omega) (by omega) (by omega), ← e3, show ((u / 2 ^ 52 : Nat) : Int) - 1075 = -((1075 - u / 2 ^ 52 : Nat) : Int) by omega, p2_cn]
theorem nx_fv {u : Nat} (hu : u < 2 ^ 63) (h : u / 2 ^ 52 ≤ 1074) : fv (nxF u) = ((wT u + 1 : Nat) : Rat) ∧ nxF u < 2 ^ 63 := by
  have cv := ct_fv hu h
  have cl := ctF_le u
  unfold nxF
  by_cases c : ctF u = 0
  · rw [if_pos c]
    rw [c, fv_0] at cv
    have w0 : wT u = 0 := by
      have := cv.symm
      exact_mod_cast this
    rw [w0]
    exact ⟨by decide +kernel, by decide⟩
  · rw [if_neg c]
    have c0 := ctF_0 c
    have p : 2 ^ (1075 - u / 2 ^ 52) ≤ 2 ^ 52 := Nat.pow_le_pow_right (by decide) (by omega)
    refine ⟨?_, by omega⟩
    obtain ⟨g, e1, e2, e3⟩ := ct_sh hu (by omega) h
    rw [e1, show u / 2 ^ 52 * 2 ^ 52 + g * 2 ^ (1075 - u / 2 ^ 52) + 2 ^ (1075 - u / 2 ^ 52) = u / 2 ^ 52 * 2 ^ 52 + (g + 1) * 2 ^ (1075 - u / 2 ^ 52) by rw [Nat.add_mul, Nat.one_mul, Nat.add_assoc]]
    rw [fv_xt (by omega) e2 (by omega)]
    rw [show 2 ^ 52 + (g + 1) * 2 ^ (1075 - u / 2 ^ 52) = (wT u + 1) * 2 ^ (1075 - u / 2 ^ 52) by rw [Nat.add_mul, Nat.add_mul, e3]; omega]
    rw [show ((u / 2 ^ 52 : Nat) : Int) - 1075 = -((1075 - u / 2 ^ 52 : Nat) : Int) by omega, p2_cn]
theorem sh_lo {u : Nat} (hu : u < 2 ^ 63) (h : u / 2 ^ 52 ≤ 1074) : fX u = -((shI u).toNat : Int) := by
  rw [shI_X]
  have es := fE_s hu
  unfold fX
  split <;> omega
theorem wh_ct {u : Nat} (hu : u < 2 ^ 63) : whB u = true ↔ ctF u = u := by
  have cl := ctF_le u
  have es := fE_s hu
  by_cases h : u / 2 ^ 52 ≤ 1074
  · have hx := sh_lo hu h
    have cv := ct_fv hu h
    have p0 : 0 < 2 ^ (shI u).toNat := Nat.pow_pos (by decide)
    have hd := Nat.div_add_mod (fP u) (2 ^ (shI u).toNat)
    constructor
    · intro w
      have w' := of_decide_eq_true w
      apply fv_inj (by omega) hu
      rw [cv]
      unfold fv
      rw [hx, show fP u = wT u * 2 ^ (shI u).toNat by unfold wT; rw [Nat.mul_comm]; omega, p2_cn]
    · intro e
      rw [e] at cv
      unfold fv at cv
      rw [hx, ← p2_cn (k := (shI u).toNat) (wT u)] at cv
      have := rat_cn (Rat.ne_of_gt (p2_pos _)) cv
      have e2 : fP u = wT u * 2 ^ (shI u).toNat := by exact_mod_cast this
      unfold whB
      rw [e2, Nat.mul_mod_left]
      rfl
  · unfold whB ctF shI
    rw [if_neg (show ¬ fE u = 0 by omega), if_neg (show ¬ u / 2 ^ 52 < 1023 by omega), if_pos (show 1074 < u / 2 ^ 52 by omega), show (1075 - (fE u : Int)).toNat = 0 by omega, Nat.pow_zero, Nat.mod_one]
    exact ⟨fun _ => rfl, fun _ => rfl⟩
theorem ev_wA {u : Nat} (hu : u < 2 ^ 63) (hw : whB u = false) (ng : Bool) : evB u = wA u ng 3 := by
  have es := fE_s hu
  have fl := fP_lt u
  have h : u / 2 ^ 52 ≤ 1074 := by
    rcases Nat.lt_or_ge 1074 (u / 2 ^ 52) with c | c
    · have : whB u = true := (wh_ct hu).mpr (by unfold ctF; rw [if_neg (by omega), if_pos c])
      rw [this] at hw
      exact absurd hw (by decide)
    · exact c
  unfold wA
  rw [if_neg (by decide), if_neg (by decide), if_neg (by decide)]
  unfold evB mhB
  by_cases c : 1022 ≤ u / 2 ^ 52
  · obtain ⟨s1, s2⟩ := sh_n hu (by omega) (by omega)
    unfold wT
    rw [s1, decide_eq_true ⟨c, h⟩, Bool.true_and, show 1075 - u / 2 ^ 52 - 1 = 1074 - u / 2 ^ 52 by omega]
  · rw [decide_eq_false (by omega), Bool.false_and]
    have sh : 54 ≤ (shI u).toNat := by unfold shI; split <;> omega
    have p1 : 2 ^ 53 ≤ 2 ^ ((shI u).toNat - 1) := Nat.pow_le_pow_right (by decide) (by omega)
    have p2 : 2 ^ 53 ≤ 2 ^ (shI u).toNat := Nat.pow_le_pow_right (by decide) (by omega)
    rw [Nat.mod_eq_of_lt (show fP u < 2 ^ (shI u).toNat by omega), decide_eq_false (by omega)]
theorem hw_hf {u : Nat} (hu : u < 2 ^ 63) (hi : u ≤ 9218868437227405312) : hwB u = hfB u := by
  have es := fE_s hu
  have fl := fP_lt u
  unfold hfB
  by_cases h : u / 2 ^ 52 ≤ 1074
  · have hu2 : u + 2 ^ 52 < 2 ^ 63 := by omega
    have es2 := fE_s hu2
    by_cases c : 1022 ≤ u / 2 ^ 52
    · obtain ⟨s1, s2⟩ := sh_n hu (by omega) (by omega)
      obtain ⟨t1, t2⟩ := sh_n hu2 (by omega) (by omega)
      unfold hwB mhB whB
      rw [s1, t1, decide_eq_true ⟨c, h⟩, Bool.true_and, show (u + 2 ^ 52) / 2 ^ 52 = u / 2 ^ 52 + 1 by omega, show 1075 - (u / 2 ^ 52 + 1) = 1074 - u / 2 ^ 52 by omega, t2, show (u + 2 ^ 52) % 2 ^ 52 = u % 2 ^ 52 by omega, ← s2, show 1075 - u / 2 ^ 52 = 1074 - u / 2 ^ 52 + 1 by omega]
      rw [decide_eq_true (show 0 < fE u by omega), Bool.and_true]
      generalize 1074 - u / 2 ^ 52 = k
      have p0 : 0 < 2 ^ k := Nat.pow_pos (by decide)
      have hd : fP u % 2 ^ (k + 1) = fP u % 2 ^ k + 2 ^ k * (fP u / 2 ^ k % 2) := by rw [Nat.pow_succ, Nat.mod_mul]
      have hl : fP u % 2 ^ k < 2 ^ k := Nat.mod_lt _ p0
      rw [hd]
      generalize fP u % 2 ^ k = x at *
      rcases Nat.mod_two_eq_zero_or_one (fP u / 2 ^ k) with z | z <;> rw [z]
      · rw [Nat.mul_zero, Nat.add_zero, decide_eq_false (by omega)]
        by_cases y : x = 0
        · rw [y]; rfl
        · rw [decide_eq_false y, Bool.and_false]
      · rw [Nat.mul_one, decide_eq_false (show ¬ x + 2 ^ k = 0 by omega)]
        by_cases y : x = 0
        · rw [y, decide_eq_true (by omega)]; rfl
        · rw [decide_eq_false y, decide_eq_false (by omega)]; rfl
    · unfold hwB mhB
      rw [decide_eq_false (by omega), Bool.false_and]
      rcases Nat.eq_zero_or_pos (u / 2 ^ 52) with z | z
      · rw [decide_eq_false (show ¬ 0 < fE u by omega), Bool.and_false]
      · obtain ⟨t1, t2⟩ := sh_n hu2 (by omega) (by omega)
        obtain ⟨s1, s2⟩ := sh_n hu (by omega) (by omega)
        have : whB (u + 2 ^ 52) = false := by
          unfold whB
          rw [t1, t2]
          have p2 : 2 ^ 53 ≤ 2 ^ (1075 - (u + 2 ^ 52) / 2 ^ 52) := Nat.pow_le_pow_right (by decide) (by omega)
          rw [Nat.mod_eq_of_lt (by omega), decide_eq_false (by omega)]
        rw [this, Bool.and_false, Bool.false_and]
  · have : whB u = true := (wh_ct hu).mpr (by unfold ctF; rw [if_neg (by omega), if_pos (by omega)])
    rw [this]
    unfold hwB mhB
    rw [decide_eq_false (by omega)]
    rfl
theorem fo_ab {k : Int} : foB k = k.natAbs ∨ foB k = 2 ^ 63 + k.natAbs := by
  unfold foB
  split
  · right; omega
  · left; omega
theorem wh_fo {k : Int} (hk : oF k) : whB (foB k) = whB k.natAbs ∧ wT (foB k) = wT k.natAbs ∧ shI (foB k) = shI k.natAbs ∧ fP (foB k) = fP k.natAbs := by
  have ha : k.natAbs < 2 ^ 63 := by have := hk.1; have := hk.2; omega
  rcases fo_ab (k := k) with e | e
  · rw [e]; exact ⟨rfl, rfl, rfl, rfl⟩
  · rw [e]
    have a1 := (fP_hi _ ha).1
    have a2 := (fE_hi _ ha).1
    unfold whB wT shI
    rw [a1, a2]
    exact ⟨rfl, rfl, rfl, rfl⟩
theorem hf_fo {k : Int} (hk : bF k) : hfB (foB k) = hfB k.natAbs := by
  have ok : oF k := ⟨by have := hk.1; omega, by have := hk.2; omega⟩
  have ha : k.natAbs ≤ 9218868437227405312 := by have := hk.1; have := hk.2; omega
  rcases fo_ab (k := k) with e | e
  · rw [e]
  · have b := (wh_fo ok).1
    rw [e] at b ⊢
    unfold hfB
    rw [b]
    cases w : whB k.natAbs
    · have : k.natAbs ≠ 9218868437227405312 := by
        intro x
        rw [x] at w
        exact absurd w (by decide +kernel)
      have hl : k.natAbs + 2 ^ 52 < 2 ^ 63 := by omega
      have : whB (2 ^ 63 + k.natAbs + 2 ^ 52) = whB (k.natAbs + 2 ^ 52) := by
        rw [Nat.add_assoc]
        unfold whB shI
        rw [(fP_hi _ hl).1, (fE_hi _ hl).1]
      rw [this, (fE_hi _ (by omega)).1]
    · rfl
theorem sg_ab (k : Int) : sgZ k k.natAbs = k := by unfold sgZ; split <;> omega
theorem st_wR {o : Nat} {k : Int} (hk : bF k) (h1 : 6 ≤ o) (h2 : o ≤ 9) : stF o k = wR k (hwO o) := by
  have ok : oF k := ⟨by have := hk.1; omega, by have := hk.2; omega⟩
  have hi : k.natAbs ≤ 9218868437227405312 := by have := hk.1; have := hk.2; omega
  have ha : k.natAbs < 2 ^ 63 := by omega
  obtain ⟨w1, w2, w3, w4⟩ := wh_fo ok
  have hA : ∀ how, wA (foB k) (decide (k < 0)) how = wA k.natAbs (decide (k < 0)) how := fun how => by
    unfold wA
    rw [w2, w3, w4]
  unfold wR
  rw [w1, w2, hA]
  cases w : whB k.natAbs
  · have ni : iN k = false := by
      unfold iN
      apply decide_eq_false
      intro x
      have : k.natAbs = 9218868437227405312 := by omega
      rw [this] at w
      exact absurd w (by decide +kernel)
    have nc : ctF k.natAbs ≠ k.natAbs := fun x => by rw [(wh_ct ha).mpr x] at w; exact absurd w (by decide)
    have h : k.natAbs / 2 ^ 52 ≤ 1074 := by
      rcases Nat.lt_or_ge 1074 (k.natAbs / 2 ^ 52) with c | c
      · exact absurd (by unfold ctF; rw [if_neg (by omega), if_pos c]) nc
      · exact c
    have k0 : k ≠ 0 := by
      intro x
      rw [x] at w
      exact absurd w (by decide +kernel)
    have ec : ctF k.natAbs = ofW (wT k.natAbs) := (ofW_eq (ct_fv ha h) (by have := ctF_le k.natAbs; omega)).symm
    have en : nxF k.natAbs = ofW (wT k.natAbs + 1) := (ofW_eq (nx_fv ha h).1 (nx_fv ha h).2).symm
    rw [ni, Bool.false_or, if_neg (by decide)]
    unfold stF
    congr 1
    unfold stS rsF
    have ev := ev_wA ha w (decide (k < 0))
    rw [if_neg (by omega), if_neg nc]
    have hcase : o = 6 ∨ o = 7 ∨ o = 8 ∨ o = 9 := by omega
    rcases hcase with e | e | e | e <;> subst e
    · rw [if_pos rfl]
      show _ = ofW (wT k.natAbs + if (!decide (k < 0)) = true then 1 else 0)
      by_cases c : 0 < k
      · rw [if_pos c, decide_eq_false (by omega), en]; rfl
      · rw [if_neg c, decide_eq_true (by omega), ec]; rfl
    · rw [if_neg (by decide), if_pos rfl]
      show _ = ofW (wT k.natAbs + if (decide (k < 0)) = true then 1 else 0)
      by_cases c : 0 < k
      · rw [if_pos c, decide_eq_false (by omega), ec]; rfl
      · rw [if_neg c, decide_eq_true (by omega), en]; rfl
    · rw [if_neg (by decide), if_neg (by decide), if_pos rfl]
      show _ = ofW (wT k.natAbs + if false = true then 1 else 0)
      rw [ec]; rfl
    · rw [if_neg (by decide), if_neg (by decide), if_neg (by decide)]
      show evF k.natAbs = ofW (wT k.natAbs + if wA k.natAbs (decide (k < 0)) 3 = true then 1 else 0)
      rw [← ev]
      unfold evF
      split
      · exact en
      · exact ec
  · have ec : ctF k.natAbs = k.natAbs := (wh_ct ha).mp w
    rw [Bool.or_true, if_pos rfl]
    have : stS o k = k.natAbs := by
      unfold stS rsF
      have ev : evF k.natAbs = k.natAbs := by
        have : evB k.natAbs = false := by
          unfold evB
          cases m : mhB k.natAbs
          · rfl
          · have m1 := of_decide_eq_true m
            obtain ⟨s1, s2⟩ := sh_n ha (by omega) (by omega)
            have z := of_decide_eq_true w
            rw [s1] at z
            have p0 : 0 < 2 ^ (1074 - k.natAbs / 2 ^ 52) := Nat.pow_pos (by decide)
            rw [z, decide_eq_false (by omega)]
            rfl
        unfold evF
        rw [this, if_neg (by decide), ec]
      rw [if_neg (by omega), if_pos ec, ec, ev]
      repeat' split
      all_goals rfl
    unfold stF
    rw [this, sg_ab]
theorem st_sg {k : Int} : stF 5 k = sgF k := by
  unfold stF stS sgF sgZ
  rw [if_pos rfl]
  split <;> split <;> split <;> omega
