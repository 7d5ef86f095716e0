/-! numbers: both readers take the same -/
def ncB (b : Nat) : Prop := (43 ≤ b ∧ b ≤ 57 ∧ b ≠ 44) ∨ (97 ≤ b ∧ b ≤ 102) ∨ b = 112 ∨ b = 120
theorem nc_hx {B b : Nat} (hB : B ≤ 16) (h : hxB b < B ∨ b = 46) : ncB b := by
  unfold ncB
  rcases h with h | h
  · unfold hxB at h
    split at h
    · omega
    · split at h <;> omega
  · omega
theorem nc_d {b : Nat} (h : dgB b = true) : ncB b := by
  have := of_decide_eq_true h
  unfold ncB
  omega
theorem nc_st {B b : Nat} (hB : B ≤ 16) (h : ¬ ncB b) : ¬ hxB b < B ∧ b ≠ 46 := ⟨fun q => h (nc_hx hB (Or.inl q)), fun q => h (nc_hx hB (Or.inr q))⟩
theorem sg_b (t : Nat → Nat) (p n : Nat) : p ≤ sgP t p n ∧ sgP t p n ≤ p + 1 ∧ (p ≤ n → sgP t p n ≤ n) ∧ (sgP t p n ≠ p → p < n ∧ (t p = 45 ∨ t p = 43) ∧ sgP t p n = p + 1) := by
  unfold sgP
  split <;> omega
theorem sg_c {t : Nat → Nat} {p e n : Nat} (h1 : p < e) (h2 : e ≤ n) : sgP t p e = sgP t p n := by
  unfold sgP
  by_cases c : t p = 45 ∨ t p = 43
  · rw [if_pos ⟨h1, c⟩, if_pos ⟨by omega, c⟩]
  · rw [if_neg (fun q => c q.2), if_neg (fun q => c q.2)]
theorem sg_v {t : Nat → Nat} {p e n : Nat} (h1 : p < e) (h2 : e ≤ n) : sgV t n p = if ngB t p e = true then -1 else 1 := by
  unfold sgV ngB
  by_cases c : t p = 45
  · rw [if_pos ⟨by omega, c⟩, if_pos (decide_eq_true ⟨h1, c⟩)]
  · rw [if_neg (fun q => c q.2), if_neg (by rw [decide_eq_false (fun q => c q.2)]; decide)]
theorem ex_V {t : Nat → Nat} {p e n : Nat} (h1 : p < e) (h2 : e ≤ n) : exV t p e = sgV t n p * (dcV t (sgP t p n) (e - sgP t p n) : Int) := by
  rw [sg_v h1 h2, ← sg_c h1 h2]
  unfold exV
  split <;> omega
theorem pl_sc {B : Nat} {t : Nat → Nat} {k p p' dg sc v : Nat} (hB : B ≤ 16) (h : rdG B t k p false 0 0 0 = (p', dg, sc, v)) : plV p p' dg sc = sc := by
  have := (rdG_p hB _ _ _ _ _ _ h).2.2.2.2.2.2.2.1
  unfold plV
  split
  · exact (this (by omega) rfl).symm
  · rfl
theorem v_eq {s e : Int} {g : Bool} {v P q : Nat} (hs : s = if v = 0 then 0 else if g = true then -1 else 1) (h0 : v = 0 → P = 0) : rv s e P q = nval g P q e := by
  by_cases c : v = 0
  · rw [hs, if_pos c, h0 c, rv_0, nval_0]
  · rw [hs, if_neg c]
    cases g
    · rw [if_neg (by decide), rv_1, nval_f]
      rfl
    · rw [if_pos rfl, rv_m, nval_t]
      rfl
theorem v_ten {s m : Int} {g : Bool} {v : Nat} (hs : s = if v = 0 then 0 else if g = true then -1 else 1) : rv s (0 + m) (v * 5 ^ m.toNat) (1 * 5 ^ (-m).toNat) = nval g (v * 10 ^ m.toNat) (1 * 10 ^ (-m).toNat) 0 := by
  rw [nval_tn, ← v_eq (P := v) (q := 1) hs id]
  unfold rv
  rw [sv_ten, sv_1]
  exact (Rat.mul_assoc _ _ _).symm
theorem nm_fw {t : Nat → Nat} {n p p' : Nat} {s e : Int} {P q : Nat} (h : nmO t n p true p' s e P q) (hp : p ≤ n) : p < p' ∧ p' ≤ n ∧ (∀ j, p ≤ j → j < p' → ncB (t j)) ∧ ∃ P' q' x, nTx t p p' P' q' x ∧ nval (ngB t p p') P' q' x = rv s e P q := by
  obtain ⟨k, dg, sc, v, hs, h⟩ := h
  obtain ⟨g1, g2, g3, g4⟩ := sg_b t p n
  have g3 := g3 hp
  have fst : ∀ j, p ≤ j → j < sgP t p n → ncB (t j) := by
    intro j a b
    have := g4 (by omega)
    rw [show j = p by omega]
    unfold ncB
    omega
  have sgn : ∀ k : Nat, ∀ j, k ≤ j → j < sgP t k n → ncB (t j) := by
    intro k j a b
    obtain ⟨u1, u2, u3, u4⟩ := sg_b t k n
    have := u4 (by omega)
    rw [show j = k by omega]
    unfold ncB
    omega
  generalize hg : sgP t p n = p1 at *
  rcases h with ⟨hw, er, k1, d, hk1, hd, hp', he, hP, hq, ok⟩ | ⟨hw, er, h⟩
  · rw [eq_comm, Bool.and_eq_true, Bool.and_eq_true, decide_eq_true_iff, decide_eq_true_iff, decide_eq_true_iff] at ok
    obtain ⟨⟨ok1, ok2⟩, ok3⟩ := ok
    rw [if_pos ok2] at hk1
    subst hk1 hP hq hp'
    obtain ⟨r1, r2, r3, r4, -⟩ := rdG_p (by decide) _ _ _ _ _ _ er
    have pl := pl_sc (by decide) er
    obtain ⟨d1, d2, d3, d4⟩ := hd
    obtain ⟨u1, u2, u3, u4⟩ := sg_b t (k + 1) n
    have hx := hw.2 0 (by decide)
    have hx' := hw.2 1 (by decide)
    have x0 : t p1 = 48 := hx
    have x1 : t (p1 + 1) = 120 := hx'
    have sgn' := sgn (k + 1)
    have ev := ex_V (t := t) (p := k + 1) (e := sgP t (k + 1) n + d) (n := n) (by omega) d2
    have sc' := sg_c (t := t) (p := k + 1) (e := sgP t (k + 1) n + d) (n := n) (by omega) d2
    generalize hG : sgP t (k + 1) n = G at *
    refine ⟨by omega, d2, fun j a b => ?_, P, 1, _, Or.inl ⟨?_, k, dg, sc, ?_, ok1, by omega, ok2.2, ?_, rfl, rfl⟩, ?_⟩
    · rcases (show j < p1 ∨ j = p1 ∨ j = p1 + 1 ∨ (p1 + 2 ≤ j ∧ j < k) ∨ j = k ∨ (k + 1 ≤ j ∧ j < G) ∨ (G ≤ j ∧ j < G + d) by omega) with c | c | c | c | c | c | c
      · exact fst j a c
      · rw [c, x0]; unfold ncB; omega
      · rw [c, x1]; unfold ncB; omega
      · exact nc_hx (by decide) (r4 j c.1 c.2)
      · rw [c, ok2.2]; unfold ncB; omega
      · exact sgn' j c.1 c.2
      · exact nc_d (alB_at d3 c.1 c.2)
    · rw [sg_c (by omega) d2, hg]
      exact ⟨by omega, x0, x1⟩
    · rw [sg_c (by omega) d2, hg]
      exact rdG_lim _ _ _ _ _ _ er _ (by omega) (by omega)
    · unfold exB
      rw [sc', show G + d - G = d by omega, decide_eq_true ok3, decide_eq_true d1, d3]
      rfl
    · rw [he, pl, ev, show G + d - G = d by omega]
      exact (v_eq (by rw [← sg_v (by omega) d2]; exact hs) id).symm
  · have nohex : ∀ e, e ≤ n → ¬ hexB t p1 e := by
      intro e he q
      refine hw ⟨by have := q.1; omega, fun i hi => ?_⟩
      rcases (show i = 0 ∨ i = 1 by omega) with rfl | rfl
      · exact q.2.1
      · exact q.2.2
    obtain ⟨r1, r2, r3, r4, r5, -⟩ := rdG_p (by decide) _ _ _ _ _ _ er
    have pl := pl_sc (by decide) er
    have dig : ∀ j, p1 ≤ j → j < k → ncB (t j) ∧ t j ≠ 47 := by
      intro j a b
      refine ⟨nc_hx (by decide) (r4 j a b), fun z => ?_⟩
      have := r4 j a b
      rw [z] at this
      exact absurd this (by decide)
    rcases h with ⟨h1, h2, h3, dg2, sc2, er2, rfl, rfl, ok⟩ | ⟨h1, E, hE, hv⟩
    · rw [eq_comm, Bool.and_eq_true, Bool.and_eq_true, decide_eq_true_iff, decide_eq_true_iff, decide_eq_true_iff] at ok
      obtain ⟨ok1, ok2, ok3⟩ := ok
      obtain ⟨a1, a2, a3, a4⟩ := rd_n er h1
      obtain ⟨b1, b2, b3, b4, b5⟩ := rd_t er2
      have pn : p' ≤ n := by omega
      refine ⟨by omega, pn, fun j a b => ?_, P, q, 0, Or.inr (Or.inl ⟨?_, ⟨k, ?_⟩, k, ?_, ?_, ?_, ?_, rfl⟩), ?_⟩
      · rcases (show j < p1 ∨ (p1 ≤ j ∧ j < k) ∨ j = k ∨ (k + 1 ≤ j ∧ j < k + 1 + dg2) by omega) with c | c | c | c
        · exact fst j a c
        · exact (dig j c.1 c.2).1
        · rw [c, h3]; unfold ncB; omega
        · exact nc_d (alB_at b3 c.1 c.2)
      · rw [sg_c (by omega) pn, hg]
        exact nohex _ pn
      · rw [sg_c (by omega) pn, hg]
        exact ⟨by omega, by omega, h3, fun j a b => (dig j a b).2⟩
      · rw [sg_c (by omega) pn, hg]
        exact ⟨by omega, by omega, h3, fun j a b => (dig j a b).2⟩
      · rw [sg_c (by omega) pn, hg]
        unfold raB
        rw [show k - p1 = dg by omega, show p' - (k + 1) = dg2 by omega, a1, b3, ← b4, decide_eq_true (show p1 < k by omega), decide_eq_true (show k + 1 < p' by omega), decide_eq_true (show q ≠ 0 by omega)]
        rfl
      · rw [sg_c (by omega) pn, hg, show k - p1 = dg by omega]
        exact a2
      · rw [show p' - (k + 1) = dg2 by omega]
        exact b4
      · exact (v_eq (by rw [← sg_v (by omega) pn]; exact hs) id).symm
    · have main : ∀ (pn : p' ≤ n) (pk : k ≤ p') (dp : 0 < dg) (nc : ∀ j, k ≤ j → j < p' → ncB (t j) ∧ t j ≠ 47) (hh : k = p' ∧ E = 0 ∨ k < p' ∧ t k = 101 ∧ exB t (k + 1) p' 3 = true ∧ E = exV t (k + 1) p'), p < p' ∧ p' ≤ n ∧ (∀ j, p ≤ j → j < p' → ncB (t j)) ∧ ∃ P' q' x, nTx t p p' P' q' x ∧ nval (ngB t p p') P' q' x = rv s e P q := by
        intro pn pk dp nc hh
        have kp : p1 < k := by
          have := (rdG_p (by decide) _ _ _ _ _ _ er).2.2.2.2.2.2.2.2.2
          omega
        refine ⟨by omega, pn, fun j a b => ?_, v * 10 ^ (E - (sc : Int)).toNat, 1 * 10 ^ (-(E - (sc : Int))).toNat, 0, Or.inr (Or.inr ⟨?_, ?_, k, dg, sc, v, ?_, dp, rfl, E, hh, rfl, rfl⟩), ?_⟩
        · rcases (show j < p1 ∨ (p1 ≤ j ∧ j < k) ∨ k ≤ j by omega) with c | c | c
          · exact fst j a c
          · exact (dig j c.1 c.2).1
          · exact (nc j c b).1
        · rw [sg_c (by omega) pn, hg]
          exact nohex _ pn
        · rw [sg_c (by omega) pn, hg]
          rintro ⟨sl, s1, s2, s3, -⟩
          rcases (show sl < k ∨ k ≤ sl by omega) with c | c
          · exact (dig sl s1 c).2 s3
          · exact (nc sl c s2).2 s3
        · rw [sg_c (by omega) pn, hg]
          exact rdG_lim _ _ _ _ _ _ er _ (by omega) (by omega)
        · have hs' : s = if v = 0 then 0 else if ngB t p p' = true then -1 else 1 := by rw [← sg_v (by omega) pn]; exact hs
          rw [pl] at hv
          rcases hv with ⟨z1, z2, z3, z4⟩ | ⟨z1, z2, z3, z4⟩
          · have v0 : v = 0 := by
              refine Decidable.byContradiction fun c => ?_
              rw [hs', if_neg c] at z1
              split at z1 <;> omega
            rw [v0, Nat.zero_mul, nval_0, z1, rv_0]
          · rw [z2, z3, z4]
            exact (v_ten hs').symm
      rcases hE with ⟨k1, k2, d, hd, hp', hEv, ok⟩ | ⟨k1, hp', hEv, ok⟩
      · rw [eq_comm, Bool.and_eq_true, decide_eq_true_iff, decide_eq_true_iff] at ok
        obtain ⟨d1, d2, d3, d4⟩ := hd
        obtain ⟨u1, u2, u3, u4⟩ := sg_b t (k + 1) n
        have pn : p' ≤ n := by omega
        have ev := ex_V (t := t) (p := k + 1) (e := p') (n := n) (by omega) pn
        have sc' := sg_c (t := t) (p := k + 1) (e := p') (n := n) (by omega) pn
        have sgn' := sgn (k + 1)
        generalize hG : sgP t (k + 1) n = G at *
        refine main pn (by omega) ok.1 (fun j a b => ?_) (Or.inr ⟨by omega, k2, ?_, ?_⟩)
        · rcases (show j = k ∨ (k + 1 ≤ j ∧ j < G) ∨ (G ≤ j ∧ j < G + d) by omega) with c | c | c
          · rw [c, k2]; unfold ncB; omega
          · refine ⟨sgn' j c.1 c.2, ?_⟩
            have := u4 (by omega)
            rw [show j = k + 1 by omega]
            omega
          · have := alB_at d3 c.1 c.2
            refine ⟨nc_d this, fun z => ?_⟩
            rw [z] at this
            exact absurd this (by decide)
        · unfold exB
          rw [sc', show p' - G = d by omega, decide_eq_true ok.2, decide_eq_true d1, d3]
          rfl
        · rw [hEv, ev, show p' - G = d by omega]
      · rw [eq_comm, decide_eq_true_iff] at ok
        exact main (by omega) (by omega) ok (fun j a b => by omega) (Or.inl ⟨hp'.symm, hEv⟩)
