/-! exact sizes, order, roots: pure -/
/-! exact sizes of Reals, and how they are rounded -/
def sv (e : Int) (p q : Nat) : Rat := (p : Rat) / (q : Rat) * p2 e
theorem rt_ll {a b c : Rat} (h : a < b) (g : b ≤ c) : a < c := by grind
theorem q_ne {q : Nat} (h : q ≠ 0) : (q : Rat) ≠ 0 := fun e => by
  have := q_pos h
  rw [e] at this
  exact Rat.lt_irrefl this
theorem sv_q {e : Int} {p q : Nat} (hq : q ≠ 0) : sv e p q * (q : Rat) = (p : Rat) * p2 e := by
  unfold sv
  rw [Rat.div_def]
  have := Rat.inv_mul_cancel (q : Rat) (q_ne hq)
  grind
theorem sv_lt {e : Int} {p q : Nat} {y : Rat} (hq : q ≠ 0) : sv e p q < y ↔ (p : Rat) * p2 e < y * q := by
  rw [← sv_q hq, Rat.mul_lt_mul_right (q_pos hq)]
theorem lt_sv {e : Int} {p q : Nat} {y : Rat} (hq : q ≠ 0) : y < sv e p q ↔ y * q < (p : Rat) * p2 e := by
  rw [← sv_q hq, Rat.mul_lt_mul_right (q_pos hq)]
theorem sv_pos {e : Int} {p q : Nat} (hp : p ≠ 0) (hq : q ≠ 0) : 0 < sv e p q := by
  rw [lt_sv hq, Rat.zero_mul]
  exact Rat.mul_pos (q_pos hp) (p2_pos e)
theorem p2_ltn {n k : Nat} (h : n < 2 ^ k) : (n : Rat) < p2 k := by rw [p2_nat]; exact Rat.natCast_lt_natCast.mpr h
theorem p2_len {n k : Nat} (h : 2 ^ k ≤ n) : p2 k ≤ (n : Rat) := by rw [p2_nat]; exact Rat.natCast_le_natCast.mpr h
theorem lev_lo {e : Int} {p q : Nat} (hp : p ≠ 0) (hq : q ≠ 0) : p2 ((nb p : Int) - nb q + e - 1) < sv e p q := by
  rw [lt_sv hq]
  obtain ⟨h1, h2⟩ := nb_le (v := p) (by omega)
  have a := p2_ltn (nb_lt q)
  have b := p2_len h1
  have c : p2 ((nb p : Int) - nb q + e - 1) * q < p2 ((nb p : Int) - nb q + e - 1) * p2 (nb q) := (Rat.mul_lt_mul_left (p2_pos _)).mpr a
  rw [← p2_add, show (nb p : Int) - nb q + e - 1 + nb q = ((nb p - 1 : Nat) : Int) + e by omega, p2_add ((nb p - 1 : Nat) : Int)] at c
  have d : p2 ((nb p - 1 : Nat) : Int) * p2 e ≤ (p : Rat) * p2 e := Rat.mul_le_mul_of_nonneg_right b (Rat.le_of_lt (p2_pos e))
  exact rt_ll c d
theorem lev_hi {e : Int} {p q : Nat} (hq : q ≠ 0) : sv e p q < p2 ((nb p : Int) - nb q + e + 1) := by
  rw [sv_lt hq]
  obtain ⟨h1, h2⟩ := nb_le (v := q) (by omega)
  have a := p2_ltn (nb_lt p)
  have b := p2_len h1
  have c : (p : Rat) * p2 e < p2 (nb p) * p2 e := (Rat.mul_lt_mul_right (p2_pos _)).mpr a
  have d : p2 ((nb p : Int) - nb q + e + 1) * p2 ((nb q - 1 : Nat) : Int) ≤ p2 ((nb p : Int) - nb q + e + 1) * q := Rat.mul_le_mul_of_nonneg_left b (Rat.le_of_lt (p2_pos _))
  rw [← p2_add, show (nb p : Int) - nb q + e + 1 + ((nb q - 1 : Nat) : Int) = (nb p : Int) + e by omega, p2_add] at d
  exact rt_ll c d
theorem sv_unit {e u : Int} {p q : Nat} (hq : q ≠ 0) : sv e p q = sv u (p * 2 ^ (e - u).toNat) (q * 2 ^ (u - e).toNat) := by
  have z : (2 : Nat) ^ (u - e).toNat ≠ 0 := Nat.ne_of_gt (Nat.two_pow_pos _)
  have hR : q * 2 ^ (u - e).toNat ≠ 0 := Nat.mul_ne_zero hq z
  have h1 := sv_q (e := e) (p := p) hq
  have h2 := sv_q (e := u) (p := p * 2 ^ (e - u).toNat) hR
  apply rat_cn (q_ne hR)
  rw [h2, Rat.natCast_mul, ← Rat.mul_assoc, h1]
  rcases Int.le_total u e with c | c
  · rw [← sr_split c, show (u - e).toNat = 0 by omega, Nat.pow_zero]
    exact Rat.mul_one _
  · rw [show (e - u).toNat = 0 by omega, Nat.pow_zero, Nat.mul_one, p2_split c, Rat.mul_assoc, Rat.mul_comm (p2 e)]
def whS (v : Rat) (u : Int) (w : Nat) (x : Bool) : Prop := (w : Rat) * p2 u ≤ v ∧ v < ((w + 1 : Nat) : Rat) * p2 u ∧ (x = true ↔ (w : Rat) * p2 u ≠ v)
theorem rq_lt {a b : Nat} (u : Int) : (a : Rat) * p2 u < (b : Rat) * p2 u ↔ a < b := by
  rw [Rat.mul_lt_mul_right (p2_pos u), Rat.natCast_lt_natCast]
theorem rq_le {a b : Nat} (u : Int) : (a : Rat) * p2 u ≤ (b : Rat) * p2 u ↔ a ≤ b := by
  rw [← Rat.not_lt, rq_lt, Nat.not_lt]
theorem rq_eq {a b : Nat} (u : Int) : (a : Rat) * p2 u = (b : Rat) * p2 u ↔ a = b := by
  constructor
  · intro h
    have h1 := (rq_le (a := a) (b := b) u).mp (by rw [h]; exact Rat.le_refl)
    have h2 := (rq_le (a := b) (b := a) u).mp (by rw [h]; exact Rat.le_refl)
    omega
  · intro h; rw [h]
theorem wh_S {u : Int} {L R : Nat} (hR : R ≠ 0) : whS (sv u L R) u (L / R) (decide (L % R ≠ 0)) := by
  have hq := sv_q (e := u) (p := L) hR
  have pR := q_pos hR
  have dm := Nat.div_add_mod L R
  have ml := Nat.mod_lt L (Nat.pos_of_ne_zero hR)
  generalize L / R = w at *
  generalize L % R = r at *
  have k : ∀ n : Nat, (n : Rat) * p2 u * (R : Rat) = ((R * n : Nat) : Rat) * p2 u := fun n => by
    rw [Rat.natCast_mul]; grind
  refine ⟨?_, ?_, ?_⟩
  · rw [← Rat.not_lt, ← Rat.mul_lt_mul_right pR, hq, k, rq_lt]; omega
  · rw [← Rat.mul_lt_mul_right pR, hq, k, rq_lt, Nat.mul_add]; omega
  · rw [decide_eq_true_iff]
    constructor
    · intro h e
      rw [← e, k, rq_eq] at hq
      omega
    · intro h e
      refine h (rat_cn (q_ne hR) ?_)
      rw [hq, k, rq_eq]; omega
theorem wh_half {v : Rat} {u : Int} {w : Nat} {x : Bool} (h : whS v u w x) : whS v (u + 1) (w / 2) (x || decide (w % 2 = 1)) := by
  obtain ⟨h1, h2, h3⟩ := h
  have k : ∀ n : Nat, (n : Rat) * p2 (u + 1) = ((2 * n : Nat) : Rat) * p2 u := fun n => by
    rw [sr_split (m := u) (by omega), show (u + 1 - u).toNat = 1 by omega, Nat.pow_one, Nat.mul_comm]
  refine ⟨?_, ?_, ?_⟩
  · rw [k]; exact Rat.le_trans ((rq_le u).mpr (by omega)) h1
  · rw [k]; exact rt_ll h2 ((rq_le u).mpr (by omega))
  · rw [k, Bool.or_eq_true, decide_eq_true_iff, h3]
    constructor
    · intro a e
      rcases Nat.mod_two_eq_zero_or_one w with z | z
      · rw [show 2 * (w / 2) = w by omega] at e
        rcases a with a | a
        · exact a e
        · omega
      · have : ((2 * (w / 2) : Nat) : Rat) * p2 u < (w : Rat) * p2 u := (rq_lt u).mpr (by omega)
        rw [e] at this
        exact absurd h1 (Rat.not_le.mpr this)
    · intro a
      rcases Nat.mod_two_eq_zero_or_one w with z | z
      · left; rw [show 2 * (w / 2) = w by omega] at a; exact a
      · right; exact z
def szS (v : Rat) (n : Nat) (x : Bool) : Prop := n ≤ 9218868437227405311 ∧ fv n ≤ v ∧ (n < 9218868437227405311 → v < fv (n + 1)) ∧ (x = true ↔ fv n ≠ v)
theorem fv_sm {n : Nat} (h : n ≤ 2 ^ 52) : fv n = (n : Rat) * p2 (-1074) := by
  rcases Nat.lt_or_ge n (2 ^ 52) with c | c
  · have e1 : fE n = 0 := by unfold fE; omega
    have e2 : fF n = n := by unfold fF; omega
    unfold fv fP fX
    rw [if_pos e1, if_pos e1, e2]
  · have := fv_xt (e := 1) (f := 0) (by decide) (by decide) (by decide)
    rw [show n = 1 * 2 ^ 52 + 0 by omega, this]
    rfl
theorem fv_rk {u : Int} {w : Nat} (hu : -1074 ≤ u) (hw : w ≤ 2 ^ 53) (h : 2 ^ 52 ≤ w ∨ u = -1074) (hn : (u + 1074).toNat * 2 ^ 52 + w < 2 ^ 63) : fv ((u + 1074).toNat * 2 ^ 52 + w) = (w : Rat) * p2 u := by
  rcases Nat.lt_or_ge w (2 ^ 52) with c | c
  · have : u = -1074 := by omega
    subst this
    rw [show (-1074 + 1074 : Int).toNat * 2 ^ 52 + w = w by omega]
    exact fv_sm (by omega)
  · obtain ⟨k, hk⟩ : ∃ k : Nat, k = (u + 1074).toNat := ⟨_, rfl⟩
    rw [← hk] at hn ⊢
    obtain ⟨f, hf⟩ : ∃ f, w = 2 ^ 52 + f := ⟨w - 2 ^ 52, by omega⟩
    have e1 : k * 2 ^ 52 + w = (k + 1) * 2 ^ 52 + f := by rw [hf, Nat.add_mul, Nat.one_mul, Nat.add_assoc]
    have := fv_xt (e := k + 1) (f := f) (by omega) (by omega) (by rw [← e1]; exact hn)
    rw [e1, this, ← hf, show ((k + 1 : Nat) : Int) - 1075 = u by omega]
theorem sz_of {v : Rat} {u : Int} {w : Nat} {x : Bool} (h : whS v u w x) (hu : -1074 ≤ u) (hu2 : u ≤ 972) (hw : w < 2 ^ 53) (hb : 2 ^ 52 ≤ w ∨ u = -1074) : szS v (min ((u + 1074).toNat * 2 ^ 52 + w) 9218868437227405311) (x || decide (9218868437227405311 < (u + 1074).toNat * 2 ^ 52 + w)) := by
  obtain ⟨h1, h2, h3⟩ := h
  have f := fv_rk hu (by omega) hb (by omega)
  have f2 : (u + 1074).toNat * 2 ^ 52 + (w + 1) < 2 ^ 63 → fv ((u + 1074).toNat * 2 ^ 52 + (w + 1)) = ((w + 1 : Nat) : Rat) * p2 u := fun z => fv_rk (w := w + 1) hu (by omega) (by omega) z
  have hl : (u + 1074).toNat * 2 ^ 52 + w < 2 ^ 63 := by omega
  rw [← Nat.add_assoc] at f2
  obtain ⟨n, hn⟩ : ∃ n, n = (u + 1074).toNat * 2 ^ 52 + w := ⟨_, rfl⟩
  rw [← hn] at f f2 hl ⊢
  rcases Nat.lt_or_ge 9218868437227405311 n with c | c
  · rw [Nat.min_eq_right (by omega), decide_eq_true c, Bool.or_true]
    have := fv_lt c hl
    rw [f] at this
    have l := rt_ll this h1
    exact ⟨by omega, Rat.le_of_lt l, fun z => by omega, fun _ e => by rw [e] at l; exact Rat.lt_irrefl l, fun _ => rfl⟩
  · rw [Nat.min_eq_left c, decide_eq_false (by omega), Bool.or_false]
    refine ⟨c, by rw [f]; exact h1, fun z => ?_, by rw [f]; exact h3⟩
    rw [f2 (by omega)]
    exact h2
theorem fval_nn' (n : Nat) : fval (n : Int) = fv n := by
  unfold fval
  rw [if_neg (by omega)]
  rfl
theorem fval_ng (n : Nat) : fval (-(n : Int)) = -fv n := by rw [fval_neg, fval_nn']
theorem sz_dn {v : Rat} {n : Nat} {x : Bool} (h : szS v n x) : (n : Int) = dnF v := by
  obtain ⟨h1, h2, h3, -⟩ := h
  refine dnS_F (Or.inr ⟨by omega, by omega, by rw [fval_nn']; exact h2, fun z => ?_⟩)
  have := h3 (by omega)
  rw [← fval_nn'] at this
  exact this
theorem sz_dm {v : Rat} {n : Nat} {x : Bool} (h : szS v n x) : (if x then -(n : Int) - 1 else -(n : Int)) = dnF (-v) := by
  obtain ⟨h1, h2, h3, h4⟩ := h
  refine dnS_F ?_
  rcases Bool.eq_false_or_eq_true x with c | c
  · have ne := h4.mp c
    have lt : fv n < v := by
      rcases Decidable.em (fv n < v) with d | d
      · exact d
      · exact absurd (Rat.le_antisymm h2 (Rat.not_lt.mp d)) ne
    rw [if_pos c]
    rcases Nat.lt_or_ge n 9218868437227405311 with d | d
    · right
      have := h3 d
      refine ⟨by omega, by omega, ?_, fun _ => ?_⟩
      · rw [show -(n : Int) - 1 = -((n + 1 : Nat) : Int) by omega, fval_ng]; grind
      · rw [show -(n : Int) - 1 + 1 = -(n : Int) by omega, fval_ng]; grind
    · left
      refine ⟨by omega, ?_⟩
      rw [show (-9218868437227405311 : Int) = -(n : Int) by omega, fval_ng]; grind
  · have eq : fv n = v := by
      rcases Decidable.em (fv n = v) with d | d
      · exact d
      · rw [h4.mpr d] at c; exact absurd c (by decide)
    rw [if_neg (by rw [c]; decide)]
    right
    refine ⟨by omega, by omega, by rw [fval_ng, eq]; exact Rat.le_refl, fun z => ?_⟩
    rcases Nat.eq_zero_or_pos n with d | d
    · subst d
      have := fv_lt (m := 0) (n := 1) (by decide) (by decide)
      rw [eq] at this
      have e1 : fval (-((0 : Nat) : Int) + 1) = fv 1 := fval_nn' 1
      have : v = 0 := eq.symm.trans fv_0
      rw [e1]
      grind
    · have l := fv_lt (m := n - 1) (n := n) (by omega) (by omega)
      rw [show -(n : Int) + 1 = -((n - 1 : Nat) : Int) by omega, fval_ng]; grind
theorem sz_up {v : Rat} {n : Nat} {x : Bool} (h : szS v n x) : (if x then (n : Int) + 1 else (n : Int)) = upF v := by
  unfold upF
  rw [← sz_dm h]
  split <;> omega
theorem sz_um {v : Rat} {n : Nat} {x : Bool} (h : szS v n x) : -(n : Int) = upF (-v) := by
  unfold upF
  rw [Rat.neg_neg, ← sz_dn h]
theorem fv_G : fv 9218868437227405311 < p2 1024 := by
  have := fv_xt (e := 2046) (f := 2 ^ 52 - 1) (by decide) (by decide) (by decide)
  rw [show 9218868437227405311 = 2046 * 2 ^ 52 + (2 ^ 52 - 1) by decide, this, p2_split (show (((2046 : Nat) : Int) - 1075) ≤ 1024 by decide), rq_lt]
  decide
theorem sz_big {v : Rat} (h : p2 1024 < v) : szS v 9218868437227405311 true := by
  have := fv_G
  exact ⟨by decide, by grind, fun z => by omega, fun _ e => by grind, fun _ => rfl⟩
theorem sz_small {v : Rat} (h0 : 0 < v) (h : v < p2 (-1074)) : szS v 0 true := by
  have e1 : fv 1 = p2 (-1074) := by
    rw [fv_sm (by decide)]
    exact Rat.one_mul _
  refine ⟨by decide, by rw [fv_0]; exact Rat.le_of_lt h0, fun _ => by rw [e1]; exact h, fun _ e => ?_, fun _ => rfl⟩
  rw [fv_0] at e
  grind
theorem sz_zero : szS 0 0 false := by
  refine ⟨by decide, by rw [fv_0]; exact Rat.le_refl, fun _ => ?_, fun e => absurd e (by decide), fun e => absurd fv_0 e⟩
  have := fv_lt (m := 0) (n := 1) (by decide) (by decide)
  rw [fv_0] at this
  exact this
/-! roots -/
def rtZ (v : Rat) (n : Nat) (x : Bool) : Prop := n < 9218868437227405311 ∧ fv n * fv n ≤ v ∧ v < fv (n + 1) * fv (n + 1) ∧ (x = true ↔ fv n * fv n ≠ v)
theorem rz_dn {v : Rat} {n : Nat} {x : Bool} (h : rtZ v n x) : (n : Int) = rdF v := by
  obtain ⟨h1, h2, h3, -⟩ := h
  refine rtS_F ⟨by omega, by omega, by rw [fval_nn']; exact h2, ?_⟩
  rw [← fval_nn'] at h3
  exact h3
theorem rz_up {v : Rat} {n : Nat} {x : Bool} (h : rtZ v n x) : (if x then (n : Int) + 1 else (n : Int)) = ruF v := by
  unfold ruF
  have e := rz_dn h
  obtain ⟨h1, h2, h3, h4⟩ := h
  rw [← e, fval_nn']
  rcases Decidable.em (fv n * fv n = v) with c | c
  · rw [if_pos c, if_neg (fun z => h4.mp z c)]
  · rw [if_neg c, if_pos (h4.mpr c)]
theorem rz_of {P r : Nat} {g : Int} (h1 : r * r ≤ P) (h2 : P < (r + 1) * (r + 1)) (hr : 2 ^ 52 ≤ r) (hr2 : r < 2 ^ 53) (hg : -1074 ≤ g) (hg2 : g ≤ 900) : rtZ ((P : Rat) * p2 (g + g)) ((g + 1074).toNat * 2 ^ 52 + r) (decide (r * r ≠ P)) := by
  have f := fv_rk (w := r) hg (by omega) (Or.inl hr) (by omega)
  have f2 := fv_rk (w := r + 1) hg (by omega) (Or.inl (by omega)) (by omega)
  rw [← Nat.add_assoc] at f2
  have hl : (g + 1074).toNat * 2 ^ 52 + r < 9218868437227405311 := by omega
  obtain ⟨n, hn⟩ : ∃ n, n = (g + 1074).toNat * 2 ^ 52 + r := ⟨_, rfl⟩
  rw [← hn] at f f2 hl ⊢
  have k : ∀ m : Nat, (m : Rat) * p2 g * ((m : Rat) * p2 g) = ((m * m : Nat) : Rat) * p2 (g + g) := fun m => by
    rw [Rat.natCast_mul, p2_add]; grind
  unfold rtZ
  rw [f, f2, k, k, rq_le, rq_lt, decide_eq_true_iff]
  exact ⟨hl, h1, h2, by rw [Ne, Ne, rq_eq]⟩
/-! the order of Reals -/
def rv (s e : Int) (p q : Nat) : Rat := (s : Rat) * sv e p q
def orX (s s2 : Int) (i i2 : Bool) (x y : Rat) : Int32 := if s ≠ s2 ∨ s = 0 then (if s < s2 then -1 else if s = s2 then 0 else 1) else if (i || i2) = true then (if i = i2 then 0 else if i = true then iZ s else iZ (-s)) else cmpR x y
theorem rv_1 (e : Int) (p q : Nat) : rv 1 e p q = sv e p q := Rat.one_mul _
theorem rv_m (e : Int) (p q : Nat) : rv (-1) e p q = -sv e p q := by
  show ((-1 : Int) : Rat) * sv e p q = _
  rw [Rat.intCast_neg, Rat.neg_mul]
  exact congrArg _ (Rat.one_mul _)
theorem rv_0 (e : Int) (p q : Nat) : rv 0 e p q = 0 := Rat.zero_mul _
theorem nb_mul {p q : Nat} (hp : p ≠ 0) (hq : q ≠ 0) : nb p + nb q ≤ nb (p * q) + 1 ∧ nb (p * q) ≤ nb p + nb q ∧ 0 < nb p ∧ 0 < nb q := by
  obtain ⟨a1, a2⟩ := nb_le (v := p) (by omega)
  obtain ⟨b1, b2⟩ := nb_le (v := q) (by omega)
  have h := Nat.mul_le_mul a1 b1
  have h2 := Nat.mul_lt_mul_of_lt_of_lt (nb_lt p) (nb_lt q)
  rw [← Nat.pow_add] at h h2
  refine ⟨?_, nb_mono_lt h2, a2, b2⟩
  have h3 := nb_lt (p * q)
  have h4 := Nat.lt_of_le_of_lt h h3
  have := (Nat.pow_lt_pow_iff_right (show 1 < 2 by decide)).mp h4
  omega
theorem cmp_neg (X Y : Rat) : cmpR (-X) (-Y) = iZ (-1) * cmpR X Y := by
  rcases Decidable.em (X < Y) with c | c
  · rw [cmpR_lt c, cmpR_gt (by grind)]; decide
  · rcases Decidable.em (Y < X) with c' | c'
    · rw [cmpR_gt c', cmpR_lt (by grind)]; decide
    · rw [cmpR_eq (show X = Y by grind), cmpR_eq (show -X = -Y by grind)]; decide
theorem rv_cmp {s e e2 : Int} {p q p2 q2 : Nat} (hs : s = 1 ∨ s = -1) : cmpR (rv s e p q) (rv s e2 p2 q2) = iZ s * cmpR (sv e p q) (sv e2 p2 q2) := by
  rcases hs with rfl | rfl
  · rw [rv_1, rv_1]
    exact (Int32.one_mul _).symm
  · rw [rv_m, rv_m, cmp_neg]
def gapI (e e2 : Int) (p q p2 q2 : Nat) : Int := (nb p : Int) - nb q - nb p2 + nb q2 + (e - e2)
theorem gap_hi {e e2 : Int} {p q p2 q2 : Nat} (hp : p ≠ 0) (hq : q ≠ 0) (hp2 : p2 ≠ 0) (hq2 : q2 ≠ 0) (g : 1 < gapI e e2 p q p2 q2) : cmpR (sv e p q) (sv e2 p2 q2) = 1 := by
  unfold sv gapI at *
  rw [quo_cmp hq hq2]
  have a := nb_mul hp hq2
  have b := nb_mul hp2 hq
  exact cmpR_gt (bits_lt (Nat.mul_ne_zero hp2 hq) (Nat.mul_ne_zero hp hq2) (by omega))
theorem gap_lo {e e2 : Int} {p q p2 q2 : Nat} (hp : p ≠ 0) (hq : q ≠ 0) (hp2 : p2 ≠ 0) (hq2 : q2 ≠ 0) (g : gapI e e2 p q p2 q2 < -1) : cmpR (sv e p q) (sv e2 p2 q2) = -1 := by
  unfold sv gapI at *
  rw [quo_cmp hq hq2]
  have a := nb_mul hp hq2
  have b := nb_mul hp2 hq
  exact cmpR_lt (bits_lt (Nat.mul_ne_zero hp hq2) (Nat.mul_ne_zero hp2 hq) (by omega))
theorem gap_mid {e e2 : Int} {p q p2 q2 : Nat} (hq : q ≠ 0) (hq2 : q2 ≠ 0) : (if p * q2 * 2 ^ (e - e2).toNat < p2 * q * 2 ^ (-(e - e2)).toNat then (-1 : Int32) else if p * q2 * 2 ^ (e - e2).toNat = p2 * q * 2 ^ (-(e - e2)).toNat then 0 else 1) = cmpR (sv e p q) (sv e2 p2 q2) := by
  unfold sv
  rw [quo_cmp hq hq2, ← cmp_nat (m := min e e2) (Int.min_le_left _ _) (Int.min_le_right _ _), show (e - min e e2).toNat = (e - e2).toNat by omega, show (e2 - min e e2).toNat = (-(e - e2)).toNat by omega]
theorem nb_pw {v k n : Nat} (h : nb v + k ≤ n) : v * 2 ^ k < 2 ^ n := by
  have := Nat.mul_lt_mul_of_pos_right (nb_lt v) (Nat.two_pow_pos k)
  rw [← Nat.pow_add] at this
  exact Nat.lt_of_lt_of_le this (Nat.pow_le_pow_right (by decide) h)
theorem gap_room {e e2 : Int} {p q p2 q2 : Nat} (hp : p ≠ 0) (hq : q ≠ 0) (hp2 : p2 ≠ 0) (hq2 : q2 ≠ 0) (g1 : ¬ 1 < gapI e e2 p q p2 q2) (g2 : ¬ gapI e e2 p q p2 q2 < -1) (r1 : nb p + nb q2 ≤ 6360) (r2 : nb p2 + nb q ≤ 6360) : p * q2 * 2 ^ (e - e2).toNat < 2 ^ 6368 ∧ p2 * q * 2 ^ (-(e - e2)).toNat < 2 ^ 6368 := by
  have a := nb_mul hp hq2
  have b := nb_mul hp2 hq
  unfold gapI at *
  exact ⟨nb_pw (by omega), nb_pw (by omega)⟩
theorem or_fin {s e s2 e2 : Int} {p q p2 q2 : Nat} (hs : -1 ≤ s ∧ s ≤ 1) (hs2 : -1 ≤ s2 ∧ s2 ≤ 1) (hp : s ≠ 0 → p ≠ 0) (hq : q ≠ 0) (hp2 : s2 ≠ 0 → p2 ≠ 0) (hq2 : q2 ≠ 0) : orX s s2 false false (rv s e p q) (rv s2 e2 p2 q2) = cmpR (rv s e p q) (rv s2 e2 p2 q2) := by
  have a : s ≠ 0 → 0 < sv e p q := fun z => sv_pos (hp z) hq
  have b : s2 ≠ 0 → 0 < sv e2 p2 q2 := fun z => sv_pos (hp2 z) hq2
  unfold orX
  rcases (show s = -1 ∨ s = 0 ∨ s = 1 by omega) with rfl | rfl | rfl <;> rcases (show s2 = -1 ∨ s2 = 0 ∨ s2 = 1 by omega) with rfl | rfl | rfl
  · rfl
  · have := a (by decide); rw [rv_m, rv_0, cmpR_lt (by grind)]; rfl
  · have := a (by decide); have := b (by decide); rw [rv_m, rv_1, cmpR_lt (by grind)]; rfl
  · have := b (by decide); rw [rv_m, rv_0, cmpR_gt (by grind)]; rfl
  · rw [rv_0, rv_0, cmpR_eq rfl]; rfl
  · have := b (by decide); rw [rv_1, rv_0, cmpR_lt (by grind)]; rfl
  · have := a (by decide); have := b (by decide); rw [rv_m, rv_1, cmpR_gt (by grind)]; rfl
  · have := a (by decide); rw [rv_1, rv_0, cmpR_gt (by grind)]; rfl
  · rfl
/-! a root bit by bit -/
theorem rt_step {P r t j : Nat} (h1 : r * r + t = P / 4 ^ (j + 1)) (h2 : t ≤ 2 * r) : ∃ r' t', r' * r' + t' = P / 4 ^ j ∧ t' ≤ 2 * r' ∧ (if 4 * r + 1 ≤ 4 * t + P / 4 ^ j % 4 then r' = 2 * r + 1 ∧ t' = 4 * t + P / 4 ^ j % 4 - (4 * r + 1) else r' = 2 * r ∧ t' = 4 * t + P / 4 ^ j % 4) := by
  have e : P / 4 ^ (j + 1) = P / 4 ^ j / 4 := by rw [Nat.pow_succ, Nat.div_div_eq_div_mul]
  rw [e] at h1
  generalize P / 4 ^ j = N at *
  have s : (2 * r + 1) * (2 * r + 1) = 4 * (r * r) + 4 * r + 1 := by grind
  have s2 : 2 * r * (2 * r) = 4 * (r * r) := by grind
  split
  · exact ⟨_, _, by rw [s]; omega, by omega, rfl, rfl⟩
  · exact ⟨_, _, by rw [s2]; omega, by omega, rfl, rfl⟩
theorem dv_step {L R Q t k : Nat} (h : L = Q * (R * 2 ^ (k + 1)) + t) : L = 2 * Q * (R * 2 ^ k) + t ∧ (R * 2 ^ k ≤ t → L = (2 * Q + 1) * (R * 2 ^ k) + (t - R * 2 ^ k)) := by
  rw [Nat.pow_succ, ← Nat.mul_assoc R] at h
  generalize R * 2 ^ k = D at *
  have e : Q * (D * 2) = 2 * Q * D := by grind
  have e2 : (2 * Q + 1) * D = 2 * Q * D + D := by grind
  rw [e] at h
  exact ⟨h, fun z => by rw [e2]; omega⟩
