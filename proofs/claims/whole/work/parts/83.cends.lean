/-! the class: Ends (X2): an object at x + 10 beside its Exact at x; low x + 11, high x + 16, left x + 21, right x + 26, corner x + 31 -/
def enC (x : Nat) (b : Bool) : xE := .inr (3, [.int (bI b), .ref (x + 11), .ref (x + 16), .ref (x + 21), .ref (x + 26), .ref (x + 31), .ref x])
abbrev enO (h : xH) (x : Nat) (b : Bool) : Prop := h (x + 10) = some (enC x b)
section NW
variable {h : xH} {x q : Nat} {b : Bool} {k : xK} {lv : List (Nat × Value)} {T : Nat × Nat × Nat} {r : List Value} {c : xE}
theorem enO.g0 (w : enO h x b) : x_get 3 0 k lv (.ref (x + 10) :: r) (h, T) = k lv (.int (bI b) :: r) (h, T) := q_get w rfl
theorem enO.g1 (w : enO h x b) : x_get 3 1 k lv (.ref (x + 10) :: r) (h, T) = k lv (.ref (x + 11) :: r) (h, T) := q_get w rfl
theorem enO.g2 (w : enO h x b) : x_get 3 2 k lv (.ref (x + 10) :: r) (h, T) = k lv (.ref (x + 16) :: r) (h, T) := q_get w rfl
theorem enO.g3 (w : enO h x b) : x_get 3 3 k lv (.ref (x + 10) :: r) (h, T) = k lv (.ref (x + 21) :: r) (h, T) := q_get w rfl
theorem enO.g4 (w : enO h x b) : x_get 3 4 k lv (.ref (x + 10) :: r) (h, T) = k lv (.ref (x + 26) :: r) (h, T) := q_get w rfl
theorem enO.g5 (w : enO h x b) : x_get 3 5 k lv (.ref (x + 10) :: r) (h, T) = k lv (.ref (x + 31) :: r) (h, T) := q_get w rfl
theorem enO.g6 (w : enO h x b) : x_get 3 6 k lv (.ref (x + 10) :: r) (h, T) = k lv (.ref x :: r) (h, T) := q_get w rfl
theorem enO.p0 {v : Bool} (w : enO h x b) : x_put 3 0 .boolean k lv (.int (bI v) :: .ref (x + 10) :: r) (h, T) = k lv r (xup h (x + 10) (enC x v), T) := by
  (simp only [x_put, show h (x + 10) = some (enC x b) from w, enC, nr_i, ft_i, nr_z, ft_z, nr_z0, nr_z1, ft_z0, ft_z1, List.length_cons, List.length_nil, Nat.reduceAdd, Nat.reduceLT, true_and, and_true, List.set_cons_succ, List.set_cons_zero]) <;> rfl
theorem enO.p0a (w : enO h x b) : x_put 3 0 .boolean k lv (.int 0 :: .ref (x + 10) :: r) (h, T) = k lv r (xup h (x + 10) (enC x false), T) := by
  (simp only [x_put, show h (x + 10) = some (enC x b) from w, enC, nr_i, ft_i, nr_z, ft_z, nr_z0, nr_z1, ft_z0, ft_z1, List.length_cons, List.length_nil, Nat.reduceAdd, Nat.reduceLT, true_and, and_true, List.set_cons_succ, List.set_cons_zero]) <;> rfl
theorem enO.p0b (w : enO h x b) : x_put 3 0 .boolean k lv (.int 1 :: .ref (x + 10) :: r) (h, T) = k lv r (xup h (x + 10) (enC x true), T) := by
  (simp only [x_put, show h (x + 10) = some (enC x b) from w, enC, nr_i, ft_i, nr_z, ft_z, nr_z0, nr_z1, ft_z0, ft_z1, List.length_cons, List.length_nil, Nat.reduceAdd, Nat.reduceLT, true_and, and_true, List.set_cons_succ, List.set_cons_zero]) <;> rfl
end NW
/-- what a Real holds, as a number -/
def vlX (s e : Int) (i : Bool) (p q : Nat) : vE := if i = true then .inr (decide (s < 0)) else .inl (rv s e p q)
def reX (h : xH) (o : Nat) (t : Bool) (X : vE) : Prop := ∃ s e i p q, reR h o s e i t p q ∧ szP s e i t p q ∧ nb p ≤ 6200 ∧ nb q ≤ 6200 ∧ q ≠ 0 ∧ X = vlX s e i p q
def reQ (h : xH) (o : Nat) (X : vE) (r : Nat) : Prop := ∃ s e i p, reR h o s e i false p 1 ∧ (i = true → s ≠ 0) ∧ (s ≠ 0 → p ≠ 0) ∧ nb p ≤ r ∧ (-2148 ≤ e ∧ e ≤ 1944) ∧ X = vlX s e i p 1
def reP (h : xH) (o : Nat) (X : vE) : Prop := ∃ s e i p, reR h o s e i false p 1 ∧ (i = true → s ≠ 0) ∧ (s ≠ 0 → p ≠ 0) ∧ nb p ≤ 106 ∧ (-2148 ≤ e ∧ e ≤ 1944) ∧ X = vlX s e i p 1
abbrev reF (h : xH) (o : Nat) (k : Int) : Prop := reR h o k.sign (fX k.natAbs) (decide (k.natAbs = 9218868437227405312)) false (fP k.natAbs) 1
theorem reX.off {h h' : xH} {o lo hi : Nat} {t : Bool} {X : vE} (n : reX h o t X) (f : xoff h' h lo hi) (d : o + 5 ≤ lo ∨ hi ≤ o) : reX h' o t X := by
  obtain ⟨s, e, i, p, q, w, r⟩ := n
  exact ⟨s, e, i, p, q, w.off f d, r⟩
theorem reQ.off {h h' : xH} {o lo hi r : Nat} {X : vE} (n : reQ h o X r) (f : xoff h' h lo hi) (d : o + 5 ≤ lo ∨ hi ≤ o) : reQ h' o X r := by
  obtain ⟨s, e, i, p, w, r⟩ := n
  exact ⟨s, e, i, p, w.off f d, r⟩
theorem reP.off {h h' : xH} {o lo hi : Nat} {X : vE} (n : reP h o X) (f : xoff h' h lo hi) (d : o + 5 ≤ lo ∨ hi ≤ o) : reP h' o X := by
  obtain ⟨s, e, i, p, w, r⟩ := n
  exact ⟨s, e, i, p, w.off f d, r⟩
theorem reX.E {h : xH} {o : Nat} {t : Bool} {X : vE} (n : reX h o t X) : reE h o := by
  obtain ⟨s, e, i, p, q, w, r⟩ := n
  exact ⟨s, e, i, t, p, q, w⟩
theorem reQ.E {h : xH} {o r : Nat} {X : vE} (n : reQ h o X r) : reE h o := by
  obtain ⟨s, e, i, p, w, r⟩ := n
  exact ⟨s, e, i, _, p, _, w⟩
theorem reP.E {h : xH} {o : Nat} {X : vE} (n : reP h o X) : reE h o := by
  obtain ⟨s, e, i, p, w, r⟩ := n
  exact ⟨s, e, i, _, p, _, w⟩
theorem reP.Q {h : xH} {o : Nat} {X : vE} (n : reP h o X) : reQ h o X 106 := by
  obtain ⟨s, e, i, p, w, r1, r2, r3, r4, r5⟩ := n
  exact ⟨s, e, i, p, w, r1, r2, r3, r4, r5⟩
theorem nb_1 : nb 1 = 1 := by decide
theorem reQ.X {h : xH} {o r : Nat} {X : vE} (n : reQ h o X r) (hr : r ≤ 6200) : reX h o false X := by
  obtain ⟨s, e, i, p, w, r1, r2, r3, -, r5⟩ := n
  exact ⟨s, e, i, p, 1, w, ⟨r1, fun _ z => ⟨r2 z, by decide, fun _ => ⟨by omega, by rw [nb_1]; omega⟩, fun z => absurd z (by decide)⟩⟩, by omega, by rw [nb_1]; omega, by decide, r5⟩
theorem fl_V {k : Int} (hk : bF k) : fl k = vlX k.sign (fX k.natAbs) (decide (k.natAbs = 9218868437227405312)) (fP k.natAbs) 1 := by
  have h1 := hk.1
  have h2 := hk.2
  unfold vlX
  rcases Bool.eq_false_or_eq_true (iN k) with c | c
  · have := iNt c
    rw [fl_i c, if_pos (decide_eq_true (by omega))]
    rcases this with e | e <;> subst e <;> rfl
  · have := iNf c
    rw [fl_f c, if_neg (by rw [decide_eq_true_iff]; omega), fv_rv hk]
theorem reF.P {h : xH} {o : Nat} {k : Int} (n : reF h o k) (hk : bF k) : reP h o (fl k) := by
  have fx := fX_rng k.natAbs
  have h1 := hk.1
  have h2 := hk.2
  refine ⟨_, _, _, _, n, fun z => ?_, fun z => ?_, Nat.le_trans (nb_mono_lt (fP_lt _)) (by decide), by omega, fl_V hk⟩
  · rw [decide_eq_true_iff] at z
    intro y
    rw [sg0] at y
    omega
  · exact fP_nz hk (fun y => z (by rw [y]; rfl))
/-- Ends and its Exact, whatever they hold -/
def enA (h : xH) (x : Nat) (b : Bool) : Prop := enO h x b ∧ (∃ n, exR h x n) ∧ reE h (x + 11) ∧ reE h (x + 16) ∧ reE h (x + 21) ∧ reE h (x + 26) ∧ reE h (x + 31)
theorem enA.off {h h' : xH} {x lo hi : Nat} {b : Bool} (n : enA h x b) (f : xoff h' h lo hi) (d : x + 36 ≤ lo ∨ hi ≤ x) : enA h' x b := by
  obtain ⟨a, ⟨m, c⟩, r1, r2, r3, r4, r5⟩ := n
  exact ⟨(f _ (by omega)).trans a, ⟨m, c.off f (by omega)⟩, r1.off f (by omega), r2.off f (by omega), r3.off f (by omega), r4.off f (by omega), r5.off f (by omega)⟩
abbrev rcn (h : xH) (x : Nat) : Prop := ∃ b fs, some (Value.ref (x + 10)) = some (.ref b) ∧ h b = some (.inr (3, fs))
theorem enA.rc {h : xH} {x : Nat} {b : Bool} (n : enA h x b) : rcn h x := ⟨_, _, rfl, n.1⟩
/-! the numbers of Reals -/
theorem sv_1 (e : Int) (p : Nat) : sv e p 1 = (p : Rat) * p2 e := by
  unfold sv
  rw [Rat.div_def, show ((1 : Nat) : Rat)⁻¹ = 1 from Rat.inv_eq_of_mul_eq_one (Rat.one_mul 1), Rat.mul_one]
theorem sm_val {s s2 e e2 m : Int} {p r : Nat} (hs : s = 1 ∨ s = -1) (hs2 : s2 = 1 ∨ s2 = -1) (hm : m ≤ e) (hm2 : m ≤ e2) (hp : p ≠ 0) : rv (if smT s s2 (smP e m p) (smP e2 m r) = 0 then 0 else if smP e m p < smP e2 m r then s2 else s) m (smT s s2 (smP e m p) (smP e2 m r)) 1 = rv s e p 1 + rv s2 e2 r 1 := by
  have e1 : sv e p 1 = (smP e m p : Rat) * p2 m := by rw [sv_1, sr_split hm]; rfl
  have e2' : sv e2 r 1 = (smP e2 m r : Rat) * p2 m := by rw [sv_1, sr_split hm2]; rfl
  have P0 : smP e m p ≠ 0 := Nat.mul_ne_zero hp (Nat.ne_of_gt (Nat.two_pow_pos _))
  unfold rv
  rw [e1, e2', sv_1]
  generalize smP e m p = P at *
  generalize smP e2 m r = R at *
  generalize p2 m = d
  unfold smT
  have i1 : ((1 : Int) : Rat) = 1 := rfl
  have im : ((-1 : Int) : Rat) = -1 := rfl
  have i0 : ((0 : Int) : Rat) = 0 := rfl
  rcases Decidable.em (s = s2) with c | c
  · subst c
    rw [if_pos rfl, if_neg (by omega), show (if P < R then s else s) = s by split <;> rfl, Rat.natCast_add]
    grind
  · rw [if_neg c]
    have c2 : s2 = -s := by omega
    subst c2
    rcases Nat.lt_or_ge P R with g | g
    · rw [if_pos g, if_neg (by omega), if_pos g, Rat.intCast_neg]
      have : (R : Rat) = ((R - P : Nat) : Rat) + (P : Rat) := by rw [← Rat.natCast_add]; congr 1; omega
      grind
    · rw [if_neg (show ¬ P < R by omega), if_neg (show ¬ P < R by omega), Rat.intCast_neg]
      have : (P : Rat) = ((P - R : Nat) : Rat) + (R : Rat) := by rw [← Rat.natCast_add]; congr 1; omega
      split
      · rename_i z
        rw [z, show ((0 : Nat) : Rat) = 0 from rfl] at this
        grind
      · grind
theorem sm_nb {s s2 : Int} {P R k : Nat} (hP : P < 2 ^ k) (hR : R < 2 ^ k) : nb (smT s s2 P R) ≤ k + 1 := by
  apply nb_mono_lt
  rw [Nat.pow_succ]
  unfold smT
  repeat' split
  all_goals omega
theorem inX_V (s e : Int) (i : Bool) (p q : Nat) : inX (vlX s e i p q) = i := by
  unfold vlX
  cases i <;> rfl
theorem vlX_f (s e : Int) (p q : Nat) : vlX s e false p q = .inl (rv s e p q) := if_neg (by decide)
theorem vlX_t (s e : Int) (p q : Nat) : vlX s e true p q = .inr (decide (s < 0)) := if_pos rfl
theorem sgX_V {s e : Int} {i : Bool} {p q : Nat} (hs : -1 ≤ s ∧ s ≤ 1) (hi : i = true → s ≠ 0) (hp : s ≠ 0 → p ≠ 0) (hq : q ≠ 0) : sgX (vlX s e i p q) = s := by
  cases i
  · rw [vlX_f]
    show (if rv s e p q < 0 then -1 else if rv s e p q = 0 then 0 else 1) = s
    rcases (show s = -1 ∨ s = 0 ∨ s = 1 by omega) with rfl | rfl | rfl
    · have := sv_pos (e := e) (hp (by decide)) hq
      rw [rv_m, if_pos (by grind)]
    · rw [rv_0, if_neg (by decide), if_pos rfl]
    · have := sv_pos (e := e) (hp (by decide)) hq
      rw [rv_1, if_neg (by grind), if_neg (by grind)]
  · rw [vlX_t]
    show (if decide (s < 0) = true then -1 else 1) = s
    have := hi rfl
    rcases (show s = -1 ∨ s = 1 by omega) with rfl | rfl <;> rfl
theorem mu_V {s e s2 e2 : Int} {i i2 : Bool} {p r : Nat} (hs : -1 ≤ s ∧ s ≤ 1) (hi : i = true → s ≠ 0) (hp : s ≠ 0 → p ≠ 0) (hs2 : -1 ≤ s2 ∧ s2 ≤ 1) (hi2 : i2 = true → s2 ≠ 0) (hr : s2 ≠ 0 → r ≠ 0) : vlX (s * s2) (e + e2) (decide (s * s2 ≠ 0) && (i || i2)) (p * r) 1 = muX (vlX s e i p 1) (vlX s2 e2 i2 r 1) := by
  unfold muX
  rw [sgX_V hs hi hp (by decide), sgX_V hs2 hi2 hr (by decide), inX_V, inX_V]
  rcases Decidable.em (s = 0 ∨ s2 = 0) with c | c
  · rw [if_pos c, show s * s2 = 0 by rcases c with c | c <;> rw [c]; exact Int.zero_mul _; exact Int.mul_zero _, decide_eq_false (by omega), Bool.false_and, vlX_f, rv_0]
  · rw [if_neg c]
    have n0 : s * s2 ≠ 0 := Int.mul_ne_zero (by omega) (by omega)
    rw [decide_eq_true n0, Bool.true_and]
    cases i <;> cases i2
    · rw [if_neg (by decide), vlX_f, vlX_f]
      show vlX (s * s2) (e + e2) false _ _ = .inl (rv s e p 1 * rv s2 e2 r 1)
      rw [vlX_f]
      unfold rv
      rw [sv_1, sv_1, sv_1, Rat.natCast_mul, p2_add, Rat.intCast_mul]
      congr 1
      grind
    · rw [if_pos (show (false || true) = true from rfl)]; exact vlX_t ..
    · rw [if_pos (show (true || false) = true from rfl)]; exact vlX_t ..
    · rw [if_pos (show (true || true) = true from rfl)]; exact vlX_t ..
theorem qu_V {s e s2 e2 s' : Int} {i i2 be : Bool} {p r : Nat} (hs : -1 ≤ s ∧ s ≤ 1) (hi : i = true → s ≠ 0) (hp : s ≠ 0 → p ≠ 0) (hs2 : -1 ≤ s2 ∧ s2 ≤ 1) (hi2 : i2 = true → s2 ≠ 0) (hr : s2 ≠ 0 → r ≠ 0) (h' : s' = (if i2 = true then 0 else if s2 < 0 then -s else s)) (hb : be = (i || decide (s2 = 0))) : vlX s' (e - e2) (decide (s' ≠ 0) && be) (if s' = 0 then 0 else p) (if s' ≠ 0 ∧ be = false then r else 1) = quX (vlX s e i p 1) (vlX s2 e2 i2 r 1) := by
  unfold quX
  rw [sgX_V hs hi hp (by decide), sgX_V hs2 hi2 hr (by decide), inX_V, inX_V]
  rcases Decidable.em (i2 = true ∨ s = 0) with c | c
  · have z : s' = 0 := by
      rw [h']
      rcases c with c | c
      · rw [if_pos c]
      · rw [c]; split; rfl; split <;> rfl
    rw [if_pos c, z, decide_eq_false (by omega), Bool.false_and, vlX_f, rv_0]
  · have j2 : i2 = false := by
      cases i2
      · rfl
      · exact absurd (Or.inl rfl) c
    have s0 : s ≠ 0 := fun z => c (Or.inr z)
    rw [if_neg c]
    rw [if_neg (by rw [j2]; decide)] at h'
    have n0 : s' ≠ 0 := by rw [h']; split <;> omega
    rw [decide_eq_true n0, Bool.true_and, if_neg n0]
    rcases Decidable.em (i = true ∨ s2 = 0) with g | g
    · have b1 : be = true := by
        rw [hb]
        rcases g with g | g
        · rw [g]; rfl
        · rw [decide_eq_true g, Bool.or_true]
      rw [if_pos g, b1, vlX_t, h']
    · have i0 : i = false := by
        cases i
        · rfl
        · exact absurd (Or.inl rfl) g
      have s20 : s2 ≠ 0 := fun z => g (Or.inr z)
      have b0 : be = false := by rw [hb, i0, decide_eq_false s20]; rfl
      rw [if_neg g, b0, if_pos ⟨n0, rfl⟩, vlX_f, i0, j2, vlX_f, vlX_f]
      show _ = Sum.inl (rv s e p 1 / rv s2 e2 r 1)
      congr 1
      have r0 := hr s20
      have q1 := sv_q (e := e - e2) (p := p) r0
      have rr := q_ne r0
      have d0 : p2 e2 ≠ 0 := by have := p2_pos e2; grind
      have z : rv s2 e2 r 1 ≠ 0 := by
        have := sv_pos (e := e2) r0 (show (1 : Nat) ≠ 0 by decide)
        rcases (show s2 = 1 ∨ s2 = -1 by omega) with rfl | rfl
        · rw [rv_1]; grind
        · rw [rv_m]; grind
      apply rat_cn z
      rw [Rat.div_def, Rat.mul_assoc (rv s e p 1), Rat.inv_mul_cancel _ z, Rat.mul_one]
      unfold rv
      rw [sv_1, sv_1, h']
      have pe : p2 e = p2 (e - e2) * p2 e2 := by rw [← p2_add]; congr 1; omega
      have i1 : ((1 : Int) : Rat) = 1 := rfl
      have im : ((-1 : Int) : Rat) = -1 := rfl
      generalize sv (e - e2) p r = V at *
      rcases (show s2 = 1 ∨ s2 = -1 by omega) with rfl | rfl
      · rw [if_neg (by decide), pe, i1]
        calc (s : Rat) * V * (1 * ((r : Rat) * p2 e2)) = (s : Rat) * (V * (r : Rat)) * p2 e2 := by grind
          _ = _ := by rw [q1]; grind
      · rw [if_pos (by decide), pe, im, Rat.intCast_neg]
        calc -(s : Rat) * V * (-1 * ((r : Rat) * p2 e2)) = (s : Rat) * (V * (r : Rat)) * p2 e2 := by grind
          _ = _ := by rw [q1]; grind
theorem p2_pow (e : Int) (n : Nat) : p2 e ^ n = p2 (e * n) := by
  induction n with
  | zero => rw [Rat.pow_zero, show e * ((0 : Nat) : Int) = 0 from Int.mul_zero e, p2_0]
  | succ n ih => rw [Rat.pow_succ, ih, ← p2_add]; congr 1; rw [Int.natCast_add, Int.mul_add]; omega
theorem rt_mpow (a b : Rat) (n : Nat) : (a * b) ^ n = a ^ n * b ^ n := by
  induction n with
  | zero => rw [Rat.pow_zero, Rat.pow_zero, Rat.pow_zero, Rat.one_mul]
  | succ n ih => rw [Rat.pow_succ, Rat.pow_succ, Rat.pow_succ, ih]; grind
theorem sg_pow {s : Int} (hs : s = 1 ∨ s = -1) (n : Nat) : ((s : Int) : Rat) ^ n = (((if (n : Int) % 2 = 0 then 1 else s) : Int) : Rat) := by
  induction n with
  | zero => rw [Rat.pow_zero]; rfl
  | succ n ih =>
    rw [Rat.pow_succ, ih]
    have i1 : ((1 : Int) : Rat) = 1 := rfl
    have im : ((-1 : Int) : Rat) = -1 := rfl
    rcases (show (n : Int) % 2 = 0 ∨ (n : Int) % 2 = 1 by omega) with c | c
    · rw [if_pos c, if_neg (by omega), i1, Rat.one_mul]
    · rw [if_neg (by omega), if_pos (by omega), i1]
      rcases hs with rfl | rfl
      · rw [i1, Rat.one_mul]
      · rw [im]; decide +kernel
theorem rv_pow {s e : Int} {p : Nat} (hs : s = 1 ∨ s = -1) (n : Nat) : rv s e p 1 ^ n = rv (if (n : Int) % 2 = 0 then 1 else s) (e * n) (p ^ n) 1 := by
  unfold rv
  rw [sv_1, sv_1, rt_mpow, rt_mpow, p2_pow, sg_pow hs, Rat.natCast_pow]
theorem rv_inv {s e : Int} {p : Nat} (hs : s = 1 ∨ s = -1) (hp : p ≠ 0) : 1 / rv s e p 1 = rv s (-e) 1 p := by
  have z : rv s e p 1 ≠ 0 := by
    have := sv_pos (e := e) hp (show (1 : Nat) ≠ 0 by decide)
    rcases hs with rfl | rfl
    · rw [rv_1]; grind
    · rw [rv_m]; grind
  apply rat_cn z
  rw [Rat.div_def, Rat.mul_assoc, Rat.inv_mul_cancel _ z, Rat.mul_one]
  unfold rv
  have q1 := sv_q (e := -e) (p := 1) hp
  rw [sv_1]
  have pe : p2 (-e) * p2 e = 1 := by rw [← p2_add, show -e + e = 0 by omega, p2_0]
  have i1 : ((1 : Int) : Rat) = 1 := rfl
  have im : ((-1 : Int) : Rat) = -1 := rfl
  have n1 : ((1 : Nat) : Rat) = 1 := rfl
  rw [n1, Rat.one_mul] at q1
  generalize sv (-e) 1 p = V at *
  rcases hs with rfl | rfl
  · rw [i1]
    calc (1 : Rat) = V * (p : Rat) * p2 e := by rw [q1, pe]
      _ = _ := by grind
  · rw [im]
    calc (1 : Rat) = V * (p : Rat) * p2 e := by rw [q1, pe]
      _ = _ := by grind
section KS
variable {h : xH} {o a b : Nat} {T : Nat × Nat × Nat} {K : xQ} {X Y : vE}
theorem ks_sum (w : reE h o) (v : reP h a X) (u : reP h b Y) (d1 : o + 5 ≤ a ∨ a + 5 ≤ o) (d2 : o + 5 ≤ b ∨ b + 5 ≤ o) (c : ∀ h2, xoff h2 h o (o + 5) → reQ h2 o (adX X Y) 4300 → K none (h2, T)) : rcr h o ∧ C_X8_becomeSum [.ref o, .ref a, .ref b] (h, T) K := by
  obtain ⟨s, e, i, p, v, vi, vp, vn, ve, rfl⟩ := v
  obtain ⟨s2, e2, i2, r, u, ui, up, un, ue, rfl⟩ := u
  have ss := v.2.2.2.1
  have ss2 := u.2.2.2.1
  have z0 : ∀ s e p, (0 : Rat) + rv s e p 1 = rv s e p 1 := fun s e p => Rat.zero_add _
  refine ⟨w.rc, o, a, b, s, e, s2, e2, i, i2, p, 1, r, 1, rfl, d1, d2, w, v, u, fun cA h2 oA n => c h2 oA ⟨s, e, i, p, n, vi, vp, by omega, ve, ?_⟩, fun cA cB h2 oA n => c h2 oA ⟨s2, e2, i2, r, n, ui, up, by omega, ue, ?_⟩, fun cA cB => ?_⟩
  · rw [Bool.or_eq_true, decide_eq_true_iff] at cA
    cases i
    · rcases cA with cA | cA
      · exact absurd cA (by decide)
      · have : i2 = false := by
          cases i2
          · rfl
          · exact absurd cA (ui rfl)
        rw [this, vlX_f, vlX_f, cA, rv_0]
        show Sum.inl (_ + 0) = _
        rw [Rat.add_zero]
    · rw [vlX_t]; rfl
  · rw [Bool.or_eq_false_iff, decide_eq_false_iff_not] at cA
    rw [Bool.or_eq_true, decide_eq_true_iff] at cB
    rw [cA.1, vlX_f]
    cases i2
    · rcases cB with cB | cB
      · exact absurd cB (by decide)
      · rw [vlX_f, cB, rv_0]
        show Sum.inl (0 + _) = _
        rw [Rat.zero_add]
    · rw [vlX_t]; rfl
  · rw [Bool.or_eq_false_iff, decide_eq_false_iff_not] at cA cB
    have m1 : min e e2 ≤ e := Int.min_le_left _ _
    have m2 : min e e2 ≤ e2 := Int.min_le_right _ _
    have b1 : smP e (min e e2) p < 2 ^ 4200 := nb_pw (by omega)
    have b2 : smP e2 (min e e2) r < 2 ^ 4200 := nb_pw (by omega)
    have l : (2 : Nat) ^ 4200 ≤ 2 ^ 6300 := Nat.pow_le_pow_right (by decide) (by decide)
    refine ⟨Nat.lt_of_lt_of_le b1 l, Nat.lt_of_lt_of_le b2 l, fun h2 oA n => c h2 oA ⟨_, _, _, _, n, fun z => absurd z (by decide), fun z y => ?_, Nat.le_trans (sm_nb b1 b2) (by decide), by omega, ?_⟩⟩
    · rw [if_pos y] at z; exact z rfl
    · rw [cA.1, cB.1, vlX_f, vlX_f, vlX_f, sm_val (by omega) (by omega) m1 m2 (vp cB.2)]
      rfl
theorem ks_prod {j k : Int} (w : reE h o) (v : reF h a j) (u : reF h b k) (hj : bF j) (hk : bF k) (d1 : o + 5 ≤ a ∨ a + 5 ≤ o) (d2 : o + 5 ≤ b ∨ b + 5 ≤ o) (c : ∀ h2, xoff h2 h o (o + 5) → reP h2 o (muX (fl j) (fl k)) → K none (h2, T)) : rcr h o ∧ C_X8_becomeProduct [.ref o, .ref a, .ref b] (h, T) K := by
  have f1 := fX_rng j.natAbs
  have f2 := fX_rng k.natAbs
  have p1 := fP_lt j.natAbs
  have p2' := fP_lt k.natAbs
  have pb : fP j.natAbs * fP k.natAbs < 2 ^ 106 := by
    have := Nat.mul_lt_mul_of_lt_of_lt p1 p2'
    rw [← Nat.pow_add] at this
    exact this
  have hj1 := hj.1
  have hj2 := hj.2
  have hk1 := hk.1
  have hk2 := hk.2
  have z1 : decide (j.natAbs = 9218868437227405312) = true → j.sign ≠ 0 := fun z y => by rw [decide_eq_true_iff] at z; rw [sg0] at y; omega
  have z2 : decide (k.natAbs = 9218868437227405312) = true → k.sign ≠ 0 := fun z y => by rw [decide_eq_true_iff] at z; rw [sg0] at y; omega
  have y1 : j.sign ≠ 0 → fP j.natAbs ≠ 0 := fun z => fP_nz hj (fun y => z (by rw [y]; rfl))
  have y2 : k.sign ≠ 0 → fP k.natAbs ≠ 0 := fun z => fP_nz hk (fun y => z (by rw [y]; rfl))
  refine ⟨w.rc, o, a, b, _, _, _, _, _, _, _, _, _, _, _, _, rfl, d1, d2, w, v, u, by omega, Nat.lt_of_lt_of_le pb (Nat.pow_le_pow_right (by decide) (by decide)), fun h2 oA n => c h2 oA ⟨_, _, _, _, n, fun z y => ?_, fun z => ?_, nb_mono_lt pb, by omega, ?_⟩⟩
  · rw [Bool.and_eq_true, decide_eq_true_iff] at z; exact z.1 y
  · exact Nat.mul_ne_zero (y1 (fun y => z (by rw [y]; exact Int.zero_mul _))) (y2 (fun y => z (by rw [y]; exact Int.mul_zero _)))
  · rw [fl_V hj, fl_V hk]
    exact (mu_V (sgn_b j) z1 y1 (sgn_b k) z2 y2).symm
theorem ks_quot {j k : Int} (w : reE h o) (v : reF h a j) (u : reF h b k) (hj : bF j) (hk : bF k) (d1 : o + 5 ≤ a ∨ a + 5 ≤ o) (d2 : o + 5 ≤ b ∨ b + 5 ≤ o) (c : ∀ h2, xoff h2 h o (o + 5) → reX h2 o false (quX (fl j) (fl k)) → K none (h2, T)) : rcr h o ∧ C_X8_becomeQuotient [.ref o, .ref a, .ref b] (h, T) K := by
  have f1 := fX_rng j.natAbs
  have f2 := fX_rng k.natAbs
  have p1 := nb_mono_lt (fP_lt j.natAbs)
  have p2' := nb_mono_lt (fP_lt k.natAbs)
  have hj1 := hj.1
  have hj2 := hj.2
  have hk1 := hk.1
  have hk2 := hk.2
  have z1 : decide (j.natAbs = 9218868437227405312) = true → j.sign ≠ 0 := fun z y => by rw [decide_eq_true_iff] at z; rw [sg0] at y; omega
  have z2 : decide (k.natAbs = 9218868437227405312) = true → k.sign ≠ 0 := fun z y => by rw [decide_eq_true_iff] at z; rw [sg0] at y; omega
  have y1 : j.sign ≠ 0 → fP j.natAbs ≠ 0 := fun z => fP_nz hj (fun y => z (by rw [y]; rfl))
  have y2 : k.sign ≠ 0 → fP k.natAbs ≠ 0 := fun z => fP_nz hk (fun y => z (by rw [y]; rfl))
  have sk := sgn_b k
  refine ⟨w.rc, o, a, b, _, _, _, _, _, _, _, _, _, _, _, _, _, _, rfl, d1, d2, w, v, u, by omega, rfl, rfl, fun h2 oA n => c h2 oA ?_⟩
  have V := qu_V (e := fX j.natAbs) (e2 := fX k.natAbs) (sgn_b j) z1 y1 (sgn_b k) z2 y2 rfl rfl
  rw [← fl_V hj, ← fl_V hk] at V
  generalize hs' : (if decide (k.natAbs = 9218868437227405312) = true then 0 else if k.sign < 0 then -j.sign else j.sign) = s' at *
  generalize hbe : (decide (j.natAbs = 9218868437227405312) || decide (k.sign = 0)) = be at *
  have q0 : (if s' ≠ 0 ∧ be = false then fP k.natAbs else 1) ≠ 0 := by
    split
    · rename_i z
      rw [z.2, Bool.or_eq_false_iff] at hbe
      exact y2 (of_decide_eq_false hbe.2)
    · decide
  have qn : nb (if s' ≠ 0 ∧ be = false then fP k.natAbs else 1) ≤ 53 := by
    split
    · exact p2'
    · rw [nb_1]; decide
  have pn : nb (if s' = 0 then 0 else fP j.natAbs) ≤ 53 := by
    split
    · rw [nb_0]; decide
    · exact p1
  have pz : s' ≠ 0 → (if s' = 0 then 0 else fP j.natAbs) ≠ 0 := fun z => by
    rw [if_neg z]
    apply y1
    intro y
    rw [y] at hs'
    apply z
    rw [← hs']
    split
    · rfl
    · split <;> rfl
  refine ⟨_, _, _, _, _, n, ⟨fun z y => ?_, fun _ z => ⟨pz z, q0, fun _ => by omega, fun z => absurd z (by decide)⟩⟩, by omega, by omega, q0, V.symm⟩
  rw [Bool.and_eq_true, decide_eq_true_iff] at z
  exact z.1 y
theorem pw_V {k n : Int} (hk : bF k) (h0 : n < 0 → k ≠ 0) (z : ¬ (0 < n ∧ k.sign = 0 ∨ n < 0 ∧ decide (k.natAbs = 9218868437227405312) = true)) : vlX (if n % 2 = 0 then 1 else k.sign) (fX k.natAbs * n) (decide (0 < n) && decide (k.natAbs = 9218868437227405312)) (if n < 0 then 1 else fP k.natAbs ^ n.natAbs) (if n < 0 then fP k.natAbs ^ n.natAbs else 1) = pwX k n := by
  have sb := sgn_b k
  have hk1 := hk.1
  have hk2 := hk.2
  have iN1 : iN k = true ↔ k.natAbs = 9218868437227405312 := by
    unfold iN
    rw [decide_eq_true_iff]
    omega
  rcases ilt_ge n 0 with g | g
  · have ki : iN k = false := by
      cases q : iN k
      · rfl
      · exact absurd (Or.inr ⟨g, decide_eq_true (iN1.mp q)⟩) z
    have s0 : k.sign ≠ 0 := by rw [Ne, sg0]; exact h0 g
    have s1 : k.sign = 1 ∨ k.sign = -1 := by omega
    have e0 : pwX k n = .inl (1 / fval k ^ (-n).toNat) := by unfold pwX; rw [if_pos g, if_neg (by rw [ki]; decide)]
    have pz : fP k.natAbs ^ n.natAbs ≠ 0 := Nat.ne_of_gt (Nat.pow_pos (Nat.pos_of_ne_zero (fP_nz hk (h0 g))))
    have e1 : (if ((n.natAbs : Nat) : Int) % 2 = 0 then (1 : Int) else k.sign) = (if n % 2 = 0 then (1 : Int) else k.sign) := by
      rcases (show n % 2 = 0 ∨ n % 2 = 1 by omega) with m | m
      · rw [if_pos m, if_pos (by omega)]
      · rw [if_neg (show ¬ n % 2 = 0 by omega), if_neg (by omega)]
    have e2 : fX k.natAbs * n = -(fX k.natAbs * (n.natAbs : Int)) := by rw [← Int.mul_neg]; congr 1; omega
    rw [e0, decide_eq_false (show ¬ 0 < n by omega), Bool.false_and, vlX_f, if_pos g, if_pos g, ← fv_rv hk, rv_pow s1, show (-n).toNat = n.natAbs by omega, rv_inv (by split <;> omega) pz, e1, ← e2]
  · rcases Decidable.em (n = 0) with q | q
    · subst q
      have e0 : pwX k 0 = .inl 1 := by unfold pwX; rw [if_neg (by decide), if_pos rfl]
      rw [e0, decide_eq_false (show ¬ (0 : Int) < 0 by omega), Bool.false_and, vlX_f, Int.mul_zero]
      show Sum.inl (rv 1 0 (_ ^ 0) 1) = _
      rw [Nat.pow_zero, rv_1, sv_1, p2_0, Rat.mul_one]
      rfl
    · have s0 : k.sign ≠ 0 := fun y => z (Or.inl ⟨by omega, y⟩)
      have s1 : k.sign = 1 ∨ k.sign = -1 := by omega
      rw [if_neg (show ¬ n < 0 by omega), if_neg (show ¬ n < 0 by omega), decide_eq_true (show 0 < n by omega), Bool.true_and]
      rcases Bool.eq_false_or_eq_true (iN k) with y | y
      · rw [pw_i (by omega) y, decide_eq_true (iN1.mp y), vlX_t]
        congr 1
        rcases (show n % 2 = 0 ∨ n % 2 = 1 by omega) with m | m
        · rw [if_pos m, decide_eq_false (by decide), decide_eq_false (by omega)]
        · rw [if_neg (show ¬ n % 2 = 0 by omega)]
          rcases iNt y with e | e <;> subst e
          · rw [decide_eq_false (by decide), decide_eq_false (by omega)]
          · rw [decide_eq_true (by decide), decide_eq_true ⟨by decide, by omega⟩]
      · rw [pw_f (by omega) y, decide_eq_false (fun w => by rw [iN1.mpr w] at y; exact absurd y (by decide)), vlX_f, ← fv_rv hk, rv_pow s1, show n.toNat = n.natAbs by omega]
        congr 2
        · rw [show ((n.natAbs : Nat) : Int) = n by omega]
        · rw [show ((n.natAbs : Nat) : Int) = n by omega]
theorem ks_pow {n k : Int} (w : reE h o) (v : reF h a k) (hk : bF k) (hn : -40 ≤ n ∧ n ≤ 40) (h0 : n < 0 → k ≠ 0) (d1 : o + 5 ≤ a ∨ a + 5 ≤ o) (c : ∀ h2, xoff h2 h o (o + 5) → reX h2 o false (pwX k n) → K none (h2, T)) : rcr h o ∧ C_X8_becomePower [.ref o, .ref a, .int (iZ n)] (h, T) K := by
  have f1 := fX_rng k.natAbs
  have p1 := fP_lt k.natAbs
  have hk1 := hk.1
  have hk2 := hk.2
  have y1 : k ≠ 0 → fP k.natAbs ≠ 0 := fun z => fP_nz hk z
  have iN1 : iN k = true ↔ k.natAbs = 9218868437227405312 := by
    unfold iN
    rw [decide_eq_true_iff]
    omega
  have pn : nb (fP k.natAbs ^ n.natAbs) ≤ 2120 := by
    apply nb_mono_lt
    have a : fP k.natAbs ^ n.natAbs ≤ (2 ^ 53 - 1) ^ n.natAbs := Nat.pow_le_pow_left (by omega) _
    rcases Nat.eq_zero_or_pos n.natAbs with z | z
    · rw [z, Nat.pow_zero]
      exact Nat.lt_of_lt_of_le (show 1 < 2 ^ 1 by decide) (Nat.pow_le_pow_right (by decide) (by decide))
    · have b : (2 ^ 53 - 1) ^ n.natAbs < (2 ^ 53) ^ n.natAbs := Nat.pow_lt_pow_left (by decide) (by omega)
      rw [← Nat.pow_mul] at b
      exact Nat.lt_of_lt_of_le (Nat.lt_of_le_of_lt a b) (Nat.pow_le_pow_right (by decide) (by omega))
  refine ⟨w.rc, o, a, n, _, _, _, _, _, _, rfl, w, d1, v, hn, p1, by omega, fun z h2 oA r => c h2 oA ?_, fun z h2 oA r => c h2 oA ?_⟩
  · have e1 : pwX k n = .inl 0 := by
      unfold pwX
      rcases z with z | z
      · have k0 : k = 0 := sg0.mp z.2
        rw [if_neg (by omega), if_neg (by omega), k0, if_neg (by decide), fval_0, pw_0 (by omega)]
      · rw [if_pos z.1, if_pos (iN1.mpr (of_decide_eq_true z.2))]
    rw [e1]
    exact ⟨_, _, _, _, _, r, ⟨fun z => absurd z (by decide), fun _ z => absurd rfl z⟩, by rw [nb_0]; omega, by rw [nb_1]; omega, by decide, by rw [vlX_f, rv_0]⟩
  · have sg : k.sign ≠ 0 ∨ n = 0 := by
      rcases Decidable.em (n = 0) with q | q
      · exact Or.inr q
      · left
        intro y
        have k0 := sg0.mp y
        rcases ilt_ge n 0 with g | g
        · exact h0 g k0
        · exact z (Or.inl ⟨by omega, y⟩)
    have sb := sgn_b k
    have V := pw_V hk h0 z
    refine ⟨_, _, _, _, _, r, ⟨fun y q => ?_, fun _ y => ⟨?_, ?_, fun _ => ⟨?_, ?_⟩, fun z => absurd z (by decide)⟩⟩, ?_, ?_, ?_, V.symm⟩
    · rw [Bool.and_eq_true, decide_eq_true_iff, decide_eq_true_iff] at y
      have : k.sign ≠ 0 := by rw [Ne, sg0]; omega
      split at q <;> omega
    · split
      · decide
      · rename_i g
        have : fP k.natAbs ^ n.natAbs ≠ 0 := by
          rcases Decidable.em (k = 0) with m | m
          · have : n = 0 := by
              rcases sg with q | q
              · rw [m] at q; exact absurd rfl q
              · exact q
            rw [this]; exact Nat.one_ne_zero
          · exact Nat.ne_of_gt (Nat.pow_pos (Nat.pos_of_ne_zero (y1 m)))
        exact this
    · split
      · rename_i g
        exact Nat.ne_of_gt (Nat.pow_pos (Nat.pos_of_ne_zero (y1 (h0 g))))
      · decide
    · split
      · rw [nb_1]; omega
      · omega
    · split
      · omega
      · rw [nb_1]; omega
    · split
      · rw [nb_1]; omega
      · omega
    · split
      · omega
      · rw [nb_1]; omega
    · split
      · rename_i g
        exact Nat.ne_of_gt (Nat.pow_pos (Nat.pos_of_ne_zero (y1 (h0 g))))
      · decide
end KS
theorem dX2_becomeRanks_0 : decode cX2_becomeRanks 0 = .ok (.aload_n 0, 1) := by decide +kernel
theorem dX2_becomeRanks_1 : decode cX2_becomeRanks 1 = .ok (.getfield 12, 3) := by decide +kernel
theorem dX2_becomeRanks_4 : decode cX2_becomeRanks 4 = .ok (.lload_n 1, 1) := by decide +kernel
theorem dX2_becomeRanks_5 : decode cX2_becomeRanks 5 = .ok (.invokevirtual 86, 3) := by decide +kernel
theorem dX2_becomeRanks_8 : decode cX2_becomeRanks 8 = .ok (.aload_n 0, 1) := by decide +kernel
theorem dX2_becomeRanks_9 : decode cX2_becomeRanks 9 = .ok (.getfield 18, 3) := by decide +kernel
theorem dX2_becomeRanks_12 : decode cX2_becomeRanks 12 = .ok (.lload_n 3, 1) := by decide +kernel
theorem dX2_becomeRanks_13 : decode cX2_becomeRanks 13 = .ok (.invokevirtual 86, 3) := by decide +kernel
theorem dX2_becomeRanks_16 : decode cX2_becomeRanks 16 = .ok (.return_, 1) := by decide +kernel
abbrev r_X2_becomeRanks : Room := { frames := 2, cells := 0, slots := 0, locals := 46 }
abbrev m_X2_becomeRanks : xMd := (cX2_becomeRanks, RX2, 5, none, false, r_X2_becomeRanks)
def b_X2_becomeRanks_0 (Q : xQ) : xK := x_aload 0 <| x_get 3 1 <| x_lload 1 <| x_callv 7 C_X8_becomeRank 2 0 0 <| x_aload 0 <| x_get 3 2 <| x_lload 3 <| x_callv 7 C_X8_becomeRank 2 0 0 <| x_vret Q
theorem s_X2_becomeRanks_0 (G : xG) (l : Launch) (Q : xQ) : xW G l m_X2_becomeRanks xX0 (xPm G Q r_X2_becomeRanks) 0 (b_X2_becomeRanks_0 Q) := xo_aload_n (pc := 0) (i := 0) dX2_becomeRanks_0 rfl <| xo_get (pc := 1) (ci := 3) (i := 1) rfl ok3 (by decide) dX2_becomeRanks_1 kw152 <| xo_lload_n (pc := 4) (i := 1) dX2_becomeRanks_4 rfl <| xo_callV (pc := 5) (np := 1) (ci := 7) rfl (cM_X8_becomeRank G l) dX2_becomeRanks_5 kw473 kw470 kw471 kw472 kw7 (by decide +kernel) (by decide) <| xo_aload_n (pc := 8) (i := 0) dX2_becomeRanks_8 rfl <| xo_get (pc := 9) (ci := 3) (i := 2) rfl ok3 (by decide) dX2_becomeRanks_9 kw157 <| xo_lload_n (pc := 12) (i := 3) dX2_becomeRanks_12 rfl <| xo_callV (pc := 13) (np := 1) (ci := 7) rfl (cM_X8_becomeRank G l) dX2_becomeRanks_13 kw473 kw470 kw471 kw472 kw7 (by decide +kernel) (by decide) <| xo_vret (pc := 16) rfl dX2_becomeRanks_16

def C_X2_becomeRanks : xC := fun av S Q => ∃ (x : Nat) (b : Bool) (j k : Int), av = [.ref (x + 10), .long (lZ j), .long (lZ k)] ∧ enA S.1 x b ∧ bF j ∧ bF k ∧ ∀ h', xoff h' S.1 (x + 11) (x + 21) → enA h' x b → reF h' (x + 11) j → reF h' (x + 16) k → Q none (h', S.2)
theorem reR.E {h : xH} {o : Nat} {s e : Int} {i t : Bool} {p q : Nat} (n : reR h o s e i t p q) : reE h o := ⟨s, e, i, t, p, q, n⟩
theorem cM_X2_becomeRanks (G : xG) (l : Launch) : xM G l yX2_becomeRanks cX2_becomeRanks 5 none r_X2_becomeRanks C_X2_becomeRanks := by
  refine xM_of (fun Q => b_X2_becomeRanks_0 Q) RX2 false (s_X2_becomeRanks_0 G l) (by decide) rfl (by decide) ?_
  rintro av ⟨h, S2⟩ Q ⟨x, b, j, k, rfl, ⟨eo, ⟨n, ex⟩, r1, r2, r3, r4, r5⟩, hj, hk, hQ⟩
  dsimp only at *
  refine ⟨Nat.le_of_ble_eq_true rfl, ?_⟩
  simp only [q_c, x_iload, x_lload, x_aload, q_istore, q_lstore, q_astore, q_astore2, x_iinc, q_iadd, q_isub, q_imul, q_iand, q_ior, q_ixor, q_ladd, q_lsub, q_lmul, q_land, q_lor, q_lxor, q_idiv, q_irem, q_ldiv, q_lrem, q_ineg, q_lneg, q_ishl, q_ishr, q_iushr, q_lshl, q_lshr, q_lushr, q_i2l, q_l2i, q_i2b, q_i2c, q_lcmp, q_if_eq, q_if_ne, q_if_lt, q_if_ge, q_if_gt, q_if_le, q_icmp_eq, q_icmp_ne, q_icmp_lt, q_icmp_ge, q_icmp_gt, q_icmp_le, q_dup, q_pop, q_dup_x1, q_dup2, x_iret, x_zret, x_lret, x_aret, x_vret, x_call, x_callv, x_calli, x_oinit, x_mmax, x_mmin, x_mabs, x_mmaxL, x_mminL, x_mabsL, lg_cmp_ge, lg_cmp_le, lg_cmp_gt, lg_cmp_lt, lg_cmp_eq, xlk, q_xs1, q_xs2, lv_args, Value.category, List.filter_cons, List.filter_nil, Nat.reduceAdd, Nat.reduceBEq, Nat.reduceEqDiff, Nat.reduceSub, Nat.sub_zero, beq_self_eq_true, Bool.not_true, Bool.not_false, Bool.and_true, Bool.and_false, Bool.true_and, Bool.false_and, reduceIte, reduceCtorEq, Bool.false_eq_true, Nat.one_ne_zero, Nat.zero_ne_one, Nat.zero_add, Option.toList_some, Option.toList_none, List.nil_append, List.cons_append, List.take_succ_cons, List.take_zero, List.take_nil, List.drop_succ_cons, List.drop_zero, List.length_cons, List.length_nil, List.reverse_cons, List.reverse_nil, List.head?_cons, List.map_cons, List.map_nil, List.sum_cons, List.sum_nil, true_and, and_true, List.getElem?_cons_zero, List.getElem?_cons_succ, Prod.eta, x_iast, x_bald, x_bast, x_last, x_alen, xup_s, xup_a1, xup_1a, xup_uu, nr_i, nr_l, nr_o, nr_a, ft_i, ft_l, ft_o, ft_a, Nat.reduceLT, i_cl0, i_cl1, i_n1, i_m1, List.set_cons_zero, List.set_cons_succ, Nat.reduceLeDiff, Nat.le_refl, Nat.zero_le, Nat.add_zero, x_no, x_ifnull, x_ifnonnull, x_acmp_eq, x_acmp_ne, x_swl, x_tsw, x_castC, true_or, or_true, nr_z, ft_z, nr_z0, nr_z1, ft_z0, ft_z1, nr_on, nr_an, ft_on, ft_an, b_X2_becomeRanks_0, enO.g0 eo, enO.g1 eo, enO.g2 eo, enO.g3 eo, enO.g4 eo, enO.g5 eo, enO.g6 eo, enO.p0 eo, enO.p0a eo, enO.p0b eo]
  refine kr_rank r1 hj fun h2 oA w1 => ?_
  have eo2 := (oA (x + 10) (by omega)).trans eo
  simp only [q_c, x_iload, x_lload, x_aload, q_istore, q_lstore, q_astore, q_astore2, x_iinc, q_iadd, q_isub, q_imul, q_iand, q_ior, q_ixor, q_ladd, q_lsub, q_lmul, q_land, q_lor, q_lxor, q_idiv, q_irem, q_ldiv, q_lrem, q_ineg, q_lneg, q_ishl, q_ishr, q_iushr, q_lshl, q_lshr, q_lushr, q_i2l, q_l2i, q_i2b, q_i2c, q_lcmp, q_if_eq, q_if_ne, q_if_lt, q_if_ge, q_if_gt, q_if_le, q_icmp_eq, q_icmp_ne, q_icmp_lt, q_icmp_ge, q_icmp_gt, q_icmp_le, q_dup, q_pop, q_dup_x1, q_dup2, x_iret, x_zret, x_lret, x_aret, x_vret, x_call, x_callv, x_calli, x_oinit, x_mmax, x_mmin, x_mabs, x_mmaxL, x_mminL, x_mabsL, lg_cmp_ge, lg_cmp_le, lg_cmp_gt, lg_cmp_lt, lg_cmp_eq, xlk, q_xs1, q_xs2, lv_args, Value.category, List.filter_cons, List.filter_nil, Nat.reduceAdd, Nat.reduceBEq, Nat.reduceEqDiff, Nat.reduceSub, Nat.sub_zero, beq_self_eq_true, Bool.not_true, Bool.not_false, Bool.and_true, Bool.and_false, Bool.true_and, Bool.false_and, reduceIte, reduceCtorEq, Bool.false_eq_true, Nat.one_ne_zero, Nat.zero_ne_one, Nat.zero_add, Option.toList_some, Option.toList_none, List.nil_append, List.cons_append, List.take_succ_cons, List.take_zero, List.take_nil, List.drop_succ_cons, List.drop_zero, List.length_cons, List.length_nil, List.reverse_cons, List.reverse_nil, List.head?_cons, List.map_cons, List.map_nil, List.sum_cons, List.sum_nil, true_and, and_true, List.getElem?_cons_zero, List.getElem?_cons_succ, Prod.eta, x_iast, x_bald, x_bast, x_last, x_alen, xup_s, xup_a1, xup_1a, xup_uu, nr_i, nr_l, nr_o, nr_a, ft_i, ft_l, ft_o, ft_a, Nat.reduceLT, i_cl0, i_cl1, i_n1, i_m1, List.set_cons_zero, List.set_cons_succ, Nat.reduceLeDiff, Nat.le_refl, Nat.zero_le, Nat.add_zero, x_no, x_ifnull, x_ifnonnull, x_acmp_eq, x_acmp_ne, x_swl, x_tsw, x_castC, true_or, or_true, nr_z, ft_z, nr_z0, nr_z1, ft_z0, ft_z1, nr_on, nr_an, ft_on, ft_an, enO.g0 eo2, enO.g1 eo2, enO.g2 eo2, enO.g3 eo2, enO.g4 eo2, enO.g5 eo2, enO.g6 eo2, enO.p0 eo2, enO.p0a eo2, enO.p0b eo2]
  refine kr_rank (r2.off oA (by omega)) hk fun h3 oB w2 => ?_
  try simp only [q_c, x_iload, x_lload, x_aload, q_istore, q_lstore, q_astore, q_astore2, x_iinc, q_iadd, q_isub, q_imul, q_iand, q_ior, q_ixor, q_ladd, q_lsub, q_lmul, q_land, q_lor, q_lxor, q_idiv, q_irem, q_ldiv, q_lrem, q_ineg, q_lneg, q_ishl, q_ishr, q_iushr, q_lshl, q_lshr, q_lushr, q_i2l, q_l2i, q_i2b, q_i2c, q_lcmp, q_if_eq, q_if_ne, q_if_lt, q_if_ge, q_if_gt, q_if_le, q_icmp_eq, q_icmp_ne, q_icmp_lt, q_icmp_ge, q_icmp_gt, q_icmp_le, q_dup, q_pop, q_dup_x1, q_dup2, x_iret, x_zret, x_lret, x_aret, x_vret, x_call, x_callv, x_calli, x_oinit, x_mmax, x_mmin, x_mabs, x_mmaxL, x_mminL, x_mabsL, lg_cmp_ge, lg_cmp_le, lg_cmp_gt, lg_cmp_lt, lg_cmp_eq, xlk, q_xs1, q_xs2, lv_args, Value.category, List.filter_cons, List.filter_nil, Nat.reduceAdd, Nat.reduceBEq, Nat.reduceEqDiff, Nat.reduceSub, Nat.sub_zero, beq_self_eq_true, Bool.not_true, Bool.not_false, Bool.and_true, Bool.and_false, Bool.true_and, Bool.false_and, reduceIte, reduceCtorEq, Bool.false_eq_true, Nat.one_ne_zero, Nat.zero_ne_one, Nat.zero_add, Option.toList_some, Option.toList_none, List.nil_append, List.cons_append, List.take_succ_cons, List.take_zero, List.take_nil, List.drop_succ_cons, List.drop_zero, List.length_cons, List.length_nil, List.reverse_cons, List.reverse_nil, List.head?_cons, List.map_cons, List.map_nil, List.sum_cons, List.sum_nil, true_and, and_true, List.getElem?_cons_zero, List.getElem?_cons_succ, Prod.eta, x_iast, x_bald, x_bast, x_last, x_alen, xup_s, xup_a1, xup_1a, xup_uu, nr_i, nr_l, nr_o, nr_a, ft_i, ft_l, ft_o, ft_a, Nat.reduceLT, i_cl0, i_cl1, i_n1, i_m1, List.set_cons_zero, List.set_cons_succ, Nat.reduceLeDiff, Nat.le_refl, Nat.zero_le, Nat.add_zero, x_no, x_ifnull, x_ifnonnull, x_acmp_eq, x_acmp_ne, x_swl, x_tsw, x_castC, true_or, or_true, nr_z, ft_z, nr_z0, nr_z1, ft_z0, ft_z1, nr_on, nr_an, ft_on, ft_an]
  have w1' := w1.off oB (by omega)
  have of : xoff h3 h (x + 11) (x + 21) := fun z hz => (oB z (by omega)).trans (oA z (by omega))
  exact hQ h3 of ⟨(oB _ (by omega)).trans eo2, ⟨n, ex.off of (by omega)⟩, w1'.E, w2.E, r3.off of (by omega), r4.off of (by omega), r5.off of (by omega)⟩ w1' w2
section KN
variable {h : xH} {x o : Nat} {b : Bool} {T : Nat × Nat × Nat} {K : xQ} {X Y : vE} {j k : Int}
theorem kn_ranks (w : enA h x b) (hj : bF j) (hk : bF k) (c : ∀ h2, xoff h2 h (x + 11) (x + 21) → enA h2 x b → reF h2 (x + 11) j → reF h2 (x + 16) k → K none (h2, T)) : rcn h x ∧ C_X2_becomeRanks [.ref (x + 10), .long (lZ j), .long (lZ k)] (h, T) K := ⟨w.rc, x, b, j, k, rfl, w, hj, hk, c⟩
end KN
theorem dX2_sum_0 : decode cX2_sum 0 = .ok (.aload_n 0, 1) := by decide +kernel
theorem dX2_sum_1 : decode cX2_sum 1 = .ok (.getfield 21, 3) := by decide +kernel
theorem dX2_sum_4 : decode cX2_sum 4 = .ok (.lload_n 2, 1) := by decide +kernel
theorem dX2_sum_5 : decode cX2_sum 5 = .ok (.invokevirtual 86, 3) := by decide +kernel
theorem dX2_sum_8 : decode cX2_sum 8 = .ok (.aload_n 0, 1) := by decide +kernel
theorem dX2_sum_9 : decode cX2_sum 9 = .ok (.getfield 24, 3) := by decide +kernel
theorem dX2_sum_12 : decode cX2_sum 12 = .ok (.lload 4, 2) := by decide +kernel
theorem dX2_sum_14 : decode cX2_sum 14 = .ok (.invokevirtual 86, 3) := by decide +kernel
theorem dX2_sum_17 : decode cX2_sum 17 = .ok (.aload_n 1, 1) := by decide +kernel
theorem dX2_sum_18 : decode cX2_sum 18 = .ok (.aload_n 0, 1) := by decide +kernel
theorem dX2_sum_19 : decode cX2_sum 19 = .ok (.getfield 21, 3) := by decide +kernel
theorem dX2_sum_22 : decode cX2_sum 22 = .ok (.aload_n 0, 1) := by decide +kernel
theorem dX2_sum_23 : decode cX2_sum 23 = .ok (.getfield 24, 3) := by decide +kernel
theorem dX2_sum_26 : decode cX2_sum 26 = .ok (.invokevirtual 90, 3) := by decide +kernel
theorem dX2_sum_29 : decode cX2_sum 29 = .ok (.return_, 1) := by decide +kernel
abbrev r_X2_sum : Room := { frames := 3, cells := 0, slots := 0, locals := 73 }
abbrev m_X2_sum : xMd := (cX2_sum, RX2, 6, none, false, r_X2_sum)
def b_X2_sum_0 (Q : xQ) : xK := x_aload 0 <| x_get 3 3 <| x_lload 2 <| x_callv 7 C_X8_becomeRank 2 0 0 <| x_aload 0 <| x_get 3 4 <| x_lload 4 <| x_callv 7 C_X8_becomeRank 2 0 0 <| x_aload 1 <| x_aload 0 <| x_get 3 3 <| x_aload 0 <| x_get 3 4 <| x_callv 7 C_X8_becomeSum 3 0 0 <| x_vret Q
theorem s_X2_sum_0 (G : xG) (l : Launch) (Q : xQ) : xW G l m_X2_sum xX0 (xPm G Q r_X2_sum) 0 (b_X2_sum_0 Q) := xo_aload_n (pc := 0) (i := 0) dX2_sum_0 rfl <| xo_get (pc := 1) (ci := 3) (i := 3) rfl ok3 (by decide) dX2_sum_1 kw161 <| xo_lload_n (pc := 4) (i := 2) dX2_sum_4 rfl <| xo_callV (pc := 5) (np := 1) (ci := 7) rfl (cM_X8_becomeRank G l) dX2_sum_5 kw473 kw470 kw471 kw472 kw7 (by decide +kernel) (by decide) <| xo_aload_n (pc := 8) (i := 0) dX2_sum_8 rfl <| xo_get (pc := 9) (ci := 3) (i := 4) rfl ok3 (by decide) dX2_sum_9 kw163 <| xo_lload (pc := 12) (i := 4) dX2_sum_12 <| xo_callV (pc := 14) (np := 1) (ci := 7) rfl (cM_X8_becomeRank G l) dX2_sum_14 kw473 kw470 kw471 kw472 kw7 (by decide +kernel) (by decide) <| xo_aload_n (pc := 17) (i := 1) dX2_sum_17 rfl <| xo_aload_n (pc := 18) (i := 0) dX2_sum_18 rfl <| xo_get (pc := 19) (ci := 3) (i := 3) rfl ok3 (by decide) dX2_sum_19 kw161 <| xo_aload_n (pc := 22) (i := 0) dX2_sum_22 rfl <| xo_get (pc := 23) (ci := 3) (i := 4) rfl ok3 (by decide) dX2_sum_23 kw163 <| xo_callV (pc := 26) (np := 2) (ci := 7) rfl (cM_X8_becomeSum G l) dX2_sum_26 kw577 kw853 kw575 kw576 kw7 (by decide +kernel) (by decide) <| xo_vret (pc := 29) rfl dX2_sum_29

def C_X2_sum : xC := fun av S Q => ∃ (x o : Nat) (b : Bool) (j k : Int), av = [.ref (x + 10), .ref o, .long (lZ j), .long (lZ k)] ∧ enA S.1 x b ∧ (o = x + 11 ∨ o = x + 16) ∧ bF j ∧ bF k ∧ ∀ h', xoff2 h' S.1 o (o + 5) (x + 21) (x + 31) → enA h' x b → reQ h' o (adX (fl j) (fl k)) 4300 → Q none (h', S.2)
theorem cM_X2_sum (G : xG) (l : Launch) : xM G l yX2_sum cX2_sum 6 none r_X2_sum C_X2_sum := by
  refine xM_of (fun Q => b_X2_sum_0 Q) RX2 false (s_X2_sum_0 G l) (by decide) rfl (by decide) ?_
  rintro av ⟨h, S2⟩ Q ⟨x, o, b, j, k, rfl, ⟨eo, ⟨n, ex⟩, r1, r2, r3, r4, r5⟩, ho, hj, hk, hQ⟩
  dsimp only at *
  refine ⟨Nat.le_of_ble_eq_true rfl, ?_⟩
  have ro : reE h o := by rcases ho with rfl | rfl <;> assumption
  simp only [q_c, x_iload, x_lload, x_aload, q_istore, q_lstore, q_astore, q_astore2, x_iinc, q_iadd, q_isub, q_imul, q_iand, q_ior, q_ixor, q_ladd, q_lsub, q_lmul, q_land, q_lor, q_lxor, q_idiv, q_irem, q_ldiv, q_lrem, q_ineg, q_lneg, q_ishl, q_ishr, q_iushr, q_lshl, q_lshr, q_lushr, q_i2l, q_l2i, q_i2b, q_i2c, q_lcmp, q_if_eq, q_if_ne, q_if_lt, q_if_ge, q_if_gt, q_if_le, q_icmp_eq, q_icmp_ne, q_icmp_lt, q_icmp_ge, q_icmp_gt, q_icmp_le, q_dup, q_pop, q_dup_x1, q_dup2, x_iret, x_zret, x_lret, x_aret, x_vret, x_call, x_callv, x_calli, x_oinit, x_mmax, x_mmin, x_mabs, x_mmaxL, x_mminL, x_mabsL, lg_cmp_ge, lg_cmp_le, lg_cmp_gt, lg_cmp_lt, lg_cmp_eq, xlk, q_xs1, q_xs2, lv_args, Value.category, List.filter_cons, List.filter_nil, Nat.reduceAdd, Nat.reduceBEq, Nat.reduceEqDiff, Nat.reduceSub, Nat.sub_zero, beq_self_eq_true, Bool.not_true, Bool.not_false, Bool.and_true, Bool.and_false, Bool.true_and, Bool.false_and, reduceIte, reduceCtorEq, Bool.false_eq_true, Nat.one_ne_zero, Nat.zero_ne_one, Nat.zero_add, Option.toList_some, Option.toList_none, List.nil_append, List.cons_append, List.take_succ_cons, List.take_zero, List.take_nil, List.drop_succ_cons, List.drop_zero, List.length_cons, List.length_nil, List.reverse_cons, List.reverse_nil, List.head?_cons, List.map_cons, List.map_nil, List.sum_cons, List.sum_nil, true_and, and_true, List.getElem?_cons_zero, List.getElem?_cons_succ, Prod.eta, x_iast, x_bald, x_bast, x_last, x_alen, xup_s, xup_a1, xup_1a, xup_uu, nr_i, nr_l, nr_o, nr_a, ft_i, ft_l, ft_o, ft_a, Nat.reduceLT, i_cl0, i_cl1, i_n1, i_m1, List.set_cons_zero, List.set_cons_succ, Nat.reduceLeDiff, Nat.le_refl, Nat.zero_le, Nat.add_zero, x_no, x_ifnull, x_ifnonnull, x_acmp_eq, x_acmp_ne, x_swl, x_tsw, x_castC, true_or, or_true, nr_z, ft_z, nr_z0, nr_z1, ft_z0, ft_z1, nr_on, nr_an, ft_on, ft_an, b_X2_sum_0, enO.g0 eo, enO.g1 eo, enO.g2 eo, enO.g3 eo, enO.g4 eo, enO.g5 eo, enO.g6 eo, enO.p0 eo, enO.p0a eo, enO.p0b eo]
  refine kr_rank r3 hj fun h2 oA w1 => ?_
  have eo2 := (oA (x + 10) (by omega)).trans eo
  simp only [q_c, x_iload, x_lload, x_aload, q_istore, q_lstore, q_astore, q_astore2, x_iinc, q_iadd, q_isub, q_imul, q_iand, q_ior, q_ixor, q_ladd, q_lsub, q_lmul, q_land, q_lor, q_lxor, q_idiv, q_irem, q_ldiv, q_lrem, q_ineg, q_lneg, q_ishl, q_ishr, q_iushr, q_lshl, q_lshr, q_lushr, q_i2l, q_l2i, q_i2b, q_i2c, q_lcmp, q_if_eq, q_if_ne, q_if_lt, q_if_ge, q_if_gt, q_if_le, q_icmp_eq, q_icmp_ne, q_icmp_lt, q_icmp_ge, q_icmp_gt, q_icmp_le, q_dup, q_pop, q_dup_x1, q_dup2, x_iret, x_zret, x_lret, x_aret, x_vret, x_call, x_callv, x_calli, x_oinit, x_mmax, x_mmin, x_mabs, x_mmaxL, x_mminL, x_mabsL, lg_cmp_ge, lg_cmp_le, lg_cmp_gt, lg_cmp_lt, lg_cmp_eq, xlk, q_xs1, q_xs2, lv_args, Value.category, List.filter_cons, List.filter_nil, Nat.reduceAdd, Nat.reduceBEq, Nat.reduceEqDiff, Nat.reduceSub, Nat.sub_zero, beq_self_eq_true, Bool.not_true, Bool.not_false, Bool.and_true, Bool.and_false, Bool.true_and, Bool.false_and, reduceIte, reduceCtorEq, Bool.false_eq_true, Nat.one_ne_zero, Nat.zero_ne_one, Nat.zero_add, Option.toList_some, Option.toList_none, List.nil_append, List.cons_append, List.take_succ_cons, List.take_zero, List.take_nil, List.drop_succ_cons, List.drop_zero, List.length_cons, List.length_nil, List.reverse_cons, List.reverse_nil, List.head?_cons, List.map_cons, List.map_nil, List.sum_cons, List.sum_nil, true_and, and_true, List.getElem?_cons_zero, List.getElem?_cons_succ, Prod.eta, x_iast, x_bald, x_bast, x_last, x_alen, xup_s, xup_a1, xup_1a, xup_uu, nr_i, nr_l, nr_o, nr_a, ft_i, ft_l, ft_o, ft_a, Nat.reduceLT, i_cl0, i_cl1, i_n1, i_m1, List.set_cons_zero, List.set_cons_succ, Nat.reduceLeDiff, Nat.le_refl, Nat.zero_le, Nat.add_zero, x_no, x_ifnull, x_ifnonnull, x_acmp_eq, x_acmp_ne, x_swl, x_tsw, x_castC, true_or, or_true, nr_z, ft_z, nr_z0, nr_z1, ft_z0, ft_z1, nr_on, nr_an, ft_on, ft_an, enO.g0 eo2, enO.g1 eo2, enO.g2 eo2, enO.g3 eo2, enO.g4 eo2, enO.g5 eo2, enO.g6 eo2, enO.p0 eo2, enO.p0a eo2, enO.p0b eo2]
  refine kr_rank (r4.off oA (by omega)) hk fun h3 oB w2 => ?_
  have eo3 := (oB (x + 10) (by omega)).trans eo2
  have w1' := w1.off oB (by omega)
  simp only [q_c, x_iload, x_lload, x_aload, q_istore, q_lstore, q_astore, q_astore2, x_iinc, q_iadd, q_isub, q_imul, q_iand, q_ior, q_ixor, q_ladd, q_lsub, q_lmul, q_land, q_lor, q_lxor, q_idiv, q_irem, q_ldiv, q_lrem, q_ineg, q_lneg, q_ishl, q_ishr, q_iushr, q_lshl, q_lshr, q_lushr, q_i2l, q_l2i, q_i2b, q_i2c, q_lcmp, q_if_eq, q_if_ne, q_if_lt, q_if_ge, q_if_gt, q_if_le, q_icmp_eq, q_icmp_ne, q_icmp_lt, q_icmp_ge, q_icmp_gt, q_icmp_le, q_dup, q_pop, q_dup_x1, q_dup2, x_iret, x_zret, x_lret, x_aret, x_vret, x_call, x_callv, x_calli, x_oinit, x_mmax, x_mmin, x_mabs, x_mmaxL, x_mminL, x_mabsL, lg_cmp_ge, lg_cmp_le, lg_cmp_gt, lg_cmp_lt, lg_cmp_eq, xlk, q_xs1, q_xs2, lv_args, Value.category, List.filter_cons, List.filter_nil, Nat.reduceAdd, Nat.reduceBEq, Nat.reduceEqDiff, Nat.reduceSub, Nat.sub_zero, beq_self_eq_true, Bool.not_true, Bool.not_false, Bool.and_true, Bool.and_false, Bool.true_and, Bool.false_and, reduceIte, reduceCtorEq, Bool.false_eq_true, Nat.one_ne_zero, Nat.zero_ne_one, Nat.zero_add, Option.toList_some, Option.toList_none, List.nil_append, List.cons_append, List.take_succ_cons, List.take_zero, List.take_nil, List.drop_succ_cons, List.drop_zero, List.length_cons, List.length_nil, List.reverse_cons, List.reverse_nil, List.head?_cons, List.map_cons, List.map_nil, List.sum_cons, List.sum_nil, true_and, and_true, List.getElem?_cons_zero, List.getElem?_cons_succ, Prod.eta, x_iast, x_bald, x_bast, x_last, x_alen, xup_s, xup_a1, xup_1a, xup_uu, nr_i, nr_l, nr_o, nr_a, ft_i, ft_l, ft_o, ft_a, Nat.reduceLT, i_cl0, i_cl1, i_n1, i_m1, List.set_cons_zero, List.set_cons_succ, Nat.reduceLeDiff, Nat.le_refl, Nat.zero_le, Nat.add_zero, x_no, x_ifnull, x_ifnonnull, x_acmp_eq, x_acmp_ne, x_swl, x_tsw, x_castC, true_or, or_true, nr_z, ft_z, nr_z0, nr_z1, ft_z0, ft_z1, nr_on, nr_an, ft_on, ft_an, enO.g0 eo3, enO.g1 eo3, enO.g2 eo3, enO.g3 eo3, enO.g4 eo3, enO.g5 eo3, enO.g6 eo3, enO.p0 eo3, enO.p0a eo3, enO.p0b eo3]
  refine ks_sum ((ro.off oA (by omega)).off oB (by omega)) (reF.P w1' hj) (reF.P w2 hk) (by omega) (by omega) fun h4 oC r => ?_
  try simp only [q_c, x_iload, x_lload, x_aload, q_istore, q_lstore, q_astore, q_astore2, x_iinc, q_iadd, q_isub, q_imul, q_iand, q_ior, q_ixor, q_ladd, q_lsub, q_lmul, q_land, q_lor, q_lxor, q_idiv, q_irem, q_ldiv, q_lrem, q_ineg, q_lneg, q_ishl, q_ishr, q_iushr, q_lshl, q_lshr, q_lushr, q_i2l, q_l2i, q_i2b, q_i2c, q_lcmp, q_if_eq, q_if_ne, q_if_lt, q_if_ge, q_if_gt, q_if_le, q_icmp_eq, q_icmp_ne, q_icmp_lt, q_icmp_ge, q_icmp_gt, q_icmp_le, q_dup, q_pop, q_dup_x1, q_dup2, x_iret, x_zret, x_lret, x_aret, x_vret, x_call, x_callv, x_calli, x_oinit, x_mmax, x_mmin, x_mabs, x_mmaxL, x_mminL, x_mabsL, lg_cmp_ge, lg_cmp_le, lg_cmp_gt, lg_cmp_lt, lg_cmp_eq, xlk, q_xs1, q_xs2, lv_args, Value.category, List.filter_cons, List.filter_nil, Nat.reduceAdd, Nat.reduceBEq, Nat.reduceEqDiff, Nat.reduceSub, Nat.sub_zero, beq_self_eq_true, Bool.not_true, Bool.not_false, Bool.and_true, Bool.and_false, Bool.true_and, Bool.false_and, reduceIte, reduceCtorEq, Bool.false_eq_true, Nat.one_ne_zero, Nat.zero_ne_one, Nat.zero_add, Option.toList_some, Option.toList_none, List.nil_append, List.cons_append, List.take_succ_cons, List.take_zero, List.take_nil, List.drop_succ_cons, List.drop_zero, List.length_cons, List.length_nil, List.reverse_cons, List.reverse_nil, List.head?_cons, List.map_cons, List.map_nil, List.sum_cons, List.sum_nil, true_and, and_true, List.getElem?_cons_zero, List.getElem?_cons_succ, Prod.eta, x_iast, x_bald, x_bast, x_last, x_alen, xup_s, xup_a1, xup_1a, xup_uu, nr_i, nr_l, nr_o, nr_a, ft_i, ft_l, ft_o, ft_a, Nat.reduceLT, i_cl0, i_cl1, i_n1, i_m1, List.set_cons_zero, List.set_cons_succ, Nat.reduceLeDiff, Nat.le_refl, Nat.zero_le, Nat.add_zero, x_no, x_ifnull, x_ifnonnull, x_acmp_eq, x_acmp_ne, x_swl, x_tsw, x_castC, true_or, or_true, nr_z, ft_z, nr_z0, nr_z1, ft_z0, ft_z1, nr_on, nr_an, ft_on, ft_an]
  have of : xoff h4 h (x + 11) (x + 31) := fun z hz => (oC z (by omega)).trans ((oB z (by omega)).trans (oA z (by omega)))
  have re : ∀ o', (o' = x + 11 ∨ o' = x + 16) → reE h o' → reE h4 o' := by
    intro o' ho' ro'
    rcases Decidable.em (o' = o) with e | e
    · rw [e]; exact r.E
    · exact ((ro'.off oA (by omega)).off oB (by omega)).off oC (by omega)
  exact hQ h4 (fun z h1 h2 => (oC z (by omega)).trans ((oB z (by omega)).trans (oA z (by omega)))) ⟨(oC _ (by omega)).trans eo3, ⟨n, ex.off of (by omega)⟩, re _ (Or.inl rfl) r1, re _ (Or.inr rfl) r2, (w1'.off oC (by omega)).E, (w2.off oC (by omega)).E, r5.off of (by omega)⟩ r
theorem dX2_quotient_0 : decode cX2_quotient 0 = .ok (.aload_n 0, 1) := by decide +kernel
theorem dX2_quotient_1 : decode cX2_quotient 1 = .ok (.getfield 21, 3) := by decide +kernel
theorem dX2_quotient_4 : decode cX2_quotient 4 = .ok (.lload_n 2, 1) := by decide +kernel
theorem dX2_quotient_5 : decode cX2_quotient 5 = .ok (.invokevirtual 86, 3) := by decide +kernel
theorem dX2_quotient_8 : decode cX2_quotient 8 = .ok (.aload_n 0, 1) := by decide +kernel
theorem dX2_quotient_9 : decode cX2_quotient 9 = .ok (.getfield 24, 3) := by decide +kernel
theorem dX2_quotient_12 : decode cX2_quotient 12 = .ok (.lload 4, 2) := by decide +kernel
theorem dX2_quotient_14 : decode cX2_quotient 14 = .ok (.invokevirtual 86, 3) := by decide +kernel
theorem dX2_quotient_17 : decode cX2_quotient 17 = .ok (.aload_n 1, 1) := by decide +kernel
theorem dX2_quotient_18 : decode cX2_quotient 18 = .ok (.aload_n 0, 1) := by decide +kernel
theorem dX2_quotient_19 : decode cX2_quotient 19 = .ok (.getfield 21, 3) := by decide +kernel
theorem dX2_quotient_22 : decode cX2_quotient 22 = .ok (.aload_n 0, 1) := by decide +kernel
theorem dX2_quotient_23 : decode cX2_quotient 23 = .ok (.getfield 24, 3) := by decide +kernel
theorem dX2_quotient_26 : decode cX2_quotient 26 = .ok (.invokevirtual 94, 3) := by decide +kernel
theorem dX2_quotient_29 : decode cX2_quotient 29 = .ok (.return_, 1) := by decide +kernel
abbrev r_X2_quotient : Room := { frames := 3, cells := 0, slots := 0, locals := 67 }
abbrev m_X2_quotient : xMd := (cX2_quotient, RX2, 6, none, false, r_X2_quotient)
def b_X2_quotient_0 (Q : xQ) : xK := x_aload 0 <| x_get 3 3 <| x_lload 2 <| x_callv 7 C_X8_becomeRank 2 0 0 <| x_aload 0 <| x_get 3 4 <| x_lload 4 <| x_callv 7 C_X8_becomeRank 2 0 0 <| x_aload 1 <| x_aload 0 <| x_get 3 3 <| x_aload 0 <| x_get 3 4 <| x_callv 7 C_X8_becomeQuotient 3 0 0 <| x_vret Q
theorem s_X2_quotient_0 (G : xG) (l : Launch) (Q : xQ) : xW G l m_X2_quotient xX0 (xPm G Q r_X2_quotient) 0 (b_X2_quotient_0 Q) := xo_aload_n (pc := 0) (i := 0) dX2_quotient_0 rfl <| xo_get (pc := 1) (ci := 3) (i := 3) rfl ok3 (by decide) dX2_quotient_1 kw161 <| xo_lload_n (pc := 4) (i := 2) dX2_quotient_4 rfl <| xo_callV (pc := 5) (np := 1) (ci := 7) rfl (cM_X8_becomeRank G l) dX2_quotient_5 kw473 kw470 kw471 kw472 kw7 (by decide +kernel) (by decide) <| xo_aload_n (pc := 8) (i := 0) dX2_quotient_8 rfl <| xo_get (pc := 9) (ci := 3) (i := 4) rfl ok3 (by decide) dX2_quotient_9 kw163 <| xo_lload (pc := 12) (i := 4) dX2_quotient_12 <| xo_callV (pc := 14) (np := 1) (ci := 7) rfl (cM_X8_becomeRank G l) dX2_quotient_14 kw473 kw470 kw471 kw472 kw7 (by decide +kernel) (by decide) <| xo_aload_n (pc := 17) (i := 1) dX2_quotient_17 rfl <| xo_aload_n (pc := 18) (i := 0) dX2_quotient_18 rfl <| xo_get (pc := 19) (ci := 3) (i := 3) rfl ok3 (by decide) dX2_quotient_19 kw161 <| xo_aload_n (pc := 22) (i := 0) dX2_quotient_22 rfl <| xo_get (pc := 23) (ci := 3) (i := 4) rfl ok3 (by decide) dX2_quotient_23 kw163 <| xo_callV (pc := 26) (np := 2) (ci := 7) rfl (cM_X8_becomeQuotient G l) dX2_quotient_26 kw871 kw868 kw869 kw870 kw7 (by decide +kernel) (by decide) <| xo_vret (pc := 29) rfl dX2_quotient_29

def C_X2_quotient : xC := fun av S Q => ∃ (x o : Nat) (b : Bool) (j k : Int), av = [.ref (x + 10), .ref o, .long (lZ j), .long (lZ k)] ∧ enA S.1 x b ∧ (o = x + 11 ∨ o = x + 16) ∧ bF j ∧ bF k ∧ ∀ h', xoff2 h' S.1 o (o + 5) (x + 21) (x + 31) → enA h' x b → reX h' o false (quX (fl j) (fl k)) → Q none (h', S.2)
theorem cM_X2_quotient (G : xG) (l : Launch) : xM G l yX2_quotient cX2_quotient 6 none r_X2_quotient C_X2_quotient := by
  refine xM_of (fun Q => b_X2_quotient_0 Q) RX2 false (s_X2_quotient_0 G l) (by decide) rfl (by decide) ?_
  rintro av ⟨h, S2⟩ Q ⟨x, o, b, j, k, rfl, ⟨eo, ⟨n, ex⟩, r1, r2, r3, r4, r5⟩, ho, hj, hk, hQ⟩
  dsimp only at *
  refine ⟨Nat.le_of_ble_eq_true rfl, ?_⟩
  have ro : reE h o := by rcases ho with rfl | rfl <;> assumption
  simp only [q_c, x_iload, x_lload, x_aload, q_istore, q_lstore, q_astore, q_astore2, x_iinc, q_iadd, q_isub, q_imul, q_iand, q_ior, q_ixor, q_ladd, q_lsub, q_lmul, q_land, q_lor, q_lxor, q_idiv, q_irem, q_ldiv, q_lrem, q_ineg, q_lneg, q_ishl, q_ishr, q_iushr, q_lshl, q_lshr, q_lushr, q_i2l, q_l2i, q_i2b, q_i2c, q_lcmp, q_if_eq, q_if_ne, q_if_lt, q_if_ge, q_if_gt, q_if_le, q_icmp_eq, q_icmp_ne, q_icmp_lt, q_icmp_ge, q_icmp_gt, q_icmp_le, q_dup, q_pop, q_dup_x1, q_dup2, x_iret, x_zret, x_lret, x_aret, x_vret, x_call, x_callv, x_calli, x_oinit, x_mmax, x_mmin, x_mabs, x_mmaxL, x_mminL, x_mabsL, lg_cmp_ge, lg_cmp_le, lg_cmp_gt, lg_cmp_lt, lg_cmp_eq, xlk, q_xs1, q_xs2, lv_args, Value.category, List.filter_cons, List.filter_nil, Nat.reduceAdd, Nat.reduceBEq, Nat.reduceEqDiff, Nat.reduceSub, Nat.sub_zero, beq_self_eq_true, Bool.not_true, Bool.not_false, Bool.and_true, Bool.and_false, Bool.true_and, Bool.false_and, reduceIte, reduceCtorEq, Bool.false_eq_true, Nat.one_ne_zero, Nat.zero_ne_one, Nat.zero_add, Option.toList_some, Option.toList_none, List.nil_append, List.cons_append, List.take_succ_cons, List.take_zero, List.take_nil, List.drop_succ_cons, List.drop_zero, List.length_cons, List.length_nil, List.reverse_cons, List.reverse_nil, List.head?_cons, List.map_cons, List.map_nil, List.sum_cons, List.sum_nil, true_and, and_true, List.getElem?_cons_zero, List.getElem?_cons_succ, Prod.eta, x_iast, x_bald, x_bast, x_last, x_alen, xup_s, xup_a1, xup_1a, xup_uu, nr_i, nr_l, nr_o, nr_a, ft_i, ft_l, ft_o, ft_a, Nat.reduceLT, i_cl0, i_cl1, i_n1, i_m1, List.set_cons_zero, List.set_cons_succ, Nat.reduceLeDiff, Nat.le_refl, Nat.zero_le, Nat.add_zero, x_no, x_ifnull, x_ifnonnull, x_acmp_eq, x_acmp_ne, x_swl, x_tsw, x_castC, true_or, or_true, nr_z, ft_z, nr_z0, nr_z1, ft_z0, ft_z1, nr_on, nr_an, ft_on, ft_an, b_X2_quotient_0, enO.g0 eo, enO.g1 eo, enO.g2 eo, enO.g3 eo, enO.g4 eo, enO.g5 eo, enO.g6 eo, enO.p0 eo, enO.p0a eo, enO.p0b eo]
  refine kr_rank r3 hj fun h2 oA w1 => ?_
  have eo2 := (oA (x + 10) (by omega)).trans eo
  simp only [q_c, x_iload, x_lload, x_aload, q_istore, q_lstore, q_astore, q_astore2, x_iinc, q_iadd, q_isub, q_imul, q_iand, q_ior, q_ixor, q_ladd, q_lsub, q_lmul, q_land, q_lor, q_lxor, q_idiv, q_irem, q_ldiv, q_lrem, q_ineg, q_lneg, q_ishl, q_ishr, q_iushr, q_lshl, q_lshr, q_lushr, q_i2l, q_l2i, q_i2b, q_i2c, q_lcmp, q_if_eq, q_if_ne, q_if_lt, q_if_ge, q_if_gt, q_if_le, q_icmp_eq, q_icmp_ne, q_icmp_lt, q_icmp_ge, q_icmp_gt, q_icmp_le, q_dup, q_pop, q_dup_x1, q_dup2, x_iret, x_zret, x_lret, x_aret, x_vret, x_call, x_callv, x_calli, x_oinit, x_mmax, x_mmin, x_mabs, x_mmaxL, x_mminL, x_mabsL, lg_cmp_ge, lg_cmp_le, lg_cmp_gt, lg_cmp_lt, lg_cmp_eq, xlk, q_xs1, q_xs2, lv_args, Value.category, List.filter_cons, List.filter_nil, Nat.reduceAdd, Nat.reduceBEq, Nat.reduceEqDiff, Nat.reduceSub, Nat.sub_zero, beq_self_eq_true, Bool.not_true, Bool.not_false, Bool.and_true, Bool.and_false, Bool.true_and, Bool.false_and, reduceIte, reduceCtorEq, Bool.false_eq_true, Nat.one_ne_zero, Nat.zero_ne_one, Nat.zero_add, Option.toList_some, Option.toList_none, List.nil_append, List.cons_append, List.take_succ_cons, List.take_zero, List.take_nil, List.drop_succ_cons, List.drop_zero, List.length_cons, List.length_nil, List.reverse_cons, List.reverse_nil, List.head?_cons, List.map_cons, List.map_nil, List.sum_cons, List.sum_nil, true_and, and_true, List.getElem?_cons_zero, List.getElem?_cons_succ, Prod.eta, x_iast, x_bald, x_bast, x_last, x_alen, xup_s, xup_a1, xup_1a, xup_uu, nr_i, nr_l, nr_o, nr_a, ft_i, ft_l, ft_o, ft_a, Nat.reduceLT, i_cl0, i_cl1, i_n1, i_m1, List.set_cons_zero, List.set_cons_succ, Nat.reduceLeDiff, Nat.le_refl, Nat.zero_le, Nat.add_zero, x_no, x_ifnull, x_ifnonnull, x_acmp_eq, x_acmp_ne, x_swl, x_tsw, x_castC, true_or, or_true, nr_z, ft_z, nr_z0, nr_z1, ft_z0, ft_z1, nr_on, nr_an, ft_on, ft_an, enO.g0 eo2, enO.g1 eo2, enO.g2 eo2, enO.g3 eo2, enO.g4 eo2, enO.g5 eo2, enO.g6 eo2, enO.p0 eo2, enO.p0a eo2, enO.p0b eo2]
  refine kr_rank (r4.off oA (by omega)) hk fun h3 oB w2 => ?_
  have eo3 := (oB (x + 10) (by omega)).trans eo2
  have w1' := w1.off oB (by omega)
  simp only [q_c, x_iload, x_lload, x_aload, q_istore, q_lstore, q_astore, q_astore2, x_iinc, q_iadd, q_isub, q_imul, q_iand, q_ior, q_ixor, q_ladd, q_lsub, q_lmul, q_land, q_lor, q_lxor, q_idiv, q_irem, q_ldiv, q_lrem, q_ineg, q_lneg, q_ishl, q_ishr, q_iushr, q_lshl, q_lshr, q_lushr, q_i2l, q_l2i, q_i2b, q_i2c, q_lcmp, q_if_eq, q_if_ne, q_if_lt, q_if_ge, q_if_gt, q_if_le, q_icmp_eq, q_icmp_ne, q_icmp_lt, q_icmp_ge, q_icmp_gt, q_icmp_le, q_dup, q_pop, q_dup_x1, q_dup2, x_iret, x_zret, x_lret, x_aret, x_vret, x_call, x_callv, x_calli, x_oinit, x_mmax, x_mmin, x_mabs, x_mmaxL, x_mminL, x_mabsL, lg_cmp_ge, lg_cmp_le, lg_cmp_gt, lg_cmp_lt, lg_cmp_eq, xlk, q_xs1, q_xs2, lv_args, Value.category, List.filter_cons, List.filter_nil, Nat.reduceAdd, Nat.reduceBEq, Nat.reduceEqDiff, Nat.reduceSub, Nat.sub_zero, beq_self_eq_true, Bool.not_true, Bool.not_false, Bool.and_true, Bool.and_false, Bool.true_and, Bool.false_and, reduceIte, reduceCtorEq, Bool.false_eq_true, Nat.one_ne_zero, Nat.zero_ne_one, Nat.zero_add, Option.toList_some, Option.toList_none, List.nil_append, List.cons_append, List.take_succ_cons, List.take_zero, List.take_nil, List.drop_succ_cons, List.drop_zero, List.length_cons, List.length_nil, List.reverse_cons, List.reverse_nil, List.head?_cons, List.map_cons, List.map_nil, List.sum_cons, List.sum_nil, true_and, and_true, List.getElem?_cons_zero, List.getElem?_cons_succ, Prod.eta, x_iast, x_bald, x_bast, x_last, x_alen, xup_s, xup_a1, xup_1a, xup_uu, nr_i, nr_l, nr_o, nr_a, ft_i, ft_l, ft_o, ft_a, Nat.reduceLT, i_cl0, i_cl1, i_n1, i_m1, List.set_cons_zero, List.set_cons_succ, Nat.reduceLeDiff, Nat.le_refl, Nat.zero_le, Nat.add_zero, x_no, x_ifnull, x_ifnonnull, x_acmp_eq, x_acmp_ne, x_swl, x_tsw, x_castC, true_or, or_true, nr_z, ft_z, nr_z0, nr_z1, ft_z0, ft_z1, nr_on, nr_an, ft_on, ft_an, enO.g0 eo3, enO.g1 eo3, enO.g2 eo3, enO.g3 eo3, enO.g4 eo3, enO.g5 eo3, enO.g6 eo3, enO.p0 eo3, enO.p0a eo3, enO.p0b eo3]
  refine ks_quot ((ro.off oA (by omega)).off oB (by omega)) w1' w2 hj hk (by omega) (by omega) fun h4 oC r => ?_
  try simp only [q_c, x_iload, x_lload, x_aload, q_istore, q_lstore, q_astore, q_astore2, x_iinc, q_iadd, q_isub, q_imul, q_iand, q_ior, q_ixor, q_ladd, q_lsub, q_lmul, q_land, q_lor, q_lxor, q_idiv, q_irem, q_ldiv, q_lrem, q_ineg, q_lneg, q_ishl, q_ishr, q_iushr, q_lshl, q_lshr, q_lushr, q_i2l, q_l2i, q_i2b, q_i2c, q_lcmp, q_if_eq, q_if_ne, q_if_lt, q_if_ge, q_if_gt, q_if_le, q_icmp_eq, q_icmp_ne, q_icmp_lt, q_icmp_ge, q_icmp_gt, q_icmp_le, q_dup, q_pop, q_dup_x1, q_dup2, x_iret, x_zret, x_lret, x_aret, x_vret, x_call, x_callv, x_calli, x_oinit, x_mmax, x_mmin, x_mabs, x_mmaxL, x_mminL, x_mabsL, lg_cmp_ge, lg_cmp_le, lg_cmp_gt, lg_cmp_lt, lg_cmp_eq, xlk, q_xs1, q_xs2, lv_args, Value.category, List.filter_cons, List.filter_nil, Nat.reduceAdd, Nat.reduceBEq, Nat.reduceEqDiff, Nat.reduceSub, Nat.sub_zero, beq_self_eq_true, Bool.not_true, Bool.not_false, Bool.and_true, Bool.and_false, Bool.true_and, Bool.false_and, reduceIte, reduceCtorEq, Bool.false_eq_true, Nat.one_ne_zero, Nat.zero_ne_one, Nat.zero_add, Option.toList_some, Option.toList_none, List.nil_append, List.cons_append, List.take_succ_cons, List.take_zero, List.take_nil, List.drop_succ_cons, List.drop_zero, List.length_cons, List.length_nil, List.reverse_cons, List.reverse_nil, List.head?_cons, List.map_cons, List.map_nil, List.sum_cons, List.sum_nil, true_and, and_true, List.getElem?_cons_zero, List.getElem?_cons_succ, Prod.eta, x_iast, x_bald, x_bast, x_last, x_alen, xup_s, xup_a1, xup_1a, xup_uu, nr_i, nr_l, nr_o, nr_a, ft_i, ft_l, ft_o, ft_a, Nat.reduceLT, i_cl0, i_cl1, i_n1, i_m1, List.set_cons_zero, List.set_cons_succ, Nat.reduceLeDiff, Nat.le_refl, Nat.zero_le, Nat.add_zero, x_no, x_ifnull, x_ifnonnull, x_acmp_eq, x_acmp_ne, x_swl, x_tsw, x_castC, true_or, or_true, nr_z, ft_z, nr_z0, nr_z1, ft_z0, ft_z1, nr_on, nr_an, ft_on, ft_an]
  have of : xoff h4 h (x + 11) (x + 31) := fun z hz => (oC z (by omega)).trans ((oB z (by omega)).trans (oA z (by omega)))
  have re : ∀ o', (o' = x + 11 ∨ o' = x + 16) → reE h o' → reE h4 o' := by
    intro o' ho' ro'
    rcases Decidable.em (o' = o) with e | e
    · rw [e]; exact r.E
    · exact ((ro'.off oA (by omega)).off oB (by omega)).off oC (by omega)
  exact hQ h4 (fun z h1 h2 => (oC z (by omega)).trans ((oB z (by omega)).trans (oA z (by omega)))) ⟨(oC _ (by omega)).trans eo3, ⟨n, ex.off of (by omega)⟩, re _ (Or.inl rfl) r1, re _ (Or.inr rfl) r2, (w1'.off oC (by omega)).E, (w2.off oC (by omega)).E, r5.off of (by omega)⟩ r
theorem dX2_addTo_0 : decode cX2_addTo 0 = .ok (.aload_n 0, 1) := by decide +kernel
theorem dX2_addTo_1 : decode cX2_addTo 1 = .ok (.getfield 21, 3) := by decide +kernel
theorem dX2_addTo_4 : decode cX2_addTo 4 = .ok (.aload_n 1, 1) := by decide +kernel
theorem dX2_addTo_5 : decode cX2_addTo 5 = .ok (.invokevirtual 97, 3) := by decide +kernel
theorem dX2_addTo_8 : decode cX2_addTo 8 = .ok (.aload_n 0, 1) := by decide +kernel
theorem dX2_addTo_9 : decode cX2_addTo 9 = .ok (.getfield 24, 3) := by decide +kernel
theorem dX2_addTo_12 : decode cX2_addTo 12 = .ok (.lload_n 2, 1) := by decide +kernel
theorem dX2_addTo_13 : decode cX2_addTo 13 = .ok (.invokevirtual 86, 3) := by decide +kernel
theorem dX2_addTo_16 : decode cX2_addTo 16 = .ok (.aload_n 1, 1) := by decide +kernel
theorem dX2_addTo_17 : decode cX2_addTo 17 = .ok (.aload_n 0, 1) := by decide +kernel
theorem dX2_addTo_18 : decode cX2_addTo 18 = .ok (.getfield 21, 3) := by decide +kernel
theorem dX2_addTo_21 : decode cX2_addTo 21 = .ok (.aload_n 0, 1) := by decide +kernel
theorem dX2_addTo_22 : decode cX2_addTo 22 = .ok (.getfield 24, 3) := by decide +kernel
theorem dX2_addTo_25 : decode cX2_addTo 25 = .ok (.invokevirtual 90, 3) := by decide +kernel
theorem dX2_addTo_28 : decode cX2_addTo 28 = .ok (.return_, 1) := by decide +kernel
abbrev r_X2_addTo : Room := { frames := 3, cells := 0, slots := 0, locals := 73 }
abbrev m_X2_addTo : xMd := (cX2_addTo, RX2, 4, none, false, r_X2_addTo)
def b_X2_addTo_0 (Q : xQ) : xK := x_aload 0 <| x_get 3 3 <| x_aload 1 <| x_callv 7 C_X8_become 2 0 0 <| x_aload 0 <| x_get 3 4 <| x_lload 2 <| x_callv 7 C_X8_becomeRank 2 0 0 <| x_aload 1 <| x_aload 0 <| x_get 3 3 <| x_aload 0 <| x_get 3 4 <| x_callv 7 C_X8_becomeSum 3 0 0 <| x_vret Q
theorem s_X2_addTo_0 (G : xG) (l : Launch) (Q : xQ) : xW G l m_X2_addTo xX0 (xPm G Q r_X2_addTo) 0 (b_X2_addTo_0 Q) := xo_aload_n (pc := 0) (i := 0) dX2_addTo_0 rfl <| xo_get (pc := 1) (ci := 3) (i := 3) rfl ok3 (by decide) dX2_addTo_1 kw161 <| xo_aload_n (pc := 4) (i := 1) dX2_addTo_4 rfl <| xo_callV (pc := 5) (np := 1) (ci := 7) rfl (cM_X8_become G l) dX2_addTo_5 kw561 kw863 kw559 kw560 kw7 (by decide +kernel) (by decide) <| xo_aload_n (pc := 8) (i := 0) dX2_addTo_8 rfl <| xo_get (pc := 9) (ci := 3) (i := 4) rfl ok3 (by decide) dX2_addTo_9 kw163 <| xo_lload_n (pc := 12) (i := 2) dX2_addTo_12 rfl <| xo_callV (pc := 13) (np := 1) (ci := 7) rfl (cM_X8_becomeRank G l) dX2_addTo_13 kw473 kw470 kw471 kw472 kw7 (by decide +kernel) (by decide) <| xo_aload_n (pc := 16) (i := 1) dX2_addTo_16 rfl <| xo_aload_n (pc := 17) (i := 0) dX2_addTo_17 rfl <| xo_get (pc := 18) (ci := 3) (i := 3) rfl ok3 (by decide) dX2_addTo_18 kw161 <| xo_aload_n (pc := 21) (i := 0) dX2_addTo_21 rfl <| xo_get (pc := 22) (ci := 3) (i := 4) rfl ok3 (by decide) dX2_addTo_22 kw163 <| xo_callV (pc := 25) (np := 2) (ci := 7) rfl (cM_X8_becomeSum G l) dX2_addTo_25 kw577 kw853 kw575 kw576 kw7 (by decide +kernel) (by decide) <| xo_vret (pc := 28) rfl dX2_addTo_28

def C_X2_addTo : xC := fun av S Q => ∃ (x o : Nat) (b : Bool) (X : vE) (k : Int), av = [.ref (x + 10), .ref o, .long (lZ k)] ∧ enA S.1 x b ∧ (o = x + 11 ∨ o = x + 16) ∧ reP S.1 o X ∧ bF k ∧ ∀ h', xoff2 h' S.1 o (o + 5) (x + 21) (x + 31) → enA h' x b → reQ h' o (adX X (fl k)) 4300 → Q none (h', S.2)
theorem cM_X2_addTo (G : xG) (l : Launch) : xM G l yX2_addTo cX2_addTo 4 none r_X2_addTo C_X2_addTo := by
  refine xM_of (fun Q => b_X2_addTo_0 Q) RX2 false (s_X2_addTo_0 G l) (by decide) rfl (by decide) ?_
  rintro av ⟨h, S2⟩ Q ⟨x, o, b, X, k, rfl, ⟨eo, ⟨n, ex⟩, r1, r2, r3, r4, r5⟩, ho, hX, hk, hQ⟩
  dsimp only at *
  refine ⟨Nat.le_of_ble_eq_true rfl, ?_⟩
  obtain ⟨s, e, i, p, v, rest⟩ := hX
  simp only [q_c, x_iload, x_lload, x_aload, q_istore, q_lstore, q_astore, q_astore2, x_iinc, q_iadd, q_isub, q_imul, q_iand, q_ior, q_ixor, q_ladd, q_lsub, q_lmul, q_land, q_lor, q_lxor, q_idiv, q_irem, q_ldiv, q_lrem, q_ineg, q_lneg, q_ishl, q_ishr, q_iushr, q_lshl, q_lshr, q_lushr, q_i2l, q_l2i, q_i2b, q_i2c, q_lcmp, q_if_eq, q_if_ne, q_if_lt, q_if_ge, q_if_gt, q_if_le, q_icmp_eq, q_icmp_ne, q_icmp_lt, q_icmp_ge, q_icmp_gt, q_icmp_le, q_dup, q_pop, q_dup_x1, q_dup2, x_iret, x_zret, x_lret, x_aret, x_vret, x_call, x_callv, x_calli, x_oinit, x_mmax, x_mmin, x_mabs, x_mmaxL, x_mminL, x_mabsL, lg_cmp_ge, lg_cmp_le, lg_cmp_gt, lg_cmp_lt, lg_cmp_eq, xlk, q_xs1, q_xs2, lv_args, Value.category, List.filter_cons, List.filter_nil, Nat.reduceAdd, Nat.reduceBEq, Nat.reduceEqDiff, Nat.reduceSub, Nat.sub_zero, beq_self_eq_true, Bool.not_true, Bool.not_false, Bool.and_true, Bool.and_false, Bool.true_and, Bool.false_and, reduceIte, reduceCtorEq, Bool.false_eq_true, Nat.one_ne_zero, Nat.zero_ne_one, Nat.zero_add, Option.toList_some, Option.toList_none, List.nil_append, List.cons_append, List.take_succ_cons, List.take_zero, List.take_nil, List.drop_succ_cons, List.drop_zero, List.length_cons, List.length_nil, List.reverse_cons, List.reverse_nil, List.head?_cons, List.map_cons, List.map_nil, List.sum_cons, List.sum_nil, true_and, and_true, List.getElem?_cons_zero, List.getElem?_cons_succ, Prod.eta, x_iast, x_bald, x_bast, x_last, x_alen, xup_s, xup_a1, xup_1a, xup_uu, nr_i, nr_l, nr_o, nr_a, ft_i, ft_l, ft_o, ft_a, Nat.reduceLT, i_cl0, i_cl1, i_n1, i_m1, List.set_cons_zero, List.set_cons_succ, Nat.reduceLeDiff, Nat.le_refl, Nat.zero_le, Nat.add_zero, x_no, x_ifnull, x_ifnonnull, x_acmp_eq, x_acmp_ne, x_swl, x_tsw, x_castC, true_or, or_true, nr_z, ft_z, nr_z0, nr_z1, ft_z0, ft_z1, nr_on, nr_an, ft_on, ft_an, b_X2_addTo_0, enO.g0 eo, enO.g1 eo, enO.g2 eo, enO.g3 eo, enO.g4 eo, enO.g5 eo, enO.g6 eo, enO.p0 eo, enO.p0a eo, enO.p0b eo]
  refine kr_become r3 v (by omega) fun h2 oA w1 => ?_
  have eo2 := (oA (x + 10) (by omega)).trans eo
  simp only [q_c, x_iload, x_lload, x_aload, q_istore, q_lstore, q_astore, q_astore2, x_iinc, q_iadd, q_isub, q_imul, q_iand, q_ior, q_ixor, q_ladd, q_lsub, q_lmul, q_land, q_lor, q_lxor, q_idiv, q_irem, q_ldiv, q_lrem, q_ineg, q_lneg, q_ishl, q_ishr, q_iushr, q_lshl, q_lshr, q_lushr, q_i2l, q_l2i, q_i2b, q_i2c, q_lcmp, q_if_eq, q_if_ne, q_if_lt, q_if_ge, q_if_gt, q_if_le, q_icmp_eq, q_icmp_ne, q_icmp_lt, q_icmp_ge, q_icmp_gt, q_icmp_le, q_dup, q_pop, q_dup_x1, q_dup2, x_iret, x_zret, x_lret, x_aret, x_vret, x_call, x_callv, x_calli, x_oinit, x_mmax, x_mmin, x_mabs, x_mmaxL, x_mminL, x_mabsL, lg_cmp_ge, lg_cmp_le, lg_cmp_gt, lg_cmp_lt, lg_cmp_eq, xlk, q_xs1, q_xs2, lv_args, Value.category, List.filter_cons, List.filter_nil, Nat.reduceAdd, Nat.reduceBEq, Nat.reduceEqDiff, Nat.reduceSub, Nat.sub_zero, beq_self_eq_true, Bool.not_true, Bool.not_false, Bool.and_true, Bool.and_false, Bool.true_and, Bool.false_and, reduceIte, reduceCtorEq, Bool.false_eq_true, Nat.one_ne_zero, Nat.zero_ne_one, Nat.zero_add, Option.toList_some, Option.toList_none, List.nil_append, List.cons_append, List.take_succ_cons, List.take_zero, List.take_nil, List.drop_succ_cons, List.drop_zero, List.length_cons, List.length_nil, List.reverse_cons, List.reverse_nil, List.head?_cons, List.map_cons, List.map_nil, List.sum_cons, List.sum_nil, true_and, and_true, List.getElem?_cons_zero, List.getElem?_cons_succ, Prod.eta, x_iast, x_bald, x_bast, x_last, x_alen, xup_s, xup_a1, xup_1a, xup_uu, nr_i, nr_l, nr_o, nr_a, ft_i, ft_l, ft_o, ft_a, Nat.reduceLT, i_cl0, i_cl1, i_n1, i_m1, List.set_cons_zero, List.set_cons_succ, Nat.reduceLeDiff, Nat.le_refl, Nat.zero_le, Nat.add_zero, x_no, x_ifnull, x_ifnonnull, x_acmp_eq, x_acmp_ne, x_swl, x_tsw, x_castC, true_or, or_true, nr_z, ft_z, nr_z0, nr_z1, ft_z0, ft_z1, nr_on, nr_an, ft_on, ft_an, enO.g0 eo2, enO.g1 eo2, enO.g2 eo2, enO.g3 eo2, enO.g4 eo2, enO.g5 eo2, enO.g6 eo2, enO.p0 eo2, enO.p0a eo2, enO.p0b eo2]
  refine kr_rank (r4.off oA (by omega)) hk fun h3 oB w2 => ?_
  have eo3 := (oB (x + 10) (by omega)).trans eo2
  have w1' : reP h3 (x + 21) X := ⟨s, e, i, p, w1.off oB (by omega), rest⟩
  simp only [q_c, x_iload, x_lload, x_aload, q_istore, q_lstore, q_astore, q_astore2, x_iinc, q_iadd, q_isub, q_imul, q_iand, q_ior, q_ixor, q_ladd, q_lsub, q_lmul, q_land, q_lor, q_lxor, q_idiv, q_irem, q_ldiv, q_lrem, q_ineg, q_lneg, q_ishl, q_ishr, q_iushr, q_lshl, q_lshr, q_lushr, q_i2l, q_l2i, q_i2b, q_i2c, q_lcmp, q_if_eq, q_if_ne, q_if_lt, q_if_ge, q_if_gt, q_if_le, q_icmp_eq, q_icmp_ne, q_icmp_lt, q_icmp_ge, q_icmp_gt, q_icmp_le, q_dup, q_pop, q_dup_x1, q_dup2, x_iret, x_zret, x_lret, x_aret, x_vret, x_call, x_callv, x_calli, x_oinit, x_mmax, x_mmin, x_mabs, x_mmaxL, x_mminL, x_mabsL, lg_cmp_ge, lg_cmp_le, lg_cmp_gt, lg_cmp_lt, lg_cmp_eq, xlk, q_xs1, q_xs2, lv_args, Value.category, List.filter_cons, List.filter_nil, Nat.reduceAdd, Nat.reduceBEq, Nat.reduceEqDiff, Nat.reduceSub, Nat.sub_zero, beq_self_eq_true, Bool.not_true, Bool.not_false, Bool.and_true, Bool.and_false, Bool.true_and, Bool.false_and, reduceIte, reduceCtorEq, Bool.false_eq_true, Nat.one_ne_zero, Nat.zero_ne_one, Nat.zero_add, Option.toList_some, Option.toList_none, List.nil_append, List.cons_append, List.take_succ_cons, List.take_zero, List.take_nil, List.drop_succ_cons, List.drop_zero, List.length_cons, List.length_nil, List.reverse_cons, List.reverse_nil, List.head?_cons, List.map_cons, List.map_nil, List.sum_cons, List.sum_nil, true_and, and_true, List.getElem?_cons_zero, List.getElem?_cons_succ, Prod.eta, x_iast, x_bald, x_bast, x_last, x_alen, xup_s, xup_a1, xup_1a, xup_uu, nr_i, nr_l, nr_o, nr_a, ft_i, ft_l, ft_o, ft_a, Nat.reduceLT, i_cl0, i_cl1, i_n1, i_m1, List.set_cons_zero, List.set_cons_succ, Nat.reduceLeDiff, Nat.le_refl, Nat.zero_le, Nat.add_zero, x_no, x_ifnull, x_ifnonnull, x_acmp_eq, x_acmp_ne, x_swl, x_tsw, x_castC, true_or, or_true, nr_z, ft_z, nr_z0, nr_z1, ft_z0, ft_z1, nr_on, nr_an, ft_on, ft_an, enO.g0 eo3, enO.g1 eo3, enO.g2 eo3, enO.g3 eo3, enO.g4 eo3, enO.g5 eo3, enO.g6 eo3, enO.p0 eo3, enO.p0a eo3, enO.p0b eo3]
  refine ks_sum ((v.E.off oA (by omega)).off oB (by omega)) w1' (reF.P w2 hk) (by omega) (by omega) fun h4 oC r => ?_
  try simp only [q_c, x_iload, x_lload, x_aload, q_istore, q_lstore, q_astore, q_astore2, x_iinc, q_iadd, q_isub, q_imul, q_iand, q_ior, q_ixor, q_ladd, q_lsub, q_lmul, q_land, q_lor, q_lxor, q_idiv, q_irem, q_ldiv, q_lrem, q_ineg, q_lneg, q_ishl, q_ishr, q_iushr, q_lshl, q_lshr, q_lushr, q_i2l, q_l2i, q_i2b, q_i2c, q_lcmp, q_if_eq, q_if_ne, q_if_lt, q_if_ge, q_if_gt, q_if_le, q_icmp_eq, q_icmp_ne, q_icmp_lt, q_icmp_ge, q_icmp_gt, q_icmp_le, q_dup, q_pop, q_dup_x1, q_dup2, x_iret, x_zret, x_lret, x_aret, x_vret, x_call, x_callv, x_calli, x_oinit, x_mmax, x_mmin, x_mabs, x_mmaxL, x_mminL, x_mabsL, lg_cmp_ge, lg_cmp_le, lg_cmp_gt, lg_cmp_lt, lg_cmp_eq, xlk, q_xs1, q_xs2, lv_args, Value.category, List.filter_cons, List.filter_nil, Nat.reduceAdd, Nat.reduceBEq, Nat.reduceEqDiff, Nat.reduceSub, Nat.sub_zero, beq_self_eq_true, Bool.not_true, Bool.not_false, Bool.and_true, Bool.and_false, Bool.true_and, Bool.false_and, reduceIte, reduceCtorEq, Bool.false_eq_true, Nat.one_ne_zero, Nat.zero_ne_one, Nat.zero_add, Option.toList_some, Option.toList_none, List.nil_append, List.cons_append, List.take_succ_cons, List.take_zero, List.take_nil, List.drop_succ_cons, List.drop_zero, List.length_cons, List.length_nil, List.reverse_cons, List.reverse_nil, List.head?_cons, List.map_cons, List.map_nil, List.sum_cons, List.sum_nil, true_and, and_true, List.getElem?_cons_zero, List.getElem?_cons_succ, Prod.eta, x_iast, x_bald, x_bast, x_last, x_alen, xup_s, xup_a1, xup_1a, xup_uu, nr_i, nr_l, nr_o, nr_a, ft_i, ft_l, ft_o, ft_a, Nat.reduceLT, i_cl0, i_cl1, i_n1, i_m1, List.set_cons_zero, List.set_cons_succ, Nat.reduceLeDiff, Nat.le_refl, Nat.zero_le, Nat.add_zero, x_no, x_ifnull, x_ifnonnull, x_acmp_eq, x_acmp_ne, x_swl, x_tsw, x_castC, true_or, or_true, nr_z, ft_z, nr_z0, nr_z1, ft_z0, ft_z1, nr_on, nr_an, ft_on, ft_an]
  have of : xoff h4 h (x + 11) (x + 31) := fun z hz => (oC z (by omega)).trans ((oB z (by omega)).trans (oA z (by omega)))
  have re : ∀ o', (o' = x + 11 ∨ o' = x + 16) → reE h o' → reE h4 o' := by
    intro o' ho' ro'
    rcases Decidable.em (o' = o) with e | e
    · rw [e]; exact r.E
    · exact ((ro'.off oA (by omega)).off oB (by omega)).off oC (by omega)
  exact hQ h4 (fun z h1 h2 => (oC z (by omega)).trans ((oB z (by omega)).trans (oA z (by omega)))) ⟨(oC _ (by omega)).trans eo3, ⟨n, ex.off of (by omega)⟩, re _ (Or.inl rfl) r1, re _ (Or.inr rfl) r2, (w1'.off oC (by omega)).E, (w2.off oC (by omega)).E, r5.off of (by omega)⟩ r
