/-! uncertain forms: both readers take the same -/
abbrev vL (a : rL) : vE := vlX a.1 a.2.1 a.2.2.1 a.2.2.2.1 a.2.2.2.2
theorem tn_i {m : Int} {a : rL} (h : a.2.2.1 = true) : vL (tnL m a) = .inr (decide (a.1 < 0)) := by
  unfold tnL
  rw [h]
  simp only [Bool.or_false, Bool.false_or, Bool.or_true, Bool.true_or, Bool.and_true, Bool.true_and, Bool.and_false, Bool.false_and, Bool.not_true, Bool.not_false, reduceCtorEq, reduceIte, true_and, and_true, false_and, and_false, true_or, or_true, false_or, or_false, not_true_eq_false, not_false_eq_true, Nat.reduceEqDiff, Nat.reduceLT]
  show vlX a.1 a.2.1 a.2.2.1 _ _ = _
  rw [h, vlX_t]
theorem tn_v {m : Int} {a : rL} (h : a.2.2.1 = false) (hq : a.2.2.2.2 = 1) : vL (tnL m a) = .inl (rv a.1 a.2.1 a.2.2.2.1 1 * tn m) := by
  unfold tnL
  by_cases c : a.1 = 0
  · rw [decide_eq_true c, Bool.or_true, if_pos rfl]
    show vlX a.1 a.2.1 a.2.2.1 _ _ = _
    rw [h, vlX_f, c, rv_0, rv_0, Rat.zero_mul]
  · rw [decide_eq_false c, h, hq]
    simp only [Bool.or_false, Bool.false_or, Bool.or_true, Bool.true_or, Bool.and_true, Bool.true_and, Bool.and_false, Bool.false_and, Bool.not_true, Bool.not_false, reduceCtorEq, reduceIte, true_and, and_true, false_and, and_false, true_or, or_true, false_or, or_false, not_true_eq_false, not_false_eq_true, Nat.reduceEqDiff, Nat.reduceLT]
    show vlX a.1 (a.2.1 + m) false (a.2.2.2.1 * 5 ^ m.toNat) (1 * 5 ^ (-m).toNat) = _
    rw [vlX_f]
    unfold rv
    rw [sv_ten, sv_1]
    rw [Rat.mul_assoc, Rat.mul_assoc, Rat.mul_assoc]
theorem sm_v {a b : rL} (ha : a.2.2.1 = false) (hb : b.2.2.1 = false) (qa : a.2.2.2.2 = 1) (qb : b.2.2.2.2 = 1) (sa : -1 ≤ a.1 ∧ a.1 ≤ 1) (sb' : -1 ≤ b.1 ∧ b.1 ≤ 1) (pa : a.1 ≠ 0 → a.2.2.2.1 ≠ 0) : (smL a b).2.2.1 = false ∧ (smL a b).2.2.2.2 = 1 ∧ rv (smL a b).1 (smL a b).2.1 (smL a b).2.2.2.1 1 = rv a.1 a.2.1 a.2.2.2.1 1 + rv b.1 b.2.1 b.2.2.2.1 1 := by
  unfold smL
  by_cases c : b.1 = 0
  · rw [decide_eq_true c, Bool.or_true, if_pos rfl]
    refine ⟨ha, qa, ?_⟩
    rw [c, rv_0, Rat.add_zero]
  · rw [decide_eq_false c, ha, hb]
    simp only [Bool.or_false, Bool.false_or, Bool.or_true, Bool.true_or, Bool.and_true, Bool.true_and, Bool.and_false, Bool.false_and, Bool.not_true, Bool.not_false, reduceCtorEq, reduceIte, true_and, and_true, false_and, and_false, true_or, or_true, false_or, or_false, not_true_eq_false, not_false_eq_true, Nat.reduceEqDiff, Nat.reduceLT]
    by_cases d : a.1 = 0
    · rw [decide_eq_true d, if_pos rfl]
      refine ⟨hb, qb, ?_⟩
      rw [d, rv_0, Rat.zero_add]
    · rw [decide_eq_false d, if_neg (by decide)]
      refine ⟨rfl, rfl, ?_⟩
      exact sm_val (by omega) (by omega) (by omega) (by omega) (pa d)
theorem rv_neg (s e : Int) (p q : Nat) : rv (-s) e p q = -rv s e p q := by
  unfold rv
  rw [Rat.intCast_neg, Rat.neg_mul]
def raV (op : Bool) (s e : Int) (i : Bool) (v2 v2' : Nat) (e2 : Int) : Prop := (op = true ∧ i = true ∧ s = 1) ∨ (op = false ∧ i = false ∧ rv s e v2 1 = nval false v2' 1 e2 ∧ 0 ≤ s ∧ s ≤ 1)
theorem un_v {g op i up : Bool} {v v2 v2' : Nat} {s e e2 M : Int} (h : raV op s e i v2 v2' e2) : vL (tnL M (if up = true then (if v = 0 then 0 else if g = true then -1 else 1, 0, false, v, 1) else smL (if v = 0 then 0 else if g = true then -1 else 1, 0, false, v, 1) (-s, e, i, v2, 1))) = (if op = true ∧ up = false then .inr true else .inl (uV (!up) true g v v2' e2 M)) ∧ vL (tnL M (if up = true then (if v = 0 then 0 else if g = true then -1 else 1, 0, false, v, 1) else smL (if v = 0 then 0 else if g = true then -1 else 1, 0, false, v, 1) (s, e, i, v2, 1))) = (if op = true ∧ up = false then .inr false else .inl (uV (!up) false g v v2' e2 M)) := by
  have ms : ∀ (hm : Int), hm = (if v = 0 then 0 else if g = true then -1 else 1) → -1 ≤ hm ∧ hm ≤ 1 ∧ (hm ≠ 0 → v ≠ 0) ∧ rv hm 0 v 1 = nval g v 1 0 := by
    intro hm e
    refine ⟨by rw [e]; repeat' split
               all_goals decide, by rw [e]; repeat' split
                                    all_goals decide, fun q z => q (by rw [e, if_pos z]), v_eq e id⟩
  obtain ⟨m1, m2, m3, m4⟩ := ms _ rfl
  generalize (if v = 0 then (0 : Int) else if g = true then -1 else 1) = hm at *
  cases up
  · simp only [Bool.or_false, Bool.false_or, Bool.or_true, Bool.true_or, Bool.and_true, Bool.true_and, Bool.and_false, Bool.false_and, Bool.not_true, Bool.not_false, reduceCtorEq, reduceIte, true_and, and_true, false_and, and_false, true_or, or_true, false_or, or_false, not_true_eq_false, not_false_eq_true, Nat.reduceEqDiff, Nat.reduceLT]
    rcases h with ⟨h1, h2, h3⟩ | ⟨h1, h2, h3, h4, h5⟩
    · subst h1 h2 h3
      simp only [Bool.or_false, Bool.false_or, Bool.or_true, Bool.true_or, Bool.and_true, Bool.true_and, Bool.and_false, Bool.false_and, Bool.not_true, Bool.not_false, reduceCtorEq, reduceIte, true_and, and_true, false_and, and_false, true_or, or_true, false_or, or_false, not_true_eq_false, not_false_eq_true, Nat.reduceEqDiff, Nat.reduceLT]
      have e1 : smL (hm, 0, false, v, 1) (-1, e, true, v2, 1) = (-1, e, true, v2, 1) := rfl
      have e2 : smL (hm, 0, false, v, 1) (1, e, true, v2, 1) = (1, e, true, v2, 1) := rfl
      rw [e1, e2]
      exact ⟨tn_i rfl, tn_i rfl⟩
    · subst h1 h2
      simp only [Bool.or_false, Bool.false_or, Bool.or_true, Bool.true_or, Bool.and_true, Bool.true_and, Bool.and_false, Bool.false_and, Bool.not_true, Bool.not_false, reduceCtorEq, reduceIte, true_and, and_true, false_and, and_false, true_or, or_true, false_or, or_false, not_true_eq_false, not_false_eq_true, Nat.reduceEqDiff, Nat.reduceLT]
      obtain ⟨a1, a2, a3⟩ := sm_v (a := (hm, 0, false, v, 1)) (b := (-s, e, false, v2, 1)) rfl rfl rfl rfl ⟨m1, m2⟩ ⟨by show -1 ≤ -s; omega, by show -s ≤ 1; omega⟩ m3
      obtain ⟨b1, b2, b3⟩ := sm_v (a := (hm, 0, false, v, 1)) (b := (s, e, false, v2, 1)) rfl rfl rfl rfl ⟨m1, m2⟩ ⟨by show -1 ≤ s; omega, h5⟩ m3
      rw [tn_v a1 a2, tn_v b1 b2, a3, b3]
      show (Sum.inl ((rv hm 0 v 1 + rv (-s) e v2 1) * tn M) : vE) = _ ∧ (Sum.inl ((rv hm 0 v 1 + rv s e v2 1) * tn M) : vE) = _
      unfold uV
      rw [rv_neg, m4, h3, if_pos rfl, if_pos rfl, nval_t, nval_f]
      exact ⟨rfl, rfl⟩
  · simp only [Bool.or_false, Bool.false_or, Bool.or_true, Bool.true_or, Bool.and_true, Bool.true_and, Bool.and_false, Bool.false_and, Bool.not_true, Bool.not_false, reduceCtorEq, reduceIte, true_and, and_true, false_and, and_false, true_or, or_true, false_or, or_false, not_true_eq_false, not_false_eq_true, Nat.reduceEqDiff, Nat.reduceLT]
    rw [tn_v rfl rfl]
    show (Sum.inl (rv hm 0 v 1 * tn M) : vE) = _ ∧ (Sum.inl (rv hm 0 v 1 * tn M) : vE) = _
    unfold uV
    rw [m4, if_neg (by decide), if_neg (by decide)]
    exact ⟨rfl, rfl⟩
theorem ra_rd {t : Nat → Nat} {n p p' : Nat} {fa : Bool} {s e : Int} {i : Bool} {v : Nat} (h : raO t n p fa p' s e i v) : (fa = true ∧ p < n ∧ t p = 63 ∧ p' = p + 1 ∧ raV fa s e i v 0 0) ∨ (fa = false ∧ ¬ (p < n ∧ t p = 63) ∧ ∃ d, p' = p + d ∧ d ≤ n - p ∧ alB t p d = true ∧ (d = n - p ∨ dgB (t p') = false) ∧ (0 < d ∧ raV fa s e i v (dcV t p d) 0 ∨ d = 0 ∧ raV fa s e i v 1 (-1))) := by
  rcases h with ⟨h1, h2, h3, h4, h5, h6, h7, h8⟩ | ⟨h1, h2, h3, dg, sc, w, er, h4⟩
  · exact Or.inl ⟨h3, h1, h2, h4, Or.inl ⟨h3, h7, h5⟩⟩
  · obtain ⟨a1, a2, a3, a4, a5⟩ := rd_t er
    refine Or.inr ⟨h2, h1, dg, a1, a2, a3, a5, ?_⟩
    rcases h4 with ⟨b1, b2, b3, b4⟩ | ⟨b1, b2, b3, b4⟩
    · refine Or.inl ⟨b1, Or.inr ⟨h2, h3, ?_, ?_, ?_⟩⟩
      · rw [b2, b3, ← a4]
        exact v_eq (v := w) (g := false) (by rw [b4]; rfl) id
      · rw [b4]; split <;> decide
      · rw [b4]; split <;> decide
    · refine Or.inr ⟨b1, Or.inr ⟨h2, h3, ?_, by rw [b4]; decide, by rw [b4]; decide⟩⟩
      rw [b2, b3, b4, rv_1, nval_f]
      rfl
theorem nE_fw {t : Nat → Nat} {n k p' : Nat} {g0 : Bool} {E : Int} (h : nmE t n k g0 true p' E) (hk : k ≤ n) : g0 = true ∧ k ≤ p' ∧ p' ≤ n ∧ (∀ j, k ≤ j → j < p' → ncB (t j)) ∧ (k = p' ∧ E = 0 ∨ k < p' ∧ t k = 101 ∧ exB t (k + 1) p' 3 = true ∧ E = exV t (k + 1) p') := by
  rcases h with ⟨k1, k2, d, hd, hp', hEv, ok⟩ | ⟨k1, hp', hEv, ok⟩
  · rw [eq_comm, Bool.and_eq_true, decide_eq_true_iff] at ok
    obtain ⟨d1, d2, d3, d4⟩ := hd
    obtain ⟨u1, u2, u3, u4⟩ := sg_b t (k + 1) n
    have pn : p' ≤ n := by omega
    have ev := ex_V (t := t) (p := k + 1) (e := p') (n := n) (by omega) pn
    have sc' := sg_c (t := t) (p := k + 1) (e := p') (n := n) (by omega) pn
    generalize hG : sgP t (k + 1) n = G at *
    refine ⟨ok.1, by omega, pn, fun j a b => ?_, Or.inr ⟨by omega, k2, ?_, ?_⟩⟩
    · rcases (show j = k ∨ (k + 1 ≤ j ∧ j < G) ∨ (G ≤ j ∧ j < G + d) by omega) with c | c | c
      · rw [c, k2]; unfold ncB; omega
      · have := u4 (by omega)
        rw [show j = k + 1 by omega]
        unfold ncB
        omega
      · exact nc_d (alB_at d3 c.1 c.2)
    · unfold exB
      rw [sc', show p' - G = d by omega, decide_eq_true ok.2, decide_eq_true d1, d3]
      rfl
    · rw [hEv, ev, show p' - G = d by omega]
  · exact ⟨ok.symm, by omega, by omega, fun j a b => by omega, Or.inl ⟨hp'.symm, hEv⟩⟩
theorem nE_bw {t : Nat → Nat} {n k e p' : Nat} {g0 ok : Bool} {E E' : Int} (h : nmE t n k g0 ok p' E) (en : e ≤ n) (hs : e = n ∨ ¬ ncB (t e)) (hh : k = e ∧ E' = 0 ∨ k < e ∧ t k = 101 ∧ exB t (k + 1) e 3 = true ∧ E' = exV t (k + 1) e) : ok = g0 ∧ p' = e ∧ E = E' := by
  have sd : e = n ∨ dgB (t e) = false := hs.imp id (fun q => by
    rcases Bool.eq_false_or_eq_true (dgB (t e)) with c | c
    · exact absurd (nc_d c) q
    · exact c)
  rcases hh with ⟨a1, a2⟩ | ⟨a1, a2, a3, a4⟩
  · rcases h with ⟨b1, b2, -⟩ | ⟨b1, hp', hEv, okk⟩
    · exfalso
      rcases hs with y | y
      · omega
      · rw [← a1, b2] at y
        exact y (by unfold ncB; omega)
    · exact ⟨okk, by omega, by omega⟩
  · rcases h with ⟨b1, b2, d, hd, hp', hEv, okk⟩ | ⟨b1, -⟩
    · unfold exB at a3
      simp only [Bool.and_eq_true, decide_eq_true_eq] at a3
      obtain ⟨⟨x1, x2⟩, x3⟩ := a3
      have u := sg_b t (k + 1) e
      have sc2 := sg_c (t := t) (p := k + 1) (e := e) (n := n) (by omega) en
      have ev := ex_V (t := t) (p := k + 1) (e := e) (n := n) (by omega) en
      rw [← sc2] at hd hp' hEv ev
      have dd := exD_e hd (by omega) en (by omega) x3 sd
      refine ⟨?_, by omega, by rw [hEv, a4, ev, dd]⟩
      rw [okk, decide_eq_true (show 0 < d by omega), Bool.and_true]
    · exact absurd ⟨by omega, a2⟩ b1
