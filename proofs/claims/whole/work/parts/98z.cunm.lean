def ucB (b : Nat) : Prop := b ≠ 95 ∧ b ≠ 91 ∧ b ≠ 32 ∧ b ≠ 9
theorem nc_u {b : Nat} (h : ncB b) : ucB b := by
  unfold ncB at h
  unfold ucB
  omega
theorem nc_o {b : Nat} (h : ncB b) : b ≠ 93 ∧ b ≠ 44 := by
  unfold ncB at h
  omega
theorem un_fw {t : Nat → Nat} {n p p' : Nat} {op : Bool} {a b : rL} (h : unO t n p true op p' a b) (hp : p ≤ n) : p < p' ∧ p' ≤ n ∧ (∀ j, p ≤ j → j < p' → ucB (t j)) ∧ ∃ g v v2 e2 m up dn, uTx t p p' g v v2 e2 m op up dn ∧ vL a = (if op = true ∧ up = false then .inr true else .inl (uV (!up) true g v v2 e2 m)) ∧ vL b = (if op = true ∧ dn = false then .inr false else .inl (uV (!dn) false g v v2 e2 m)) := by
  obtain ⟨k, dg, sc, v, k1, c1, k2, s, e, i, v2, up, k3, dn, k4, E, er, hc1, hk1, hra, hup, hk3, hdn, hk4, hE, ha, hb⟩ := h
  obtain ⟨g1, g2, g3, g4⟩ := sg_b t p n
  have g3 := g3 hp
  have gs : ∀ j, p ≤ j → j < sgP t p n → ucB (t j) ∧ t j ≠ 63 := by
    intro j a b
    have := g4 (by omega)
    rw [show j = p by omega]
    unfold ucB
    omega
  clear g4
  have pl := pl_sc (by decide) er
  obtain ⟨r1, r2, r3, r4, -, -, -, -, -, r10⟩ := rdG_p (by decide) _ _ _ _ _ _ er
  have k1n : k1 ≤ n := by
    rw [hk1]
    split
    · rename_i c
      have := (hc1.mp c).2.1
      omega
    · omega
  have k2n : k1 ≤ k2 ∧ k2 ≤ n := by
    rcases ra_rd hra with ⟨-, a1, -, a3, -⟩ | ⟨-, -, d, a1, a2, -⟩ <;> omega
  have k3n : k2 ≤ k3 ∧ k3 ≤ n := by
    rw [hk3]
    split
    · rename_i c
      have := (hup.mp c).1
      omega
    · omega
  have k4n : k3 ≤ k4 ∧ k4 ≤ n := by
    rw [hk4]
    split
    · rename_i c
      have := (hdn.mp c).2.1
      omega
    · omega
  obtain ⟨o1, o2, o3, o4, o5⟩ := nE_fw hE k4n.2
  subst o1
  obtain ⟨c2, c3, c4⟩ := hc1.mp rfl
  rw [if_pos rfl] at hk1
  have pp : p < p' := by omega
  have sge := sg_c (t := t) pp o3
  have sgv := sg_v (t := t) pp o3
  have hg : ngB t p p' = decide (t p = 45) := by
    unfold ngB
    rw [Bool.eq_iff_iff, decide_eq_true_iff, decide_eq_true_iff]
    omega
  rw [hg] at sgv
  have md : mdU t n p v = (if v = 0 then 0 else if decide (t p = 45) = true then -1 else 1, 0, false, v, 1) := by
    show (if v = 0 then 0 else sgV t n p, (0 : Int), false, v, 1) = _
    rw [sgv]
  rw [pl, md] at ha hb
  have updn : up = true → dn = false := fun u => by
    rcases Bool.eq_false_or_eq_true dn with c | c
    · have := (hdn.mp c).1
      rw [u] at this
      exact absurd this (by decide)
    · exact c
  have k3e : k3 = if up = true then k2 + 1 else k2 := hk3
  refine ⟨pp, o3, fun j a b => ?_, decide (t p = 45), v, ?_⟩
  · rcases (show j < sgP t p n ∨ (sgP t p n ≤ j ∧ j < k) ∨ j = k ∨ (k1 ≤ j ∧ j < k2) ∨ (k2 ≤ j ∧ j < k3) ∨ (k3 ≤ j ∧ j < k4) ∨ k4 ≤ j by omega) with c | c | c | c | c | c | c
    · exact (gs j a c).1
    · exact nc_u (nc_hx (by decide) (r4 j c.1 c.2))
    · rw [c, c4]; unfold ucB; omega
    · rcases ra_rd hra with ⟨-, a1, a2, a3, -⟩ | ⟨-, -, d, a1, a2, a3, -⟩
      · rw [show j = k1 by omega, a2]; unfold ucB; omega
      · exact nc_u (nc_d (alB_at a3 c.1 (by omega)))
    · have u : up = true := by
        refine Decidable.byContradiction fun q => ?_
        rw [if_neg q] at hk3
        omega
      rw [if_pos u] at hk3
      rw [show j = k2 by omega, (hup.mp u).2]
      unfold ucB
      omega
    · have u : dn = true := by
        refine Decidable.byContradiction fun q => ?_
        rw [if_neg q] at hk4
        omega
      rw [if_pos u] at hk4
      rw [show j = k3 by omega, (hdn.mp u).2.2]
      unfold ucB
      omega
    · exact nc_u (o4 j c b)
  · have ask : askP t p p' k := by
      refine ⟨by omega, by omega, c4, fun j a b z => ?_⟩
      rcases (show j < sgP t p n ∨ sgP t p n ≤ j by omega) with c | c
      · exact (gs j a c).2 z
      · have := r4 j c b
        rw [z] at this
        exact absurd this (by decide)
    have tl : uTl t p' k2 up dn E := by
      refine ⟨?_, ?_, k4, ?_, o5⟩
      · rw [Bool.eq_iff_iff, hup, decide_eq_true_iff]
        constructor
        · intro q
          have u := hup.mpr q
          rw [if_pos u] at hk3
          exact ⟨by omega, q.2⟩
        · intro q
          exact ⟨by omega, q.2⟩
      · rw [Bool.eq_iff_iff, hdn, decide_eq_true_iff]
        constructor
        · intro q
          have u := hdn.mpr q
          rw [if_pos u] at hk4
          rw [q.1, if_neg (by decide)] at hk3
          rw [← hk3]
          exact ⟨by omega, q.2.2⟩
        · intro q
          have u : up = false := by
            rcases Bool.eq_false_or_eq_true up with c | c
            · have := (hup.mp c).2
              omega
            · exact c
          rw [u, if_neg (by decide)] at hk3
          rw [hk3]
          exact ⟨u, by omega, q.2⟩
      · rw [hk4, hk3]
        cases up
        · cases dn <;> rfl
        · rw [updn rfl]
          rfl
    have fin : ∀ v2' e2, raV op s e i v2 v2' e2 → uMd t p' k op k2 v2' e2 → op = decide (k + 1 < p' ∧ t (k + 1) = 63) → ∃ v2 e2 m up dn, uTx t p p' (decide (t p = 45)) v v2 e2 m op up dn ∧ vL a = (if op = true ∧ up = false then .inr true else .inl (uV (!up) true (decide (t p = 45)) v v2 e2 m)) ∧ vL b = (if op = true ∧ dn = false then .inr false else .inl (uV (!dn) false (decide (t p = 45)) v v2 e2 m)) := by
      intro v2' e2 hr hm ho
      refine ⟨v2', e2, E - (sc : Int), up, dn, ⟨k, dg, sc, k2, E, ask, by rw [sge]; omega, ?_, c2, rfl, ho, hm, tl, rfl⟩, ?_, ?_⟩
      · rw [sge]
        exact rdG_lim _ _ _ _ _ _ er _ (by omega) (by omega)
      · rw [ha]
        exact (un_v hr).1
      · rw [hb]
        exact (un_v hr).2
    rcases ra_rd hra with ⟨a0, a1, a2, a3, a4⟩ | ⟨a0, a1, d, a2, a3, a4, a5, a6⟩
    · rw [hk1] at a1 a2 a3
      refine fin 0 0 a4 (Or.inl ⟨a0, by omega, rfl, rfl⟩) ?_
      rw [a0, decide_eq_true ⟨by omega, a2⟩]
    · rw [hk1] at a1 a2 a3 a4 a5 a6
      have stop : k + 1 + d = p' ∨ dgB (t (k + 1 + d)) = false := by
        rcases a5 with y | y
        · exact Or.inl (by omega)
        · rw [a2] at y
          exact Or.inr y
      have ho : op = decide (k + 1 < p' ∧ t (k + 1) = 63) := by
        rw [a0, decide_eq_false (fun q => a1 ⟨by omega, q.2⟩)]
      rcases a6 with ⟨b1, b2⟩ | ⟨b1, b2⟩
      · exact fin _ _ b2 (Or.inr ⟨a0, d, by omega, a4, stop, a2, Or.inl ⟨b1, rfl, rfl⟩⟩) ho
      · exact fin _ _ b2 (Or.inr ⟨a0, d, by omega, a4, stop, a2, Or.inr ⟨b1, rfl, rfl⟩⟩) ho
theorem un_cm {op up dn g : Bool} {v v2 : Nat} {e2 m : Int} : cmX (if op = true ∧ up = false then .inr true else .inl (uV (!up) true g v v2 e2 m)) (if op = true ∧ dn = false then .inr false else .inl (uV (!dn) false g v v2 e2 m)) ≤ 0 := by
  split <;> split
  · exact show (-1 : Int32) ≤ 0 by decide
  · exact show (-1 : Int32) ≤ 0 by decide
  · exact show (-1 : Int32) ≤ 0 by decide
  · exact cmpR_z.mpr (uV_le _ _ _ _ _ _ _)
theorem un_bw {t : Nat → Nat} {n f e' p' : Nat} {ok op fa up dn g : Bool} {v v2 : Nat} {e2 m : Int} {a b : rL} (h : uTx t f e' g v v2 e2 m fa up dn) (en : e' ≤ n) (hs : e' = n ∨ ¬ ncB (t e') ∧ t e' ≠ 63 ∧ t e' ≠ 117) (hu : unO t n f ok op p' a b) : ok = true ∧ p' = e' ∧ op = fa ∧ vL a = (if fa = true ∧ up = false then .inr true else .inl (uV (!up) true g v v2 e2 m)) ∧ vL b = (if fa = true ∧ dn = false then .inr false else .inl (uV (!dn) false g v v2 e2 m)) := by
  obtain ⟨q, dg', sc', k1', E', ask, sgq, er', d0, rfl, hfa, hmd, ⟨hup', hdn', k2', hk2', hEE⟩, rfl⟩ := h
  obtain ⟨k, dg, sc, v', k1, c1, k2, s, e, i, v2', up', k3, dn', k4, E, er, hc1, hk1, hra, hup, hk3, hdn, hk4, hE, ha, hb⟩ := hu
  obtain ⟨q1, q2, q3, q4⟩ := ask
  obtain ⟨g1, g2, g3, -⟩ := sg_b t f e'
  have fe : f < e' := by omega
  have sge := sg_c (t := t) fe en
  rw [← sge] at er
  rw [rdG_cut (q - sgP t f e') (n - sgP t f e') _ _ _ _ _ (by omega) (Or.inr (by rw [show sgP t f e' + (q - sgP t f e') = q by omega, q3]; decide)), er'] at er
  simp only [Prod.mk.injEq] at er
  obtain ⟨rfl, rfl, rfl, rfl⟩ := er
  have pl := pl_sc (by decide) er'
  have c1t : c1 = true := hc1.mpr ⟨d0, by omega, q3⟩
  subst c1t
  rw [if_pos rfl] at hk1
  subst hk1
  have sgv := sg_v (t := t) fe en
  have hg : ngB t f e' = decide (t f = 45) := by
    unfold ngB
    rw [Bool.eq_iff_iff, decide_eq_true_iff, decide_eq_true_iff]
    omega
  rw [hg] at sgv
  have md' : mdU t n f v = (if v = 0 then 0 else if decide (t f = 45) = true then -1 else 1, 0, false, v, 1) := by
    show (if v = 0 then 0 else sgV t n f, (0 : Int), false, v, 1) = _
    rw [sgv]
  rw [← sge, pl, md'] at ha hb
  have sn : e' = n ∨ ¬ ncB (t e') := hs.imp id (fun y => y.1)
  have sd : e' = n ∨ dgB (t e') = false := sn.imp id (fun q => by
    rcases Bool.eq_false_or_eq_true (dgB (t e')) with c | c
    · exact absurd (nc_d c) q
    · exact c)
  have key : op = fa ∧ k2 = k1' ∧ raV op s e i v2' v2 e2 ∧ k1' ≤ e' := by
    rcases hmd with ⟨m1, m2, m3, m4⟩ | ⟨m1, d, m2, m3, m4, m5, m6⟩
    · rw [m1] at hfa
      have hf := of_decide_eq_true hfa.symm
      rcases ra_rd hra with ⟨a0, a1, a2, a3, a4⟩ | ⟨a0, a1, -⟩
      · exact ⟨by rw [a0, m1], by omega, by rw [m3, m4]; exact a4, by omega⟩
      · exact absurd ⟨by omega, hf.2⟩ a1
    · rw [m1] at hfa
      have hf := of_decide_eq_false hfa.symm
      rcases ra_rd hra with ⟨a0, a1, a2, a3, a4⟩ | ⟨a0, a1, d', a2, a3, a4, a5, a6⟩
      · exfalso
        rcases (show q + 1 < e' ∨ q + 1 = e' by omega) with c | c
        · exact hf ⟨c, a2⟩
        · rcases hs with y | y
          · omega
          · rw [← c] at y
            exact y.2.1 a2
      · have dd : d' = d := by
          rcases Nat.lt_trichotomy d' d with c | c | c
          · have := alB_at m3 (show q + 1 ≤ q + 1 + d' by omega) (by omega)
            rcases a5 with y | y
            · omega
            · rw [a2, this] at y
              exact absurd y (by decide)
          · exact c
          · have := alB_at a4 (show q + 1 ≤ q + 1 + d by omega) (by omega)
            rcases m4 with y | y
            · rcases sd with z | z
              · omega
              · rw [← y, this] at z
                exact absurd z (by decide)
            · rw [this] at y
              exact absurd y (by decide)
        subst dd
        refine ⟨by rw [a0, m1], by omega, ?_, by omega⟩
        rcases m6 with ⟨b1, b2, b3⟩ | ⟨b1, b2, b3⟩
        · rcases a6 with ⟨z1, z2⟩ | ⟨z1, z2⟩
          · rw [b2, b3]; exact z2
          · omega
        · rcases a6 with ⟨z1, z2⟩ | ⟨z1, z2⟩
          · omega
          · rw [b2, b3]; exact z2
  obtain ⟨y1, y2, y3, y4⟩ := key
  subst y1 y2
  have eup : up' = up := by
    rw [hup', Bool.eq_iff_iff, hup, decide_eq_true_iff]
    constructor
    · intro z
      refine ⟨?_, z.2⟩
      rcases (show k2 < e' ∨ k2 = e' by omega) with c | c
      · exact c
      · rcases hs with y | y
        · have := z.1; omega
        · rw [← c] at y
          exact absurd z.2 y.2.2
    · intro z
      exact ⟨by omega, z.2⟩
  have edn : dn' = dn := by
    rw [hdn', Bool.eq_iff_iff, hdn, decide_eq_true_iff]
    constructor
    · intro z
      rw [z.1, if_neg (by decide)] at hk3
      rw [hk3] at z
      refine ⟨?_, z.2.2⟩
      rcases (show k2 < e' ∨ k2 = e' by omega) with c | c
      · exact c
      · rcases hs with y | y
        · have := z.2.1; omega
        · rw [← c, z.2.2] at y
          exact absurd (by unfold ncB; omega) y.1
    · intro z
      have u : up' = false := by
        rcases Bool.eq_false_or_eq_true up' with c | c
        · have := (hup.mp c).2
          omega
        · exact c
      rw [u, if_neg (by decide)] at hk3
      rw [hk3]
      exact ⟨u, by omega, z.2⟩
  have ek : k4 = k2' := by
    rw [hk2', hk4, hk3, eup, edn]
    cases up
    · cases dn <;> rfl
    · have : dn = false := by
        rcases Bool.eq_false_or_eq_true dn with c | c
        · rw [edn.trans c] at hdn
          have := (hdn.mp rfl).1
          rw [eup] at this
          exact absurd this (by decide)
        · exact c
      rw [this]
      rfl
  rw [ek] at hE
  obtain ⟨z1, z2, z3⟩ := nE_bw hE en sn hEE
  rw [eup, z3] at ha
  rw [edn, z3] at hb
  exact ⟨z1, z2, rfl, by rw [ha]; exact (un_v y3).1, by rw [hb]; exact (un_v y3).2⟩
