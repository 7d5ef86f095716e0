/-! literals: both sides make the same cell -/
theorem bd_bw {t : Nat → Nat} {n e1 p1 : Nat} {ok op em nn op' : Bool} {a b : rL} {L H : Int} (h : bdR t (skV t n 0) e1 nn op' L H) (en : e1 ≤ n) (hs : e1 = n ∨ t e1 = 95 ∨ blB (t e1) = true) (hb : bdO t n ok op em p1 a b) : ok = true ∧ p1 = e1 ∧ op = op' ∧ em = nn ∧ (nn = false → L = dnX (vL a) ∧ H = upX (vL b) ∧ cmX (vL a) (vL b) ≤ 0) := by
  unfold bdO at hb
  generalize skV t n 0 = f at *
  rcases h with ⟨⟨k1, k2, k3, k4⟩, h⟩ | ⟨nk, rfl, g, v, v2, e2, m, up, dn, hu, rfl, rfl⟩
  · rcases hb with ⟨b1, b2⟩ | ⟨b1, -⟩
    · obtain ⟨a1, a2, a3, a4, a5⟩ := bk_bw (z := e1 - 1) h (by omega) (by omega) k3 b2
      exact ⟨a1, by omega, a3, a4, a5⟩
    · exact absurd ⟨by omega, k2⟩ b1
  · have n91 : t f ≠ 91 := by
      intro y
      obtain ⟨q, dg', sc', k1', E', ask, sgq, er', -⟩ := hu
      have s0 : sgP t f e1 = f := by
        unfold sgP
        rw [if_neg (by omega)]
      rw [s0] at sgq er'
      have := (rdG_p (by decide) _ _ _ _ _ _ er').2.2.2.1 f (Nat.le_refl _) sgq
      rw [y] at this
      exact absurd this (by decide)
    rcases hb with ⟨b1, -⟩ | ⟨b1, rfl, b2⟩
    · exact absurd b1.2 n91
    · obtain ⟨a1, a2, a3, a4, a5⟩ := un_bw hu en (hs.imp id (fun y => by
        unfold ncB
        rcases y with y | y
        · omega
        · have := of_decide_eq_true y
          omega)) b2
      refine ⟨a1, a2, a3, rfl, fun _ => ?_⟩
      rw [a4, a5]
      refine ⟨?_, ?_, un_cm⟩
      · split <;> rfl
      · split <;> rfl
theorem bd_fw {t : Nat → Nat} {n p1 : Nat} {op em : Bool} {a b : rL} (h : bdO t n true op em p1 a b) (hn : n ≤ 400) : skV t n 0 < p1 ∧ p1 ≤ n ∧ blB (t (p1 - 1)) = false ∧ (∀ j, skV t n 0 ≤ j → j < p1 → t j ≠ 95) ∧ (em = false → (rLw a ∧ kdL a) ∧ rLw b ∧ kdL b) ∧ ((em = false → cmX (vL a) (vL b) ≤ 0) → ∃ L H, bdR t (skV t n 0) p1 em op L H) := by
  obtain ⟨-, q2, -, -⟩ := sk_sp (t := t) (n := n) (p := 0) (Nat.zero_le _)
  unfold bdO at h
  generalize skV t n 0 = f at *
  rcases h with ⟨b1, b2⟩ | ⟨b1, rfl, b2⟩
  · obtain ⟨a1, a2, a3, a4, a5, a6⟩ := bk_fw b2 b1.1 b1.2 hn
    refine ⟨by omega, a2, b93 (Or.inl a3), a4, a5, fun y => ?_⟩
    obtain ⟨L, H, w⟩ := a6 y
    exact ⟨L, H, Or.inl ⟨⟨by omega, b1.2, a3, by omega⟩, w⟩⟩
  · obtain ⟨a1, a2, a3, g, v, v2, e2, m, up, dn, hu, ha, hb⟩ := un_fw b2 q2
    have lb : ∀ j, f ≤ j → j < p1 → blB (t j) = false := by
      intro j x y
      have := a3 j x y
      unfold ucB at this
      exact decide_eq_false (by omega)
    refine ⟨a1, a2, lb _ (by omega) (by omega), fun j x y => (a3 j x y).1, fun _ => un_k b2 hn, fun _ => ⟨_, _, Or.inr ⟨fun k => b1 ⟨by omega, k.2.1⟩, rfl, g, v, v2, e2, m, up, dn, hu, rfl, rfl⟩⟩⟩
/-- the cell that the class makes of what it has read -/
noncomputable def lcC (n : Nat) (ok op em : Bool) (p' m : Nat) (a b : rL) : vC := if rdB n ok op em p' m a b = true then (min (if m = 0 then 4 else m) (sC (if em = true then 9218868437227405312 else dnX (vL a)) (if em = true then -9218868437227405312 else upX (vL b))), (if em = true then 9218868437227405312 else dnX (vL a)), (if em = true then -9218868437227405312 else upX (vL b))) else (0, 0, 0)
theorem mk_wd {t : Nat → Nat} {n p m : Nat} (h : wkB t n p mkG (3 * m - 3) 3) (h1 : 1 ≤ m) (h4 : m ≤ 4) : (∀ j, p ≤ j → j < p + 3 → blB (t j) = false) ∧ mtR t p (p + 3) m := by
  have g : ∀ L : List Nat, L.length = 3 → (∀ i, i < 3 → mkG (3 * m - 3 + i) = L.getD i 0) → wdL t p (p + 3) L := by
    intro L l3 hL
    refine ⟨by omega, fun j hj => ?_⟩
    rw [h.2 j (by omega)]
    exact hL j (by omega)
  have no : ∀ L : List Nat, L.length = 3 → L.getD 0 0 ≠ mkG (3 * m - 3) → ¬ wdL t p (p + 3) L := by
    intro L l3 hL y
    have y0 := y.2 0 (by omega)
    have h0 := h.2 0 (by decide)
    rw [Nat.add_zero] at y0 h0
    exact hL (y0.symm.trans h0)
  have no1 : ∀ L : List Nat, L.length = 3 → L.getD 1 0 ≠ mkG (3 * m - 3 + 1) → ¬ wdL t p (p + 3) L := by
    intro L l3 hL y
    exact hL ((y.2 1 (by omega)).symm.trans (h.2 1 (by decide)))
  refine ⟨fun j x y => ?_, ?_⟩
  · have := h.2 (j - p) (by omega)
    rw [show p + (j - p) = j by omega] at this
    rw [this]
    rcases (show m = 1 ∨ m = 2 ∨ m = 3 ∨ m = 4 by omega) with rfl | rfl | rfl | rfl <;> rcases (show j - p = 0 ∨ j - p = 1 ∨ j - p = 2 by omega) with e | e | e <;> rw [e] <;> decide
  · rcases (show m = 1 ∨ m = 2 ∨ m = 3 ∨ m = 4 by omega) with rfl | rfl | rfl | rfl
    · exact Or.inr (Or.inr (Or.inr (Or.inl ⟨rfl, no _ rfl (by decide), no _ rfl (by decide), no _ rfl (by decide), g _ rfl (by decide)⟩)))
    · exact Or.inr (Or.inr (Or.inl ⟨rfl, no _ rfl (by decide), no1 _ rfl (by decide), g _ rfl (by decide)⟩))
    · exact Or.inr (Or.inl ⟨rfl, no _ rfl (by decide), g _ rfl (by decide)⟩)
    · exact Or.inl ⟨rfl, g _ rfl (by decide)⟩
theorem mt_wk {t : Nat → Nat} {n p e m : Nat} (h : mtR t p e m) (h0 : m ≠ 0) (en : e ≤ n) : 1 ≤ m ∧ m ≤ 4 ∧ e = p + 3 ∧ wkB t n p mkG (3 * m - 3) 3 := by
  have g : ∀ L : List Nat, wdL t p e L → L.length = 3 → (∀ i, i < 3 → mkG (3 * m - 3 + i) = L.getD i 0) → e = p + 3 ∧ wkB t n p mkG (3 * m - 3) 3 := by
    intro L w l3 hL
    have w1 := w.1
    refine ⟨by omega, by omega, fun i hi => ?_⟩
    rw [w.2 i (by omega)]
    exact (hL i hi).symm
  rcases h with ⟨rfl, w⟩ | ⟨rfl, -, w⟩ | ⟨rfl, -, -, w⟩ | ⟨rfl, -, -, -, w⟩ | ⟨rfl, -⟩
  · exact ⟨by decide, by decide, g _ w rfl (by decide)⟩
  · exact ⟨by decide, by decide, g _ w rfl (by decide)⟩
  · exact ⟨by decide, by decide, g _ w rfl (by decide)⟩
  · exact ⟨by decide, by decide, g _ w rfl (by decide)⟩
  · exact absurd rfl h0
theorem mt_u {t : Nat → Nat} {p e m m' : Nat} (h : mtR t p e m) (h' : mtR t p e m') : m = m' := by
  rcases h with ⟨rfl, w⟩ | ⟨rfl, w0, w⟩ | ⟨rfl, w0, w1, w⟩ | ⟨rfl, w0, w1, w2, w⟩ | ⟨rfl, w0, w1, w2, w3⟩ <;> rcases h' with ⟨rfl, v⟩ | ⟨rfl, v0, v⟩ | ⟨rfl, v0, v1, v⟩ | ⟨rfl, v0, v1, v2, v⟩ | ⟨rfl, v0, v1, v2, v3⟩ <;> first | rfl | contradiction
theorem ln_u {t : Nat → Nat} {f e c c' : Nat} (h : lnP t f e c) (h' : lnP t f e c') : c = c' := by
  obtain ⟨a1, a2, a3, a4⟩ := h
  obtain ⟨b1, b2, b3, b4⟩ := h'
  rcases Nat.lt_trichotomy c c' with d | d | d
  · exact absurd a3 (b4 c a1 d)
  · exact d
  · exact absurd b3 (a4 c' b1 d)
theorem rd_w {t : Nat → Nat} {n : Nat} {op em : Bool} {p' m : Nat} {a b : rL} (h : rdR t n true op em p' m a b) (hn : n ≤ 400) (he : em = false) : (rLw a ∧ kdL a) ∧ rLw b ∧ kdL b := by
  obtain ⟨o1, p1, p2, hb, hm, -⟩ := h
  have o1t : o1 = true := by
    rcases hm with ⟨-, -, -, q⟩ | ⟨-, -, -, q⟩
    · rw [eq_comm, Bool.and_eq_true] at q
      exact q.1
    · exact q.symm
  subst o1t
  exact (bd_fw hb hn).2.2.2.2.1 he
/-- what the class takes, the reference takes -/
theorem rd_fw {t : Nat → Nat} {n : Nat} {ok op em : Bool} {p' m : Nat} {a b : rL} (h : rdR t n ok op em p' m a b) (hn : n ≤ 400) (hr : rdB n ok op em p' m a b = true) : ∃ p1 L H, bdR t (skV t n 0) p1 em op L H ∧ ((m = 0 ∧ p1 = rT t (skV t n 0) (n - skV t n 0) ∧ ¬ ∃ ln, lnP t (skV t n 0) p1 ln) ∨ lnP t (skV t n 0) (rT t (skV t n 0) (n - skV t n 0)) p1) := by
  unfold rdB at hr
  rw [Bool.and_eq_true, Bool.and_eq_true, decide_eq_true_iff] at hr
  obtain ⟨⟨rfl, hp⟩, hr⟩ := hr
  have wf := fun e => rd_w h hn e
  obtain ⟨o1, p1, p2, hb, hm, hp'⟩ := h
  have o1t : o1 = true := by
    rcases hm with ⟨-, -, -, q⟩ | ⟨-, -, -, q⟩
    · rw [eq_comm, Bool.and_eq_true] at q
      exact q.1
    · exact q.symm
  subst o1t
  obtain ⟨a1, a2, a3, a4, -, a6⟩ := bd_fw hb hn
  obtain ⟨L, H, w⟩ := a6 (fun e => by
    rw [if_neg (by rw [e]; decide), Bool.and_eq_true, decide_eq_true_iff] at hr
    obtain ⟨⟨w1, -⟩, w2, -⟩ := wf e
    rw [← od_cm w1 w2]
    exact hr.2)
  have end' : ∀ q, q ≤ n → p2 = q → blB (t (q - 1)) = false → p1 ≤ q → rT t (skV t n 0) (n - skV t n 0) = q := by
    intro q x y z u
    obtain ⟨s1, s2, s3, -⟩ := sk_sp (t := t) x
    rw [y] at hp'
    refine rT_uq (by omega) (by omega) (fun j v w => s3 j v (by omega)) (Or.inr z)
  refine ⟨p1, L, H, w, ?_⟩
  rcases hm with ⟨m1, m2, m3, m4⟩ | ⟨m1, m2, m3, m4⟩
  · rw [Bool.true_and, eq_comm, decide_eq_true_iff] at m4
    rw [if_neg m4] at m3
    rcases m2 with ⟨k1, k2, k3, -⟩ | ⟨k1, -⟩
    · have k4 := k3.1
      obtain ⟨w1, w2⟩ := mk_wd k3 k1 k2
      have e := end' (p1 + 1 + 3) (by omega) m3 (w1 _ (by omega) (by omega)) (by omega)
      rw [e]
      exact Or.inr ⟨by omega, by omega, m1.2, a4⟩
    · exact absurd k1 m4
  · have e := end' p1 a2 m3 a3 (Nat.le_refl _)
    exact Or.inl ⟨m2, e.symm, fun ⟨ln, l1, l2, l3, _⟩ => a4 ln l1 l2 l3⟩
theorem lit_eq {t : Nat → Nat} {n : Nat} {c : vC} {ok op em : Bool} {p' m : Nat} {a b : rL} (hn : n ≤ 400) (hl : litR t n c) (h : rdR t n ok op em p' m a b) : lcC n ok op em p' m a b = c := by
  have fw := fun hr => rd_fw h hn hr
  have wf : ok = true → em = false → (rLw a ∧ kdL a) ∧ rLw b ∧ kdL b := fun e1 e2 => by
    rw [e1] at h
    exact rd_w h hn e2
  have ill : (rdB n ok op em p' m a b = true → False) → lcC n ok op em p' m a b = (0, 0, 0) := fun q => if_neg q
  obtain ⟨o1, p1, p2, hb, hm, hp'⟩ := h
  have hl' : litE t (skV t n 0) (rT t (skV t n 0) (n - skV t n 0)) c := hl
  obtain ⟨q1, q2, q3, q4⟩ := sk_sp (t := t) (n := n) (p := 0) (Nat.zero_le _)
  obtain ⟨r1, r2, r3, r4⟩ := rT_sp t (skV t n 0) (n - skV t n 0)
  have en : rT t (skV t n 0) (n - skV t n 0) ≤ n := by omega
  have se : ∀ j, rT t (skV t n 0) (n - skV t n 0) ≤ j → j < n → blB (t j) = true := fun j x y => r3 j x (by omega)
  generalize hE : rT t (skV t n 0) (n - skV t n 0) = e at *
  have sek : ∀ p, e ≤ p → p ≤ n → skV t n p = n := fun p x y => sk_uq y (Nat.le_refl _) (fun j u v => se j (by omega) v) (Or.inl rfl)
  rcases hl' with ⟨nl, hc | ⟨hno, rfl⟩⟩ | ⟨ln, hln, hc | ⟨hno, rfl⟩⟩
  · obtain ⟨nn, op', L, H, hbd, rfl⟩ := hc
    have hst : e = n ∨ t e = 95 ∨ blB (t e) = true := by
      rcases (show e = n ∨ e < n by omega) with d | d
      · exact Or.inl d
      · exact Or.inr (Or.inr (se e (Nat.le_refl _) d))
    obtain ⟨b1, b2, b3, b4, b5⟩ := bd_bw hbd en hst hb
    subst b1 b2 b3 b4
    have no95 : ¬ atB t n p1 95 := by
      intro y
      have := se p1 (Nat.le_refl _) y.1
      rw [y.2] at this
      exact absurd this (by decide)
    rcases hm with ⟨m1, -⟩ | ⟨-, m2, m3, m4⟩
    · exact absurd m1 no95
    · subst m2 m3 m4
      rw [sek p2 (Nat.le_refl _) en] at hp'
      have bo := bd_o hbd
      unfold lcC
      rcases bo with ⟨e1, e2, e3⟩ | ⟨e1, e2⟩
      · subst e1 e2 e3
        have : rdB n true op true p' 0 a b = true := by
          unfold rdB
          rw [decide_eq_true (show n ≤ p' by omega)]
          rfl
        rw [if_pos this]
        simp only [Bool.or_false, Bool.false_or, Bool.or_true, Bool.true_or, Bool.and_true, Bool.true_and, Bool.and_false, Bool.false_and, Bool.not_true, Bool.not_false, reduceCtorEq, reduceIte, true_and, and_true, false_and, and_false, true_or, or_true, false_or, or_false, not_true_eq_false, not_false_eq_true, Nat.reduceEqDiff, Nat.reduceLT]
        decide
      · subst e1
        obtain ⟨l1, l2, l3⟩ := b5 rfl
        obtain ⟨⟨w1, -⟩, w2, -⟩ := wf rfl rfl
        have : rdB n true op false p' 0 a b = true := by
          unfold rdB
          rw [decide_eq_true (show n ≤ p' by omega), od_cm w1 w2, decide_eq_true l3]
          cases op <;> rfl
        rw [if_pos this]
        simp only [Bool.or_false, Bool.false_or, Bool.or_true, Bool.true_or, Bool.and_true, Bool.true_and, Bool.and_false, Bool.false_and, Bool.not_true, Bool.not_false, reduceCtorEq, reduceIte, true_and, and_true, false_and, and_false, true_or, or_true, false_or, or_false, not_true_eq_false, not_false_eq_true, Nat.reduceEqDiff, Nat.reduceLT]
        rw [← l1, ← l2]
        have nc : nC L H := ⟨⟨e2.1, by omega⟩, ⟨by omega, by omega⟩, e2.2.2.2.2, by omega, by omega⟩
        have sg : sgM false L H = sC L H := by
          unfold sgM sC
          rw [nC_e nc, ibC nc]
        have sb := @sC_b L H
        rw [sg, show min 4 (sC L H) = sC L H by omega]
        unfold kC
        rw [if_neg (by omega), if_neg (by decide)]
  · refine ill fun hr => ?_
    obtain ⟨p1', L, H, w, y | y⟩ := fw hr
    · rw [y.2.1] at w
      exact hno ⟨_, _, L, H, w⟩
    · exact nl ⟨_, y⟩
  · obtain ⟨nn, op', L, H, m', hbd, hmt, rfl⟩ := hc
    obtain ⟨b1, b2, b3, b4, b5⟩ := bd_bw hbd (by have := hln.2.1; omega) (Or.inr (Or.inl hln.2.2.1)) hb
    subst b1 b2 b3 b4
    have lne := hln.2.1
    have ln1 := hln.1
    rcases hm with ⟨m1, m2, m3, m4⟩ | ⟨m1, -⟩
    · have z0 : kC (mkT 0 true op em L H) em L H = (0, 0, 0) := by
        have : mkT 0 true op em L H = 0 := by
          unfold mkT
          split
          · rw [if_neg (fun q => absurd q.1 (by decide))]
          · rfl
        rw [this]
        rfl
      by_cases mz : m = 0
      · have okf : ok = false := by rw [m4, mz]; rfl
        have m0 : m' = 0 := by
          refine Decidable.byContradiction fun q => ?_
          obtain ⟨k1, k2, k3, k4⟩ := mt_wk hmt q en
          rcases m2 with ⟨x1, -⟩ | ⟨-, x1⟩
          · omega
          · exact x1 _ k1 k2 k4
        rw [m0, z0]
        exact ill (fun hr => by
          unfold rdB at hr
          rw [okf, Bool.false_and, Bool.false_and] at hr
          exact ft_no hr)
      · rcases m2 with ⟨k1, k2, k3, k4⟩ | ⟨x1, -⟩
        · rw [if_neg mz] at m3
          have okt : ok = true := by rw [m4, decide_eq_true mz]; rfl
          subst okt
          have k5 := k3.1
          obtain ⟨w1, w2⟩ := mk_wd k3 k1 k2
          by_cases pe : n ≤ p'
          · have ee : e = p1 + 1 + 3 := by
              rw [← hE]
              obtain ⟨s1, s2, s3, -⟩ := sk_sp (t := t) (n := n) (p := p2) (by omega)
              rw [← hp'] at s1 s2 s3
              exact rT_uq (by omega) (by omega) (fun j v w => s3 j (by omega) (by omega)) (Or.inr (w1 _ (by omega) (by omega)))
            rw [ee] at hmt
            have mm := mt_u hmt w2
            subst mm
            have bo := bd_o hbd
            unfold lcC rdB mkT mayB
            rw [decide_eq_true pe, if_neg mz]
            rcases bo with ⟨e1, e2, e3⟩ | ⟨e1, e2⟩
            · subst e1 e2 e3
              have opf : op = false := by
                rcases hbd with ⟨-, y | y | y | y⟩ | ⟨-, y, -⟩
                · exact y.2.2.1
                · exact absurd y.2.2.1 (by decide)
                · exact absurd y.2.2.1 (by decide)
                · exact absurd y.2.2.1 (by decide)
                · exact absurd y (by decide)
              rw [opf]
              rcases (show m' = 1 ∨ m' = 2 ∨ m' = 3 ∨ m' = 4 by omega) with rfl | rfl | rfl | rfl
              · simp only [Bool.or_false, Bool.false_or, Bool.or_true, Bool.true_or, Bool.and_true, Bool.true_and, Bool.and_false, Bool.false_and, Bool.not_true, Bool.not_false, reduceCtorEq, reduceIte, true_and, and_true, false_and, and_false, true_or, or_true, false_or, or_false, not_true_eq_false, not_false_eq_true, Nat.reduceEqDiff, Nat.reduceLT]
                decide
              · simp only [Bool.or_false, Bool.false_or, Bool.or_true, Bool.true_or, Bool.and_true, Bool.true_and, Bool.and_false, Bool.false_and, Bool.not_true, Bool.not_false, reduceCtorEq, reduceIte, true_and, and_true, false_and, and_false, true_or, or_true, false_or, or_false, not_true_eq_false, not_false_eq_true, Nat.reduceEqDiff, Nat.reduceLT, Nat.reduceLeDiff, decide_false, decide_true]
                rfl
              · simp only [Bool.or_false, Bool.false_or, Bool.or_true, Bool.true_or, Bool.and_true, Bool.true_and, Bool.and_false, Bool.false_and, Bool.not_true, Bool.not_false, reduceCtorEq, reduceIte, true_and, and_true, false_and, and_false, true_or, or_true, false_or, or_false, not_true_eq_false, not_false_eq_true, Nat.reduceEqDiff, Nat.reduceLT, Nat.reduceLeDiff, decide_false, decide_true]
                rfl
              · simp only [Bool.or_false, Bool.false_or, Bool.or_true, Bool.true_or, Bool.and_true, Bool.true_and, Bool.and_false, Bool.false_and, Bool.not_true, Bool.not_false, reduceCtorEq, reduceIte, true_and, and_true, false_and, and_false, true_or, or_true, false_or, or_false, not_true_eq_false, not_false_eq_true, Nat.reduceEqDiff, Nat.reduceLT, Nat.reduceLeDiff, decide_false, decide_true]
                rfl
            · subst e1
              obtain ⟨l1, l2, l3⟩ := b5 rfl
              obtain ⟨⟨v1, -⟩, v2, -⟩ := wf rfl rfl
              have nc : nC L H := ⟨⟨e2.1, by omega⟩, ⟨by omega, by omega⟩, e2.2.2.2.2, by omega, by omega⟩
              rw [od_cm v1 v2, decide_eq_true l3]
              simp only [Bool.or_false, Bool.false_or, Bool.or_true, Bool.true_or, Bool.and_true, Bool.true_and, Bool.and_false, Bool.false_and, Bool.not_true, Bool.not_false, reduceCtorEq, reduceIte, true_and, and_true, false_and, and_false, true_or, or_true, false_or, or_false, not_true_eq_false, not_false_eq_true, Nat.reduceEqDiff, Nat.reduceLT]
              rw [← l1, ← l2, ibC nc]
              have sg : sC L H = if bC L H = true then 4 else 3 := by
                unfold sC
                rw [nC_e nc, if_neg (by decide)]
              rw [sg]
              unfold kC
              simp only [Bool.or_false, Bool.false_or, Bool.or_true, Bool.true_or, Bool.and_true, Bool.true_and, Bool.and_false, Bool.false_and, Bool.not_true, Bool.not_false, reduceCtorEq, reduceIte, true_and, and_true, false_and, and_false, true_or, or_true, false_or, or_false, not_true_eq_false, not_false_eq_true, Nat.reduceEqDiff, Nat.reduceLT]
              cases op
              · rcases (show m' = 1 ∨ m' = 2 ∨ m' = 3 ∨ m' = 4 by omega) with rfl | rfl | rfl | rfl <;> rcases Bool.eq_false_or_eq_true (bC L H) with y | y <;> rw [y] <;> rfl
              · rcases (show m' = 1 ∨ m' = 2 ∨ m' = 3 ∨ m' = 4 by omega) with rfl | rfl | rfl | rfl <;> rcases Bool.eq_false_or_eq_true (bC L H) with y | y <;> rw [y] <;> rfl
          · have m0 : m' = 0 := by
              refine Decidable.byContradiction fun q => ?_
              obtain ⟨j1, j2, j3, j4⟩ := mt_wk hmt q en
              have := sek p2 (by omega) (by omega)
              omega
            rw [m0, z0]
            exact ill (fun hr => by
              unfold rdB at hr
              rw [decide_eq_false pe, Bool.and_false, Bool.false_and] at hr
              exact ft_no hr)
        · exact absurd x1 mz
    · exact absurd ⟨by omega, hln.2.2.1⟩ m1
  · refine ill fun hr => ?_
    obtain ⟨p1', L, H, w, y | y⟩ := fw hr
    · rw [y.2.1] at y
      exact y.2.2 ⟨ln, hln⟩
    · have := ln_u y hln
      rw [this] at w
      exact hno ⟨_, _, L, H, w⟩
