/-! the cells that reckon makes are the reference's -/
abbrev nC (lo hi : Int) : Prop := bF lo ∧ bF hi ∧ lo ≤ hi ∧ lo < 9218868437227405312 ∧ -9218868437227405312 < hi
theorem nC_e {lo hi : Int} (h : nC lo hi) : eC lo hi = false := decide_eq_false (by have := h.2.2.1; omega)
theorem nC_of {X Y : vE} (h : leD X Y) : nC (dnX X) (upX Y) := ⟨dnX_b X, upX_b Y, h.1, h.2.1, h.2.2⟩
theorem nC_l {lo hi : Int} (h : nC lo hi) : bF lo ∧ lo < 9218868437227405312 := ⟨h.1, h.2.2.2.1⟩
theorem nC_h {lo hi : Int} (h : nC lo hi) : bF hi ∧ -9218868437227405312 < hi := ⟨h.2.1, h.2.2.2.2⟩
theorem sgF_n {l h : Int} (w : l ≤ h) : nC (sgF l) (sgF h) := by
  unfold nC bF sgF
  repeat' split
  all_goals omega
theorem st_n {o : Nat} {l h : Int} (h1 : 5 ≤ o) (h2 : o ≤ 9) (w : nC l h) : nC (stF o l) (stF o h) := by
  rcases (show o = 5 ∨ 6 ≤ o by omega) with rfl | h3
  · rw [st_sg, st_sg]
    exact sgF_n w.2.2.1
  · rw [st_wR w.1 h3 h2, st_wR w.2.1 h3 h2]
    have hh : hwO o ≤ 3 := by unfold hwO; repeat' split
                              all_goals decide
    refine ⟨wR_b w.1, wR_b w.2.1, wR_mono hh w.1 w.2.1 w.2.2.1, ?_, ?_⟩
    · rcases Bool.eq_false_or_eq_true (iN l) with c | c
      · rw [wR_w w.1 (Or.inl c)]; exact w.2.2.2.1
      · exact (wR_f w.1 c).2
    · rcases Bool.eq_false_or_eq_true (iN h) with c | c
      · rw [wR_w w.2.1 (Or.inl c)]; exact w.2.2.2.2
      · exact (wR_f w.2.1 c).1
theorem f_L {o : Nat} {l h l' h' l'' : Int} : fiL 1 (o : Int) l h l' h' l'' = foL o l h := by
  unfold fiL
  rw [if_neg (by decide), if_neg (by decide), if_pos rfl, Int.toNat_natCast]
theorem f_H {o : Nat} {l h l' h' l'' : Int} : fiH 1 (o : Int) l h l' h' l'' = foH o l h := by
  unfold fiH
  rw [if_neg (by decide), if_neg (by decide), if_pos rfl, Int.toNat_natCast]
theorem f_E {o : Nat} {l h l' h' : Int} : fiE 1 (o : Int) l h l' h' = foE o l h := by
  unfold fiE
  rw [if_neg (by decide), if_neg (by decide), if_pos rfl, Int.toNat_natCast]
theorem f_T {o : Nat} : fiT 1 (o : Int) = decide (o = 3) := by
  unfold fiT
  rw [Bool.eq_iff_iff, decide_eq_true_iff, decide_eq_true_iff]
  omega
theorem f_D {o : Nat} {l h l' h' : Int} : dfB 1 (o : Int) l h l' h' = if o = 3 then decide (0 ≤ l) else if o = 1 then !zC l h else true := by
  unfold dfB
  by_cases c : o = 3
  · subst c; rfl
  · rw [if_neg (by omega), if_neg c]
    by_cases d : o = 1
    · subst d; rfl
    · rw [if_neg (by omega), if_neg d, if_neg (by omega), if_neg (by omega)]
theorem t_L {o : Nat} {l h l' h' l'' : Int} : fiL 2 (o : Int) l h l' h' l'' = ftL o l h l' h' := by
  unfold fiL
  rw [if_neg (by decide), if_pos rfl, Int.toNat_natCast]
theorem t_H {o : Nat} {l h l' h' l'' : Int} : fiH 2 (o : Int) l h l' h' l'' = ftH o l h l' h' := by
  unfold fiH
  rw [if_neg (by decide), if_pos rfl, Int.toNat_natCast]
theorem t_E {o : Nat} {l h l' h' : Int} : fiE 2 (o : Int) l h l' h' = ftE o l' h' := by
  unfold fiE
  rw [if_neg (by decide), if_pos rfl, Int.toNat_natCast]
theorem fiT_f {kd : Nat} {op : Int} (h : kd ≠ 1) : fiT kd op = false := decide_eq_false (fun q => h q.1)
theorem t_D {o : Nat} {l h l' h' : Int} : dfB 2 (o : Int) l h l' h' = if o = 3 then !zC l' h' else true := by
  unfold dfB
  rw [if_neg (by omega), if_neg (by omega), if_neg (by omega)]
  by_cases c : o = 3
  · subst c; rfl
  · rw [if_neg (by omega), if_neg c]
theorem foL_0 {l h : Int} : foL 0 l h = fl (-h) := by
  unfold foL
  rw [if_pos rfl]
theorem foH_0 {l h : Int} : foH 0 l h = fl (-l) := by
  unfold foH
  rw [if_pos rfl]
theorem foL_1 {l h : Int} : foL 1 l h = rwL (-1) l h := by
  unfold foL
  rw [if_neg (by decide), if_pos rfl]
theorem foH_1 {l h : Int} : foH 1 l h = rwH (-1) l h := by
  unfold foH
  rw [if_neg (by decide), if_pos rfl]
theorem foL_2 {l h : Int} : foL 2 l h = rwL 2 l h := by
  unfold foL
  rw [if_neg (by decide), if_neg (by decide), if_pos rfl]
theorem foH_2 {l h : Int} : foH 2 l h = rwH 2 l h := by
  unfold foH
  rw [if_neg (by decide), if_neg (by decide), if_pos rfl]
theorem foL_3 {l h : Int} : foL 3 l h = fl (max l 0) := by
  unfold foL
  rw [if_neg (by decide), if_neg (by decide), if_neg (by decide), if_pos rfl]
theorem foH_3 {l h : Int} : foH 3 l h = fl h := by
  unfold foH
  rw [if_neg (by decide), if_neg (by decide), if_neg (by decide), if_pos rfl]
theorem foL_4 {l h : Int} : foL 4 l h = fl (max 0 (max l (-h))) := by
  unfold foL
  rw [if_neg (by decide), if_neg (by decide), if_neg (by decide), if_neg (by decide), if_pos rfl]
theorem foH_4 {l h : Int} : foH 4 l h = fl (max (-l) h) := by
  unfold foH
  rw [if_neg (by decide), if_neg (by decide), if_neg (by decide), if_neg (by decide), if_pos rfl]
theorem foL_5 {o : Nat} {l h : Int} (h5 : 5 ≤ o) : foL o l h = fl (stF o l) := by
  unfold foL
  rw [if_neg (by omega), if_neg (by omega), if_neg (by omega), if_neg (by omega), if_neg (by omega)]
theorem foH_5 {o : Nat} {l h : Int} (h5 : 5 ≤ o) : foH o l h = fl (stF o h) := by
  unfold foH
  rw [if_neg (by omega), if_neg (by omega), if_neg (by omega), if_neg (by omega), if_neg (by omega)]
theorem ftE_3 {l h : Int} : ftE 3 l h = decide (l = 0 ∧ h = 0) := if_pos rfl
theorem foE_3 {l h : Int} : foE 3 l h = decide (h < 0) := by
  unfold foE
  rw [if_neg (by decide), if_pos rfl]
theorem dnT_t (x : Rat) : dnT true (.inl x) = rdF x := by
  unfold dnT
  exact if_pos rfl
theorem upT_t (x : Rat) : upT true (.inl x) = ruF x := by
  unfold upT
  exact if_pos rfl
theorem rt_L {l : Int} (h : bF l ∧ l < 9218868437227405312) : dnT true (fl (max l 0)) = rdF (fval (max l 0)) := by
  rw [fl_f (iN_ff (by omega) (by omega)), dnT_t]
theorem rt_H {h : Int} (w : bF h) (h0 : 0 ≤ h) : upT true (fl h) = if iN h = true then 9218868437227405312 else ruF (fval h) := by
  rcases Bool.eq_false_or_eq_true (iN h) with c | c
  · rw [fl_i c, if_pos c, decide_eq_false (by omega)]
    rfl
  · rw [fl_f c, if_neg (by rw [c]; decide)]
    exact upT_t _
theorem rk_le {kd : Nat} {op l h l' h' l'' h'' : Int} (ho : fiO kd op) (w : nC l h) (w' : nC l' h') (w'' : nC l'' h'') (e : fiE kd op l h l' h' = false) : nC (dnT (fiT kd op) (fiL kd op l h l' h' l'')) (upT (fiT kd op) (fiH kd op l h l' h' h'')) := by
  obtain ⟨⟨b1, b2⟩, ⟨b3, b4⟩, b5, b6, b7⟩ := id w
  obtain ⟨⟨c1, c2⟩, ⟨c3, c4⟩, c5, c6, c7⟩ := id w'
  rcases ho with ⟨rfl, a, b⟩ | ⟨rfl, a, b⟩ | ⟨rfl, a, b⟩ | ⟨rfl, rfl⟩
  · have a1 : fiL 4 op l h l' h' l'' = rwL op l h := if_pos rfl
    have a2 : fiH 4 op l h l' h' h'' = rwH op l h := if_pos rfl
    rw [fiT_f (by decide), dnT_f, upT_f, a1, a2]
    exact nC_of (rw_le (nC_l w) (nC_h w) w.2.2.1)
  · obtain ⟨n, rfl⟩ : ∃ n : Nat, op = (n : Int) := ⟨op.toNat, by omega⟩
    rw [fiT_f (by decide), dnT_f, upT_f, t_L, t_H]
    rw [t_E] at e
    refine nC_of ?_
    rcases (show n = 0 ∨ n = 1 ∨ n = 2 ∨ n = 3 ∨ n = 4 ∨ n = 5 by omega) with rfl | rfl | rfl | rfl | rfl | rfl
    · rw [ftL_0, ftH_0]
      exact ad_le (nC_l w) (nC_h w) (nC_l w') (nC_h w') w.2.2.1 w'.2.2.1
    · rw [ftL_1, ftH_1]
      exact ad_le (c := -h') (d := -l') (nC_l w) (nC_h w) ⟨⟨by omega, by omega⟩, by omega⟩ ⟨⟨by omega, by omega⟩, by omega⟩ w.2.2.1 (by omega)
    · rw [ftL_2, ftH_2]
      exact mu_le (nC_l w) (nC_h w) w.2.2.1 (nC_l w') (nC_h w') w'.2.2.1
    · rw [ftE_3] at e
      rw [ftL_3, ftH_3]
      exact dv_le (nC_l w) (nC_h w) w.2.2.1 (nC_l w') (nC_h w') w'.2.2.1 (of_decide_eq_false e)
    · rw [ftL_4, ftH_4]
      exact leD_fl (a := min l l') (b := min h h') ⟨by omega, by omega⟩ ⟨by omega, by omega⟩ (by omega) (by omega) (by omega)
    · rw [ftL_5, ftH_5]
      exact leD_fl (a := max l l') (b := max h h') ⟨by omega, by omega⟩ ⟨by omega, by omega⟩ (by omega) (by omega) (by omega)
  · obtain ⟨n, rfl⟩ : ∃ n : Nat, op = (n : Int) := ⟨op.toNat, by omega⟩
    rw [f_T, f_L, f_H]
    rw [f_E] at e
    rcases (show n = 3 ∨ n ≠ 3 by omega) with rfl | h3
    · have h0 : 0 ≤ h := by
        rw [foE_3] at e
        have := of_decide_eq_false e
        omega
      rw [decide_eq_true rfl, foL_3, foH_3, rt_L (nC_l w), rt_H w.2.1 h0]
      have r1 := ru_b (rd_f (show 0 ≤ max l 0 by omega) (by omega))
      rcases Bool.eq_false_or_eq_true (iN h) with c | c
      · rw [if_pos c]
        exact ⟨⟨by omega, by omega⟩, ⟨by decide, by decide⟩, by omega, by omega, by decide⟩
      · rw [if_neg (by rw [c]; decide)]
        have hI := iNf c
        have r2 := ru_b (rd_f h0 (by omega))
        have r3 := rd_ru (show 0 ≤ max l 0 by omega) (show max l 0 ≤ h by omega) (by omega)
        exact ⟨⟨by omega, by omega⟩, ⟨by omega, by omega⟩, r3, by omega, by omega⟩
    · rw [decide_eq_false h3, dnT_f, upT_f]
      refine nC_of ?_
      rcases (show n = 0 ∨ n = 1 ∨ n = 2 ∨ n = 4 ∨ 5 ≤ n by omega) with rfl | rfl | rfl | rfl | h5
      · rw [foL_0, foH_0]
        exact leD_fl (a := -h) (b := -l) ⟨by omega, by omega⟩ ⟨by omega, by omega⟩ (by omega) (by omega) (by omega)
      · rw [foL_1, foH_1]
        exact rw_le (n := -1) (nC_l w) (nC_h w) w.2.2.1
      · rw [foL_2, foH_2]
        exact rw_le (n := 2) (nC_l w) (nC_h w) w.2.2.1
      · rw [foL_4, foH_4]
        exact leD_fl (a := max 0 (max l (-h))) (b := max (-l) h) ⟨by omega, by omega⟩ ⟨by omega, by omega⟩ (by omega) (by omega) (by omega)
      · have s := st_n h5 (by omega) w
        rw [foL_5 h5, foH_5 h5]
        exact leD_fl s.1 s.2.1 s.2.2.1 s.2.2.2.1 s.2.2.2.2
  · have a1 : fiL 3 0 l h l' h' l'' = adX (mnI (cK l h l' h') 4) (fl l'') := by
      unfold fiL
      rw [if_neg (by decide), if_neg (by decide), if_neg (by decide)]
    have a2 : fiH 3 0 l h l' h' h'' = adX (mxI (cK l h l' h') 4) (fl h'') := by
      unfold fiH
      rw [if_neg (by decide), if_neg (by decide), if_neg (by decide)]
    rw [fiT_f (by decide), dnT_f, upT_f, a1, a2]
    exact nC_of (fu_le (nC_l w) (nC_h w) w.2.2.1 (nC_l w') (nC_h w') w'.2.2.1 (nC_l w'') (nC_h w'') w''.2.2.1)
theorem rk_gen {kd : Nat} {op : Int} {x y z : vC} {em df wi al bd : Bool} {L H : Int} {k : Nat} (m1 : x.1 ≠ 0) (m2 : y.1 ≠ 0) (m3 : z.1 ≠ 0) (nx : nC x.2.1 x.2.2) (ny : nC y.2.1 y.2.2) (nz : nC z.2.1 z.2.2) (ho : fiO kd op) (h1 : fiE kd op x.2.1 x.2.2 y.2.1 y.2.2 = em) (h2 : em = false → dnT (fiT kd op) (fiL kd op x.2.1 x.2.2 y.2.1 y.2.2 z.2.1) = L ∧ upT (fiT kd op) (fiH kd op x.2.1 x.2.2 y.2.1 y.2.2 z.2.2) = H) (h3 : em = true → df = false) (h4 : dfB kd op x.2.1 x.2.2 y.2.1 y.2.2 = df) (h5 : em = false → df = true → nC L H → owN false kd op L H x.2.1 x.2.2 y.2.1 y.2.2 z.2.1 z.2.2 = oW true bd true wi al (ibB false L H)) (hk : k = min x.1 (min y.1 z.1)) : rkC kd op x y z = kC (min (oW true bd df wi al (ibB em L H)) k) em L H := by
  have kp : 0 < k := by omega
  have e : (eC x.2.1 x.2.2 || eC y.2.1 y.2.2 || eC z.2.1 z.2.2) = false := by rw [nC_e nx, nC_e ny, nC_e nz]; rfl
  have ob := @oW_b true bd df wi al (ibB em L H)
  have rE : rkE kd op x y z = em := by unfold rkE; rw [e, h1]; rfl
  unfold rkC
  rw [if_neg (by omega), e]
  cases em
  · obtain ⟨a, b⟩ := h2 rfl
    have eL : rkL kd op x y z = L := (if_neg (by rw [rE]; decide)).trans a
    have eH : rkH kd op x y z = H := (if_neg (by rw [rE]; decide)).trans b
    rw [eL, eH]
    have w : owN false kd op L H x.2.1 x.2.2 y.2.1 y.2.2 z.2.1 z.2.2 = oW true bd df wi al (ibB false L H) := by
      cases df
      · unfold owN
        rw [if_pos (Or.inr h4)]
        rfl
      · exact h5 rfl rfl (by rw [← a, ← b]; exact rk_le ho nx ny nz h1)
    rw [w, ← hk, Nat.min_comm]
    unfold kC
    rw [if_neg (by omega), if_neg (by decide)]
  · have d := h3 rfl
    subst d
    have eL : rkL kd op x y z = 9218868437227405312 := if_pos rE
    have eH : rkH kd op x y z = -9218868437227405312 := if_pos rE
    rw [eL, eH]
    have w : owN false kd op 9218868437227405312 (-9218868437227405312) x.2.1 x.2.2 y.2.1 y.2.2 z.2.1 z.2.2 = 1 := if_pos (Or.inr h4)
    have w2 : oW true bd false wi al (ibB true L H) = 1 := rfl
    rw [w, ← hk, w2, Nat.min_comm]
    unfold kC
    rw [if_neg (by omega), if_pos rfl]
theorem ill_ok : cOk (0, 0, 0) := ⟨by decide, Or.inl ⟨rfl, rfl, rfl⟩⟩
theorem nC_ok {m : Nat} {lo hi : Int} (h : nC lo hi) (h1 : 1 ≤ m) (h4 : m ≤ 4) : cOk (m, lo, hi) := ⟨h4, Or.inr ⟨by show m ≠ 0; omega, Or.inr ⟨h.1.1, h.2.2.2.1, h.2.2.2.2, h.2.1.2, h.2.2.1⟩⟩⟩
theorem em_ok {m : Nat} (h1 : 1 ≤ m) (h4 : m ≤ 4) : cOk (m, 9218868437227405312, -9218868437227405312) := ⟨h4, Or.inr ⟨by show m ≠ 0; omega, Or.inl ⟨rfl, rfl⟩⟩⟩
theorem wC_n {lo hi : Int} (h : wC lo hi) (e : eC lo hi = false) : nC lo hi := h.n e
theorem rk_wC {kd : Nat} {op : Int} {x y z : vC} (hx : wC x.2.1 x.2.2) (hy : wC y.2.1 y.2.2) (hz : wC z.2.1 z.2.2) (ho : fiO kd op) : rkE kd op x y z = true ∧ rkL kd op x y z = 9218868437227405312 ∧ rkH kd op x y z = -9218868437227405312 ∨ rkE kd op x y z = false ∧ nC (rkL kd op x y z) (rkH kd op x y z) := by
  rcases Bool.eq_false_or_eq_true (rkE kd op x y z) with c | c
  · exact Or.inl ⟨c, if_pos c, if_pos c⟩
  · refine Or.inr ⟨c, ?_⟩
    have eL : rkL kd op x y z = _ := if_neg (by rw [c]; decide)
    have eH : rkH kd op x y z = _ := if_neg (by rw [c]; decide)
    rw [eL, eH]
    unfold rkE at c
    rw [Bool.or_eq_false_iff, Bool.or_eq_false_iff, Bool.or_eq_false_iff] at c
    exact rk_le ho (wC_n hx c.1.1.1) (wC_n hy c.1.1.2) (wC_n hz c.1.2) c.2
theorem rk_ok {kd : Nat} {op : Int} {x y z : vC} (hx : cOk x) (hy : cOk y) (hz : cOk z) (ho : fiO kd op) : cOk (rkC kd op x y z) := by
  unfold rkC
  split
  · exact ill_ok
  · rename_i c
    have ob := @owN_b (eC x.2.1 x.2.2 || eC y.2.1 y.2.2 || eC z.2.1 z.2.2) kd op (rkL kd op x y z) (rkH kd op x y z) x.2.1 x.2.2 y.2.1 y.2.2 z.2.1 z.2.2
    have m1 : x.1 ≠ 0 := by omega
    have m2 : y.1 ≠ 0 := by omega
    have m3 : z.1 ≠ 0 := by omega
    rcases rk_wC (cC hx m1) (cC hy m2) (cC hz m3) ho with ⟨-, e1, e2⟩ | ⟨-, e⟩
    · rw [e1, e2]
      exact em_ok (by rw [e1, e2] at ob; omega) (by rw [e1, e2] at ob; omega)
    · exact nC_ok e (by omega) (by omega)
