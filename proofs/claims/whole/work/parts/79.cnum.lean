/-! numbers with the infinite ones -/
abbrev vE : Type := Rat ⊕ Bool
def cmX : vE → vE → Int32
  | .inl x, .inl y => cmpR x y
  | .inl _, .inr b => if b = true then 1 else -1
  | .inr b, .inl _ => if b = true then -1 else 1
  | .inr b, .inr c => if b = c then 0 else if b = true then -1 else 1
noncomputable def dnX : vE → Int
  | .inl x => dnF x
  | .inr b => if b = true then -9218868437227405312 else 9218868437227405312
noncomputable def upX : vE → Int
  | .inl x => upF x
  | .inr b => if b = true then -9218868437227405312 else 9218868437227405312
def fl (k : Int) : vE := if iN k = true then .inr (decide (k < 0)) else .inl (fval k)
def adX : vE → vE → vE
  | .inr b, _ => .inr b
  | .inl _, .inr b => .inr b
  | .inl x, .inl y => .inl (x + y)
/-- the sign of a number -/
def sgX : vE → Int
  | .inl x => if x < 0 then -1 else if x = 0 then 0 else 1
  | .inr b => if b = true then -1 else 1
def inX : vE → Bool
  | .inl _ => false
  | .inr _ => true
def vaX : vE → Rat
  | .inl x => x
  | .inr _ => 0
def muX (a b : vE) : vE := if sgX a = 0 ∨ sgX b = 0 then .inl 0 else if (inX a || inX b) = true then .inr (decide (sgX a * sgX b < 0)) else .inl (vaX a * vaX b)
def mnX (a b : vE) : vE := if cmX a b < 0 then a else b
def mxX (a b : vE) : vE := if 0 < cmX a b then a else b
theorem dnF_mono {x y : Rat} (h : x ≤ y) : dnF x ≤ dnF y := dnS_mono (dnF_s x) (dnF_s y) h
theorem upF_mono {x y : Rat} (h : x ≤ y) : upF x ≤ upF y := by
  unfold upF
  have := dnF_mono (show -y ≤ -x by grind)
  omega
theorem cmpR_n {x y : Rat} : cmpR x y < 0 ↔ x < y := by
  unfold cmpR
  split
  · exact ⟨fun _ => by assumption, fun _ => by decide⟩
  · split
    · exact ⟨fun z => absurd z (by decide), fun z => by contradiction⟩
    · exact ⟨fun z => absurd z (by decide), fun z => by contradiction⟩
theorem cmpR_p {x y : Rat} : 0 < cmpR x y ↔ y < x := by
  unfold cmpR
  split
  · exact ⟨fun z => absurd z (by decide), fun z => by grind⟩
  · split
    · exact ⟨fun z => absurd z (by decide), fun z => by grind⟩
    · exact ⟨fun _ => by grind, fun _ => by decide⟩
theorem dnX_b (a : vE) : -9218868437227405312 ≤ dnX a ∧ dnX a ≤ 9218868437227405312 := by
  rcases a with x | b
  · have := dnF_b x
    exact ⟨this.1, by show dnF x ≤ _; omega⟩
  · show _ ≤ (if b = true then _ else _) ∧ (if b = true then _ else _) ≤ (_ : Int)
    split <;> decide
theorem upX_b (a : vE) : -9218868437227405312 ≤ upX a ∧ upX a ≤ 9218868437227405312 := by
  rcases a with x | b
  · have := upF_b x
    exact ⟨by show _ ≤ upF x; omega, this.2⟩
  · show _ ≤ (if b = true then _ else _) ∧ (if b = true then _ else _) ≤ (_ : Int)
    split <;> decide
theorem mnX_dn (a b : vE) : dnX (mnX a b) = min (dnX b) (dnX a) := by
  unfold mnX
  have ha := dnX_b a
  have hb := dnX_b b
  rcases a with x | c <;> rcases b with y | d
  · show dnX (if cmpR x y < 0 then _ else _) = min (dnF y) (dnF x)
    simp only [cmpR_n]
    split
    · rename_i h
      have := dnF_mono (Rat.le_of_lt h)
      show dnF x = _
      omega
    · rename_i h
      have := dnF_mono (Rat.not_lt.mp h)
      show dnF y = _
      omega
  · cases d
    · show dnF x = min (9218868437227405312) (dnF x)
      have : dnF x ≤ 9218868437227405312 := ha.2
      omega
    · show (-9218868437227405312 : Int) = min (-9218868437227405312) (dnF x)
      have : _ ≤ dnF x := ha.1
      omega
  · cases c
    · show dnF y = min (dnF y) (9218868437227405312)
      have : dnF y ≤ 9218868437227405312 := hb.2
      omega
    · show (-9218868437227405312 : Int) = min (dnF y) (-9218868437227405312)
      have : _ ≤ dnF y := hb.1
      omega
  · cases c <;> cases d <;> decide
theorem mxX_up (a b : vE) : upX (mxX a b) = max (upX b) (upX a) := by
  unfold mxX
  have ha := upX_b a
  have hb := upX_b b
  rcases a with x | c <;> rcases b with y | d
  · show upX (if 0 < cmpR x y then _ else _) = max (upF y) (upF x)
    simp only [cmpR_p]
    split
    · rename_i h
      have := upF_mono (Rat.le_of_lt h)
      show upF x = _
      omega
    · rename_i h
      have := upF_mono (Rat.not_lt.mp h)
      show upF y = _
      omega
  · cases d
    · show (9218868437227405312 : Int) = max (9218868437227405312) (upF x)
      have : upF x ≤ 9218868437227405312 := ha.2
      omega
    · show upF x = max (-9218868437227405312) (upF x)
      have : _ ≤ upF x := ha.1
      omega
  · cases c
    · show (9218868437227405312 : Int) = max (upF y) (9218868437227405312)
      have : upF y ≤ 9218868437227405312 := hb.2
      omega
    · show upF y = max (upF y) (-9218868437227405312)
      have : _ ≤ upF y := hb.1
      omega
  · cases c <;> cases d <;> decide
theorem fl_f {k : Int} (h : iN k = false) : fl k = .inl (fval k) := by unfold fl; rw [if_neg (by rw [h]; decide)]
theorem fl_i {k : Int} (h : iN k = true) : fl k = .inr (decide (k < 0)) := by unfold fl; rw [if_pos h]
theorem iNt {k : Int} (h : iN k = true) : k = 9218868437227405312 ∨ k = -9218868437227405312 := of_decide_eq_true h
theorem iNf {k : Int} (h : iN k = false) : k ≠ 9218868437227405312 ∧ k ≠ -9218868437227405312 := by
  have := of_decide_eq_false h
  omega
theorem iN_o {k : Int} (h : bF k) : oF k := ⟨by have := h.1; omega, by have := h.2; omega⟩
theorem dnX_fl {k : Int} (h : bF k) : dnX (fl k) = k := by
  have h1 := h.1
  have h2 := h.2
  rcases Bool.eq_false_or_eq_true (iN k) with c | c
  · rw [fl_i c]
    show (if _ then _ else _) = _
    rcases iNt c with e | e <;> subst e <;> decide
  · rw [fl_f c]
    have := iNf c
    exact dnF_f (by omega) (by omega)
theorem upX_fl {k : Int} (h : bF k) : upX (fl k) = k := by
  have h1 := h.1
  have h2 := h.2
  rcases Bool.eq_false_or_eq_true (iN k) with c | c
  · rw [fl_i c]
    show (if _ then _ else _) = _
    rcases iNt c with e | e <;> subst e <;> decide
  · rw [fl_f c]
    have := iNf c
    exact upF_f (by omega) (by omega)
theorem sgX_fl {k : Int} (h : bF k) : sgX (fl k) = k.sign := by
  have h1 := h.1
  have h2 := h.2
  rcases Bool.eq_false_or_eq_true (iN k) with c | c
  · rw [fl_i c]
    rcases iNt c with e | e <;> subst e <;> decide
  · rw [fl_f c]
    have z := fval_ltI (a := k) (b := 0) ⟨by omega, by omega⟩ ⟨by omega, by omega⟩
    have p := fval_p (k := k) ⟨by omega, by omega⟩
    rw [fval_0] at z
    show (if fval k < 0 then -1 else if fval k = 0 then 0 else 1) = _
    rcases (show k < 0 ∨ k = 0 ∨ 0 < k by omega) with d | d | d
    · rw [if_pos (z.mpr d), Int.sign_eq_neg_one_of_neg d]
    · subst d; rw [fval_0]; rfl
    · have := p.mpr d
      rw [if_neg (by grind), if_neg (by grind), Int.sign_eq_one_of_pos d]
/-- sums -/
theorem ad_lo {a c : Int} (ha : bF a ∧ a < 9218868437227405312) (hc : bF c ∧ c < 9218868437227405312) : dnX (adX (fl a) (fl c)) = rAL 9218868437227405312 a c := by
  unfold rAL
  rcases Bool.eq_false_or_eq_true (iN a) with d | d
  · rw [if_neg (by rw [d]; simp), fl_i d]
    have := iNt d
    show (if decide (a < 0) = true then _ else _) = _
    rw [if_pos (by rw [decide_eq_true_iff]; omega)]
  · rcases Bool.eq_false_or_eq_true (iN c) with g | g
    · rw [if_neg (by rw [g]; simp), fl_f d, fl_i g]
      have := iNt g
      show (if decide (c < 0) = true then _ else _) = _
      rw [if_pos (by rw [decide_eq_true_iff]; omega)]
    · rw [if_pos ⟨d, g⟩, fl_f d, fl_f g]
      show dnF _ = _
      have := dnF_b (fval a + fval c)
      omega
theorem ad_hi {a c : Int} (ha : bF a ∧ -9218868437227405312 < a) (hc : bF c ∧ -9218868437227405312 < c) : upX (adX (fl a) (fl c)) = rAH (-9218868437227405312) a c := by
  unfold rAH
  rcases Bool.eq_false_or_eq_true (iN a) with d | d
  · rw [if_neg (by rw [d]; simp), fl_i d]
    have := iNt d
    show (if decide (a < 0) = true then _ else _) = _
    rw [if_neg (by rw [decide_eq_true_iff]; omega)]
  · rcases Bool.eq_false_or_eq_true (iN c) with g | g
    · rw [if_neg (by rw [g]; simp), fl_f d, fl_i g]
      have := iNt g
      show (if decide (c < 0) = true then _ else _) = _
      rw [if_neg (by rw [decide_eq_true_iff]; omega)]
    · rw [if_pos ⟨d, g⟩, fl_f d, fl_f g]
      show upF _ = _
      have := upF_b (fval a + fval c)
      omega
/-- products -/
theorem inX_fl (k : Int) : inX (fl k) = iN k := by
  rcases Bool.eq_false_or_eq_true (iN k) with c | c
  · rw [fl_i c, c]; rfl
  · rw [fl_f c, c]; rfl
theorem sg0 {k : Int} : k.sign = 0 ↔ k = 0 := by
  constructor
  · intro h
    rcases (show k < 0 ∨ k = 0 ∨ 0 < k by omega) with d | d | d
    · rw [Int.sign_eq_neg_one_of_neg d] at h; omega
    · exact d
    · rw [Int.sign_eq_one_of_pos d] at h; omega
  · intro h; rw [h]; rfl
theorem mu_p {x y : Int} (hx : bF x) (hy : bF y) (h : pIn x y = true) : muX (fl x) (fl y) = .inr (decide (decide (x < 0) ≠ decide (y < 0))) := by
  unfold pIn at h
  rw [Bool.and_eq_true, decide_eq_true_iff] at h
  unfold muX
  rw [sgX_fl hx, sgX_fl hy, inX_fl, inX_fl, if_neg (by rw [sg0, sg0]; omega), if_pos h.2]
  congr 1
  rcases (show x < 0 ∨ 0 < x by omega) with a | a <;> rcases (show y < 0 ∨ 0 < y by omega) with b | b
  · rw [Int.sign_eq_neg_one_of_neg a, Int.sign_eq_neg_one_of_neg b, decide_eq_true a, decide_eq_true b]; rfl
  · rw [Int.sign_eq_neg_one_of_neg a, Int.sign_eq_one_of_pos b, decide_eq_true a, decide_eq_false (show ¬ y < 0 by omega)]; rfl
  · rw [Int.sign_eq_one_of_pos a, Int.sign_eq_neg_one_of_neg b, decide_eq_false (show ¬ x < 0 by omega), decide_eq_true b]; rfl
  · rw [Int.sign_eq_one_of_pos a, Int.sign_eq_one_of_pos b, decide_eq_false (show ¬ x < 0 by omega), decide_eq_false (show ¬ y < 0 by omega)]; rfl
theorem fv0_inf {x y : Int} (h : x = 0 ∨ y = 0) : fval x * fval y = 0 := by
  rcases h with h | h <;> subst h <;> rw [fval_0]
  · exact Rat.zero_mul _
  · exact Rat.mul_zero _
theorem mu_n {x y : Int} (hx : bF x) (hy : bF y) (h : pIn x y = false) : muX (fl x) (fl y) = .inl (fval x * fval y) := by
  unfold pIn at h
  unfold muX
  rw [sgX_fl hx, sgX_fl hy, inX_fl, inX_fl]
  rcases Decidable.em (x = 0 ∨ y = 0) with c | c
  · rw [if_pos (by rw [sg0, sg0]; exact c), fv0_inf c]
  · rw [if_neg (by rw [sg0, sg0]; exact c)]
    rw [decide_eq_true (by omega), Bool.true_and] at h
    rw [if_neg (by rw [h]; decide)]
    rw [Bool.or_eq_false_iff] at h
    rw [fl_f h.1, fl_f h.2]
    rfl
theorem pL_mn {lo x y e : Int} (hx : bF x) (hy : bF y) (hl : lo ≤ 9218868437227405312) (hl2 : -9218868437227405312 ≤ lo) (he : iN e = false) : rPL lo x y e = min lo (dnX (adX (muX (fl x) (fl y)) (.inl (fval e)))) := by
  unfold rPL
  rcases Bool.eq_false_or_eq_true (pIn x y) with c | c
  · rw [if_pos c, mu_p hx hy c]
    show _ = min lo (if decide (decide (x < 0) ≠ decide (y < 0)) = true then _ else _)
    rcases Decidable.em (decide (x < 0) = decide (y < 0)) with d | d
    · rw [if_pos d, if_neg (by rw [decide_eq_true_iff]; exact fun z => z d)]
      omega
    · rw [if_neg d, if_pos (by rw [decide_eq_true_iff]; exact d)]
      omega
  · rw [if_neg (by rw [c]; decide), if_pos he, mu_n hx hy c]
    rfl
theorem pH_mx {hi x y e : Int} (hx : bF x) (hy : bF y) (hl : hi ≤ 9218868437227405312) (hl2 : -9218868437227405312 ≤ hi) (he : iN e = false) : rPH hi x y e = max hi (upX (adX (muX (fl x) (fl y)) (.inl (fval e)))) := by
  unfold rPH
  rcases Bool.eq_false_or_eq_true (pIn x y) with c | c
  · rw [if_pos c, mu_p hx hy c]
    show _ = max hi (if decide (decide (x < 0) ≠ decide (y < 0)) = true then _ else _)
    rcases Decidable.em (decide (x < 0) = decide (y < 0)) with d | d
    · rw [if_pos d, if_neg (by rw [decide_eq_true_iff]; exact fun z => z d)]
      omega
    · rw [if_neg d, if_pos (by rw [decide_eq_true_iff]; exact d)]
      omega
  · rw [if_neg (by rw [c]; decide), if_pos he, mu_n hx hy c]
    rfl
def m4 (a b c d : vE) : vE := mnX d (mnX c (mnX b a))
def x4 (a b c d : vE) : vE := mxX d (mxX c (mxX b a))
theorem ad_mn (a b : vE) (e : Rat) : adX (mnX a b) (.inl e) = mnX (adX a (.inl e)) (adX b (.inl e)) := by
  unfold mnX
  rcases a with x | c <;> rcases b with y | d
  · show adX (if cmpR x y < 0 then _ else _) _ = (if cmpR (x + e) (y + e) < 0 then _ else _)
    simp only [cmpR_n]
    rcases Decidable.em (x < y) with h | h
    · rw [if_pos h, if_pos (by grind)]
    · rw [if_neg h, if_neg (by grind)]
  · cases d <;> rfl
  · cases c <;> rfl
  · cases c <;> cases d <;> rfl
theorem ad_mx (a b : vE) (e : Rat) : adX (mxX a b) (.inl e) = mxX (adX a (.inl e)) (adX b (.inl e)) := by
  unfold mxX
  rcases a with x | c <;> rcases b with y | d
  · show adX (if 0 < cmpR x y then _ else _) _ = (if 0 < cmpR (x + e) (y + e) then _ else _)
    simp only [cmpR_p]
    rcases Decidable.em (y < x) with h | h
    · rw [if_pos h, if_pos (by grind)]
    · rw [if_neg h, if_neg (by grind)]
  · cases d <;> rfl
  · cases c <;> rfl
  · cases c <;> cases d <;> rfl
theorem pL_b {lo x y e : Int} (hx : bF x) (hy : bF y) (hl : lo ≤ 9218868437227405312) (hl2 : -9218868437227405312 ≤ lo) (he : iN e = false) : rPL lo x y e ≤ 9218868437227405312 ∧ -9218868437227405312 ≤ rPL lo x y e := by
  rw [pL_mn hx hy hl hl2 he]
  have := dnX_b (adX (muX (fl x) (fl y)) (.inl (fval e)))
  omega
theorem pH_b {hi x y e : Int} (hx : bF x) (hy : bF y) (hl : hi ≤ 9218868437227405312) (hl2 : -9218868437227405312 ≤ hi) (he : iN e = false) : rPH hi x y e ≤ 9218868437227405312 ∧ -9218868437227405312 ≤ rPH hi x y e := by
  rw [pH_mx hx hy hl hl2 he]
  have := upX_b (adX (muX (fl x) (fl y)) (.inl (fval e)))
  omega
def cX (x y : vC) (k : Nat) : vE := muX (fl (if k < 2 then rLo x else rHi x)) (fl (if k % 2 = 0 then rLo y else rHi y))
theorem mL_m4 {x y : vC} {e : Int} (hx : bF (rLo x)) (hx2 : bF (rHi x)) (hy : bF (rLo y)) (hy2 : bF (rHi y)) (he : iN e = false) : rML 9218868437227405312 x y e = dnX (adX (m4 (cX x y 0) (cX x y 1) (cX x y 2) (cX x y 3)) (.inl (fval e))) := by
  unfold rML m4
  rw [ad_mn, ad_mn, ad_mn, mnX_dn, mnX_dn, mnX_dn]
  have b1 := pL_b hx hy (Int.le_refl 9218868437227405312) (by decide) he
  have b2 := pL_b hx hy2 b1.1 b1.2 he
  have b3 := pL_b hx2 hy b2.1 b2.2 he
  rw [pL_mn hx2 hy2 b3.1 b3.2 he, pL_mn hx2 hy b2.1 b2.2 he, pL_mn hx hy2 b1.1 b1.2 he, pL_mn hx hy (Int.le_refl 9218868437227405312) (by decide) he]
  have := dnX_b (adX (muX (fl (rLo x)) (fl (rLo y))) (.inl (fval e)))
  show min (min (min (min _ (dnX (adX (cX x y 0) _))) (dnX (adX (cX x y 1) _))) (dnX (adX (cX x y 2) _))) (dnX (adX (cX x y 3) _)) = _
  have e0 : dnX (adX (cX x y 0) (.inl (fval e))) ≤ 9218868437227405312 := this.2
  omega
theorem mH_x4 {x y : vC} {e : Int} (hx : bF (rLo x)) (hx2 : bF (rHi x)) (hy : bF (rLo y)) (hy2 : bF (rHi y)) (he : iN e = false) : rMH (-9218868437227405312) x y e = upX (adX (x4 (cX x y 0) (cX x y 1) (cX x y 2) (cX x y 3)) (.inl (fval e))) := by
  unfold rMH x4
  rw [ad_mx, ad_mx, ad_mx, mxX_up, mxX_up, mxX_up]
  have b1 := pH_b hx hy (show -9218868437227405312 ≤ 9218868437227405312 by decide) (Int.le_refl (-9218868437227405312)) he
  have b2 := pH_b hx hy2 b1.1 b1.2 he
  have b3 := pH_b hx2 hy b2.1 b2.2 he
  rw [pH_mx hx2 hy2 b3.1 b3.2 he, pH_mx hx2 hy b2.1 b2.2 he, pH_mx hx hy2 b1.1 b1.2 he, pH_mx hx hy (show -9218868437227405312 ≤ 9218868437227405312 by decide) (Int.le_refl (-9218868437227405312)) he]
  have := upX_b (adX (muX (fl (rLo x)) (fl (rLo y))) (.inl (fval e)))
  show max (max (max (max _ (upX (adX (cX x y 0) _))) (upX (adX (cX x y 1) _))) (upX (adX (cX x y 2) _))) (upX (adX (cX x y 3) _)) = _
  have e0 : -9218868437227405312 ≤ upX (adX (cX x y 0) (.inl (fval e))) := this.1
  omega
/-! quotients -/
theorem ilt_ge (a b : Int) : a < b ∨ b ≤ a := by omega
def quX (a b : vE) : vE := if inX b = true ∨ sgX a = 0 then .inl 0 else if inX a = true ∨ sgX b = 0 then .inr (decide ((if sgX b < 0 then -sgX a else sgX a) < 0)) else .inl (vaX a / vaX b)
theorem vaX_fl {k : Int} (h : iN k = false) : vaX (fl k) = fval k := by rw [fl_f h]; rfl
theorem sgn_n {k : Int} (h : k < 0) : k.sign = -1 := Int.sign_eq_neg_one_of_neg h
theorem sgn_p {k : Int} (h : 0 < k) : k.sign = 1 := Int.sign_eq_one_of_pos h
theorem qu_0 {a b : Int} (ha : bF a) (h : a = 0 ∨ iN b = true) : quX (fl a) (fl b) = .inl 0 := by
  unfold quX
  rw [if_pos]
  rw [inX_fl, sgX_fl ha, sg0]
  rcases h with h | h
  · exact Or.inr h
  · exact Or.inl h
theorem qu_i {a b : Int} (ha : bF a) (hb : bF b) (h0 : a ≠ 0) (hi : iN b = false) (h : iN a = true ∨ b = 0) : quX (fl a) (fl b) = .inr (decide ((if b < 0 then -a else a) < 0)) := by
  unfold quX
  rw [inX_fl, sgX_fl ha, if_neg (by rw [sg0, hi]; simp [h0]), inX_fl, sgX_fl hb, if_pos (by rw [sg0]; exact h)]
  congr 1
  rcases (show b < 0 ∨ b = 0 ∨ 0 < b by omega) with c | c | c <;> rcases (show a < 0 ∨ 0 < a by omega) with d | d
  · rw [sgn_n c, sgn_n d, if_pos (by decide), if_pos c, decide_eq_false (by omega), decide_eq_false (by omega)]
  · rw [sgn_n c, sgn_p d, if_pos (by decide), if_pos c, decide_eq_true (by omega), decide_eq_true (by omega)]
  · rw [c, sgn_n d, if_neg (by decide), if_neg (by omega), decide_eq_true (by omega), decide_eq_true (by omega)]
  · rw [c, sgn_p d, if_neg (by decide), if_neg (by omega), decide_eq_false (by omega), decide_eq_false (by omega)]
  · rw [sgn_p c, sgn_n d, if_neg (by decide), if_neg (by omega), decide_eq_true (by omega), decide_eq_true (by omega)]
  · rw [sgn_p c, sgn_p d, if_neg (by decide), if_neg (by omega), decide_eq_false (by omega), decide_eq_false (by omega)]
theorem qu_f {a b : Int} (ha : bF a) (hb : bF b) (hi : iN b = false) (h : iN a = false) (h0 : b ≠ 0) : quX (fl a) (fl b) = .inl (fval a / fval b) := by
  rcases Decidable.em (a = 0) with c | c
  · rw [qu_0 ha (Or.inl c), c, fval_0, Rat.div_def, Rat.zero_mul]
  · unfold quX
    rw [inX_fl, sgX_fl ha, if_neg (by rw [sg0, hi]; simp [c]), inX_fl, sgX_fl hb, if_neg (by rw [sg0, h]; simp [h0]), vaX_fl h, vaX_fl hi]
theorem dn_0 : dnF 0 = 0 := by
  have := dnF_f (k := 0) (by decide) (by decide)
  rw [fval_0] at this
  exact this
theorem up_0 : upF 0 = 0 := by
  have := upF_f (k := 0) (by decide) (by decide)
  rw [fval_0] at this
  exact this
theorem z_div (x : Rat) : 0 / x = 0 := by rw [Rat.div_def, Rat.zero_mul]
theorem iN_ff {k : Int} (h1 : -9218868437227405312 < k) (h2 : k < 9218868437227405312) : iN k = false := decide_eq_false (by omega)
theorem q_lo {a c d : Int} (ha : bF a) (ha2 : a < 9218868437227405312) (hc : 0 ≤ c) (hc2 : c < 9218868437227405312) (hd : 0 < d) (hd2 : d ≤ 9218868437227405312) : dnX (quX (fl a) (fl (if a < 0 then c else d))) = rDL 9218868437227405312 a c d := by
  have a1 := ha.1
  unfold rDL
  rcases ilt_ge a 0 with g | g
  · rw [if_pos g, if_neg (by omega)]
    have ic : iN c = false := iN_ff (by omega) (by omega)
    have bc : bF c := ⟨by omega, by omega⟩
    rcases Decidable.em (c ≠ 0 ∧ iN a = false) with k | k
    · rw [if_pos k, qu_f ha bc ic k.2 k.1]
      show dnF _ = _
      have := dnF_b (fval a / fval c)
      omega
    · rw [if_neg k, qu_i ha bc (by omega) ic (by
        rcases Decidable.em (c = 0) with e | e
        · exact Or.inr e
        · rcases Bool.eq_false_or_eq_true (iN a) with m | m
          · exact Or.inl m
          · exact absurd ⟨e, m⟩ k), if_neg (by omega), decide_eq_true g]
      rfl
  · rw [if_neg (by omega), if_pos g]
    have bd : bF d := ⟨by omega, by omega⟩
    rcases Bool.eq_false_or_eq_true (iN d) with m | m
    · rw [qu_0 ha (Or.inr m), if_neg (by rw [m]; decide)]
      show dnF 0 = _
      rw [dn_0]; decide
    · rw [qu_f ha bd m (iN_ff (by omega) (by omega)) (by omega), if_pos m]
      show dnF _ = _
      have := dnF_b (fval a / fval d)
      omega
theorem q_hi {b c d : Int} (hb : bF b) (hb2 : -9218868437227405312 < b) (hc : 0 ≤ c) (hc2 : c < 9218868437227405312) (hd : 0 < d) (hd2 : d ≤ 9218868437227405312) : upX (quX (fl b) (fl (if b < 0 then d else c))) = rDH (-9218868437227405312) b c d := by
  have b1 := hb.2
  unfold rDH
  have bd : bF d := ⟨by omega, by omega⟩
  have ic : iN c = false := iN_ff (by omega) (by omega)
  have bc : bF c := ⟨by omega, by omega⟩
  rcases (show b < 0 ∨ b = 0 ∨ 0 < b by omega) with g | g | g
  · rw [if_pos g, if_pos (by omega)]
    rcases Bool.eq_false_or_eq_true (iN d) with m | m
    · rw [qu_0 hb (Or.inr m), if_neg (by rw [m]; decide)]
      show upF 0 = _
      rw [up_0]; decide
    · rw [qu_f hb bd m (iN_ff (by omega) (by omega)) (by omega), if_pos m]
      show upF _ = _
      have := upF_b (fval b / fval d)
      omega
  · subst g
    rw [qu_0 hb (Or.inl rfl), if_pos (by omega), fval_0, z_div]
    show upF 0 = _
    rw [up_0]
    split <;> decide
  · rw [if_neg (by omega), if_neg (by omega)]
    rcases Decidable.em (c ≠ 0 ∧ iN b = false) with k | k
    · rw [if_pos k, qu_f hb bc ic k.2 k.1]
      show upF _ = _
      have := upF_b (fval b / fval c)
      omega
    · rw [if_neg k, qu_i hb bc (by omega) ic (by
        rcases Decidable.em (c = 0) with e | e
        · exact Or.inr e
        · rcases Bool.eq_false_or_eq_true (iN b) with m | m
          · exact Or.inl m
          · exact absurd ⟨e, m⟩ k), if_neg (by omega), decide_eq_false (by omega)]
      rfl
/-- what divide finds, before it is rounded -/
def dvL (a b c d : Int) : vE := if a = 0 ∧ b = 0 then fl 0 else if c < 0 ∧ 0 < d then fl (-9218868437227405312) else if d ≤ 0 then quX (fl (-b)) (fl (if -b < 0 then -d else -c)) else quX (fl a) (fl (if a < 0 then c else d))
def dvH (a b c d : Int) : vE := if a = 0 ∧ b = 0 then fl 0 else if c < 0 ∧ 0 < d then fl 9218868437227405312 else if d ≤ 0 then quX (fl (-a)) (fl (if -a < 0 then -c else -d)) else quX (fl b) (fl (if b < 0 then d else c))
theorem rDL0 {lo c d : Int} (h : lo ≤ 9218868437227405312) (h0 : 0 ≤ lo) : rDL lo 0 c d = 0 := by
  unfold rDL
  rw [if_pos (Int.le_refl 0), fval_0, z_div, dn_0]
  split <;> omega
theorem rDH0 {lo c d : Int} (h : lo ≤ 0) : rDH lo 0 c d = 0 := by
  unfold rDH
  rw [if_pos (Int.le_refl 0), fval_0, z_div, up_0]
  split <;> omega
theorem dv_lo {a b c d : Int} (ha : bF a ∧ a < 9218868437227405312) (hb : bF b ∧ -9218868437227405312 < b) (hab : a ≤ b) (hc : bF c ∧ c < 9218868437227405312) (hd : bF d ∧ -9218868437227405312 < d) (hcd : c ≤ d) (h0 : ¬ (c = 0 ∧ d = 0)) : dnX (dvL a b c d) = rVL 9218868437227405312 a b c d := by
  have a1 := ha.1.1
  have b1 := hb.1.2
  have c1 := hc.1.1
  have d1 := hd.1.2
  unfold dvL
  rcases Decidable.em (a = 0 ∧ b = 0) with z | z
  · rw [if_pos z, dnX_fl ⟨by decide, by decide⟩]
    obtain ⟨rfl, rfl⟩ := z
    unfold rVL
    show 0 = (if c < 0 then rDL (if 0 < d then rDL _ 0 _ d else _) (-0) _ (-c) else if 0 < d then rDL _ 0 _ d else _)
    rw [rDL0 (Int.le_refl _) (by decide), Int.neg_zero]
    rcases ilt_ge c 0 with g | g
    · rw [if_pos g]
      split
      · rw [rDL0 (by omega) (by omega)]
      · rw [rDL0 (by omega) (by omega)]
    · rw [if_neg (by omega), if_pos (by omega)]
  · rw [if_neg z]
    rcases Decidable.em (c < 0 ∧ 0 < d) with k | k
    · rw [if_pos k, dnX_fl ⟨by decide, by decide⟩]
      unfold rVL
      rw [if_pos k.2, if_pos k.1, if_neg (show ¬ 0 < c by omega), if_neg (show ¬ d < 0 by omega)]
      unfold rDL
      rcases ilt_ge a 0 with g | g
      · rw [if_neg (show ¬ 0 ≤ a by omega), if_neg (show ¬ ((0 : Int) ≠ 0 ∧ iN a = false) from fun w => w.1 rfl), if_neg (show ¬ ((0 : Int) ≠ 0 ∧ iN (-b) = false) from fun w => w.1 rfl)]
        have := dnF_b (fval (-b) / fval (-c))
        split
        · split <;> omega
        · rfl
      · rw [if_neg (show ¬ 0 ≤ -b by omega), if_neg (show ¬ ((0 : Int) ≠ 0 ∧ iN (-b) = false) from fun w => w.1 rfl)]
    · rw [if_neg k]
      rcases ilt_ge 0 d with g | g
      · rw [if_neg (by omega), q_lo ha.1 ha.2 (by omega) hc.2 g d1]
        unfold rVL
        rw [if_pos g, if_neg (show ¬ c < 0 by omega)]
        congr 1
        split <;> omega
      · rw [if_pos g]
        have := hb.1.1
        have := hd.2
        rw [q_lo (a := -b) (c := -d) (d := -c) ⟨by omega, by omega⟩ (by omega) (by omega) (by omega) (by omega) (by omega)]
        unfold rVL
        rw [if_neg (show ¬ 0 < d by omega), if_pos (show c < 0 by omega)]
        congr 1
        split <;> omega
theorem dv_hi {a b c d : Int} (ha : bF a ∧ a < 9218868437227405312) (hb : bF b ∧ -9218868437227405312 < b) (hab : a ≤ b) (hc : bF c ∧ c < 9218868437227405312) (hd : bF d ∧ -9218868437227405312 < d) (hcd : c ≤ d) (h0 : ¬ (c = 0 ∧ d = 0)) : upX (dvH a b c d) = rVH (-9218868437227405312) a b c d := by
  have a1 := ha.1.1
  have b1 := hb.1.2
  have c1 := hc.1.1
  have d1 := hd.1.2
  unfold dvH
  rcases Decidable.em (a = 0 ∧ b = 0) with z | z
  · rw [if_pos z, upX_fl ⟨by decide, by decide⟩]
    obtain ⟨rfl, rfl⟩ := z
    unfold rVH
    show 0 = (if c < 0 then rDH (if 0 < d then rDH _ 0 _ d else _) (-0) _ (-c) else if 0 < d then rDH _ 0 _ d else _)
    rw [rDH0 (by decide), Int.neg_zero]
    rcases ilt_ge c 0 with g | g
    · rw [if_pos g]
      split
      · rw [rDH0 (by omega)]
      · rw [rDH0 (by omega)]
    · rw [if_neg (by omega), if_pos (by omega)]
  · rw [if_neg z]
    rcases Decidable.em (c < 0 ∧ 0 < d) with k | k
    · rw [if_pos k, upX_fl ⟨by decide, by decide⟩]
      unfold rVH
      rw [if_pos k.2, if_pos k.1, if_neg (show ¬ 0 < c by omega), if_neg (show ¬ d < 0 by omega)]
      unfold rDH
      rcases ilt_ge 0 b with g | g
      · rw [if_neg (show ¬ b ≤ 0 by omega), if_neg (show ¬ ((0 : Int) ≠ 0 ∧ iN b = false) from fun w => w.1 rfl), if_neg (show ¬ ((0 : Int) ≠ 0 ∧ iN (-a) = false) from fun w => w.1 rfl)]
        have := upF_b (fval (-a) / fval (-c))
        split
        · split <;> omega
        · rfl
      · rw [if_neg (show ¬ -a ≤ 0 by omega), if_neg (show ¬ ((0 : Int) ≠ 0 ∧ iN (-a) = false) from fun w => w.1 rfl)]
    · rw [if_neg k]
      rcases ilt_ge 0 d with g | g
      · rw [if_neg (by omega), q_hi hb.1 hb.2 (by omega) hc.2 g d1]
        unfold rVH
        rw [if_pos g, if_neg (show ¬ c < 0 by omega)]
        congr 1
        split <;> omega
      · rw [if_pos g]
        have := ha.1.2
        have := hd.2
        rw [q_hi (b := -a) (c := -d) (d := -c) ⟨by omega, by omega⟩ (by omega) (by omega) (by omega) (by omega) (by omega)]
        unfold rVH
        rw [if_neg (show ¬ 0 < d by omega), if_pos (show c < 0 by omega)]
        congr 1
        split <;> omega
/-! powers -/
theorem pw_mono {x y : Rat} (h0 : 0 ≤ x) (h : x ≤ y) (n : Nat) : x ^ n ≤ y ^ n := by
  induction n with
  | zero => rw [Rat.pow_zero, Rat.pow_zero]; exact Rat.le_refl
  | succ n ih =>
    rw [Rat.pow_succ, Rat.pow_succ]
    have a : x ^ n * x ≤ y ^ n * x := Rat.mul_le_mul_of_nonneg_right ih h0
    have b : y ^ n * x ≤ y ^ n * y := Rat.mul_le_mul_of_nonneg_left h (Rat.pow_nonneg (by grind))
    exact Rat.le_trans a b
theorem pw_neg (x : Rat) (n : Nat) : (-x) ^ n = if n % 2 = 0 then x ^ n else -(x ^ n) := by
  induction n with
  | zero => rw [Rat.pow_zero, Rat.pow_zero]; rfl
  | succ n ih =>
    rw [Rat.pow_succ, Rat.pow_succ, ih]
    rcases Nat.mod_two_eq_zero_or_one n with c | c
    · rw [if_pos c, if_neg (by omega)]; grind
    · rw [if_neg (by omega), if_pos (by omega)]; grind
theorem pw_odd {x y : Rat} (h : x ≤ y) {n : Nat} (hn : n % 2 = 1) : x ^ n ≤ y ^ n := by
  rcases Decidable.em (0 ≤ x) with c | c
  · exact pw_mono c h n
  · have a : x ^ n = -((-x) ^ n) := by rw [pw_neg, if_neg (by omega)]; grind
    have p : 0 ≤ (-x) ^ n := Rat.pow_nonneg (by grind)
    rcases Decidable.em (0 ≤ y) with d | d
    · have := Rat.pow_nonneg (n := n) d
      rw [a]; grind
    · have b : y ^ n = -((-y) ^ n) := by rw [pw_neg, if_neg (by omega)]; grind
      have := pw_mono (x := -y) (y := -x) (by grind) (by grind) n
      rw [a, b]; grind
theorem pw_evn {x y : Rat} (h : x ≤ y) (h2 : -x ≤ y) {n : Nat} (hn : n % 2 = 0) : x ^ n ≤ y ^ n := by
  rcases Decidable.em (0 ≤ x) with c | c
  · exact pw_mono c h n
  · have a : x ^ n = (-x) ^ n := by rw [pw_neg, if_pos hn]
    rw [a]
    exact pw_mono (by grind) h2 n
def pwX (k n : Int) : vE := if n < 0 then (if iN k = true then .inl 0 else .inl (1 / fval k ^ (-n).toNat)) else if n = 0 then .inl 1 else if iN k = true then .inr (decide (k < 0 ∧ n.toNat % 2 = 1)) else .inl (fval k ^ n.toNat)
def rwA (n lo hi : Int) : Int := if n % 2 = 0 then max 0 (max lo (-hi)) else lo
def rwB (n lo hi : Int) : Int := if n % 2 = 0 then max (-lo) hi else hi
def rwL (n lo hi : Int) : vE := if n < 0 ∧ rwA n lo hi < 0 ∧ 0 < rwB n lo hi then .inr true else if n < 0 ∧ rwB n lo hi = 0 then .inr true else pwX (if n < 0 then rwB n lo hi else rwA n lo hi) n
def rwH (n lo hi : Int) : vE := if n < 0 ∧ rwA n lo hi < 0 ∧ 0 < rwB n lo hi then .inr false else if n < 0 ∧ rwA n lo hi = 0 then .inr false else pwX (if n < 0 then rwA n lo hi else rwB n lo hi) n
theorem pw_f {k n : Int} (h : 0 < n) (hk : iN k = false) : pwX k n = .inl (fval k ^ n.toNat) := by
  unfold pwX
  rw [if_neg (by omega), if_neg (by omega), if_neg (by rw [hk]; decide)]
theorem pw_i {k n : Int} (h : 0 < n) (hk : iN k = true) : pwX k n = .inr (decide (k < 0 ∧ n.toNat % 2 = 1)) := by
  unfold pwX
  rw [if_neg (by omega), if_neg (by omega), if_pos hk]
theorem dn_nn {x : Rat} (h : 0 ≤ x) : 0 ≤ dnF x := by
  have := dnF_mono h
  rw [dn_0] at this
  exact this
theorem up_nn {x : Rat} (h : 0 ≤ x) : 0 ≤ upF x := by
  have := upF_mono h
  rw [up_0] at this
  exact this
theorem pw_0 {n : Nat} (h : 0 < n) : (0 : Rat) ^ n = 0 := by
  obtain ⟨m, rfl⟩ : ∃ m, n = m + 1 := ⟨n - 1, by omega⟩
  rw [Rat.pow_succ, Rat.mul_zero]
theorem pw_enn (x : Rat) {n : Nat} (h : n % 2 = 0) : 0 ≤ x ^ n := by
  rcases Decidable.em (0 ≤ x) with c | c
  · exact Rat.pow_nonneg c
  · have a : x ^ n = (-x) ^ n := by rw [pw_neg, if_pos h]
    rw [a]
    exact Rat.pow_nonneg (by grind)
theorem rTL_e {lo f : Int} {n : Nat} (h : n % 2 = 0) : rTL lo f n = if iN f = true then min lo 9218868437227405312 else min lo (dnF (fval f ^ n)) := by
  unfold rTL
  rcases Bool.eq_false_or_eq_true (iN f) with c | c
  · rw [if_neg (by rw [c]; decide), if_pos c, if_neg (by omega)]
  · rw [if_pos c, if_neg (by rw [c]; decide)]
theorem rTH_e {hi f : Int} {n : Nat} (h : n % 2 = 0) : rTH hi f n = if iN f = true then max hi 9218868437227405312 else max hi (upF (fval f ^ n)) := by
  unfold rTH
  rcases Bool.eq_false_or_eq_true (iN f) with c | c
  · rw [if_neg (by rw [c]; decide), if_pos c, if_neg (by omega)]
  · rw [if_pos c, if_neg (by rw [c]; decide)]
theorem ra_loE {lo hi n : Int} (hl : bF lo ∧ lo < 9218868437227405312) (hh : bF hi ∧ -9218868437227405312 < hi) (hlh : lo ≤ hi) (hn : 0 < n) (he : n.toNat % 2 = 0) : dnX (rwL n lo hi) = if lo ≤ 0 ∧ 0 ≤ hi then min (rTL (rTL 9218868437227405312 lo n.toNat) hi n.toNat) 0 else rTL (rTL 9218868437227405312 lo n.toNat) hi n.toNat := by
  have l1 := hl.1.1
  have h1 := hh.1.2
  have e : rwL n lo hi = pwX (max 0 (max lo (-hi))) n := by
    unfold rwL rwA
    rw [if_neg (by omega), if_neg (by omega), if_neg (by omega), if_pos (by omega)]
  have fA : iN (max 0 (max lo (-hi))) = false := iN_ff (by omega) (by omega)
  rw [e, pw_f hn fA, rTL_e he, rTL_e he]
  have b1 := dnF_b (fval lo ^ n.toNat)
  have b2 := dnF_b (fval hi ^ n.toNat)
  show dnF (fval (max 0 (max lo (-hi))) ^ n.toNat) = _
  rcases Decidable.em (lo ≤ 0 ∧ 0 ≤ hi) with c | c
  · rw [if_pos c, show max 0 (max lo (-hi)) = 0 by omega, fval_0, pw_0 (by omega), dn_0]
    have d1 := dn_nn (pw_enn (fval lo) he)
    have d2 := dn_nn (pw_enn (fval hi) he)
    repeat' split
    all_goals omega
  · rw [if_neg c]
    rcases ilt_ge 0 lo with d | d
    · rw [show max 0 (max lo (-hi)) = lo by omega]
      have f1 : iN lo = false := iN_ff (by omega) (by omega)
      rw [if_neg (show ¬ iN lo = true by rw [f1]; decide)]
      have m : dnF (fval lo ^ n.toNat) ≤ dnF (fval hi ^ n.toNat) := dnF_mono (pw_mono ((fval_nn (iN_o hl.1)).mpr (by omega)) ((fval_le (iN_o hl.1) (iN_o hh.1)).mpr hlh) _)
      split <;> omega
    · rw [show max 0 (max lo (-hi)) = -hi by omega, fval_neg, pw_neg, if_pos he]
      have f1 : iN hi = false := iN_ff (by omega) (by omega)
      rw [if_neg (show ¬ iN hi = true by rw [f1]; decide)]
      have m : dnF (fval hi ^ n.toNat) ≤ dnF (fval lo ^ n.toNat) := by
        apply dnF_mono
        have a := (fval_le (iN_o hl.1) (iN_o hh.1)).mpr hlh
        have b : fval hi ≤ 0 := by rw [← fval_0]; exact (fval_le (iN_o hh.1) ⟨by decide, by decide⟩).mpr (by omega)
        have c1 := pw_neg (fval lo) n.toNat
        have c2 := pw_neg (fval hi) n.toNat
        rw [if_pos he] at c1 c2
        rw [← c1, ← c2]
        exact pw_mono (by grind) (by grind) _
      split <;> omega
theorem ra_loO {lo hi n : Int} (hl : bF lo ∧ lo < 9218868437227405312) (hh : bF hi ∧ -9218868437227405312 < hi) (hlh : lo ≤ hi) (hn : 0 < n) (he : n.toNat % 2 = 1) : dnX (rwL n lo hi) = rTL (rTL 9218868437227405312 lo n.toNat) hi n.toNat := by
  have l1 := hl.1.1
  have h1 := hh.1.2
  have e : rwL n lo hi = pwX lo n := by
    unfold rwL rwA
    rw [if_neg (by omega), if_neg (by omega), if_neg (by omega), if_neg (by omega)]
  rw [e]
  unfold rTL
  have b1 := dnF_b (fval lo ^ n.toNat)
  have b2 := dnF_b (fval hi ^ n.toNat)
  rcases Bool.eq_false_or_eq_true (iN lo) with c | c
  · have := iNt c
    rw [pw_i hn c, decide_eq_true (show lo < 0 ∧ _ from ⟨by omega, he⟩), if_neg (show ¬ iN lo = false by rw [c]; decide), if_pos (show lo < 0 ∧ _ from ⟨by omega, he⟩)]
    show (-9218868437227405312 : Int) = _
    repeat' split
    all_goals omega
  · rw [pw_f hn c, if_pos c]
    show dnF (fval lo ^ n.toNat) = _
    have m : dnF (fval lo ^ n.toNat) ≤ dnF (fval hi ^ n.toNat) := dnF_mono (pw_odd ((fval_le (iN_o hl.1) (iN_o hh.1)).mpr hlh) he)
    have := iNf c
    rcases Bool.eq_false_or_eq_true (iN hi) with d | d
    · have := iNt d
      rw [if_neg (show ¬ iN hi = false by rw [d]; decide), if_neg (by omega)]; omega
    · rw [if_pos d]; omega
theorem ra_hiE {lo hi n : Int} (hl : bF lo ∧ lo < 9218868437227405312) (hh : bF hi ∧ -9218868437227405312 < hi) (hlh : lo ≤ hi) (hn : 0 < n) (he : n.toNat % 2 = 0) : upX (rwH n lo hi) = if lo ≤ 0 ∧ 0 ≤ hi then max (rTH (rTH (-9218868437227405312) lo n.toNat) hi n.toNat) 0 else rTH (rTH (-9218868437227405312) lo n.toNat) hi n.toNat := by
  have l1 := hl.1.1
  have h1 := hh.1.2
  have e : rwH n lo hi = pwX (max (-lo) hi) n := by
    unfold rwH rwB
    rw [if_neg (by omega), if_neg (by omega), if_neg (by omega), if_pos (by omega)]
  rw [e, rTH_e he, rTH_e he]
  have b1 := upF_b (fval lo ^ n.toNat)
  have b2 := upF_b (fval hi ^ n.toNat)
  have d1 := up_nn (pw_enn (fval lo) he)
  have d2 := up_nn (pw_enn (fval hi) he)
  rcases Bool.eq_false_or_eq_true (iN lo) with c | c
  · have := iNt c
    rw [show max (-lo) hi = 9218868437227405312 by omega, pw_i hn (by decide), decide_eq_false (by omega), if_pos c]
    show (9218868437227405312 : Int) = _
    repeat' split
    all_goals omega
  · have := iNf c
    rw [if_neg (show ¬ iN lo = true by rw [c]; decide)]
    rcases Bool.eq_false_or_eq_true (iN hi) with d | d
    · have := iNt d
      rw [show max (-lo) hi = 9218868437227405312 by omega, pw_i hn (by decide), decide_eq_false (by omega), if_pos d]
      show (9218868437227405312 : Int) = _
      repeat' split
      all_goals omega
    · have := iNf d
      rw [pw_f hn (iN_ff (by omega) (by omega)), if_neg (show ¬ iN hi = true by rw [d]; decide)]
      show upF _ = _
      have fle := (fval_le (iN_o hl.1) (iN_o hh.1)).mpr hlh
      rcases ilt_ge hi (-lo) with g | g
      · rw [show max (-lo) hi = -lo by omega, fval_neg, pw_neg, if_pos he]
        have q : fval hi ≤ -fval lo := by rw [← fval_neg]; exact (fval_le (iN_o hh.1) ⟨by omega, by omega⟩).mpr (by omega)
        have m : upF (fval hi ^ n.toNat) ≤ upF (fval lo ^ n.toNat) := by
          apply upF_mono
          have c1 := pw_neg (fval lo) n.toNat
          rw [if_pos he] at c1
          rw [← c1]
          exact pw_evn q (by grind) he
        split <;> omega
      · rw [show max (-lo) hi = hi by omega]
        have q : -fval lo ≤ fval hi := by rw [← fval_neg]; exact (fval_le ⟨by omega, by omega⟩ (iN_o hh.1)).mpr (by omega)
        have m : upF (fval lo ^ n.toNat) ≤ upF (fval hi ^ n.toNat) := upF_mono (pw_evn fle q he)
        split <;> omega
theorem ra_hiO {lo hi n : Int} (hl : bF lo ∧ lo < 9218868437227405312) (hh : bF hi ∧ -9218868437227405312 < hi) (hlh : lo ≤ hi) (hn : 0 < n) (he : n.toNat % 2 = 1) : upX (rwH n lo hi) = rTH (rTH (-9218868437227405312) lo n.toNat) hi n.toNat := by
  have l1 := hl.1.1
  have h1 := hh.1.2
  have e : rwH n lo hi = pwX hi n := by
    unfold rwH rwB
    rw [if_neg (by omega), if_neg (by omega), if_neg (by omega), if_neg (by omega)]
  rw [e]
  unfold rTH
  have b1 := upF_b (fval lo ^ n.toNat)
  have b2 := upF_b (fval hi ^ n.toNat)
  rcases Bool.eq_false_or_eq_true (iN hi) with c | c
  · have := iNt c
    have hh2 := hh.2
    rw [pw_i hn c, decide_eq_false (show ¬ (hi < 0 ∧ _) by omega), if_neg (show ¬ iN hi = false by rw [c]; decide), if_neg (show ¬ (hi < 0 ∧ n.toNat % 2 = 1) by omega)]
    show (9218868437227405312 : Int) = _
    repeat' split
    all_goals omega
  · rw [pw_f hn c, if_pos c]
    show upF (fval hi ^ n.toNat) = _
    have m : upF (fval lo ^ n.toNat) ≤ upF (fval hi ^ n.toNat) := upF_mono (pw_odd ((fval_le (iN_o hl.1) (iN_o hh.1)).mpr hlh) he)
    have := iNf c
    rcases Bool.eq_false_or_eq_true (iN lo) with d | d
    · have := iNt d
      rw [if_neg (show ¬ iN lo = false by rw [d]; decide), if_pos ⟨by omega, he⟩]; omega
    · rw [if_pos d]; omega
/-! powers below 0 -/
theorem pw_m {k n : Int} (h : n < 0) : pwX k n = .inl (if iN k = true then 0 else 1 / fval k ^ (-n).toNat) := by
  unfold pwX
  rw [if_pos h]
  split <;> rfl
theorem rIv_f (g : Int) (n : Nat) : rIv g n false = if iN g = true then 0 else 1 / fval g ^ n := by
  unfold rIv
  rcases Bool.eq_false_or_eq_true (iN g) with c | c
  · rw [if_neg (by rw [c]; decide), if_pos c]
  · rw [if_pos c, if_neg Bool.false_ne_true, if_neg (by rw [c]; decide)]
theorem iN_neg (k : Int) : iN (-k) = iN k := by
  unfold iN
  congr 1
  exact propext ⟨fun h => by omega, fun h => by omega⟩
theorem inv_ng (x : Rat) : (-x)⁻¹ = -(x⁻¹) := by
  rcases Decidable.em (x = 0) with c | c
  · rw [c, Rat.neg_zero, Rat.inv_zero, Rat.neg_zero]
  · apply rat_cn (c := -x) (by grind)
    rw [Rat.inv_mul_cancel (-x) (by grind)]
    have := Rat.inv_mul_cancel x c
    grind
theorem inv_neg' (x : Rat) : 1 / (-x) = -(1 / x) := by
  rw [Rat.div_def, Rat.div_def, Rat.one_mul, Rat.one_mul]
  exact inv_ng x
theorem rIv_t {g : Int} {n : Nat} (h : n % 2 = 1) : rIv (-g) n true = if iN g = true then 0 else 1 / fval g ^ n := by
  unfold rIv
  rw [iN_neg]
  rcases Bool.eq_false_or_eq_true (iN g) with c | c
  · rw [if_neg (by rw [c]; decide), if_pos c]
  · rw [if_pos c, if_neg (show ¬ iN g = true by rw [c]; decide), if_pos rfl, fval_neg, pw_neg, if_neg (by omega), inv_neg', Rat.neg_neg]
theorem rIv_e {g : Int} {n : Nat} (h : n % 2 = 0) : rIv (-g) n false = if iN g = true then 0 else 1 / fval g ^ n := by
  rw [rIv_f, iN_neg, fval_neg, pw_neg, if_pos h]
theorem inv_mono {x y : Rat} (h : 0 < x) (hxy : x ≤ y) : 1 / y ≤ 1 / x := by
  have hy : 0 < y := by grind
  rw [Rat.div_def, Rat.div_def, Rat.one_mul, Rat.one_mul]
  have ix := Rat.inv_pos.mpr h
  have iy := Rat.inv_pos.mpr hy
  have a : x * (x⁻¹ * y⁻¹) ≤ y * (x⁻¹ * y⁻¹) := Rat.mul_le_mul_of_nonneg_right hxy (Rat.le_of_lt (Rat.mul_pos ix iy))
  have e1 : x * (x⁻¹ * y⁻¹) = y⁻¹ := by rw [← Rat.mul_assoc, Rat.mul_inv_cancel x (by grind), Rat.one_mul]
  have e2 : y * (x⁻¹ * y⁻¹) = x⁻¹ := by rw [Rat.mul_comm x⁻¹, ← Rat.mul_assoc, Rat.mul_inv_cancel y (by grind), Rat.one_mul]
  rw [e1, e2] at a
  exact a
theorem inv_nn {x : Rat} (h : 0 < x) : 0 ≤ 1 / x := by
  rw [Rat.div_def, Rat.one_mul]
  exact Rat.le_of_lt (Rat.inv_pos.mpr h)
theorem iv_mono {a b : Int} (h0 : 0 < a) (h : a ≤ b) (hb : b ≤ 9218868437227405312) (n : Nat) : rIv b n false ≤ rIv a n false ∧ 0 ≤ rIv a n false := by
  have oa : oF a := ⟨by omega, by omega⟩
  have ob : oF b := ⟨by omega, by omega⟩
  have pa : 0 < fval a ^ n := Rat.pow_pos ((fval_p oa).mpr h0)
  rw [rIv_f, rIv_f]
  rcases Bool.eq_false_or_eq_true (iN a) with c | c
  · have := iNt c
    rw [show b = a by omega, if_pos c]
    exact ⟨Rat.le_refl, Rat.le_refl⟩
  · rw [if_neg (show ¬ iN a = true by rw [c]; decide)]
    have i := inv_nn pa
    refine ⟨?_, i⟩
    split
    · exact i
    · exact inv_mono pa (pw_mono ((fval_nn oa).mpr (by omega)) ((fval_le oa ob).mpr h) n)
theorem rb_lo {lo hi n : Int} (hl : bF lo ∧ lo < 9218868437227405312) (hh : bF hi ∧ -9218868437227405312 < hi) (hlh : lo ≤ hi) (h0 : ¬ (lo = 0 ∧ hi = 0)) (hn : n < 0) : dnX (rwL n lo hi) = rBL 9218868437227405312 lo hi (-n).toNat := by
  have l1 := hl.1.1
  have h1 := hh.1.2
  have ev : (-n).toNat % 2 = 0 ↔ n % 2 = 0 := by omega
  obtain ⟨m, hm⟩ : ∃ m, m = (-n).toNat := ⟨_, rfl⟩
  unfold rwL rBL
  rw [← hm] at ev ⊢
  have bb := fun g t => dnF_b (rIv g m t)
  rcases Nat.mod_two_eq_zero_or_one m with e | e
  · have eA : rwA n lo hi = max 0 (max lo (-hi)) := if_pos (ev.mp e)
    have eB : rwB n lo hi = max (-lo) hi := if_pos (ev.mp e)
    rw [eA, eB, if_neg (by omega), if_neg (by omega), if_pos hn, pw_m hn, ← hm, ← rIv_f]
    show dnF (rIv (max (-lo) hi) m false) = _
    rw [decide_eq_false (show ¬ m % 2 = 1 by omega)]
    unfold rIL
    rw [if_neg Bool.false_ne_true, if_neg Bool.false_ne_true]
    have b1 := bb (max (-lo) hi) false
    rcases ilt_ge lo 0 with c | c
    · rw [if_pos c]
      rcases ilt_ge 0 hi with d | d
      · rw [if_pos d]
        rcases ilt_ge hi (-lo) with g | g
        · rw [show max (-lo) hi = -lo by omega] at b1 ⊢
          have := dnF_mono (iv_mono d (show hi ≤ -lo by omega) (by omega) m).1
          omega
        · rw [show max (-lo) hi = hi by omega] at b1 ⊢
          have := dnF_mono (iv_mono (show 0 < -lo by omega) g (by omega) m).1
          omega
      · rw [if_neg (by omega), show max (-lo) hi = -lo by omega]
        have := bb (-lo) false
        omega
    · rw [if_neg (by omega), if_pos (by omega), show max (-lo) hi = hi by omega]
      have := bb hi false
      omega
  · have eA : rwA n lo hi = lo := if_neg (by omega)
    have eB : rwB n lo hi = hi := if_neg (by omega)
    rw [eA, eB, decide_eq_true e]
    unfold rIL
    rw [if_neg Bool.false_ne_true, if_pos rfl]
    rcases ilt_ge lo 0 with c | c
    · rw [if_pos c]
      rcases ilt_ge 0 hi with d | d
      · rw [if_pos ⟨hn, c, d⟩, if_neg (show ¬ hi < 0 by omega), if_pos rfl]
        rfl
      · rw [if_neg (show ¬ (n < 0 ∧ lo < 0 ∧ 0 < hi) by omega)]
        rcases ilt_ge hi 0 with g | g
        · rw [if_neg (show ¬ (n < 0 ∧ hi = 0) by omega), if_pos hn, pw_m hn, ← hm, ← rIv_t e, if_pos g, if_neg (show ¬ -hi = 0 by omega), if_neg (by omega)]
          show dnF _ = _
          have := bb (-hi) true
          omega
        · rw [if_pos (show n < 0 ∧ hi = 0 by omega), if_neg (show ¬ hi < 0 by omega), if_pos rfl]
          rfl
    · rw [if_neg (show ¬ (n < 0 ∧ lo < 0 ∧ 0 < hi) by omega), if_neg (show ¬ (n < 0 ∧ hi = 0) by omega), if_pos hn, pw_m hn, ← hm, ← rIv_f, if_neg (by omega), if_pos (by omega)]
      show dnF _ = _
      have := bb hi false
      omega
theorem rb_hi {lo hi n : Int} (hl : bF lo ∧ lo < 9218868437227405312) (hh : bF hi ∧ -9218868437227405312 < hi) (hlh : lo ≤ hi) (h0 : ¬ (lo = 0 ∧ hi = 0)) (hn : n < 0) : upX (rwH n lo hi) = rBH (-9218868437227405312) lo hi (-n).toNat := by
  have l1 := hl.1.1
  have h1 := hh.1.2
  have ev : (-n).toNat % 2 = 0 ↔ n % 2 = 0 := by omega
  obtain ⟨m, hm⟩ : ∃ m, m = (-n).toNat := ⟨_, rfl⟩
  unfold rwH rBH
  rw [← hm] at ev ⊢
  have bb := fun g t => upF_b (rIv g m t)
  rcases Nat.mod_two_eq_zero_or_one m with e | e
  · have eA : rwA n lo hi = max 0 (max lo (-hi)) := if_pos (ev.mp e)
    have eB : rwB n lo hi = max (-lo) hi := if_pos (ev.mp e)
    rw [eA, eB, if_neg (show ¬ (n < 0 ∧ max 0 (max lo (-hi)) < 0 ∧ 0 < max (-lo) hi) by omega), decide_eq_false (show ¬ m % 2 = 1 by omega)]
    unfold rIH
    rw [if_neg Bool.false_ne_true, if_neg Bool.false_ne_true]
    rcases Decidable.em (max 0 (max lo (-hi)) = 0) with z | z
    · rw [if_pos ⟨hn, z⟩]
      show (9218868437227405312 : Int) = _
      rcases ilt_ge lo 0 with c | c
      · rw [if_pos c, if_neg (show ¬ hi < 0 by omega), if_pos rfl]
      · rw [if_neg (show ¬ lo < 0 by omega), if_pos (show 0 < hi by omega), if_neg (show ¬ 0 < lo by omega), if_pos rfl]
    · rw [if_neg (by omega), if_pos hn, pw_m hn, ← hm, ← rIv_f]
      show upF (rIv (max 0 (max lo (-hi))) m false) = _
      rcases ilt_ge lo 0 with c | c
      · rw [if_pos c, if_pos (show hi < 0 by omega), if_neg (show ¬ -hi = 0 by omega), if_neg (show ¬ 0 < hi by omega), show max 0 (max lo (-hi)) = -hi by omega]
        have := bb (-hi) false
        omega
      · rw [if_neg (show ¬ lo < 0 by omega), if_pos (show 0 < hi by omega), if_pos (show 0 < lo by omega), if_neg (show ¬ lo = 0 by omega), show max 0 (max lo (-hi)) = lo by omega]
        have := bb lo false
        omega
  · have eA : rwA n lo hi = lo := if_neg (by omega)
    have eB : rwB n lo hi = hi := if_neg (by omega)
    rw [eA, eB, decide_eq_true e]
    unfold rIH
    rw [if_neg Bool.false_ne_true, if_pos rfl]
    rcases ilt_ge lo 0 with c | c
    · rw [if_pos c]
      rcases ilt_ge 0 hi with d | d
      · rw [if_pos ⟨hn, c, d⟩, if_pos d, if_neg (show ¬ 0 < lo by omega), if_pos rfl]
        show (9218868437227405312 : Int) = _
        have := bb (-lo) true
        omega
      · rw [if_neg (show ¬ (n < 0 ∧ lo < 0 ∧ 0 < hi) by omega), if_neg (show ¬ (n < 0 ∧ lo = 0) by omega), if_pos hn, pw_m hn, ← hm, ← rIv_t e, if_neg (show ¬ 0 < hi by omega)]
        show upF _ = _
        have := bb (-lo) true
        omega
    · rw [if_neg (show ¬ (n < 0 ∧ lo < 0 ∧ 0 < hi) by omega), if_neg (show ¬ lo < 0 by omega), if_pos (show 0 < hi by omega)]
      rcases Decidable.em (lo = 0) with z | z
      · rw [if_pos ⟨hn, z⟩, if_neg (show ¬ 0 < lo by omega), if_pos rfl]
        rfl
      · rw [if_neg (show ¬ (n < 0 ∧ lo = 0) by omega), if_pos hn, pw_m hn, ← hm, ← rIv_f, if_pos (show 0 < lo by omega), if_neg z]
        show upF _ = _
        have := bb lo false
        omega
/-! the reciprocal is the power -1 -/
theorem one_o : oF 4607182418800017408 := ⟨by decide, by decide⟩
theorem rDL_1 {lo c d : Int} : rDL lo 4607182418800017408 c d = min lo (dnF (rIv d 1 false)) := by
  unfold rDL
  rw [if_pos (by decide), rIv_f, fval_one, show fval d ^ 1 = fval d by rw [Rat.pow_succ, Rat.pow_zero, Rat.one_mul]]
  rcases Bool.eq_false_or_eq_true (iN d) with c | c
  · rw [if_neg (by rw [c]; decide), if_pos c, dn_0]
  · rw [if_pos c, if_neg (by rw [c]; decide)]
theorem rDH_1 {hi c d : Int} (h : c ≠ 0) (hc : iN c = false) : rDH hi 4607182418800017408 c d = max hi (upF (rIv c 1 false)) := by
  unfold rDH
  rw [if_neg (by decide), rIv_f, fval_one, show fval c ^ 1 = fval c by rw [Rat.pow_succ, Rat.pow_zero, Rat.one_mul], if_pos ⟨h, by decide⟩, if_neg (by rw [hc]; decide)]
theorem rv_bl {a b : Int} (ha : bF a ∧ a < 9218868437227405312) (hb : bF b ∧ -9218868437227405312 < b) (hab : a ≤ b) : rVL 9218868437227405312 4607182418800017408 4607182418800017408 a b = rBL 9218868437227405312 a b 1 := by
  have a1 := ha.1.1
  have b1 := hb.1.2
  have p1 : ∀ x : Rat, x ^ 1 = x := fun x => by rw [Rat.pow_succ, Rat.pow_zero, Rat.one_mul]
  unfold rVL rBL
  rw [rDL_1]
  have e1 : rIL 9218868437227405312 (if 0 < a then a else 0) b 1 false = min 9218868437227405312 (dnF (rIv b 1 false)) := if_neg Bool.false_ne_true
  rw [e1]
  show (if a < 0 then rDL (if 0 < b then _ else _) (-4607182418800017408) _ (-a) else _) = _
  rcases ilt_ge a 0 with c | c
  · rw [if_pos c, if_pos c]
    generalize (if 0 < b then min 9218868437227405312 (dnF (rIv b 1 false)) else 9218868437227405312) = t
    rw [decide_eq_true (show 1 % 2 = 1 by decide)]
    unfold rDL rIL
    rw [if_neg (by decide), if_pos rfl]
    rcases ilt_ge b 0 with d | d
    · rw [if_pos d, if_neg (show ¬ -b = 0 by omega), if_pos ⟨by omega, by decide⟩, rIv_t (by decide), if_neg (by rw [iN_ff (by omega) (by omega)]; decide), p1, fval_neg, fval_neg, fval_one]
      congr 2
      rw [Rat.div_def, Rat.div_def, inv_ng]
      grind
    · rw [if_neg (show ¬ b < 0 by omega), if_pos rfl, if_neg (fun w => w.1 rfl)]
  · rw [if_neg (show ¬ a < 0 by omega), if_neg (show ¬ a < 0 by omega)]
theorem rv_bh {a b : Int} (ha : bF a ∧ a < 9218868437227405312) (hb : bF b ∧ -9218868437227405312 < b) (hab : a ≤ b) : rVH (-9218868437227405312) 4607182418800017408 4607182418800017408 a b = rBH (-9218868437227405312) a b 1 := by
  have a1 := ha.1.1
  have b1 := hb.1.2
  have p1 : ∀ x : Rat, x ^ 1 = x := fun x => by rw [Rat.pow_succ, Rat.pow_zero, Rat.one_mul]
  unfold rVH rBH
  have e1 : rDH (-9218868437227405312) 4607182418800017408 (if 0 < a then a else 0) b = rIH (-9218868437227405312) (if 0 < a then a else 0) b 1 false := by
    unfold rIH
    rw [if_neg Bool.false_ne_true]
    rcases ilt_ge 0 a with c | c
    · rw [if_pos c, if_neg (by omega), rDH_1 (by omega) (iN_ff (by omega) (by omega))]
    · rw [if_neg (by omega), if_pos rfl]
      unfold rDH
      rw [if_neg (by decide), if_neg (fun w => w.1 rfl)]
  rw [e1]
  show (if a < 0 then rDH (if 0 < b then _ else _) (-4607182418800017408) _ (-a) else _) = _
  rcases ilt_ge a 0 with c | c
  · rw [if_pos c, if_pos c]
    generalize (if 0 < b then rIH (-9218868437227405312) (if 0 < a then a else 0) b 1 false else -9218868437227405312) = t
    rw [decide_eq_true (show 1 % 2 = 1 by decide)]
    unfold rDH rIH
    rw [if_pos (by decide), if_pos rfl, rIv_t (by decide), iN_neg, p1, fval_neg, fval_neg, fval_one]
    rcases Bool.eq_false_or_eq_true (iN a) with d | d
    · rw [if_neg (by rw [d]; decide), if_pos d, up_0]
    · rw [if_pos d, if_neg (by rw [d]; decide)]
      congr 2
      rw [Rat.div_def, Rat.div_def, inv_ng]
      grind
  · rw [if_neg (show ¬ a < 0 by omega), if_neg (show ¬ a < 0 by omega)]
/-! rounding to wholes is monotone -/
theorem fv_T {u : Nat} (h : whB u = false) : fv u = ((wT u * 2 ^ (shI u).toNat + fP u % 2 ^ (shI u).toNat : Nat) : Rat) * p2 (-((shI u).toNat : Int)) := by
  have hs := whB_f h
  unfold fv wT
  rw [Nat.mul_comm (fP u / _), Nat.div_add_mod, show fX u = -((shI u).toNat : Int) by have := shI_X u; omega]
theorem nat_p2 (n k : Nat) : (n : Rat) = ((n * 2 ^ k : Nat) : Rat) * p2 (-(k : Int)) := (p2_cn n).symm
theorem wT_b {u : Nat} (h : whB u = false) : (wT u : Rat) < fv u ∧ fv u < ((wT u + 1 : Nat) : Rat) := by
  have hs := whB_f h
  have hm := Nat.mod_lt (fP u) (Nat.two_pow_pos (shI u).toNat)
  rw [fv_T h, nat_p2 (wT u) (shI u).toNat, nat_p2 (wT u + 1) (shI u).toNat, rq_lt, rq_lt, Nat.add_mul]
  omega
theorem wA3_b {u : Nat} {ng : Bool} (h : whB u = false) : wA u ng 3 = true ↔ ((2 * wT u + 1 : Nat) : Rat) < 2 * fv u ∨ ((2 * wT u + 1 : Nat) : Rat) = 2 * fv u ∧ wT u % 2 = 1 := by
  have hs := whB_f h
  unfold wA
  rw [if_neg (by decide), if_neg (by decide), if_neg (by decide), decide_eq_true_iff]
  have e : 2 * fv u = ((2 * (wT u * 2 ^ (shI u).toNat + fP u % 2 ^ (shI u).toNat) : Nat) : Rat) * p2 (-((shI u).toNat : Int)) := by
    rw [fv_T h, Rat.natCast_mul 2, Rat.mul_assoc]
    rfl
  rw [e, nat_p2 (2 * wT u + 1) (shI u).toNat, rq_lt, rq_eq]
  obtain ⟨k, hk⟩ : ∃ k, (shI u).toNat = k + 1 := ⟨(shI u).toNat - 1, by omega⟩
  rw [hk, Nat.add_sub_cancel, Nat.pow_succ, Nat.add_mul]
  generalize 2 ^ k = D
  generalize fP u % (D * 2) = r
  rw [Nat.mul_assoc 2 (wT u)]
  generalize wT u * (D * 2) = E
  omega
theorem iN_fin {k : Int} (h : bF k) (c : iN k = false) : k.natAbs < 9218868437227405312 := by
  have := iNf c
  have := h.1
  have := h.2
  omega
theorem wh_int {u : Nat} (h : whB u = true) : ∃ n : Nat, fv u = (n : Rat) := by
  have hd := of_decide_eq_true h
  have e := Nat.div_add_mod (fP u) (2 ^ (shI u).toNat)
  rw [hd, Nat.add_zero] at e
  have sx := shI_X u
  unfold fv
  rcases ilt_ge (shI u) 0 with c | c
  · refine ⟨fP u * 2 ^ (fX u).toNat, ?_⟩
    rw [Rat.natCast_mul, ← p2_nat, Int.toNat_of_nonneg (by omega)]
  · refine ⟨fP u / 2 ^ (shI u).toNat, ?_⟩
    have : fX u = -((shI u).toNat : Int) := by omega
    rw [this, nat_p2 (fP u / 2 ^ (shI u).toNat) (shI u).toNat, Nat.mul_comm (fP u / _), e]
theorem fval_ab (k : Int) : fval k = if k < 0 then -fv k.natAbs else fv k.natAbs := by
  unfold fval
  split
  · rw [show (-k).toNat = k.natAbs by omega]
  · rw [show k.toNat = k.natAbs by omega]
theorem wh_Z {k : Int} (h : whB k.natAbs = true) : ∃ n : Int, fval k = (n : Rat) := by
  obtain ⟨n, e⟩ := wh_int h
  rw [fval_ab, e]
  split
  · exact ⟨-(n : Int), by rw [Rat.intCast_neg]; rfl⟩
  · exact ⟨n, rfl⟩
/-- the whole below -/
def wF (k : Int) : Int := if k < 0 then -((wT k.natAbs : Int) + 1) else wT k.natAbs
/-- the whole that is found -/
def wv (k : Int) (how : Nat) : Int := if k < 0 then -((wT k.natAbs : Int) + (if wA k.natAbs (decide (k < 0)) how = true then 1 else 0)) else (wT k.natAbs : Int) + (if wA k.natAbs (decide (k < 0)) how = true then 1 else 0)
theorem wF_b {k : Int} (h : whB k.natAbs = false) : ((wF k : Int) : Rat) < fval k ∧ fval k < ((wF k + 1 : Int) : Rat) := by
  have b := wT_b h
  have e1 : ((wT k.natAbs + 1 : Nat) : Rat) = (((wT k.natAbs : Int) + 1 : Int) : Rat) := rfl
  have e0 : ((wT k.natAbs : Nat) : Rat) = ((wT k.natAbs : Int) : Rat) := rfl
  rw [e0, e1] at b
  rw [fval_ab]
  unfold wF
  generalize (wT k.natAbs : Int) = t at *
  split
  · rw [Rat.intCast_neg, show (-(t + 1) + 1 : Int) = -t by omega, Rat.intCast_neg]
    grind
  · exact b
theorem wA_fo {k : Int} {ng : Bool} {how : Nat} (hk : oF k) : wA (foB k) ng how = wA k.natAbs ng how := by
  obtain ⟨-, w2, w3, w4⟩ := wh_fo hk
  unfold wA
  rw [w2, w3, w4]
theorem wR_v {k : Int} {how : Nat} (hk : bF k) (c : iN k = false) (h : whB k.natAbs = false) : fval (wR k how) = ((wv k how : Int) : Rat) := by
  have ok := iN_o hk
  obtain ⟨w1, w2, -, -⟩ := wh_fo ok
  unfold wR wv
  rw [w1, c, h, if_neg (by decide), w2, wA_fo ok]
  have tl := wT_lt h
  generalize wA k.natAbs (decide (k < 0)) how = A
  have tl2 : wT k.natAbs + (if A = true then 1 else 0) ≤ 9007199254740992 := by split <;> omega
  obtain ⟨s1, -⟩ := ofW_sp tl2
  unfold sgZ
  split
  · rw [fval_ng, s1, Rat.intCast_neg]
    congr 1
    cases A <;> rfl
  · rw [fval_nn', s1]
    cases A <;> rfl
theorem wv_b (k : Int) (how : Nat) : wF k ≤ wv k how ∧ wv k how ≤ wF k + 1 := by
  unfold wF wv
  split <;> split <;> omega
theorem wA_0 (u : Nat) (ng : Bool) : wA u ng 0 = ng := rfl
theorem wA_1 (u : Nat) (ng : Bool) : wA u ng 1 = !ng := rfl
theorem wA_2 (u : Nat) (ng : Bool) : wA u ng 2 = false := rfl
theorem wv_eq {a b : Int} {how : Nat} (hh : how ≤ 3) (ha : whB a.natAbs = false) (hb : whB b.natAbs = false) (hab : a ≤ b) (ba : bF a) (bb : bF b) (h : wF a = wF b) : wv a how ≤ wv b how := by
  have fab := (fval_le (iN_o ba) (iN_o bb)).mpr hab
  rw [fval_ab, fval_ab] at fab
  unfold wF at h
  unfold wv
  rcases ilt_ge a 0 with sa | sa <;> rcases ilt_ge b 0 with sb | sb
  · rw [if_pos sa, if_pos sb] at *
    have e : wT a.natAbs = wT b.natAbs := by omega
    rw [decide_eq_true sa, decide_eq_true sb, e]
    rcases (show how = 0 ∨ how = 1 ∨ how = 2 ∨ how = 3 by omega) with r | r | r | r <;> subst r
    · rw [wA_0, wA_0]; exact Int.le_refl _
    · rw [wA_1, wA_1]; exact Int.le_refl _
    · rw [wA_2, wA_2]; exact Int.le_refl _
    · have A := wA3_b (ng := true) ha
      have B := wA3_b (ng := true) hb
      rw [e] at A
      have im : wA b.natAbs true 3 = true → wA a.natAbs true 3 = true := by
        rw [A, B]
        intro z
        rcases z with z | z
        · left; grind
        · rcases Decidable.em (fv a.natAbs = fv b.natAbs) with q | q
          · right; exact ⟨by rw [q]; exact z.1, z.2⟩
          · left; grind
      rcases Bool.eq_false_or_eq_true (wA b.natAbs true 3) with c | c
      · rw [c, im c]; exact Int.le_refl _
      · rw [c, if_neg Bool.false_ne_true]; split <;> omega
  · rw [if_pos sa, if_neg (by omega)] at h; omega
  · omega
  · rw [if_neg (show ¬ a < 0 by omega), if_neg (show ¬ b < 0 by omega)] at *
    have e : wT a.natAbs = wT b.natAbs := by omega
    rw [decide_eq_false (show ¬ a < 0 by omega), decide_eq_false (show ¬ b < 0 by omega), e]
    rcases (show how = 0 ∨ how = 1 ∨ how = 2 ∨ how = 3 by omega) with r | r | r | r <;> subst r
    · rw [wA_0, wA_0]; exact Int.le_refl _
    · rw [wA_1, wA_1]; exact Int.le_refl _
    · rw [wA_2, wA_2]; exact Int.le_refl _
    · have A := wA3_b (ng := false) ha
      have B := wA3_b (ng := false) hb
      rw [e] at A
      have im : wA a.natAbs false 3 = true → wA b.natAbs false 3 = true := by
        rw [A, B]
        intro z
        rcases z with z | z
        · left; grind
        · rcases Decidable.em (fv a.natAbs = fv b.natAbs) with q | q
          · right; exact ⟨by rw [← q]; exact z.1, z.2⟩
          · left; grind
      rcases Bool.eq_false_or_eq_true (wA a.natAbs false 3) with c | c
      · rw [c, im c]; exact Int.le_refl _
      · rw [c, if_neg Bool.false_ne_true]; split <;> omega
theorem ic_lt {a b : Int} : (a : Rat) < (b : Rat) ↔ a < b := Rat.intCast_lt_intCast
theorem wR_w {k : Int} {how : Nat} (hk : bF k) (h : iN k = true ∨ whB k.natAbs = true) : wR k how = k := by
  obtain ⟨w1, -, -, -⟩ := wh_fo (iN_o hk)
  unfold wR
  rw [w1, if_pos]
  rcases h with h | h <;> rw [h]
  · rfl
  · rw [Bool.or_true]
theorem wR_f {k : Int} {how : Nat} (hk : bF k) (c : iN k = false) : -9218868437227405312 < wR k how ∧ wR k how < 9218868437227405312 := by
  have k1 := hk.1
  have k2 := hk.2
  have := iNf c
  rcases Bool.eq_false_or_eq_true (whB k.natAbs) with w | w
  · rw [wR_w hk (Or.inr w)]; omega
  · have e := wR_v (how := how) hk c w
    have o := wR_o (how := how) (iN_o hk)
    have t := wT_lt w
    have b := wv_b k how
    have f : -9007199254740992 ≤ wF k ∧ wF k + 1 ≤ 9007199254740992 := by unfold wF; split <;> omega
    have one : fval 4845873199050653696 = 9007199254740992 := by decide +kernel
    constructor
    · have : fval (-9218868437227405312) < fval (wR k how) := by
        have l : fval (-9218868437227405312) < fval (-4845873199050653696) := (fval_ltI ⟨by decide, by decide⟩ ⟨by decide, by decide⟩).mpr (by decide)
        rw [fval_neg 4845873199050653696, one] at l
        rw [e]
        have : ((-9007199254740992 : Int) : Rat) ≤ ((wv k how : Int) : Rat) := Rat.intCast_le_intCast.mpr (by omega)
        have z : ((-9007199254740992 : Int) : Rat) = -9007199254740992 := rfl
        rw [z] at this
        grind
      exact (fval_ltI ⟨by decide, by decide⟩ o).mp this
    · have : fval (wR k how) < fval 9218868437227405312 := by
        have l : fval 4845873199050653696 < fval 9218868437227405312 := (fval_ltI ⟨by decide, by decide⟩ ⟨by decide, by decide⟩).mpr (by decide)
        rw [one] at l
        rw [e]
        have : ((wv k how : Int) : Rat) ≤ ((9007199254740992 : Int) : Rat) := Rat.intCast_le_intCast.mpr (by omega)
        have z : ((9007199254740992 : Int) : Rat) = 9007199254740992 := rfl
        rw [z] at this
        grind
      exact (fval_ltI o ⟨by decide, by decide⟩).mp this
theorem wR_mono {a b : Int} {how : Nat} (hh : how ≤ 3) (ba : bF a) (bb : bF b) (hab : a ≤ b) : wR a how ≤ wR b how := by
  have a1 := ba.1
  have a2 := ba.2
  have b1 := bb.1
  have b2 := bb.2
  rcases Bool.eq_false_or_eq_true (iN a) with ia | ia
  · rw [wR_w ba (Or.inl ia)]
    rcases Bool.eq_false_or_eq_true (iN b) with ib | ib
    · rw [wR_w bb (Or.inl ib)]; exact hab
    · have := wR_f (how := how) bb ib
      have := iNt ia
      have := iNf ib
      omega
  · rcases Bool.eq_false_or_eq_true (iN b) with ib | ib
    · rw [wR_w bb (Or.inl ib)]
      have := wR_f (how := how) ba ia
      have := iNt ib
      have := iNf ia
      omega
    · have fab := (fval_le (iN_o ba) (iN_o bb)).mpr hab
      rw [← fval_le (wR_o (iN_o ba)) (wR_o (iN_o bb))]
      rcases Bool.eq_false_or_eq_true (whB a.natAbs) with wa | wa <;> rcases Bool.eq_false_or_eq_true (whB b.natAbs) with wb | wb
      · rw [wR_w ba (Or.inr wa), wR_w bb (Or.inr wb)]; exact fab
      · rw [wR_w ba (Or.inr wa), wR_v bb ib wb]
        obtain ⟨n, e⟩ := wh_Z wa
        have := (wF_b wb).2
        have c := wv_b b how
        rw [e] at fab ⊢
        have l : (n : Rat) < ((wF b + 1 : Int) : Rat) := by grind
        rw [ic_lt] at l
        exact Rat.intCast_le_intCast.mpr (by omega)
      · rw [wR_w bb (Or.inr wb), wR_v ba ia wa]
        obtain ⟨n, e⟩ := wh_Z wb
        have := (wF_b wa).1
        have c := wv_b a how
        rw [e] at fab ⊢
        have l : ((wF a : Int) : Rat) < (n : Rat) := by grind
        rw [ic_lt] at l
        exact Rat.intCast_le_intCast.mpr (by omega)
      · rw [wR_v ba ia wa, wR_v bb ib wb]
        have l1 := (wF_b wa).1
        have l2 := (wF_b wb).2
        have l : ((wF a : Int) : Rat) < ((wF b + 1 : Int) : Rat) := by grind
        rw [ic_lt] at l
        apply Rat.intCast_le_intCast.mpr
        rcases Decidable.em (wF a = wF b) with q | q
        · exact wv_eq hh wa wb hab ba bb q
        · have := wv_b a how
          have := wv_b b how
          omega
