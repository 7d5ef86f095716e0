/-! the law's state -/
def mdP (h : xH) (M n : Nat) (cs : Nat → vC) (ts : Nat) (en : Bool) (t2 : Nat → Nat) (L : List Nat) (s : Nat → Value) (o : Nat → Nat) : Prop := mz h M s n cs ∧ s 6 = .int (nI ts) ∧ s 7 = .int (bI en) ∧ s 9 = .int (nI L.length) ∧ s 15 = .int 0 ∧ (∃ a, s 23 = .int a) ∧ (∃ a, s 24 = .int a) ∧ tpR h M t2 ∧ otR h M o ∧ otL o L
theorem mdP.ag {h h' : xH} {M n : Nat} {cs : Nat → vC} {ts : Nat} {en : Bool} {t2 : Nat → Nat} {L : List Nat} {s : Nat → Value} {o : Nat → Nat} (w : mdP h M n cs ts en t2 L s o) (f : ∀ q, M ≤ q → q < M + 45 → h' q = h q) : mdP h' M n cs ts en t2 L s o := by
  obtain ⟨⟨lo, hi, nn, ls, m⟩, a1, a2, a3, a4, a5, a6, a7, a8, a9⟩ := w
  exact ⟨⟨lo, hi, nn, ls, m.o (fun q x => f q (by omega) (by omega))⟩, a1, a2, a3, a4, a5, a6, ⟨(f _ (by omega) (by omega)).trans a7.1, a7.2⟩, ⟨(f _ (by omega) (by omega)).trans a8.1, a8.2⟩, a9⟩
theorem mdP.z {h h' : xH} {M n n' : Nat} {cs cs' : Nat → vC} {ts : Nat} {en : Bool} {t2 : Nat → Nat} {L : List Nat} {s : Nat → Value} {o : Nat → Nat} (w : mdP h M n cs ts en t2 L s o) (f : ∀ q, q = M + 20 ∨ q = M + 21 → h' q = h q) (m : mz h' M (su s 11 (.int (nI n'))) n' cs') : mdP h' M n' cs' ts en t2 L (su s 11 (.int (nI n'))) o := by
  obtain ⟨-, a1, a2, a3, a4, a5, a6, a7, a8, a9⟩ := w
  exact ⟨m, a1, a2, a3, a4, a5, a6, ⟨(f _ (by omega)).trans a7.1, a7.2⟩, ⟨(f _ (by omega)).trans a8.1, a8.2⟩, a9⟩
theorem mdP.y {h h' : xH} {M n : Nat} {cs : Nat → vC} {ts : Nat} {en : Bool} {t2 : Nat → Nat} {L : List Nat} {s : Nat → Value} {o : Nat → Nat} (w : mdP h M n cs ts en t2 L s o) (f : ∀ q, q = M + 20 ∨ q = M + 21 → h' q = h q) (m : mz h' M s n cs) : mdP h' M n cs ts en t2 L s o := by
  obtain ⟨-, a1, a2, a3, a4, a5, a6, a7, a8, a9⟩ := w
  exact ⟨m, a1, a2, a3, a4, a5, a6, ⟨(f _ (by omega)).trans a7.1, a7.2⟩, ⟨(f _ (by omega)).trans a8.1, a8.2⟩, a9⟩
theorem clS.md {h h' : xH} {sz B n : Nat} {cs : Nat → vC} {ts : Nat} {en : Bool} {t : Nat → Nat} {L : List Nat} (w : clS h sz B n cs ts en t L) (f : ∀ q, q < B + 44 ∨ B + 89 ≤ q → h' q = h q) : clS h' sz B n cs ts en t L := by
  obtain ⟨hB, lk, em, mc, E, ad, hlk, F, W⟩ := w
  exact ⟨hB, lk, em, mc, E, ad, hlk, F.al (fun q x y z => f q (by omega)), W.fr (Nat.le_refl _) hB (fun q x y => f q (by omega))⟩
theorem clS.r {h : xH} {sz B n : Nat} {cs : Nat → vC} {ts : Nat} {en : Bool} {t : Nat → Nat} {L : List Nat} (w : clS h sz B n cs ts en t L) : rcB h B := by
  obtain ⟨hB, lk, em, mc, E, ad, hlk, F, W⟩ := w
  exact ⟨_, _, rfl, F.1⟩
theorem mdP.r {h : xH} {M n : Nat} {cs : Nat → vC} {ts : Nat} {en : Bool} {t2 : Nat → Nat} {L : List Nat} {s : Nat → Value} {o : Nat → Nat} (w : mdP h M n cs ts en t2 L s o) : rcv h M := by
  obtain ⟨⟨lo, hi, nn, ls, m⟩, -⟩ := w
  exact m.r
def lwI (h : xH) (sz B n : Nat) : Prop := ∃ cs ts en t t2 L s o, clS h sz B n cs ts en t L ∧ mdP h (B + 44) n cs ts en t2 L s o ∧ (∀ i, i < ts → t2 i = t i) ∧ B + 89 ≤ sz
theorem q_sld {b N : Nat} {xs : Nat → Int32} {k : xK} {lv : List (Nat × Value)} {r : List Value} {S : xS} {j : Nat} (h : j < N) (hN : N ≤ 3072) : x_sld b N xs k lv (.int (nI j) :: .ref b :: r) S = k lv (.int (xs j) :: r) S := by
  have c : (nI j).toNatClampNeg = j := m_cl (by omega)
  have v : vp_in (nI j) N := vp_in_nI h (by omega)
  unfold x_sld
  dsimp only
  rw [c]
  exact propext ⟨fun x => x.2.2, fun x => ⟨rfl, v, x⟩⟩
theorem nI_u {c : Int32} {i j : Nat} (hi : i < 1000) (hj : j < 1000) (e : c = nI i) (e' : c = nI j) : j = i := ((nI_eq (by omega) (by omega)).mp (e.symm.trans e')).symm
theorem cB_n {n i : Nat} {c : Int32} (hi : i < n) (hn : n ≤ 512) (e : c = nI i) : cB n c = true := by
  subst e
  unfold cB
  rw [nI_toInt (by omega)]
  exact decide_eq_true ⟨by omega, by omega⟩
theorem oB_n {k o : Nat} {c : Int32} (ho : o ≤ k) (hk : k ≤ 1000) (e : c = nI o) : oB 0 k c = true := by
  subst e
  unfold oB
  rw [nI_toInt (by omega)]
  exact decide_eq_true ⟨by omega, by omega⟩
theorem oB_n1 {k o : Nat} {c : Int32} (h1 : 1 ≤ o) (ho : o ≤ k) (hk : k ≤ 1000) (e : c = nI o) : oB 1 k c = true := by
  subst e
  unfold oB
  rw [nI_toInt (by omega)]
  exact decide_eq_true ⟨by omega, by omega⟩
theorem oB_nz {p : Int} {c : Int32} (h1 : -40 ≤ p) (h2 : p ≤ 40) (e : c = iZ p) : oB (-40) 40 c = true := by
  subst e
  unfold oB
  rw [iZ_toInt (by omega) (by omega)]
  exact decide_eq_true ⟨by omega, by omega⟩
theorem iZ_u {c : Int32} {p p' : Int} (h1 : -40 ≤ p ∧ p ≤ 40) (h2 : -40 ≤ p' ∧ p' ≤ 40) (e : c = iZ p) (e' : c = iZ p') : p' = p := by
  have := congrArg Int32.toInt (e.symm.trans e')
  rw [iZ_toInt (by omega) (by omega), iZ_toInt (by omega) (by omega)] at this
  exact this.symm
/-- where a call is made -/
def lwC (b N J : Nat) (lv : List (Nat × Value)) (B n cl sl : Nat) : Prop := xlk lv 0 = some (.ref b) ∧ xlk lv 1 = some (.ref B) ∧ xlk lv 2 = some (.ref (B + 44)) ∧ xlk lv 3 = some (.int (nI J)) ∧ J + 6 ≤ N ∧ N ≤ 3072 ∧ n ≤ 511 ∧ 6 ≤ cl ∧ 2331 ≤ sl
def lwK (k : xK) (lv : List (Nat × Value)) (B n cl sl : Nat) : Prop := ∀ h' sz' cl' sl' n', lwI h' sz' B n' → n' ≤ n + 1 → cl ≤ cl' + 6 → sl ≤ sl' + 2331 → k lv [] (h', sz', cl', sl')
