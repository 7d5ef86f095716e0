/-! the state of the class -/
theorem exR.ag {h h' : xH} {x : Nat} {n : Bool} (w : exR h x n) (f : ∀ q, x ≤ q → q < x + 10 → h' q = h q) : exR h' x n := by
  obtain ⟨a, ⟨u, b⟩, ⟨v, c⟩, s, e, i, t, p, q, d⟩ := w
  exact ⟨(f x (by omega) (by omega)).trans a, ⟨u, b.ag (fun q y z => f q (by omega) (by omega))⟩, ⟨v, c.ag (fun q y z => f q (by omega) (by omega))⟩, s, e, i, t, p, q, d.ag (fun q y z => f q (by omega) (by omega))⟩
theorem reE.ag {h h' : xH} {o : Nat} (w : reE h o) (f : ∀ q, o ≤ q → q < o + 5 → h' q = h q) : reE h' o := by
  obtain ⟨s, e, i, t, p, q, d⟩ := w
  exact ⟨s, e, i, t, p, q, d.ag f⟩
theorem enA.ag {h h' : xH} {x : Nat} {b : Bool} (w : enA h x b) (f : ∀ q, x ≤ q → q < x + 36 → h' q = h q) : enA h' x b := by
  obtain ⟨a, ⟨n, e⟩, r1, r2, r3, r4, r5⟩ := w
  exact ⟨(f _ (by omega) (by omega)).trans a, ⟨n, e.ag (fun q y z => f q (by omega) (by omega))⟩, reE.ag r1 (fun q y z => f q (by omega) (by omega)), reE.ag r2 (fun q y z => f q (by omega) (by omega)), reE.ag r3 (fun q y z => f q (by omega) (by omega)), reE.ag r4 (fun q y z => f q (by omega) (by omega)), reE.ag r5 (fun q y z => f q (by omega) (by omega))⟩
def clF (h : xH) (B ts : Nat) (en : Bool) (t : Nat → Nat) (L : List Nat) (lk : Nat) (em : Bool) : Prop := clO h B ts en lk ∧ enA h (B + 3) em ∧ seO h (B + 3) ∧ gaO h (B + 3) ∧ rd0 h (B + 3) ∧ wW h (B + 3) L ∧ L.length ≤ 64 ∧ tpC h B t ∧ (∀ i, t i < 256) ∧ ts ≤ 400 ∧ (en = true → 20 ≤ ts)
def clL (h : xH) (B sz n : Nat) (cs : Nat → vC) (mc : Int32) (E : Nat) (ad : Nat → Nat) : Prop := alO h (B + 1) mc E n ∧ alE h E n ad ∧ E < sz ∧ (E < B ∨ B + 89 ≤ E) ∧ ∀ i, i < n → (B + 89 ≤ ad i ∧ ad i < sz) ∧ cOk (cs i) ∧ ∃ R, vcR h (ad i) (cs i) R ∧ ceW h B sz (cs i) R
def clS (h : xH) (sz B n : Nat) (cs : Nat → vC) (ts : Nat) (en : Bool) (t : Nat → Nat) (L : List Nat) : Prop := B + 44 ≤ sz ∧ ∃ lk em mc E ad, lk ≤ n ∧ clF h B ts en t L lk em ∧ clL h B sz n cs mc E ad
theorem rd0.fr {h h' : xH} {x : Nat} (w : rd0 h x) (f : h' (x + 38) = h (x + 38)) : rd0 h' x := by
  obtain ⟨T0, p, g, bh, fi, op, w⟩ := w
  exact ⟨T0, p, g, bh, fi, op, f.trans w⟩
theorem wW.fr {h h' : xH} {x : Nat} {L : List Nat} (w : wW h x L) (f : h' (x + 39) = h (x + 39)) (g : h' (x + 40) = h (x + 40)) : wW h' x L := by
  obtain ⟨a, o, b, c⟩ := w
  exact ⟨f.trans a, o, ⟨g.trans b.1, b.2⟩, c⟩
theorem clF.fr {h h' : xH} {B ts : Nat} {en : Bool} {t : Nat → Nat} {L : List Nat} {lk : Nat} {em em' : Bool} (w : clF h B ts en t L lk em) (f : ∀ q, q = B ∨ q = B + 2 ∨ B + 39 ≤ q ∧ q < B + 44 → h' q = h q) (e : enA h' (B + 3) em') : clF h' B ts en t L lk em' := by
  obtain ⟨a1, a2, a3, a4, a5, a6, a7, a8, a9⟩ := w
  exact ⟨(f _ (by omega)).trans a1, e, (f _ (by omega)).trans a3, (f _ (by omega)).trans a4, a5.fr (f _ (by omega)), a6.fr (f _ (by omega)) (f _ (by omega)), a7, (f _ (by omega)).trans a8, a9⟩
theorem clF.al {h h' : xH} {B ts : Nat} {en : Bool} {t : Nat → Nat} {L : List Nat} {lk : Nat} {em : Bool} (w : clF h B ts en t L lk em) (f : ∀ q, B ≤ q → q < B + 44 → q ≠ B + 1 → h' q = h q) : clF h' B ts en t L lk em := w.fr (fun q a => f q (by omega) (by omega) (by omega)) (w.2.1.ag (fun q a b => f q (by omega) (by omega) (by omega)))
theorem clL.fr {h h' : xH} {B sz sz' n : Nat} {cs : Nat → vC} {mc : Int32} {E : Nat} {ad : Nat → Nat} (w : clL h B sz n cs mc E ad) (hs : sz ≤ sz') (hB : B + 44 ≤ sz) (f : ∀ q, q < sz → (q < B ∨ q = B + 1 ∨ B + 89 ≤ q) → h' q = h q) : clL h' B sz' n cs mc E ad := by
  obtain ⟨a1, a2, a3, a4, a5⟩ := w
  refine ⟨(f _ (by omega) (by omega)).trans a1, ?_, by omega, a4, fun i hi => ?_⟩
  · have e : h' E = h E := f E a3 (by omega)
    unfold alE at a2 ⊢
    rw [e]
    exact a2
  · obtain ⟨b1, b2, R, b3, b4⟩ := a5 i hi
    exact ⟨⟨b1.1, by omega⟩, b2, R, ⟨(f _ b1.2 (by omega)).trans b3.1, b3.2⟩, b4.fr hs (alE_k a2) (fun q x y _ => f q y (by omega))⟩
theorem clL.ce {h : xH} {B sz n : Nat} {cs : Nat → vC} {mc : Int32} {E : Nat} {ad : Nat → Nat} (w : clL h B sz n cs mc E ad) {i : Nat} (hi : i < n) : B + 89 ≤ ad i ∧ ad i < sz ∧ cOk (cs i) ∧ ∃ R, vcR h (ad i) (cs i) R ∧ ceW h B sz (cs i) R := by
  obtain ⟨a, b, c⟩ := w.2.2.2.2 i hi
  exact ⟨a.1, a.2, b, c⟩
theorem clL.ac {h : xH} {B sz n : Nat} {cs : Nat → vC} {mc : Int32} {E : Nat} {ad : Nat → Nat} (w : clL h B sz n cs mc E ad) : alC h n ad := fun i hi => by
  obtain ⟨-, -, -, R, v, -⟩ := w.ce hi
  exact ⟨_, v.1⟩
/-- what a method that makes a cell wants -/
def nwQ (Q : xQ) (h : xH) (sz B n : Nat) (cs : Nat → vC) (ts : Nat) (en : Bool) (t : Nat → Nat) (L : List Nat) (c : vC) : Prop := ∀ h' sz' T, sz ≤ sz' → sz' ≤ sz + 3 → (∀ q, B + 44 ≤ q → q < B + 89 → h' q = h q) → clS h' sz' B (n + 1) (cU cs n c) ts en t L → Q (some (.int (nI n))) (h', sz', T)
abbrev rcB (h : xH) (a : Nat) : Prop := ∃ b fs, some (Value.ref a) = some (.ref b) ∧ h b = some (.inr (10, fs))
section ST
variable {h : xH} {T : Nat × Nat × Nat} {K : xQ} {B sz n ts lk : Nat} {cs : Nat → vC} {mc : Int32} {E : Nat} {ad : Nat → Nat} {en em : Bool} {t : Nat → Nat} {L : List Nat} {c : Int32}
theorem kl_there (w : clF h B ts en t L lk em) (wl : clL h B sz n cs mc E ad) (hn : n ≤ 512) (k : K (some (.int (bI (cB n c)))) (h, T)) : rcB h B ∧ C_X11_isThere [.ref B, .int c] (h, T) K := ⟨⟨_, _, rfl, w.1⟩, B, ts, lk, en, mc, c, E, n, rfl, w.1, wl.1, hn, k⟩
theorem kl_full (w : clF h B ts en t L lk em) (wl : clL h B sz n cs mc E ad) (hn : n ≤ 512) (k : K (some (.int 0)) (h, T)) : rcB h B ∧ C_X11_isFull [.ref B] (h, T) K := ⟨⟨_, _, rfl, w.1⟩, B, ts, lk, en, mc, E, n, rfl, w.1, wl.1, hn, k⟩
theorem kl_get {i : Nat} (wl : clL h B sz n cs mc E ad) (hn : n ≤ 512) (hi : i < n) (k : K (some (.ref (ad i))) (h, T)) : (∃ b fs, some (Value.ref (B + 1)) = some (.ref b) ∧ h b = some (.inr (0, fs))) ∧ C_Jx4a65c_get_915e3 [.ref (B + 1), .int (nI i)] (h, T) K := ⟨⟨_, _, rfl, wl.1⟩, B + 1, mc, E, n, i, ad, rfl, wl.1, wl.2.1, hi, hn, k⟩
theorem kl_cast {a : Nat} {cv : vC} {R : List Value} {k : xK} {lv : List (Nat × Value)} {r : List Value} (w : vcR h a cv R) : x_castC k lv (.ref a :: r) (h, T) = k lv (.ref a :: r) (h, T) := by
  unfold x_castC
  dsimp only
  rw [w.1]
  exact propext ⟨fun x => x.2, fun x => ⟨rfl, x⟩⟩
theorem kl_keep {v : Nat} {cv : vC} {R : List Value} (w : clF h B ts en t L lk em) (wl : clL h B sz n cs mc E ad) (hB : B + 44 ≤ sz) (hlk : lk ≤ n) (hv : B + 89 ≤ v ∧ v < sz) (vc : vcR h v cv R) (ce : ceW h B sz cv R) (ok : cOk cv) (hn : n ≤ 511) (q : ∀ h' sz' T, sz ≤ sz' → sz' ≤ sz + 1 → (∀ q, B + 44 ≤ q → q < B + 89 → h' q = h q) → clS h' sz' B (n + 1) (cU cs n cv) ts en t L → K (some (.int (nI n))) (h', sz', T)) : C_X11_keep [.ref B, .ref v] (h, sz, 1, 768) K := by
  obtain ⟨a1, a2, a3, a4, a5⟩ := wl
  refine ⟨B, ts, lk, v, en, mc, E, n, ad, rfl, w.1, a1, a2, clL.ac ⟨a1, a2, a3, a4, a5⟩, ⟨_, vc.1⟩, fun i hi => ?_, ?_, ?_, ?_, ?_, ?_, ?_, ?_, Nat.le_refl _, Nat.le_refl _, fun h' mc' E' sz' T f1 f2 f3 f4 => ?_⟩
  · have := (a5 i hi).1
    show ad i ≠ sz
    omega
  · show v ≠ sz
    omega
  · show n ≤ 512
    omega
  · show B + 1 ≠ sz
    omega
  · show B ≠ sz
    omega
  · show E ≠ sz
    omega
  · omega
  · omega
  · dsimp only at f1 f2
    have hs : sz ≤ sz' ∧ sz' ≤ sz + 1 := by omega
    have nE : ∀ a c R, vcR h a c R → a ≠ E := by
      intro a c R x y
      obtain ⟨k0, n0, g0, z⟩ := alE_k a2
      rw [y] at x
      exact absurd (x.1.symm.trans z) (by simp)
    refine q h' sz' T hs.1 hs.2 (fun q x y => f1 q (by omega) (by omega) (by omega)) ⟨by omega, lk, em, mc', E', va_up ad n v, by omega, w.al (fun q x y z => f1 q z (by omega) (by omega)), f3, f4, by omega, by omega, fun i hi => ?_⟩
    by_cases d : i = n
    · subst d
      have e1 : va_up ad i v i = v := by
        unfold va_up
        rw [if_pos rfl]
      have e2 : cU cs i cv i = cv := if_pos rfl
      rw [e1, e2]
      refine ⟨⟨hv.1, by omega⟩, ok, R, ⟨(f1 v (by omega) (nE _ _ _ vc) (by omega)).trans vc.1, vc.2⟩, ce.fr hs.1 (alE_k a2) (fun q x y z => f1 q (by omega) z (by omega))⟩
    · have e1 : va_up ad n v i = ad i := by
        unfold va_up
        rw [if_neg d]
      have e2 : cU cs n cv i = cs i := if_neg d
      rw [e1, e2]
      obtain ⟨b1, b2, R', b3, b4⟩ := a5 i (by omega)
      exact ⟨⟨b1.1, by omega⟩, b2, R', ⟨(f1 _ (by omega) (nE _ _ _ b3) (by omega)).trans b3.1, b3.2⟩, b4.fr hs.1 (alE_k a2) (fun q x y z => f1 q (by omega) z (by omega))⟩
end ST
