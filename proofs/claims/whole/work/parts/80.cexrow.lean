/-! the class: Exact (X3): an object at x, left at x + 1, right at x + 3, probe at x + 5 -/
def exC (x : Nat) (n : Bool) : xE := .inr (4, [.ref (x + 1), .ref (x + 3), .ref (x + 5), .int (bI n)])
abbrev exO (h : xH) (x : Nat) (n : Bool) : Prop := h x = some (exC x n)
section EW
variable {h : xH} {x q : Nat} {n : Bool} {k : xK} {lv : List (Nat × Value)} {T : Nat × Nat × Nat} {r : List Value} {c : xE}
theorem exO.g0 (w : exO h x n) : x_get 4 0 k lv (.ref x :: r) (h, T) = k lv (.ref (x + 1) :: r) (h, T) := q_get w rfl
theorem exO.n0 (w : exO h x n) (d : x ≠ q) : x_get 4 0 k lv (.ref x :: r) (xup h q c, T) = k lv (.ref (x + 1) :: r) (xup h q c, T) := q_get ((xup_n d).trans w) rfl
theorem exU.g0 : x_get 4 0 k lv (.ref x :: r) (xup h x (exC x n), T) = k lv (.ref (x + 1) :: r) (xup h x (exC x n), T) := q_get xup_s rfl
theorem exO.g1 (w : exO h x n) : x_get 4 1 k lv (.ref x :: r) (h, T) = k lv (.ref (x + 3) :: r) (h, T) := q_get w rfl
theorem exO.n1 (w : exO h x n) (d : x ≠ q) : x_get 4 1 k lv (.ref x :: r) (xup h q c, T) = k lv (.ref (x + 3) :: r) (xup h q c, T) := q_get ((xup_n d).trans w) rfl
theorem exU.g1 : x_get 4 1 k lv (.ref x :: r) (xup h x (exC x n), T) = k lv (.ref (x + 3) :: r) (xup h x (exC x n), T) := q_get xup_s rfl
theorem exO.g2 (w : exO h x n) : x_get 4 2 k lv (.ref x :: r) (h, T) = k lv (.ref (x + 5) :: r) (h, T) := q_get w rfl
theorem exO.n2 (w : exO h x n) (d : x ≠ q) : x_get 4 2 k lv (.ref x :: r) (xup h q c, T) = k lv (.ref (x + 5) :: r) (xup h q c, T) := q_get ((xup_n d).trans w) rfl
theorem exU.g2 : x_get 4 2 k lv (.ref x :: r) (xup h x (exC x n), T) = k lv (.ref (x + 5) :: r) (xup h x (exC x n), T) := q_get xup_s rfl
theorem exO.g3 (w : exO h x n) : x_get 4 3 k lv (.ref x :: r) (h, T) = k lv (.int (bI n) :: r) (h, T) := q_get w rfl
theorem exO.n3 (w : exO h x n) (d : x ≠ q) : x_get 4 3 k lv (.ref x :: r) (xup h q c, T) = k lv (.int (bI n) :: r) (xup h q c, T) := q_get ((xup_n d).trans w) rfl
theorem exU.g3 : x_get 4 3 k lv (.ref x :: r) (xup h x (exC x n), T) = k lv (.int (bI n) :: r) (xup h x (exC x n), T) := q_get xup_s rfl
theorem exO.p3 {v : Bool} (w : exO h x n) : x_put 4 3 .boolean k lv (.int (bI v) :: .ref x :: r) (h, T) = k lv r (xup h x (exC x v), T) := by
  (simp only [x_put, show h x = some (exC x n) from w, exC, nr_i, ft_i, nr_z, ft_z, nr_z0, nr_z1, ft_z0, ft_z1, List.length_cons, List.length_nil, Nat.reduceAdd, Nat.reduceLT, true_and, and_true, List.set_cons_succ, List.set_cons_zero]) <;> rfl
theorem exU.p3 {v : Bool} : x_put 4 3 .boolean k lv (.int (bI v) :: .ref x :: r) (xup h x (exC x n), T) = k lv r (xup h x (exC x v), T) := by
  rw [show xup h x (exC x v) = xup (xup h x (exC x n)) x (exC x v) from xup_uu.symm]
  (simp only [x_put, xup_s, exC, nr_i, ft_i, nr_z, ft_z, nr_z0, nr_z1, ft_z0, ft_z1, List.length_cons, List.length_nil, Nat.reduceAdd, Nat.reduceLT, true_and, and_true, List.set_cons_succ, List.set_cons_zero]) <;> rfl
theorem exO.p3a (w : exO h x n) : x_put 4 3 .boolean k lv (.int 0 :: .ref x :: r) (h, T) = k lv r (xup h x (exC x false), T) := by
  (simp only [x_put, show h x = some (exC x n) from w, exC, nr_i, ft_i, nr_z, ft_z, nr_z0, nr_z1, ft_z0, ft_z1, List.length_cons, List.length_nil, Nat.reduceAdd, Nat.reduceLT, true_and, and_true, List.set_cons_succ, List.set_cons_zero]) <;> rfl
theorem exU.p3a : x_put 4 3 .boolean k lv (.int 0 :: .ref x :: r) (xup h x (exC x n), T) = k lv r (xup h x (exC x false), T) := by
  rw [show xup h x (exC x false) = xup (xup h x (exC x n)) x (exC x false) from xup_uu.symm]
  (simp only [x_put, xup_s, exC, nr_i, ft_i, nr_z, ft_z, nr_z0, nr_z1, ft_z0, ft_z1, List.length_cons, List.length_nil, Nat.reduceAdd, Nat.reduceLT, true_and, and_true, List.set_cons_succ, List.set_cons_zero]) <;> rfl
theorem exO.p3b (w : exO h x n) : x_put 4 3 .boolean k lv (.int 1 :: .ref x :: r) (h, T) = k lv r (xup h x (exC x true), T) := by
  (simp only [x_put, show h x = some (exC x n) from w, exC, nr_i, ft_i, nr_z, ft_z, nr_z0, nr_z1, ft_z0, ft_z1, List.length_cons, List.length_nil, Nat.reduceAdd, Nat.reduceLT, true_and, and_true, List.set_cons_succ, List.set_cons_zero]) <;> rfl
theorem exU.p3b : x_put 4 3 .boolean k lv (.int 1 :: .ref x :: r) (xup h x (exC x n), T) = k lv r (xup h x (exC x true), T) := by
  rw [show xup h x (exC x true) = xup (xup h x (exC x n)) x (exC x true) from xup_uu.symm]
  (simp only [x_put, xup_s, exC, nr_i, ft_i, nr_z, ft_z, nr_z0, nr_z1, ft_z0, ft_z1, List.length_cons, List.length_nil, Nat.reduceAdd, Nat.reduceLT, true_and, and_true, List.set_cons_succ, List.set_cons_zero]) <;> rfl
end EW
def exR (h : xH) (x : Nat) (n : Bool) : Prop := exO h x n ∧ (∃ u, bigV h (x + 1) u) ∧ (∃ v, bigV h (x + 3) v) ∧ reE h (x + 5)
theorem exR.off {h h' : xH} {x lo hi : Nat} {n : Bool} (w : exR h x n) (f : xoff h' h lo hi) (d : x + 10 ≤ lo ∨ hi ≤ x) : exR h' x n := by
  obtain ⟨a, ⟨u, b⟩, ⟨v, c⟩, e⟩ := w
  exact ⟨(f x (by omega)).trans a, ⟨u, b.off f (by omega)⟩, ⟨v, c.off f (by omega)⟩, e.off f (by omega)⟩
abbrev rce (h : xH) (a : Nat) : Prop := ∃ b fs, some (Value.ref a) = some (.ref b) ∧ h b = some (.inr (4, fs))
theorem exR.rc {h : xH} {x : Nat} {n : Bool} (w : exR h x n) : rce h x := ⟨_, _, rfl, w.1⟩
section KB2
variable {h : xH} {a b t u v : Nat} {T : Nat × Nat × Nat} {K : xQ}
theorem kb_unit (m : bigV h t u) (c : K (some (.int (if u = 1 then 1 else 0))) (h, T)) : rcb h t ∧ C_X0_isUnit [.ref t] (h, T) K := ⟨m.rc, t, u, rfl, m, c⟩
theorem kb_half (m : bigV h t u) (c : ∀ h2, xoff h2 h t (t + 2) → bigV h2 t (u / 2) → K none (h2, T)) : rcb h t ∧ C_X0_halve [.ref t] (h, T) K := ⟨m.rc, t, u, rfl, m, c⟩
theorem kb_from {p : Nat} (m : bigV h t u) (hp : p < 2 ^ 30) (c : K (some (.long (lN (u / 2 ^ p % 2 ^ 64)))) (h, T)) : rcb h t ∧ C_X0_from [.ref t, .int (nI p)] (h, T) K := ⟨m.rc, t, u, p, rfl, m, hp, c⟩
theorem kb_any {p : Nat} (m : bigV h t u) (hp : p < 2 ^ 30) (c : K (some (.int (if u % 2 ^ p = 0 then 0 else 1))) (h, T)) : rcb h t ∧ C_X0_anyBelow [.ref t, .int (nI p)] (h, T) K := ⟨m.rc, t, u, p, rfl, m, hp, c⟩
end KB2
