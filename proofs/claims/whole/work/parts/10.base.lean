/-! what a block is at known stacks and locals -/
theorem q_alen {k : xK} {lv : List (Nat × Value)} {r : List Value} {S : xS} {a t n : Nat} {f} (h : S.1 a = some (.inl (t, n, f))) : x_alen k lv (.ref a :: r) S = k lv (.int (Int32.ofNat n) :: r) S := by simp only [x_alen, h]
theorem q_get {k : xK} {lv : List (Nat × Value)} {r : List Value} {S : xS} {ci i a : Nat} {fs : List Value} {v : Value} (h : S.1 a = some (.inr (ci, fs))) (hv : fs[i]? = some v) : x_get ci i k lv (.ref a :: r) S = k lv (v :: r) S := by simp only [x_get, h, hv, true_and]
theorem q_put {k : xK} {lv : List (Nat × Value)} {r : List Value} {S : xS} {ci i a : Nat} {ty : FieldType} {fs : List Value} {v : Value} (h : S.1 a = some (.inr (ci, fs))) (hl : i < fs.length) (hn : narrow ty v = v) (hf : fits ty v = true) : x_put ci i ty k lv (v :: .ref a :: r) S = k lv r (xup S.1 a (.inr (ci, fs.set i v)), S.2) := by simp only [x_put, h, hl, hn, hf, true_and]
theorem q_iald {k : xK} {lv : List (Nat × Value)} {r : List Value} {S : xS} {a n : Nat} {f : Nat → Int32} {i : Int32} (h : S.1 a = some (.inl (0, n, .inl f))) (hi : vp_in i n) : x_iald k lv (.int i :: .ref a :: r) S = k lv (.int (f i.toNatClampNeg) :: r) S := by simp only [x_iald, h, hi, true_and]
theorem q_iast {k : xK} {lv : List (Nat × Value)} {r : List Value} {S : xS} {a n : Nat} {f : Nat → Int32} {i x : Int32} (h : S.1 a = some (.inl (0, n, .inl f))) (hi : vp_in i n) : x_iast k lv (.int x :: .int i :: .ref a :: r) S = k lv r (xup S.1 a (.inl (0, n, .inl (upd f i.toNatClampNeg x))), S.2) := by simp only [x_iast, h, hi, true_and]
theorem xup_s {h : xH} {a : Nat} {c : xE} : xup h a c a = some c := if_pos rfl
theorem xup_n {h : xH} {a q : Nat} {c : xE} (e : q ≠ a) : xup h a c q = h q := if_neg e
/-- two heaps are the same but for the addresses from lo up to hi -/
def xoff (h' h : xH) (lo hi : Nat) : Prop := ∀ q, q < lo ∨ hi ≤ q → h' q = h q
/-! natural numbers in words of 32 bits -/
def wn (x : Int32) : Nat := x.toBitVec.toNat
def bv (f : Nat → Int32) : Nat → Nat
  | 0 => 0
  | n + 1 => bv f n + wn (f n) * 2 ^ (32 * n)
theorem wn_lt (x : Int32) : wn x < 2 ^ 32 := x.toBitVec.isLt
theorem bv_lt (f : Nat → Int32) (n : Nat) : bv f n < 2 ^ (32 * n) := by
  induction n with
  | zero => exact Nat.one_pos
  | succ n ih =>
    have h1 := wn_lt (f n)
    have h2 : 2 ^ (32 * (n + 1)) = 2 ^ 32 * 2 ^ (32 * n) := by rw [← Nat.pow_add]; congr 1; omega
    rw [bv, h2]
    have h3 : wn (f n) * 2 ^ (32 * n) ≤ (2 ^ 32 - 1) * 2 ^ (32 * n) := Nat.mul_le_mul_right _ (by omega)
    have h4 : (2 ^ 32 - 1) * 2 ^ (32 * n) = 2 ^ 32 * 2 ^ (32 * n) - 2 ^ (32 * n) := by rw [Nat.sub_mul, Nat.one_mul]
    have h5 : 2 ^ (32 * n) ≤ 2 ^ 32 * 2 ^ (32 * n) := Nat.le_mul_of_pos_left _ (by decide)
    omega
theorem bv_congr {f g : Nat → Int32} {n : Nat} (h : ∀ i, i < n → f i = g i) : bv f n = bv g n := by
  induction n with
  | zero => rfl
  | succ n ih => rw [bv, bv, ih (fun i hi => h i (by omega)), h n (by omega)]
theorem bv_div (f : Nat → Int32) {n i : Nat} (h : i < n) : bv f n / 2 ^ (32 * i) % 2 ^ 32 = wn (f i) := by
  induction n with
  | zero => omega
  | succ n ih =>
    rw [bv]
    rcases Nat.lt_or_ge i n with q | q
    · have e : wn (f n) * 2 ^ (32 * n) = 2 ^ (32 * i) * (2 ^ 32 * (wn (f n) * 2 ^ (32 * (n - i - 1)))) := by
        have : 2 ^ (32 * n) = 2 ^ (32 * i) * (2 ^ 32 * 2 ^ (32 * (n - i - 1))) := by rw [← Nat.pow_add, ← Nat.pow_add]; congr 1; omega
        rw [this]; ac_rfl
      rw [e, Nat.add_mul_div_left _ _ (Nat.two_pow_pos _), Nat.add_mul_mod_self_left]
      exact ih q
    · obtain rfl : i = n := by omega
      rw [Nat.add_mul_div_right _ _ (Nat.two_pow_pos _), Nat.div_eq_of_lt (bv_lt f i), Nat.zero_add]
      exact Nat.mod_eq_of_lt (wn_lt _)
