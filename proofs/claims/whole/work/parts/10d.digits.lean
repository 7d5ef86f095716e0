/-! rows of digits -/
def sd (B : Nat) (d : Nat → Nat) : Nat → Nat
  | 0 => 0
  | n + 1 => sd B d n + d n * B ^ n
theorem sd_lt {B : Nat} {d : Nat → Nat} {n : Nat} (h : ∀ i, i < n → d i < B) : sd B d n < B ^ n := by
  induction n with
  | zero => exact Nat.one_pos
  | succ n ih =>
    have h1 := h n (by omega)
    have h2 := ih (fun i hi => h i (by omega))
    have h3 : d n * B ^ n ≤ (B - 1) * B ^ n := Nat.mul_le_mul_right _ (by omega)
    have h4 : (B - 1) * B ^ n + B ^ n = B ^ (n + 1) := by
      rw [Nat.pow_succ, Nat.mul_comm (B ^ n) B]
      rw [Nat.sub_mul, Nat.one_mul]
      have : B ^ n ≤ B * B ^ n := Nat.le_mul_of_pos_left _ (by omega)
      omega
    rw [sd]
    omega
theorem sd_congr {B : Nat} {d e : Nat → Nat} {n : Nat} (h : ∀ i, i < n → d i = e i) : sd B d n = sd B e n := by
  induction n with
  | zero => rfl
  | succ n ih => rw [sd, sd, ih (fun i hi => h i (by omega)), h n (by omega)]
/-- digits that are 0 from n on add nothing -/
theorem sd_ext {B : Nat} {d : Nat → Nat} {n m : Nat} (hm : n ≤ m) (h : ∀ i, n ≤ i → i < m → d i = 0) : sd B d m = sd B d n := by
  induction m with
  | zero => rw [show n = 0 by omega]
  | succ m ih =>
    rcases Nat.lt_or_ge m n with q | q
    · rw [show n = m + 1 by omega]
    · rw [sd, h m q (by omega), ih q (fun i h1 h2 => h i h1 (by omega)), Nat.zero_mul, Nat.add_zero]
theorem sd_cmp {B : Nat} {d e : Nat → Nat} {n i : Nat} (hi : i < n) (hd : ∀ j, d j < B) (heq : ∀ j, i < j → j < n → d j = e j) (hlt : d i < e i) : sd B d n < sd B e n := by
  induction n with
  | zero => omega
  | succ n ih =>
    rw [sd, sd]
    rcases Nat.lt_or_ge i n with q | q
    · rw [heq n q (by omega)]
      have := ih q (fun j h1 h2 => heq j h1 (by omega))
      omega
    · obtain rfl : i = n := by omega
      have h1 : sd B d i < B ^ i := sd_lt (fun j _ => hd j)
      have h2 : (d i + 1) * B ^ i ≤ e i * B ^ i := Nat.mul_le_mul_right _ hlt
      rw [Nat.add_mul, Nat.one_mul] at h2
      omega
theorem sd_top {B : Nat} {d : Nat → Nat} {n : Nat} (hn : 0 < n) (h : d (n - 1) ≠ 0) : B ^ (n - 1) ≤ sd B d n := by
  obtain ⟨m, rfl⟩ : ∃ m, n = m + 1 := ⟨n - 1, by omega⟩
  rw [sd]
  have : 1 * B ^ m ≤ d m * B ^ m := Nat.mul_le_mul_right _ (by simp only [Nat.add_sub_cancel] at h; omega)
  simp only [Nat.add_sub_cancel]
  omega
theorem bv_sd (f : Nat → Int32) (n : Nat) : bv f n = sd (2 ^ 32) (fun i => wn (f i)) n := by
  induction n with
  | zero => rfl
  | succ n ih => rw [bv, sd, ih, ← Nat.pow_mul]
/-- a digit, 0 behind the last -/
def dg (f : Nat → Int32) (n j : Nat) : Nat := if j < n then wn (f j) else 0
theorem dg_lt (f : Nat → Int32) (n j : Nat) : dg f n j < 2 ^ 32 := by
  unfold dg
  split
  · exact wn_lt _
  · decide
theorem bv_dg {f : Nat → Int32} {n m : Nat} (h : n ≤ m) : bv f n = sd (2 ^ 32) (dg f n) m := by
  rw [sd_ext (d := dg f n) h (fun i h1 _ => if_neg (by omega)), bv_sd]
  exact sd_congr fun i hi => (if_pos hi).symm
theorem bv_top {f : Nat → Int32} {n : Nat} (hn : 0 < n) (h : f (n - 1) ≠ 0) : 2 ^ (32 * (n - 1)) ≤ bv f n := by
  rw [bv_sd, Nat.pow_mul]
  exact sd_top hn (fun q => h ((wn_0 _).mpr q))
/-- the number of words is told by the number -/
theorem bv_size {f : Nat → Int32} {n k : Nat} (hz : 0 < n → f (n - 1) ≠ 0) (h : bv f n < 2 ^ (32 * k)) : n ≤ k := by
  rcases Nat.lt_or_ge k n with q | q
  · have h1 := bv_top (by omega) (hz (by omega))
    have h2 : 2 ^ (32 * k) ≤ 2 ^ (32 * (n - 1)) := Nat.pow_le_pow_right (by decide) (by omega)
    omega
  · exact q
/-- and its highest word is not 0, if the number is so large -/
theorem bv_norm {f : Nat → Int32} {n : Nat} (h : 2 ^ (32 * (n - 1)) ≤ bv f n) : 0 < n → f (n - 1) ≠ 0 := by
  intro hn q
  obtain ⟨m, rfl⟩ : ∃ m, n = m + 1 := ⟨n - 1, by omega⟩
  simp only [Nat.add_sub_cancel] at h q
  rw [bv, q, show wn 0 = 0 by decide, Nat.zero_mul, Nat.add_zero] at h
  have := bv_lt f m
  omega
