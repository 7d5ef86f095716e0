/-! Reader: the uncertain form -/
def smL (a b : rL) : rL := if (a.2.2.1 || decide (b.1 = 0)) = true then a else if (b.2.2.1 || decide (a.1 = 0)) = true then b else (if smT a.1 b.1 (smP a.2.1 (min a.2.1 b.2.1) a.2.2.2.1) (smP b.2.1 (min a.2.1 b.2.1) b.2.2.2.1) = 0 then 0 else if smP a.2.1 (min a.2.1 b.2.1) a.2.2.2.1 < smP b.2.1 (min a.2.1 b.2.1) b.2.2.2.1 then b.1 else a.1, min a.2.1 b.2.1, false, smT a.1 b.1 (smP a.2.1 (min a.2.1 b.2.1) a.2.2.2.1) (smP b.2.1 (min a.2.1 b.2.1) b.2.2.2.1), 1)
def tnL (n : Int) (a : rL) : rL := if (a.2.2.1 || decide (a.1 = 0)) = true then a else (a.1, a.2.1 + n, a.2.2.1, a.2.2.2.1 * 5 ^ n.toNat, a.2.2.2.2 * 5 ^ (-n).toNat)
/-- small: what may be added and scaled -/
def sz1 (a : rL) (r : Nat) : Prop := a.2.2.2.1 < 2 ^ r ∧ a.2.2.2.2 = 1 ∧ (a.2.2.1 = false → -1 ≤ a.2.1 ∧ a.2.1 ≤ 0)
theorem smP_b {e m : Int} {p r : Nat} (hp : p < 2 ^ r) (h : e - m ≤ 1) : smP e m p < 2 ^ (r + 1) := by
  unfold smP
  have a : 2 ^ (e - m).toNat ≤ 2 ^ 1 := Nat.pow_le_pow_right (by decide) (by omega)
  have b : p * 2 ^ (e - m).toNat ≤ p * 2 ^ 1 := Nat.mul_le_mul_left _ a
  rw [Nat.pow_succ]
  omega
theorem smT_b {s s2 : Int} {P R r : Nat} (hP : P < 2 ^ r) (hR : R < 2 ^ r) : smT s s2 P R < 2 ^ (r + 1) := by
  unfold smT
  rw [Nat.pow_succ]
  split
  · omega
  · split <;> omega
theorem smL_z {a b : rL} {r : Nat} (ha : sz1 a r) (hb : sz1 b r) : sz1 (smL a b) (r + 2) := by
  have up : ∀ {c : rL}, sz1 c r → sz1 c (r + 2) := fun {c} y => ⟨Nat.lt_of_lt_of_le y.1 (Nat.pow_le_pow_right (by decide) (by omega)), y.2⟩
  unfold smL
  split
  · exact up ha
  · rename_i c1
    split
    · exact up hb
    · rename_i c2
      have ia : a.2.2.1 = false := by
        cases y : a.2.2.1
        · rfl
        · rw [y] at c1
          exact absurd rfl c1
      have ib : b.2.2.1 = false := by
        cases y : b.2.2.1
        · rfl
        · rw [y] at c2
          exact absurd rfl c2
      have ea := ha.2.2 ia
      have eb := hb.2.2 ib
      exact ⟨smT_b (smP_b ha.1 (by omega)) (smP_b hb.1 (by omega)), rfl, fun _ => by constructor <;> (show _ ≤ _; simp only []; omega)⟩
theorem five_b2 {v m : Nat} (hv : v < 2 ^ 1700) (hm : m ≤ 1400) : v * 5 ^ m < 2 ^ 6400 := by
  have a : 5 ^ m ≤ 8 ^ m := Nat.pow_le_pow_left (by decide) m
  have b : 8 ^ m ≤ 8 ^ 1400 := Nat.pow_le_pow_right (by decide) hm
  have c : (8 : Nat) ^ 1400 = 2 ^ 4200 := by rw [show (8 : Nat) = 2 ^ 3 from rfl, ← Nat.pow_mul]
  have d : v * 5 ^ m ≤ 2 ^ 1700 * 2 ^ 4200 := Nat.mul_le_mul (Nat.le_of_lt hv) (by omega)
  rw [← Nat.pow_add] at d
  exact Nat.lt_of_le_of_lt d (Nat.pow_lt_pow_right (a := 2) (by decide) (Nat.lt_of_sub_pos (by decide : 0 < 6400 - (1700 + 4200))))
section KL
variable {h : xH} {T : Nat × Nat × Nat} {K : xQ} {o pa pb : Nat} {a b : rL}
theorem kl_sum (w : reE h o) (ra : reL h pa a) (rb : reL h pb b) (d1 : o + 5 ≤ pa ∨ pa + 5 ≤ o) (d2 : o + 5 ≤ pb ∨ pb + 5 ≤ o) (za : sz1 a 1600) (zb : sz1 b 1600) (c : ∀ h2, xoff h2 h o (o + 5) → reL h2 o (smL a b) → K none (h2, T)) : rcr h o ∧ C_X8_becomeSum [.ref o, .ref pa, .ref pb] (h, T) K := by
  obtain ⟨s, e, i, p, q⟩ := a
  obtain ⟨s2, e2, i2, p2, q2⟩ := b
  unfold smL at c
  dsimp only at *
  refine ⟨w.rc, o, pa, pb, s, e, s2, e2, i, i2, p, q, p2, q2, rfl, d1, d2, w, ra, rb, fun y h2 o2 r2 => ?_, fun y z h2 o2 r2 => ?_, fun y z => ?_⟩
  · rw [if_pos y] at c
    exact c h2 o2 r2
  · rw [if_neg (by rw [y]; decide), if_pos z] at c
    exact c h2 o2 r2
  · rw [if_neg (by rw [y]; decide), if_neg (by rw [z]; decide)] at c
    have ia : i = false := (Bool.or_eq_false_iff.mp y).1
    have ib : i2 = false := (Bool.or_eq_false_iff.mp z).1
    have ea := za.2.2 ia
    have eb := zb.2.2 ib
    dsimp only at ea eb
    have l : (2 : Nat) ^ (1600 + 1) < 2 ^ 6300 := Nat.pow_lt_pow_right (a := 2) (by decide) (Nat.lt_of_sub_pos (by decide : 0 < 6300 - (1600 + 1)))
    exact ⟨Nat.lt_trans (smP_b za.1 (by omega)) l, Nat.lt_trans (smP_b zb.1 (by omega)) l, fun h2 o2 r2 => c h2 o2 r2⟩
theorem kl_ten {n : Int} (ra : reL h o a) (za : sz1 a 1602) (h1 : -1400 ≤ n) (h2 : n ≤ 1000) (c : ∀ h2, xoff h2 h o (o + 5) → reL h2 o (tnL n a) → K none (h2, T)) : rcr h o ∧ C_X8_timesTen [.ref o, .int (iZ n)] (h, T) K := by
  obtain ⟨s, e, i, p, q⟩ := a
  unfold tnL at c
  dsimp only at *
  refine ⟨ra.rc, o, s, e, n, i, false, p, q, rfl, ra, by omega, fun y => ?_, fun y => ?_⟩
  · rw [if_pos y] at c
    exact c h xoff_rf ra
  · rw [if_neg (by rw [y]; decide)] at c
    have ea := za.2.2 (Bool.or_eq_false_iff.mp y).1
    have zq := za.2.1
    dsimp only at ea zq
    have l : (2 : Nat) ^ 1602 ≤ 2 ^ 1700 := Nat.pow_le_pow_right (n := 2) (by decide) (Nat.le_of_lt (Nat.lt_of_sub_pos (by decide : 0 < 1700 - 1602)))
    have l1 : 1 < 2 ^ 1700 := Nat.lt_of_lt_of_le (by decide : 1 < 2 ^ 1) (Nat.pow_le_pow_right (n := 2) (i := 1) (j := 1700) (by decide) (by decide))
    refine ⟨by omega, five_b2 (Nat.lt_of_lt_of_le za.1 l) (by omega), ?_, fun h2 o2 r2 => c h2 o2 r2⟩
    rw [zq]
    exact five_b2 l1 (by omega)
end KL
