/-! what a block is at known stacks and locals -/
theorem q_get {k : xK} {lv : List (Nat × Value)} {r : List Value} {S : xS} {ci i a : Nat} {fs : List Value} {v : Value} (h : S.1 a = some (.inr (ci, fs))) (hv : fs[i]? = some v) : x_get ci i k lv (.ref a :: r) S = k lv (v :: r) S := by simp only [x_get, h, hv, true_and]
theorem q_put {k : xK} {lv : List (Nat × Value)} {r : List Value} {S : xS} {ci i a : Nat} {ty : FieldType} {fs : List Value} {v : Value} (h : S.1 a = some (.inr (ci, fs))) (hl : i < fs.length) (hn : narrow ty v = v) (hf : fits ty v = true) : x_put ci i ty k lv (v :: .ref a :: r) S = k lv r (xup S.1 a (.inr (ci, fs.set i v)), S.2) := by simp only [x_put, h, hl, hn, hf, true_and]
theorem q_iald {k : xK} {lv : List (Nat × Value)} {r : List Value} {S : xS} {a n : Nat} {f : Nat → Int32} {i : Int32} (h : S.1 a = some (.inl (0, n, .inl f))) (hi : vp_in i n) : x_iald k lv (.int i :: .ref a :: r) S = k lv (.int (f i.toNatClampNeg) :: r) S := by simp only [x_iald, h, hi, true_and]
theorem q_iast {k : xK} {lv : List (Nat × Value)} {r : List Value} {S : xS} {a n : Nat} {f : Nat → Int32} {i x : Int32} (h : S.1 a = some (.inl (0, n, .inl f))) (hi : vp_in i n) : x_iast k lv (.int x :: .int i :: .ref a :: r) S = k lv r (xup S.1 a (.inl (0, n, .inl (upd f i.toNatClampNeg x))), S.2) := by simp only [x_iast, h, hi, true_and]
theorem xup_s {h : xH} {a : Nat} {c : xE} : xup h a c a = some c := if_pos rfl
theorem xup_n {h : xH} {a q : Nat} {c : xE} (e : q ≠ a) : xup h a c q = h q := if_neg e
/-- two heaps are the same but for the addresses from lo up to hi -/
def xoff (h' h : xH) (lo hi : Nat) : Prop := ∀ q, q < lo ∨ hi ≤ q → h' q = h q
/-! natural numbers in words of 32 bits -/
def wn (x : Int32) : Nat := x.toBitVec.toNat
def bv (f : Nat → Int32) : Nat → Nat
  | 0 => 0
  | n + 1 => bv f n + wn (f n) * 2 ^ (32 * n)
theorem wn_lt (x : Int32) : wn x < 2 ^ 32 := x.toBitVec.isLt
theorem bv_lt (f : Nat → Int32) (n : Nat) : bv f n < 2 ^ (32 * n) := by
  induction n with
  | zero => exact Nat.one_pos
  | succ n ih =>
    have h1 := wn_lt (f n)
    have h2 : 2 ^ (32 * (n + 1)) = 2 ^ 32 * 2 ^ (32 * n) := by rw [← Nat.pow_add]; congr 1; omega
    rw [bv, h2]
    have h3 : wn (f n) * 2 ^ (32 * n) ≤ (2 ^ 32 - 1) * 2 ^ (32 * n) := Nat.mul_le_mul_right _ (by omega)
    have h4 : (2 ^ 32 - 1) * 2 ^ (32 * n) = 2 ^ 32 * 2 ^ (32 * n) - 2 ^ (32 * n) := by rw [Nat.sub_mul, Nat.one_mul]
    have h5 : 2 ^ (32 * n) ≤ 2 ^ 32 * 2 ^ (32 * n) := Nat.le_mul_of_pos_left _ (by decide)
    omega
theorem bv_congr {f g : Nat → Int32} {n : Nat} (h : ∀ i, i < n → f i = g i) : bv f n = bv g n := by
  induction n with
  | zero => rfl
  | succ n ih => rw [bv, bv, ih (fun i hi => h i (by omega)), h n (by omega)]
theorem bv_div (f : Nat → Int32) {n i : Nat} (h : i < n) : bv f n / 2 ^ (32 * i) % 2 ^ 32 = wn (f i) := by
  induction n with
  | zero => omega
  | succ n ih =>
    rw [bv]
    rcases Nat.lt_or_ge i n with q | q
    · have e : wn (f n) * 2 ^ (32 * n) = 2 ^ (32 * i) * (2 ^ 32 * (wn (f n) * 2 ^ (32 * (n - i - 1)))) := by
        have : 2 ^ (32 * n) = 2 ^ (32 * i) * (2 ^ 32 * 2 ^ (32 * (n - i - 1))) := by rw [← Nat.pow_add, ← Nat.pow_add]; congr 1; omega
        rw [this]; ac_rfl
      rw [e, Nat.add_mul_div_left _ _ (Nat.two_pow_pos _), Nat.add_mul_mod_self_left]
      exact ih q
    · obtain rfl : i = n := by omega
      rw [Nat.add_mul_div_right _ _ (Nat.two_pow_pos _), Nat.div_eq_of_lt (bv_lt f i), Nat.zero_add]
      exact Nat.mod_eq_of_lt (wn_lt _)

theorem i_lt {x y : Int32} : x < y ↔ x.toInt < y.toInt := Int32.lt_iff_toInt_lt
theorem i_le {x y : Int32} : x ≤ y ↔ x.toInt ≤ y.toInt := Int32.le_iff_toInt_le
theorem l_lt {x y : Int64} : x < y ↔ x.toInt < y.toInt := Int64.lt_iff_toInt_lt
theorem l_le {x y : Int64} : x ≤ y ↔ x.toInt ≤ y.toInt := Int64.le_iff_toInt_le
theorem i_0 : (0 : Int32).toInt = 0 := by decide
theorem i_cl (x : Int32) : x.toNatClampNeg = x.toInt.toNat := rfl
theorem wn_nI (n : Nat) : wn (nI n) = n % 2 ^ 32 := by
  show (Int32.ofNat n).toBitVec.toNat = _
  simp [Int32.toBitVec_ofNat]
theorem wn_mask (x : Int32) : x.toInt64 &&& 4294967295 = lN (wn x) := by
  apply uN_inj
  rw [uN_lo]
  have e1 : uN (lN (wn x)) = wn x := by
    exact wb_tn (Nat.lt_trans (wn_lt x) (by decide))
  rw [e1]
  show (x.toBitVec.signExtend 64).toNat % 4294967296 = x.toBitVec.toNat
  rw [BitVec.toNat_signExtend, BitVec.toNat_setWidth]
  have h := x.toBitVec.isLt
  split <;> omega
theorem nI_wn (x : Int32) : nI (wn x) = x := by
  show Int32.ofNat x.toBitVec.toNat = x
  apply Int32.toBitVec_inj.mp
  show BitVec.ofNat 32 x.toBitVec.toNat = x.toBitVec
  simp
theorem wn_inj {x y : Int32} (h : wn x = wn y) : x = y := by rw [← nI_wn x, h, nI_wn]
theorem wn_0 (x : Int32) : x = 0 ↔ wn x = 0 := ⟨fun h => by rw [h]; decide, fun h => wn_inj (h.trans (by decide))⟩
theorem xup_a1 {h : xH} {a : Nat} {c : xE} : xup h (a + 1) c a = h a := if_neg (by omega)
theorem xup_1a {h : xH} {a : Nat} {c : xE} : xup h a c (a + 1) = h (a + 1) := if_neg (by omega)
/-- the values of the first list are those that the second one holds -/
def xsub : List (Nat × Value) → List (Nat × Value) → Prop
  | [], _ => True
  | q :: l, lv => xlk lv q.1 = some q.2 ∧ xsub l lv
theorem xsub_has {ls : Array Slot} {nL : Nat} {l lv : List (Nat × Value)} (h : xsub l lv) (hl : lv_has ls nL lv) : lv_has ls nL l := by
  refine ⟨hl.1, hl.2.1, ?_⟩
  induction l with
  | nil => intro q hq; cases hq
  | cons q l ih =>
    intro p hp
    rcases List.mem_cons.mp hp with rfl | hp
    · exact xlk_at hl h.1
    · exact ih h.2 p hp
/-- a loop whose state is told by the values v of its locals -/
theorem xW.loopC {G : xG} {l : Launch} {M : xMd} {X : Array Value → State → Prop} {P : xP} {pc : Nat} {σ : Type} (body : xK → xK) (cn : σ → List (Nat × Value)) (I : Nat → σ → xS → Prop) (hb : ∀ K, xW G l M X P pc K → xW G l M X P pc (body K))
    (h : ∀ n v S, I n v S → body (fun lv st S => st = [] ∧ ∃ k v', k < n ∧ xsub (cn v') lv ∧ I k v' S) (cn v) [] S) : xW G l M X P pc (fun lv st S => st = [] ∧ ∃ n v, xsub (cn v) lv ∧ I n v S) := by
  have key : ∀ n : Nat, xW G l M X P pc (fun lv st S => st = [] ∧ ∃ v, xsub (cn v) lv ∧ I n v S) := by
    intro n
    induction n using Nat.strongRecOn with
    | _ n ih =>
      have hB := hb (fun lv st S => st = [] ∧ ∃ k v', k < n ∧ xsub (cn v') lv ∧ I k v' S) (by
        intro p e s m args below meth c C lv st S H locs cells slots ls hK
        obtain ⟨h0, k, v', hk, hs, hI⟩ := hK
        exact ih k hk p e s m args below meth c C lv st S H locs cells slots ls ⟨h0, v', hs, hI⟩)
      intro p e s m args below meth c C lv st S H locs cells slots ls hK hl
      obtain ⟨rfl, v, hs, hI⟩ := hK
      exact hB p e s m args below meth c C (cn v) [] S H locs cells slots ls (h n v S hI) (xsub_has hs hl)
  intro p e s m args below meth c C lv st S H locs cells slots ls hK
  obtain ⟨h0, n, v, hs, hI⟩ := hK
  exact key n p e s m args below meth c C lv st S H locs cells slots ls ⟨h0, v, hs, hI⟩
theorem lN_l2i (n : Nat) : (lN n).toInt32 = nI n := lN_i n
theorem lN_ush32 {a : Nat} (h : a < 2 ^ 64) : ((lN a).toUInt64 >>> ((32 : Int32).toInt64.toUInt64 &&& Int64.toUInt64 63)).toInt64 = lN (a / 2 ^ 32) := wb_shr (k := 32) h (by decide)
theorem lN_uN (x : Int64) : lN (uN x) = x := by
  obtain ⟨n, hn, rfl⟩ := wb_of x
  show lN (lN n).toBitVec.toNat = _
  rw [wb_tn hn]
theorem uN_lN {n : Nat} (h : n < 2 ^ 64) : uN (lN n) = n := wb_tn h
theorem xup_uu {h : xH} {a : Nat} {c d : xE} : xup (xup h a c) a d = xup h a d := by
  funext q
  unfold xup
  split <;> rfl
theorem nr_i {x : Int32} : narrow .int (.int x) = .int x := rfl
theorem nr_l {x : Int64} : narrow .long (.long x) = .long x := rfl
theorem nr_o {n : String} {a : Nat} : narrow (.object n) (.ref a) = .ref a := rfl
theorem nr_a {t : FieldType} {a : Nat} : narrow (.array t) (.ref a) = .ref a := rfl
theorem ft_i {x : Int32} : fits .int (.int x) = true := rfl
theorem ft_l {x : Int64} : fits .long (.long x) = true := rfl
theorem ft_o {n : String} {a : Nat} : fits (.object n) (.ref a) = true := rfl
theorem ft_a {t : FieldType} {a : Nat} : fits (.array t) (.ref a) = true := rfl
theorem i_cl0 : Int32.toNatClampNeg 0 = 0 := by decide
theorem i_cl1 : Int32.toNatClampNeg 1 = 1 := by decide
theorem i_n1 (n : Nat) : nI n + Int32.ofInt 1 = nI (n + 1) := nI_1 n
theorem bv_upd_hi {f : Nat → Int32} {n k : Nat} {x : Int32} (h : n ≤ k) : bv (upd f k x) n = bv f n := bv_congr fun i hi => pk_un (by omega)
theorem bv_2 (f : Nat → Int32) : bv f 2 = wn (f 0) + wn (f 1) * 2 ^ 32 := by simp [bv]
theorem bv_1 (f : Nat → Int32) : bv f 1 = wn (f 0) := by simp [bv]
theorem xoff_rf {h : xH} {lo hi : Nat} : xoff h h lo hi := fun _ _ => rfl
theorem xoff_tr {h h' h'' : xH} {lo hi : Nat} (a : xoff h'' h' lo hi) (b : xoff h' h lo hi) : xoff h'' h lo hi := fun q hq => (a q hq).trans (b q hq)
theorem xoff_up {h h' : xH} {lo hi a : Nat} {c : xE} (b : xoff h' h lo hi) (h1 : lo ≤ a) (h2 : a < hi) : xoff (xup h' a c) h lo hi := fun q hq => (xup_n (by omega)).trans (b q hq)
theorem xoff_wd {h h' : xH} {lo hi lo' hi' : Nat} (a : xoff h' h lo hi) (h1 : lo' ≤ lo) (h2 : hi ≤ hi') : xoff h' h lo' hi' := fun q hq => a q (by omega)
/-- a loop's states: the values of its locals, an invariant with a measure -/
def xInv {σ : Type} (cn : σ → List (Nat × Value)) (I : Nat → σ → xS → Prop) : xK := fun lv st S => st = [] ∧ ∃ n v, xsub (cn v) lv ∧ I n v S
def xInvL {σ : Type} (cn : σ → List (Nat × Value)) (I : Nat → σ → xS → Prop) (n : Nat) : xK := fun lv st S => st = [] ∧ ∃ k v', k < n ∧ xsub (cn v') lv ∧ I k v' S
theorem xW.lp {G : xG} {l : Launch} {M : xMd} {X : Array Value → State → Prop} {P : xP} {pc : Nat} {σ : Type} {cn : σ → List (Nat × Value)} {I : Nat → σ → xS → Prop} (body : xK → xK) (hb : ∀ K, xW G l M X P pc K → xW G l M X P pc (body K))
    (h : ∀ n v S, I n v S → body (xInvL cn I n) (cn v) [] S) : xW G l M X P pc (xInv cn I) := xW.loopC body cn I hb h
theorem xInvL.mk {σ : Type} {cn : σ → List (Nat × Value)} {I : Nat → σ → xS → Prop} {n : Nat} {lv : List (Nat × Value)} {S : xS} (k : Nat) (v : σ) (hk : k < n) (hs : xsub (cn v) lv) (hI : I k v S) : xInvL cn I n lv [] S := ⟨rfl, k, v, hk, hs, hI⟩
theorem xInv.mk {σ : Type} {cn : σ → List (Nat × Value)} {I : Nat → σ → xS → Prop} {lv : List (Nat × Value)} {S : xS} (k : Nat) (v : σ) (hs : xsub (cn v) lv) (hI : I k v S) : xInv cn I lv [] S := ⟨rfl, k, v, hs, hI⟩
theorem vi_0 : vp_in 0 200 := by unfold vp_in; decide
theorem vi_1 : vp_in 1 200 := by unfold vp_in; decide
theorem i_m1 (x : Int32) : x + Int32.ofInt (-1) = x - 1 := by rw [Int32.sub_eq_add_neg]; rfl
