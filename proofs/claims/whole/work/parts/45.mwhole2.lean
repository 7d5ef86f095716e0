/-! the instructions as rows that are not by rfl: so that the kernel compares what stands there and runs nothing -/
theorem q_c {v : Value} {k : xK} {lv : List (Nat × Value)} {st : List Value} {S : xS} : x_c v k lv st S = (k lv (v :: st) S) := id rfl
theorem q_iload {i : Nat} {k : xK} {lv : List (Nat × Value)} {st : List Value} {S : xS} {x : Int32} (h : xlk lv i = some (.int x)) : x_iload i k lv st S = (k lv (.int x :: st) S) := by
  unfold x_iload
  rw [h]
theorem q_lload {i : Nat} {k : xK} {lv : List (Nat × Value)} {st : List Value} {S : xS} {x : Int64} (h : xlk lv i = some (.long x)) : x_lload i k lv st S = (k lv (.long x :: st) S) := by
  unfold x_lload
  rw [h]
theorem q_aload {i : Nat} {k : xK} {lv : List (Nat × Value)} {st : List Value} {S : xS} {x : Nat} (h : xlk lv i = some (.ref x)) : x_aload i k lv st S = (k lv (.ref x :: st) S) := by
  unfold x_aload
  rw [h]
theorem q_aload2 {i : Nat} {k : xK} {lv : List (Nat × Value)} {st : List Value} {S : xS} (h : xlk lv i = some .null) : x_aload i k lv st S = (k lv (.null :: st) S) := by
  unfold x_aload
  rw [h]
theorem q_istore {i : Nat} {k : xK} {lv : List (Nat × Value)} {S : xS} {x : Int32} {r : List Value} : x_istore i k lv (.int x :: r) S = (k (xs1 lv i (.int x)) r S) := id rfl
theorem q_lstore {i : Nat} {k : xK} {lv : List (Nat × Value)} {S : xS} {x : Int64} {r : List Value} : x_lstore i k lv (.long x :: r) S = (k (xs2 lv i (.long x)) r S) := id rfl
theorem q_astore {i : Nat} {k : xK} {lv : List (Nat × Value)} {S : xS} {x : Nat} {r : List Value} : x_astore i k lv (.ref x :: r) S = (k (xs1 lv i (.ref x)) r S) := id rfl
theorem q_astore2 {i : Nat} {k : xK} {lv : List (Nat × Value)} {S : xS}  {r : List Value} : x_astore i k lv (.null :: r) S = (k (xs1 lv i .null) r S) := id rfl
theorem q_iinc {i : Nat} {n : Int} {k : xK} {lv : List (Nat × Value)} {st : List Value} {S : xS} {x : Int32} (h : xlk lv i = some (.int x)) : x_iinc i n k lv st S = (k (xs1 lv i (.int (x + Int32.ofInt n))) st S) := by
  unfold x_iinc
  rw [h]
theorem q_iadd {k : xK} {lv : List (Nat × Value)} {S : xS} {y : Int32} {x : Int32} {r : List Value} : x_iadd k lv (.int y :: .int x :: r) S = (k lv (.int (x + y) :: r) S) := id rfl
theorem q_isub {k : xK} {lv : List (Nat × Value)} {S : xS} {y : Int32} {x : Int32} {r : List Value} : x_isub k lv (.int y :: .int x :: r) S = (k lv (.int (x - y) :: r) S) := id rfl
theorem q_imul {k : xK} {lv : List (Nat × Value)} {S : xS} {y : Int32} {x : Int32} {r : List Value} : x_imul k lv (.int y :: .int x :: r) S = (k lv (.int (x * y) :: r) S) := id rfl
theorem q_iand {k : xK} {lv : List (Nat × Value)} {S : xS} {y : Int32} {x : Int32} {r : List Value} : x_iand k lv (.int y :: .int x :: r) S = (k lv (.int (x &&& y) :: r) S) := id rfl
theorem q_ior {k : xK} {lv : List (Nat × Value)} {S : xS} {y : Int32} {x : Int32} {r : List Value} : x_ior k lv (.int y :: .int x :: r) S = (k lv (.int (x ||| y) :: r) S) := id rfl
theorem q_ixor {k : xK} {lv : List (Nat × Value)} {S : xS} {y : Int32} {x : Int32} {r : List Value} : x_ixor k lv (.int y :: .int x :: r) S = (k lv (.int (x ^^^ y) :: r) S) := id rfl
theorem q_ladd {k : xK} {lv : List (Nat × Value)} {S : xS} {y : Int64} {x : Int64} {r : List Value} : x_ladd k lv (.long y :: .long x :: r) S = (k lv (.long (x + y) :: r) S) := id rfl
theorem q_lsub {k : xK} {lv : List (Nat × Value)} {S : xS} {y : Int64} {x : Int64} {r : List Value} : x_lsub k lv (.long y :: .long x :: r) S = (k lv (.long (x - y) :: r) S) := id rfl
theorem q_lmul {k : xK} {lv : List (Nat × Value)} {S : xS} {y : Int64} {x : Int64} {r : List Value} : x_lmul k lv (.long y :: .long x :: r) S = (k lv (.long (x * y) :: r) S) := id rfl
theorem q_land {k : xK} {lv : List (Nat × Value)} {S : xS} {y : Int64} {x : Int64} {r : List Value} : x_land k lv (.long y :: .long x :: r) S = (k lv (.long (x &&& y) :: r) S) := id rfl
theorem q_lor {k : xK} {lv : List (Nat × Value)} {S : xS} {y : Int64} {x : Int64} {r : List Value} : x_lor k lv (.long y :: .long x :: r) S = (k lv (.long (x ||| y) :: r) S) := id rfl
theorem q_lxor {k : xK} {lv : List (Nat × Value)} {S : xS} {y : Int64} {x : Int64} {r : List Value} : x_lxor k lv (.long y :: .long x :: r) S = (k lv (.long (x ^^^ y) :: r) S) := id rfl
theorem q_idiv {k : xK} {lv : List (Nat × Value)} {S : xS} {y : Int32} {x : Int32} {r : List Value} : x_idiv k lv (.int y :: .int x :: r) S = (¬ y = 0 ∧ k lv (.int (x / y) :: r) S) := id rfl
theorem q_irem {k : xK} {lv : List (Nat × Value)} {S : xS} {y : Int32} {x : Int32} {r : List Value} : x_irem k lv (.int y :: .int x :: r) S = (¬ y = 0 ∧ k lv (.int (x - x / y * y) :: r) S) := id rfl
theorem q_ldiv {k : xK} {lv : List (Nat × Value)} {S : xS} {y : Int64} {x : Int64} {r : List Value} : x_ldiv k lv (.long y :: .long x :: r) S = (¬ y = 0 ∧ k lv (.long (x / y) :: r) S) := id rfl
theorem q_lrem {k : xK} {lv : List (Nat × Value)} {S : xS} {y : Int64} {x : Int64} {r : List Value} : x_lrem k lv (.long y :: .long x :: r) S = (¬ y = 0 ∧ k lv (.long (x - x / y * y) :: r) S) := id rfl
theorem q_ineg {k : xK} {lv : List (Nat × Value)} {S : xS} {x : Int32} {r : List Value} : x_ineg k lv (.int x :: r) S = (k lv (.int (-x) :: r) S) := id rfl
theorem q_lneg {k : xK} {lv : List (Nat × Value)} {S : xS} {x : Int64} {r : List Value} : x_lneg k lv (.long x :: r) S = (k lv (.long (-x) :: r) S) := id rfl
theorem q_ishl {k : xK} {lv : List (Nat × Value)} {S : xS} {y : Int32} {x : Int32} {r : List Value} : x_ishl k lv (.int y :: .int x :: r) S = (k lv (.int (x <<< (y &&& 31)) :: r) S) := id rfl
theorem q_ishr {k : xK} {lv : List (Nat × Value)} {S : xS} {y : Int32} {x : Int32} {r : List Value} : x_ishr k lv (.int y :: .int x :: r) S = (k lv (.int (x >>> (y &&& 31)) :: r) S) := id rfl
theorem q_iushr {k : xK} {lv : List (Nat × Value)} {S : xS} {y : Int32} {x : Int32} {r : List Value} : x_iushr k lv (.int y :: .int x :: r) S = (k lv (.int ((x.toUInt32 >>> (y.toUInt32 &&& Int32.toUInt32 31)).toInt32) :: r) S) := id rfl
theorem q_lshl {k : xK} {lv : List (Nat × Value)} {S : xS} {y : Int32} {x : Int64} {r : List Value} : x_lshl k lv (.int y :: .long x :: r) S = (k lv (.long (x <<< (y.toInt64 &&& 63)) :: r) S) := id rfl
theorem q_lshr {k : xK} {lv : List (Nat × Value)} {S : xS} {y : Int32} {x : Int64} {r : List Value} : x_lshr k lv (.int y :: .long x :: r) S = (k lv (.long (x >>> (y.toInt64 &&& 63)) :: r) S) := id rfl
theorem q_lushr {k : xK} {lv : List (Nat × Value)} {S : xS} {y : Int32} {x : Int64} {r : List Value} : x_lushr k lv (.int y :: .long x :: r) S = (k lv (.long ((x.toUInt64 >>> (y.toInt64.toUInt64 &&& Int64.toUInt64 63)).toInt64) :: r) S) := id rfl
theorem q_i2l {k : xK} {lv : List (Nat × Value)} {S : xS} {x : Int32} {r : List Value} : x_i2l k lv (.int x :: r) S = (k lv (.long x.toInt64 :: r) S) := id rfl
theorem q_l2i {k : xK} {lv : List (Nat × Value)} {S : xS} {x : Int64} {r : List Value} : x_l2i k lv (.long x :: r) S = (k lv (.int x.toInt32 :: r) S) := id rfl
theorem q_i2b {k : xK} {lv : List (Nat × Value)} {S : xS} {x : Int32} {r : List Value} : x_i2b k lv (.int x :: r) S = (k lv (.int x.toInt8.toInt32 :: r) S) := id rfl
theorem q_i2c {k : xK} {lv : List (Nat × Value)} {S : xS} {x : Int32} {r : List Value} : x_i2c k lv (.int x :: r) S = (k lv (.int (x.toUInt32 % 65536).toInt32 :: r) S) := id rfl
theorem q_lcmp {k : xK} {lv : List (Nat × Value)} {S : xS} {y : Int64} {x : Int64} {r : List Value} : x_lcmp k lv (.long y :: .long x :: r) S = (k lv (.int (lg_cmp x y) :: r) S) := id rfl
theorem q_if_eq {kt kf : xK} {lv : List (Nat × Value)} {S : xS} {x : Int32} {r : List Value} : x_if_eq kt kf lv (.int x :: r) S = ((x = 0 → kt lv r S) ∧ (¬ x = 0 → kf lv r S)) := id rfl
theorem q_if_ne {kt kf : xK} {lv : List (Nat × Value)} {S : xS} {x : Int32} {r : List Value} : x_if_ne kt kf lv (.int x :: r) S = ((¬ x = 0 → kt lv r S) ∧ (x = 0 → kf lv r S)) := id rfl
theorem q_if_lt {kt kf : xK} {lv : List (Nat × Value)} {S : xS} {x : Int32} {r : List Value} : x_if_lt kt kf lv (.int x :: r) S = ((x < 0 → kt lv r S) ∧ (¬ x < 0 → kf lv r S)) := id rfl
theorem q_if_ge {kt kf : xK} {lv : List (Nat × Value)} {S : xS} {x : Int32} {r : List Value} : x_if_ge kt kf lv (.int x :: r) S = ((0 ≤ x → kt lv r S) ∧ (¬ 0 ≤ x → kf lv r S)) := id rfl
theorem q_if_gt {kt kf : xK} {lv : List (Nat × Value)} {S : xS} {x : Int32} {r : List Value} : x_if_gt kt kf lv (.int x :: r) S = ((0 < x → kt lv r S) ∧ (¬ 0 < x → kf lv r S)) := id rfl
theorem q_if_le {kt kf : xK} {lv : List (Nat × Value)} {S : xS} {x : Int32} {r : List Value} : x_if_le kt kf lv (.int x :: r) S = ((x ≤ 0 → kt lv r S) ∧ (¬ x ≤ 0 → kf lv r S)) := id rfl
theorem q_icmp_eq {kt kf : xK} {lv : List (Nat × Value)} {S : xS} {y : Int32} {x : Int32} {r : List Value} : x_icmp_eq kt kf lv (.int y :: .int x :: r) S = ((x = y → kt lv r S) ∧ (¬ x = y → kf lv r S)) := id rfl
theorem q_icmp_ne {kt kf : xK} {lv : List (Nat × Value)} {S : xS} {y : Int32} {x : Int32} {r : List Value} : x_icmp_ne kt kf lv (.int y :: .int x :: r) S = ((¬ x = y → kt lv r S) ∧ (x = y → kf lv r S)) := id rfl
theorem q_icmp_lt {kt kf : xK} {lv : List (Nat × Value)} {S : xS} {y : Int32} {x : Int32} {r : List Value} : x_icmp_lt kt kf lv (.int y :: .int x :: r) S = ((x < y → kt lv r S) ∧ (¬ x < y → kf lv r S)) := id rfl
theorem q_icmp_ge {kt kf : xK} {lv : List (Nat × Value)} {S : xS} {y : Int32} {x : Int32} {r : List Value} : x_icmp_ge kt kf lv (.int y :: .int x :: r) S = ((y ≤ x → kt lv r S) ∧ (¬ y ≤ x → kf lv r S)) := id rfl
theorem q_icmp_gt {kt kf : xK} {lv : List (Nat × Value)} {S : xS} {y : Int32} {x : Int32} {r : List Value} : x_icmp_gt kt kf lv (.int y :: .int x :: r) S = ((y < x → kt lv r S) ∧ (¬ y < x → kf lv r S)) := id rfl
theorem q_icmp_le {kt kf : xK} {lv : List (Nat × Value)} {S : xS} {y : Int32} {x : Int32} {r : List Value} : x_icmp_le kt kf lv (.int y :: .int x :: r) S = ((x ≤ y → kt lv r S) ∧ (¬ x ≤ y → kf lv r S)) := id rfl
theorem q_dup {k : xK} {lv : List (Nat × Value)} {S : xS}  {v : Value} {r : List Value} : x_dup k lv (v :: r) S = (v.category = 1 ∧ k lv (v :: v :: r) S) := id rfl
theorem q_pop {k : xK} {lv : List (Nat × Value)} {S : xS}  {v : Value} {r : List Value} : x_pop k lv (v :: r) S = (v.category = 1 ∧ k lv r S) := id rfl
theorem q_dup_x1 {k : xK} {lv : List (Nat × Value)} {S : xS}  {v : Value} {w : Value} {r : List Value} : x_dup_x1 k lv (v :: w :: r) S = (v.category = 1 ∧ w.category = 1 ∧ k lv (v :: w :: v :: r) S) := id rfl
theorem q_dup2 {k : xK} {lv : List (Nat × Value)} {S : xS}  {v : Value} {w : Value} {r : List Value} : x_dup2 k lv (v :: w :: r) S = (v.category = 1 ∧ w.category = 1 ∧ k lv (v :: w :: v :: w :: r) S) := id rfl
theorem q_xs1 {lv : List (Nat × Value)} {i : Nat} {v : Value} : xs1 lv i v = (i, v) :: lv.filter (fun q => !(q.1 == i) && !(q.1 + 1 == i && q.2.category == 2)) := id rfl
theorem q_xs2 {lv : List (Nat × Value)} {i : Nat} {v : Value} : xs2 lv i v = (i, v) :: lv.filter (fun q => !(q.1 == i) && (!(q.1 == i + 1) && !(q.1 + 1 == i && q.2.category == 2))) := id rfl
theorem q_xlk {j i : Nat} {v : Value} {lv : List (Nat × Value)} : xlk ((j, v) :: lv) i = if j = i then some v else xlk lv i := id rfl
theorem fv_inj {m n : Nat} (hm : m < 2 ^ 63) (hn : n < 2 ^ 63) (h : fv m = fv n) : m = n := by
  rcases Nat.lt_trichotomy m n with c | c | c
  · have := fv_lt c hn
    rw [h] at this
    exact absurd this Rat.lt_irrefl
  · exact c
  · have := fv_lt c hm
    rw [h] at this
    exact absurd this Rat.lt_irrefl
/-- the float of a whole number -/
noncomputable def ofW (T : Nat) : Nat := Classical.epsilon (fun n => fv n = (T : Rat) ∧ n < 2 ^ 63)
theorem ofW_eq {T n : Nat} (h : fv n = (T : Rat)) (hn : n < 2 ^ 63) : ofW T = n := by
  have e := Classical.epsilon_spec (p := fun n => fv n = (T : Rat) ∧ n < 2 ^ 63) ⟨n, h, hn⟩
  exact fv_inj e.2 hn (e.1.trans h.symm)
theorem ofW_0 : ofW 0 = 0 := ofW_eq fv_0 (by decide)
def sgZ (z : Int) (n : Nat) : Int := if z < 0 then -(n : Int) else n
theorem fEF {E F : Nat} (hE : E < 2048) (hF : F < 2 ^ 52) : fE (E * 2 ^ 52 + F) = E ∧ fF (E * 2 ^ 52 + F) = F := by
  unfold fE fF
  omega
theorem sarK {m k : Nat} (h : m < 2 ^ 62) (hk : k < 64) : lN m >>> ((nI k).toInt64 &&& 63) = lN (m / 2 ^ k) := by
  refine pf_shr ?_ h
  rw [wb_c k hk]
  show ((BitVec.ofNat 64 k).smod 64).toNat = k
  rw [wb_sm k hk, BitVec.toNat_ofNat, Nat.mod_eq_of_lt (by omega)]
theorem dX14_ofWhole_0 : decode cX14_ofWhole 0 = .ok (.lload_n 0, 1) := by decide +kernel
theorem dX14_ofWhole_1 : decode cX14_ofWhole 1 = .ok (.lconst 0, 1) := by decide +kernel
theorem dX14_ofWhole_2 : decode cX14_ofWhole 2 = .ok (.lcmp, 1) := by decide +kernel
theorem dX14_ofWhole_3 : decode cX14_ofWhole 3 = .ok (.ifCond .ge 8, 3) := by decide +kernel
theorem dX14_ofWhole_6 : decode cX14_ofWhole 6 = .ok (.lload_n 0, 1) := by decide +kernel
theorem dX14_ofWhole_7 : decode cX14_ofWhole 7 = .ok (.lneg, 1) := by decide +kernel
theorem dX14_ofWhole_8 : decode cX14_ofWhole 8 = .ok (.goto 4, 3) := by decide +kernel
theorem dX14_ofWhole_11 : decode cX14_ofWhole 11 = .ok (.lload_n 0, 1) := by decide +kernel
theorem dX14_ofWhole_12 : decode cX14_ofWhole 12 = .ok (.lstore_n 2, 1) := by decide +kernel
theorem dX14_ofWhole_13 : decode cX14_ofWhole 13 = .ok (.lload_n 2, 1) := by decide +kernel
theorem dX14_ofWhole_14 : decode cX14_ofWhole 14 = .ok (.lconst 0, 1) := by decide +kernel
theorem dX14_ofWhole_15 : decode cX14_ofWhole 15 = .ok (.lcmp, 1) := by decide +kernel
theorem dX14_ofWhole_16 : decode cX14_ofWhole 16 = .ok (.ifCond .ne 5, 3) := by decide +kernel
theorem dX14_ofWhole_19 : decode cX14_ofWhole 19 = .ok (.lconst 0, 1) := by decide +kernel
theorem dX14_ofWhole_20 : decode cX14_ofWhole 20 = .ok (.lreturn, 1) := by decide +kernel
theorem dX14_ofWhole_21 : decode cX14_ofWhole 21 = .ok (.iconst 0, 1) := by decide +kernel
theorem dX14_ofWhole_22 : decode cX14_ofWhole 22 = .ok (.istore 4, 2) := by decide +kernel
theorem dX14_ofWhole_24 : decode cX14_ofWhole 24 = .ok (.lload_n 2, 1) := by decide +kernel
theorem dX14_ofWhole_25 : decode cX14_ofWhole 25 = .ok (.bipush 52, 2) := by decide +kernel
theorem dX14_ofWhole_27 : decode cX14_ofWhole 27 = .ok (.lushr, 1) := by decide +kernel
theorem dX14_ofWhole_28 : decode cX14_ofWhole 28 = .ok (.lconst 0, 1) := by decide +kernel
theorem dX14_ofWhole_29 : decode cX14_ofWhole 29 = .ok (.lcmp, 1) := by decide +kernel
theorem dX14_ofWhole_30 : decode cX14_ofWhole 30 = .ok (.ifCond .ne 13, 3) := by decide +kernel
theorem dX14_ofWhole_33 : decode cX14_ofWhole 33 = .ok (.lload_n 2, 1) := by decide +kernel
theorem dX14_ofWhole_34 : decode cX14_ofWhole 34 = .ok (.iconst 1, 1) := by decide +kernel
theorem dX14_ofWhole_35 : decode cX14_ofWhole 35 = .ok (.lshl, 1) := by decide +kernel
theorem dX14_ofWhole_36 : decode cX14_ofWhole 36 = .ok (.lstore_n 2, 1) := by decide +kernel
theorem dX14_ofWhole_37 : decode cX14_ofWhole 37 = .ok (.iinc 4 1, 3) := by decide +kernel
theorem dX14_ofWhole_40 : decode cX14_ofWhole 40 = .ok (.goto (-16), 3) := by decide +kernel
theorem dX14_ofWhole_43 : decode cX14_ofWhole 43 = .ok (.lload_n 2, 1) := by decide +kernel
theorem dX14_ofWhole_44 : decode cX14_ofWhole 44 = .ok (.bipush 53, 2) := by decide +kernel
theorem dX14_ofWhole_46 : decode cX14_ofWhole 46 = .ok (.lushr, 1) := by decide +kernel
theorem dX14_ofWhole_47 : decode cX14_ofWhole 47 = .ok (.lconst 0, 1) := by decide +kernel
theorem dX14_ofWhole_48 : decode cX14_ofWhole 48 = .ok (.lcmp, 1) := by decide +kernel
theorem dX14_ofWhole_49 : decode cX14_ofWhole 49 = .ok (.ifCond .eq 10, 3) := by decide +kernel
theorem dX14_ofWhole_52 : decode cX14_ofWhole 52 = .ok (.lload_n 2, 1) := by decide +kernel
theorem dX14_ofWhole_53 : decode cX14_ofWhole 53 = .ok (.iconst 1, 1) := by decide +kernel
theorem dX14_ofWhole_54 : decode cX14_ofWhole 54 = .ok (.lushr, 1) := by decide +kernel
theorem dX14_ofWhole_55 : decode cX14_ofWhole 55 = .ok (.lstore_n 2, 1) := by decide +kernel
theorem dX14_ofWhole_56 : decode cX14_ofWhole 56 = .ok (.iinc 4 (-1), 3) := by decide +kernel
theorem dX14_ofWhole_59 : decode cX14_ofWhole 59 = .ok (.ldc2_w 230, 3) := by decide +kernel
theorem dX14_ofWhole_62 : decode cX14_ofWhole 62 = .ok (.iload 4, 2) := by decide +kernel
theorem dX14_ofWhole_64 : decode cX14_ofWhole 64 = .ok (.i2l, 1) := by decide +kernel
theorem dX14_ofWhole_65 : decode cX14_ofWhole 65 = .ok (.lsub, 1) := by decide +kernel
theorem dX14_ofWhole_66 : decode cX14_ofWhole 66 = .ok (.bipush 52, 2) := by decide +kernel
theorem dX14_ofWhole_68 : decode cX14_ofWhole 68 = .ok (.lshl, 1) := by decide +kernel
theorem dX14_ofWhole_69 : decode cX14_ofWhole 69 = .ok (.lload_n 2, 1) := by decide +kernel
theorem dX14_ofWhole_70 : decode cX14_ofWhole 70 = .ok (.ldc2_w 224, 3) := by decide +kernel
theorem dX14_ofWhole_73 : decode cX14_ofWhole 73 = .ok (.land, 1) := by decide +kernel
theorem dX14_ofWhole_74 : decode cX14_ofWhole 74 = .ok (.ladd, 1) := by decide +kernel
theorem dX14_ofWhole_75 : decode cX14_ofWhole 75 = .ok (.lload_n 0, 1) := by decide +kernel
theorem dX14_ofWhole_76 : decode cX14_ofWhole 76 = .ok (.lconst 0, 1) := by decide +kernel
theorem dX14_ofWhole_77 : decode cX14_ofWhole 77 = .ok (.lcmp, 1) := by decide +kernel
theorem dX14_ofWhole_78 : decode cX14_ofWhole 78 = .ok (.ifCond .ge 9, 3) := by decide +kernel
theorem dX14_ofWhole_81 : decode cX14_ofWhole 81 = .ok (.ldc2_w 57, 3) := by decide +kernel
theorem dX14_ofWhole_84 : decode cX14_ofWhole 84 = .ok (.goto 4, 3) := by decide +kernel
theorem dX14_ofWhole_87 : decode cX14_ofWhole 87 = .ok (.lconst 0, 1) := by decide +kernel
theorem dX14_ofWhole_88 : decode cX14_ofWhole 88 = .ok (.lor, 1) := by decide +kernel
theorem dX14_ofWhole_89 : decode cX14_ofWhole 89 = .ok (.lreturn, 1) := by decide +kernel
abbrev r_X14_ofWhole : Room := { frames := 0, cells := 0, slots := 0, locals := 0 }
abbrev m_X14_ofWhole : xMd := (cX14_ofWhole, RX14, 5, (some FieldType.long), false, r_X14_ofWhole)
def b_X14_ofWhole_12 (Q : xQ) (K24 : xK) : xK := x_lstore 2 <| x_lload 2 <| x_c (.long 0) <| x_lcmp <| x_if_ne (x_c (.int 0) <| x_istore 4 <| K24) <| x_c (.long 0) <| x_lret Q
def b_X14_ofWhole_88 (Q : xQ) (K24 : xK) : xK := x_lor <| x_lret Q
def b_X14_ofWhole_0 (Q : xQ) (K24 : xK) : xK := x_lload 0 <| x_c (.long 0) <| x_lcmp <| x_if_ge (x_lload 0 <| (b_X14_ofWhole_12 Q K24)) <| x_lload 0 <| x_lneg <| (b_X14_ofWhole_12 Q K24)
def b_X14_ofWhole_59 (Q : xQ) (K24 : xK) : xK := x_c (.long 1075) <| x_iload 4 <| x_i2l <| x_lsub <| x_c (.int 52) <| x_lshl <| x_lload 2 <| x_c (.long 4503599627370495) <| x_land <| x_ladd <| x_lload 0 <| x_c (.long 0) <| x_lcmp <| x_if_ge (x_c (.long 0) <| (b_X14_ofWhole_88 Q K24)) <| x_c (.long (-9223372036854775808)) <| (b_X14_ofWhole_88 Q K24)
def b_X14_ofWhole_24 (Q : xQ) (K24 : xK) : xK := x_lload 2 <| x_c (.int 52) <| x_lushr <| x_c (.long 0) <| x_lcmp <| x_if_ne (x_lload 2 <| x_c (.int 53) <| x_lushr <| x_c (.long 0) <| x_lcmp <| x_if_eq ((b_X14_ofWhole_59 Q K24)) <| x_lload 2 <| x_c (.int 1) <| x_lushr <| x_lstore 2 <| x_iinc 4 (-1) <| (b_X14_ofWhole_59 Q K24)) <| x_lload 2 <| x_c (.int 1) <| x_lshl <| x_lstore 2 <| x_iinc 4 1 <| K24
theorem s_X14_ofWhole_12 (G : xG) (l : Launch) (Q : xQ) (K24 : xK) (h24 : xW G l m_X14_ofWhole xX0 (xPm G Q r_X14_ofWhole) 24 K24) : xW G l m_X14_ofWhole xX0 (xPm G Q r_X14_ofWhole) 12 (b_X14_ofWhole_12 Q K24) := xo_lstore_n (pc := 12) (i := 2) dX14_ofWhole_12 rfl (by decide) <| xo_lload_n (pc := 13) (i := 2) dX14_ofWhole_13 rfl <| xo_lconst (pc := 14) dX14_ofWhole_14 (by decide) <| xo_lcmp (pc := 15) dX14_ofWhole_15 <| xo_if_ne (pc := 16) (tgt := 21) dX14_ofWhole_16 (by decide) (xo_iconst (pc := 21) dX14_ofWhole_21 (by decide) <| xo_istore (pc := 22) (i := 4) dX14_ofWhole_22 (by decide) <| h24) <| xo_lconst (pc := 19) dX14_ofWhole_19 (by decide) <| xo_lret (pc := 20) rfl dX14_ofWhole_20
theorem s_X14_ofWhole_88 (G : xG) (l : Launch) (Q : xQ) (K24 : xK) (h24 : xW G l m_X14_ofWhole xX0 (xPm G Q r_X14_ofWhole) 24 K24) : xW G l m_X14_ofWhole xX0 (xPm G Q r_X14_ofWhole) 88 (b_X14_ofWhole_88 Q K24) := xo_lor (pc := 88) dX14_ofWhole_88 <| xo_lret (pc := 89) rfl dX14_ofWhole_89
theorem s_X14_ofWhole_0 (G : xG) (l : Launch) (Q : xQ) (K24 : xK) (h24 : xW G l m_X14_ofWhole xX0 (xPm G Q r_X14_ofWhole) 24 K24) : xW G l m_X14_ofWhole xX0 (xPm G Q r_X14_ofWhole) 0 (b_X14_ofWhole_0 Q K24) := xo_lload_n (pc := 0) (i := 0) dX14_ofWhole_0 rfl <| xo_lconst (pc := 1) dX14_ofWhole_1 (by decide) <| xo_lcmp (pc := 2) dX14_ofWhole_2 <| xo_if_ge (pc := 3) (tgt := 11) dX14_ofWhole_3 (by decide) (xo_lload_n (pc := 11) (i := 0) dX14_ofWhole_11 rfl <| (s_X14_ofWhole_12 G l Q K24 h24)) <| xo_lload_n (pc := 6) (i := 0) dX14_ofWhole_6 rfl <| xo_lneg (pc := 7) dX14_ofWhole_7 <| xo_goto (pc := 8) (tgt := 12) dX14_ofWhole_8 (by decide) <| (s_X14_ofWhole_12 G l Q K24 h24)
theorem s_X14_ofWhole_59 (G : xG) (l : Launch) (Q : xQ) (K24 : xK) (h24 : xW G l m_X14_ofWhole xX0 (xPm G Q r_X14_ofWhole) 24 K24) : xW G l m_X14_ofWhole xX0 (xPm G Q r_X14_ofWhole) 59 (b_X14_ofWhole_59 Q K24) := xo_ldc2_w (pc := 59) dX14_ofWhole_59 kw1510 <| xo_iload (pc := 62) (i := 4) dX14_ofWhole_62 <| xo_i2l (pc := 64) dX14_ofWhole_64 <| xo_lsub (pc := 65) dX14_ofWhole_65 <| xo_bipush (pc := 66) dX14_ofWhole_66 (by decide) <| xo_lshl (pc := 68) dX14_ofWhole_68 <| xo_lload_n (pc := 69) (i := 2) dX14_ofWhole_69 rfl <| xo_ldc2_w (pc := 70) dX14_ofWhole_70 kw1507 <| xo_land (pc := 73) dX14_ofWhole_73 <| xo_ladd (pc := 74) dX14_ofWhole_74 <| xo_lload_n (pc := 75) (i := 0) dX14_ofWhole_75 rfl <| xo_lconst (pc := 76) dX14_ofWhole_76 (by decide) <| xo_lcmp (pc := 77) dX14_ofWhole_77 <| xo_if_ge (pc := 78) (tgt := 87) dX14_ofWhole_78 (by decide) (xo_lconst (pc := 87) dX14_ofWhole_87 (by decide) <| (s_X14_ofWhole_88 G l Q K24 h24)) <| xo_ldc2_w (pc := 81) dX14_ofWhole_81 kw1355 <| xo_goto (pc := 84) (tgt := 88) dX14_ofWhole_84 (by decide) <| (s_X14_ofWhole_88 G l Q K24 h24)
theorem s_X14_ofWhole_24 (G : xG) (l : Launch) (Q : xQ) (K24 : xK) (h24 : xW G l m_X14_ofWhole xX0 (xPm G Q r_X14_ofWhole) 24 K24) : xW G l m_X14_ofWhole xX0 (xPm G Q r_X14_ofWhole) 24 (b_X14_ofWhole_24 Q K24) := xo_lload_n (pc := 24) (i := 2) dX14_ofWhole_24 rfl <| xo_bipush (pc := 25) dX14_ofWhole_25 (by decide) <| xo_lushr (pc := 27) dX14_ofWhole_27 <| xo_lconst (pc := 28) dX14_ofWhole_28 (by decide) <| xo_lcmp (pc := 29) dX14_ofWhole_29 <| xo_if_ne (pc := 30) (tgt := 43) dX14_ofWhole_30 (by decide) (xo_lload_n (pc := 43) (i := 2) dX14_ofWhole_43 rfl <| xo_bipush (pc := 44) dX14_ofWhole_44 (by decide) <| xo_lushr (pc := 46) dX14_ofWhole_46 <| xo_lconst (pc := 47) dX14_ofWhole_47 (by decide) <| xo_lcmp (pc := 48) dX14_ofWhole_48 <| xo_if_eq (pc := 49) (tgt := 59) dX14_ofWhole_49 (by decide) ((s_X14_ofWhole_59 G l Q K24 h24)) <| xo_lload_n (pc := 52) (i := 2) dX14_ofWhole_52 rfl <| xo_iconst (pc := 53) dX14_ofWhole_53 (by decide) <| xo_lushr (pc := 54) dX14_ofWhole_54 <| xo_lstore_n (pc := 55) (i := 2) dX14_ofWhole_55 rfl (by decide) <| xo_iinc (pc := 56) dX14_ofWhole_56 (by decide) <| (s_X14_ofWhole_59 G l Q K24 h24)) <| xo_lload_n (pc := 33) (i := 2) dX14_ofWhole_33 rfl <| xo_iconst (pc := 34) dX14_ofWhole_34 (by decide) <| xo_lshl (pc := 35) dX14_ofWhole_35 <| xo_lstore_n (pc := 36) (i := 2) dX14_ofWhole_36 rfl (by decide) <| xo_iinc (pc := 37) dX14_ofWhole_37 (by decide) <| xo_goto (pc := 40) (tgt := 24) dX14_ofWhole_40 (by decide) <| h24

def C_X14_ofWhole : xC := fun av S Q => ∃ z : Int, av = [.long (lZ z)] ∧ -9007199254740992 ≤ z ∧ z ≤ 9007199254740992 ∧ (ofW z.natAbs < 2 ^ 63 → fv (ofW z.natAbs) = (z.natAbs : Rat) → Q (some (.long (lN (foB (sgZ z (ofW z.natAbs)))))) S)
theorem iZ_l {s : Int} (h1 : -2147483648 ≤ s) (h2 : s < 2147483648) : (iZ s).toInt64 = lZ s := by
  apply Int64.toInt_inj.mp
  rw [Int32.toInt_toInt64, iZ_toInt h1 h2, lZ_toInt (by omega) (by omega)]
theorem ow_53 : ((4503599627370496 : Nat) : Rat) * p2 (- -1) = ((9007199254740992 : Nat) : Rat) := by
  have e : p2 (- -1) = ((2 : Nat) : Rat) := p2_nat 1
  rw [e, ← Rat.natCast_mul]
theorem ow_val {w' T : Nat} {s : Int} (g1 : 2 ^ 52 ≤ w') (g2 : w' < 2 ^ 53) (g3 : -1 ≤ s) (g4 : s ≤ 52) (g5 : (w' : Rat) * p2 (-s) = (T : Rat)) : fv ((1075 - s).toNat * 2 ^ 52 + w' % 2 ^ 52) = (T : Rat) := by
  have f1 := fEF (E := (1075 - s).toNat) (F := w' % 2 ^ 52) (by omega) (by omega)
  rw [← g5]
  unfold fv fP fX
  rw [f1.1, f1.2, if_neg (by omega), if_neg (by omega), show w' % 2 ^ 52 + 2 ^ 52 = w' by omega, show (((1075 - s).toNat : Nat) : Int) - 1075 = -s by omega]
theorem ow_fin {Q : xQ} {K : xK} {S : xS} {z : Int} (z1 : -9007199254740992 ≤ z) (z2 : z ≤ 9007199254740992) (z0 : z ≠ 0) (hQ : ofW z.natAbs < 2 ^ 63 → fv (ofW z.natAbs) = (z.natAbs : Rat) → Q (some (.long (lN (foB (sgZ z (ofW z.natAbs)))))) S) : ∀ (w' : Nat) (s : Int), 2 ^ 52 ≤ w' → w' < 2 ^ 53 → -1 ≤ s → s ≤ 52 → (w' : Rat) * p2 (-s) = (z.natAbs : Rat) → ∀ lv, xlk lv 4 = some (.int (iZ s)) → xlk lv 2 = some (.long (lN w')) → xlk lv 0 = some (.long (lZ z)) → b_X14_ofWhole_59 Q K lv [] S := by
  intro w' s g1 g2 g3 g4 g5 lv l4 l2 l0
  have e0 : (0 : Int64) ≤ lZ z ↔ 0 ≤ z := by rw [l_le, lZ_toInt (by omega) (by omega)]; exact Iff.rfl
  have ix := iZ_l (s := s) (by omega) (by omega)
  have ex : (1075 : Int64) - lZ s = lN (1075 - s).toNat := by
    rw [show (1075 : Int64) = lZ 1075 from rfl, lZ_sub, lZ_pos (by omega)]
  have sh : lN (1075 - s).toNat <<< ((52 : Int32).toInt64 &&& 63) = lN ((1075 - s).toNat * 2 ^ 52) := wb_shl _ (k := 52) (by decide)
  have an : lN w' &&& 4503599627370495 = lN (w' % 2 ^ 52) := wb_mask (k := 52) (by omega) (by decide)
  have ad : lN ((1075 - s).toNat * 2 ^ 52) + lN (w' % 2 ^ 52) = lN ((1075 - s).toNat * 2 ^ 52 + w' % 2 ^ 52) := lN_add _ _
  have nv := ow_val g1 g2 g3 g4 g5
  have nl : (1075 - s).toNat * 2 ^ 52 + w' % 2 ^ 52 < 2 ^ 63 := by omega
  have n0 : 0 < (1075 - s).toNat * 2 ^ 52 + w' % 2 ^ 52 := by omega
  simp only [q_c, x_iload, x_lload, x_aload, q_istore, q_lstore, q_astore, q_astore2, x_iinc, q_iadd, q_isub, q_imul, q_iand, q_ior, q_ixor, q_ladd, q_lsub, q_lmul, q_land, q_lor, q_lxor, q_idiv, q_irem, q_ldiv, q_lrem, q_ineg, q_lneg, q_ishl, q_ishr, q_iushr, q_lshl, q_lshr, q_lushr, q_i2l, q_l2i, q_i2b, q_i2c, q_lcmp, q_if_eq, q_if_ne, q_if_lt, q_if_ge, q_if_gt, q_if_le, q_icmp_eq, q_icmp_ne, q_icmp_lt, q_icmp_ge, q_icmp_gt, q_icmp_le, q_dup, q_pop, q_dup_x1, q_dup2, x_iret, x_zret, x_lret, x_aret, x_vret, x_call, x_callv, x_calli, x_oinit, x_mmax, x_mmin, x_mabs, x_mmaxL, x_mminL, x_mabsL, lg_cmp_ge, lg_cmp_le, lg_cmp_gt, lg_cmp_lt, lg_cmp_eq, xlk, q_xs1, q_xs2, lv_args, Value.category, List.filter_cons, List.filter_nil, Nat.reduceAdd, Nat.reduceBEq, Nat.reduceEqDiff, Nat.reduceSub, Nat.sub_zero, beq_self_eq_true, Bool.not_true, Bool.not_false, Bool.and_true, Bool.and_false, Bool.true_and, Bool.false_and, reduceIte, reduceCtorEq, Bool.false_eq_true, Nat.one_ne_zero, Nat.zero_ne_one, Nat.zero_add, Option.toList_some, Option.toList_none, List.nil_append, List.cons_append, List.take_succ_cons, List.take_zero, List.take_nil, List.drop_succ_cons, List.drop_zero, List.length_cons, List.length_nil, List.reverse_cons, List.reverse_nil, List.head?_cons, List.map_cons, List.map_nil, List.sum_cons, List.sum_nil, true_and, and_true, List.getElem?_cons_zero, List.getElem?_cons_succ, Prod.eta, x_get, x_put, x_iald, x_iast, x_bald, x_bast, x_lald, x_last, x_alen, xup_s, xup_a1, xup_1a, xup_uu, nr_i, nr_l, nr_o, nr_a, ft_i, ft_l, ft_o, ft_a, Nat.reduceLT, i_cl0, i_cl1, i_n1, i_m1, List.set_cons_zero, List.set_cons_succ, Nat.reduceLeDiff, Nat.le_refl, Nat.zero_le, Nat.add_zero, x_no, x_ifnull, x_ifnonnull, x_acmp_eq, x_acmp_ne, x_swl, x_tsw, x_castC, true_or, or_true, nr_z, ft_z, nr_z0, nr_z1, ft_z0, ft_z1, nr_on, nr_an, ft_on, ft_an, b_X14_ofWhole_59, b_X14_ofWhole_88, l4, l2, l0, ix, ex, sh, an, ad, e0]
  generalize (1075 - s).toNat * 2 ^ 52 + w' % 2 ^ 52 = n at *
  have ew := ofW_eq nv nl
  rw [ew] at hQ
  have hQ' := hQ nl nv
  have o0 : lN n ||| 0 = lN n := Int64.or_zero
  have o1 : lN n ||| -9223372036854775808 = lN (2 ^ 63 + n) := by
    rw [show (-9223372036854775808 : Int64) = lN (1 * 2 ^ 63) by decide, g_or' (k := 63) rfl nl (by omega), Nat.add_comm, Nat.one_mul]
  refine ⟨fun c => ?_, fun c => ?_⟩
  · rw [o0]
    have : foB (sgZ z n) = n := by unfold sgZ foB; rw [if_neg (by omega), if_neg (by omega)]; omega
    rw [this] at hQ'
    exact hQ'
  · rw [o1]
    have : foB (sgZ z n) = 2 ^ 63 + n := by
      unfold sgZ foB
      rw [if_pos (by omega), if_pos (by omega)]
      omega
    rw [this] at hQ'
    exact hQ'
def cn_X14_ofWhole : Int × Nat × Nat → List (Nat × Value) := fun v => [(0, .long (lZ v.1)), (2, .long (lN v.2.1)), (4, .int (nI v.2.2))]
def I_X14_ofWhole (Q : xQ) : Nat → Int × Nat × Nat → xS → Prop := fun m v S => match v with
  | (z, w, k) => z ≠ 0 ∧ -9007199254740992 ≤ z ∧ z ≤ 9007199254740992 ∧ w = z.natAbs * 2 ^ k ∧ w ≤ 2 ^ 53 ∧ (0 < k → w < 2 ^ 53) ∧ k ≤ 52 ∧ m = 52 - k ∧ (ofW z.natAbs < 2 ^ 63 → fv (ofW z.natAbs) = (z.natAbs : Rat) → Q (some (.long (lN (foB (sgZ z (ofW z.natAbs)))))) S)
theorem ow_kl {z : Int} {w k : Nat} (z0 : z ≠ 0) (hw : w = z.natAbs * 2 ^ k) (hk : k ≤ 52) (wl : w < 2 ^ 52) : k < 52 := by
  rcases Nat.lt_or_ge k 52 with q | q
  · exact q
  · obtain rfl : k = 52 := by omega
    have : 1 * 2 ^ 52 ≤ z.natAbs * 2 ^ 52 := Nat.mul_le_mul_right _ (by omega)
    omega
theorem ow_c {z : Int} {w k : Nat} (hw : w = z.natAbs * 2 ^ k) : (w : Rat) * p2 (-(k : Int)) = (z.natAbs : Rat) := by
  rw [hw, Rat.natCast_mul, ← p2_nat, Rat.mul_assoc, ← p2_add, show (k : Int) + -(k : Int) = 0 by omega, p2_0, Rat.mul_one]
theorem ow_1 {Q : xQ} {K : xK} {S : xS} {z : Int} {w k : Nat} (z1 : -9007199254740992 ≤ z) (z2 : z ≤ 9007199254740992) (z0 : z ≠ 0) (hQ : ofW z.natAbs < 2 ^ 63 → fv (ofW z.natAbs) = (z.natAbs : Rat) → Q (some (.long (lN (foB (sgZ z (ofW z.natAbs)))))) S) (hw : w = z.natAbs * 2 ^ k) (w1 : w ≤ 2 ^ 53) (w2 : 0 < k → w < 2 ^ 53) (hk : k ≤ 52) (a : ¬ w / 2 ^ 52 = 0) (b : w / 2 ^ 53 = 0) (lv : List (Nat × Value)) (l4 : xlk lv 4 = some (.int (nI k))) (l2 : xlk lv 2 = some (.long (lN w))) (l0 : xlk lv 0 = some (.long (lZ z))) : b_X14_ofWhole_59 Q K lv [] S :=
  ow_fin z1 z2 z0 hQ w k (by omega) (by omega) (by omega) (by omega) (ow_c hw) lv (by rw [iZ_nat]; exact l4) l2 l0
theorem ow_2 {Q : xQ} {K : xK} {S : xS} {z : Int} {w k : Nat} (z1 : -9007199254740992 ≤ z) (z2 : z ≤ 9007199254740992) (z0 : z ≠ 0) (hQ : ofW z.natAbs < 2 ^ 63 → fv (ofW z.natAbs) = (z.natAbs : Rat) → Q (some (.long (lN (foB (sgZ z (ofW z.natAbs)))))) S) (hw : w = z.natAbs * 2 ^ k) (w1 : w ≤ 2 ^ 53) (w2 : 0 < k → w < 2 ^ 53) (hk : k ≤ 52) (b : ¬ w / 2 ^ 53 = 0) (lv : List (Nat × Value)) (l4 : xlk lv 4 = some (.int (nI k - 1))) (l2 : xlk lv 2 = some (.long (lN (w / 2 ^ 1)))) (l0 : xlk lv 0 = some (.long (lZ z))) : b_X14_ofWhole_59 Q K lv [] S := by
  have k0 : k = 0 := by omega
  have we : w / 2 ^ 1 = 4503599627370496 := by omega
  have ze : z.natAbs = 9007199254740992 := by
    rw [k0, Nat.pow_zero, Nat.mul_one] at hw
    omega
  rw [we] at l2
  rw [k0, show nI 0 - 1 = iZ (-1) by decide] at l4
  exact ow_fin z1 z2 z0 hQ 4503599627370496 (-1) (by decide) (by decide) (by decide) (by decide) (by rw [ze]; exact ow_53) lv l4 l2 l0
theorem ow_3 {Q : xQ} {S : xS} {z : Int} {w k : Nat} (z1 : -9007199254740992 ≤ z) (z2 : z ≤ 9007199254740992) (z0 : z ≠ 0) (hQ : ofW z.natAbs < 2 ^ 63 → fv (ofW z.natAbs) = (z.natAbs : Rat) → Q (some (.long (lN (foB (sgZ z (ofW z.natAbs)))))) S) (hw : w = z.natAbs * 2 ^ k) (w1 : w ≤ 2 ^ 53) (w2 : 0 < k → w < 2 ^ 53) (hk : k ≤ 52) (a : w / 2 ^ 52 = 0) : I_X14_ofWhole Q (52 - (k + 1)) (z, w * 2 ^ 1, k + 1) S ∧ 52 - (k + 1) < 52 - k := by
  have wl : w < 2 ^ 52 := by omega
  have kl := ow_kl z0 hw hk wl
  have e1 : w * 2 ^ 1 = z.natAbs * 2 ^ (k + 1) := by rw [hw, Nat.mul_assoc, ← Nat.pow_add]
  have e2 : w * 2 ^ 1 ≤ 2 ^ 53 := by omega
  have e3 : w * 2 ^ 1 < 2 ^ 53 := by omega
  unfold I_X14_ofWhole
  exact ⟨⟨z0, z1, z2, e1, e2, fun _ => e3, by omega, rfl, hQ⟩, by omega⟩
theorem ow_core {Q : xQ} {K : xK} {S : xS} {z : Int} {w k : Nat} (wl : w < 2 ^ 62) (h1 : ¬ w / 2 ^ 52 = 0 → w / 2 ^ 53 = 0 → ∀ lv, xlk lv 4 = some (.int (nI k)) → xlk lv 2 = some (.long (lN w)) → xlk lv 0 = some (.long (lZ z)) → b_X14_ofWhole_59 Q K lv [] S) (h2 : ¬ w / 2 ^ 53 = 0 → ∀ lv, xlk lv 4 = some (.int (nI k - 1)) → xlk lv 2 = some (.long (lN (w / 2 ^ 1))) → xlk lv 0 = some (.long (lZ z)) → b_X14_ofWhole_59 Q K lv [] S) (h3 : w / 2 ^ 52 = 0 → K [(4, .int (nI (k + 1))), (2, .long (lN (w * 2 ^ 1))), (0, .long (lZ z))] [] S) : b_X14_ofWhole_24 Q K [(0, .long (lZ z)), (2, .long (lN w)), (4, .int (nI k))] [] S := by
  have s52 : ((lN w).toUInt64 >>> ((52 : Int32).toInt64.toUInt64 &&& Int64.toUInt64 63)).toInt64 = lN (w / 2 ^ 52) := wb_shr (k := 52) (by omega) (by decide)
  have s53 : ((lN w).toUInt64 >>> ((53 : Int32).toInt64.toUInt64 &&& Int64.toUInt64 63)).toInt64 = lN (w / 2 ^ 53) := wb_shr (k := 53) (by omega) (by decide)
  have s1 : ((lN w).toUInt64 >>> ((1 : Int32).toInt64.toUInt64 &&& Int64.toUInt64 63)).toInt64 = lN (w / 2 ^ 1) := wb_shr (k := 1) (by omega) (by decide)
  have t1 : lN w <<< ((1 : Int32).toInt64 &&& 63) = lN (w * 2 ^ 1) := wb_shl w (k := 1) (by decide)
  have q52 : lN (w / 2 ^ 52) = 0 ↔ w / 2 ^ 52 = 0 := pk_lEQ (b := 0) (by omega) (by decide)
  have q53 : lN (w / 2 ^ 53) = 0 ↔ w / 2 ^ 53 = 0 := pk_lEQ (b := 0) (by omega) (by decide)
  unfold b_X14_ofWhole_24
  generalize b_X14_ofWhole_59 Q K = J at *
  simp only [q_c, x_iload, x_lload, x_aload, q_istore, q_lstore, q_astore, q_astore2, x_iinc, q_iadd, q_isub, q_imul, q_iand, q_ior, q_ixor, q_ladd, q_lsub, q_lmul, q_land, q_lor, q_lxor, q_idiv, q_irem, q_ldiv, q_lrem, q_ineg, q_lneg, q_ishl, q_ishr, q_iushr, q_lshl, q_lshr, q_lushr, q_i2l, q_l2i, q_i2b, q_i2c, q_lcmp, q_if_eq, q_if_ne, q_if_lt, q_if_ge, q_if_gt, q_if_le, q_icmp_eq, q_icmp_ne, q_icmp_lt, q_icmp_ge, q_icmp_gt, q_icmp_le, q_dup, q_pop, q_dup_x1, q_dup2, x_iret, x_zret, x_lret, x_aret, x_vret, x_call, x_callv, x_calli, x_oinit, x_mmax, x_mmin, x_mabs, x_mmaxL, x_mminL, x_mabsL, lg_cmp_ge, lg_cmp_le, lg_cmp_gt, lg_cmp_lt, lg_cmp_eq, xlk, q_xs1, q_xs2, lv_args, Value.category, List.filter_cons, List.filter_nil, Nat.reduceAdd, Nat.reduceBEq, Nat.reduceEqDiff, Nat.reduceSub, Nat.sub_zero, beq_self_eq_true, Bool.not_true, Bool.not_false, Bool.and_true, Bool.and_false, Bool.true_and, Bool.false_and, reduceIte, reduceCtorEq, Bool.false_eq_true, Nat.one_ne_zero, Nat.zero_ne_one, Nat.zero_add, Option.toList_some, Option.toList_none, List.nil_append, List.cons_append, List.take_succ_cons, List.take_zero, List.take_nil, List.drop_succ_cons, List.drop_zero, List.length_cons, List.length_nil, List.reverse_cons, List.reverse_nil, List.head?_cons, List.map_cons, List.map_nil, List.sum_cons, List.sum_nil, true_and, and_true, List.getElem?_cons_zero, List.getElem?_cons_succ, Prod.eta, x_get, x_put, x_iald, x_iast, x_bald, x_bast, x_lald, x_last, x_alen, xup_s, xup_a1, xup_1a, xup_uu, nr_i, nr_l, nr_o, nr_a, ft_i, ft_l, ft_o, ft_a, Nat.reduceLT, i_cl0, i_cl1, i_n1, i_m1, List.set_cons_zero, List.set_cons_succ, Nat.reduceLeDiff, Nat.le_refl, Nat.zero_le, Nat.add_zero, x_no, x_ifnull, x_ifnonnull, x_acmp_eq, x_acmp_ne, x_swl, x_tsw, x_castC, true_or, or_true, nr_z, ft_z, nr_z0, nr_z1, ft_z0, ft_z1, nr_on, nr_an, ft_on, ft_an, s52, s53, s1, t1, q52, q53]
  exact ⟨fun a => ⟨fun b => h1 a b _ rfl rfl rfl, fun b => h2 b _ rfl rfl rfl⟩, fun a => h3 a⟩
theorem ow_loop (G : xG) (l : Launch) (Q : xQ) : xW G l m_X14_ofWhole xX0 (xPm G Q r_X14_ofWhole) 24 (xInv cn_X14_ofWhole (I_X14_ofWhole Q)) := by
  refine xW.lp (b_X14_ofWhole_24 Q) (fun K hK => s_X14_ofWhole_24 G l Q K hK) ?_
  rintro m ⟨z, w, k⟩ S ⟨z0, z1, z2, hw, w1, w2, hk, hm, hQ⟩
  subst hm
  refine ow_core (z := z) (w := w) (k := k) (by omega) ?_ ?_ ?_
  · exact fun a b lv x y v => ow_1 z1 z2 z0 hQ hw w1 w2 hk a b lv x y v
  · exact fun b lv x y v => ow_2 z1 z2 z0 hQ hw w1 w2 hk b lv x y v
  · intro a
    have g := ow_3 z1 z2 z0 hQ hw w1 w2 hk a
    exact xInvL.mk _ (z, w * 2 ^ 1, k + 1) g.2 ⟨rfl, rfl, rfl, trivial⟩ g.1
theorem cM_X14_ofWhole (G : xG) (l : Launch) : xM G l yX14_ofWhole cX14_ofWhole 5 (some FieldType.long) r_X14_ofWhole C_X14_ofWhole := by
  refine xM_of (fun Q => b_X14_ofWhole_0 Q (xInv cn_X14_ofWhole (I_X14_ofWhole Q))) RX14 false (fun Q => s_X14_ofWhole_0 G l Q _ (ow_loop G l Q)) (by decide) rfl (by decide) ?_
  rintro av S Q ⟨z, rfl, z1, z2, hQ⟩
  refine ⟨Nat.le_of_ble_eq_true rfl, ?_⟩
  have e0 : (0 : Int64) ≤ lZ z ↔ 0 ≤ z := by rw [l_le, lZ_toInt (by omega) (by omega)]; exact Iff.rfl
  have fin : b_X14_ofWhole_12 Q (xInv cn_X14_ofWhole (I_X14_ofWhole Q)) [(0, .long (lZ z))] [.long (lN z.natAbs)] S := by
    have q0 : lN z.natAbs = 0 ↔ z.natAbs = 0 := pk_lEQ (b := 0) (by omega) (by decide)
    simp only [q_c, x_iload, x_lload, x_aload, q_istore, q_lstore, q_astore, q_astore2, x_iinc, q_iadd, q_isub, q_imul, q_iand, q_ior, q_ixor, q_ladd, q_lsub, q_lmul, q_land, q_lor, q_lxor, q_idiv, q_irem, q_ldiv, q_lrem, q_ineg, q_lneg, q_ishl, q_ishr, q_iushr, q_lshl, q_lshr, q_lushr, q_i2l, q_l2i, q_i2b, q_i2c, q_lcmp, q_if_eq, q_if_ne, q_if_lt, q_if_ge, q_if_gt, q_if_le, q_icmp_eq, q_icmp_ne, q_icmp_lt, q_icmp_ge, q_icmp_gt, q_icmp_le, q_dup, q_pop, q_dup_x1, q_dup2, x_iret, x_zret, x_lret, x_aret, x_vret, x_call, x_callv, x_calli, x_oinit, x_mmax, x_mmin, x_mabs, x_mmaxL, x_mminL, x_mabsL, lg_cmp_ge, lg_cmp_le, lg_cmp_gt, lg_cmp_lt, lg_cmp_eq, xlk, q_xs1, q_xs2, lv_args, Value.category, List.filter_cons, List.filter_nil, Nat.reduceAdd, Nat.reduceBEq, Nat.reduceEqDiff, Nat.reduceSub, Nat.sub_zero, beq_self_eq_true, Bool.not_true, Bool.not_false, Bool.and_true, Bool.and_false, Bool.true_and, Bool.false_and, reduceIte, reduceCtorEq, Bool.false_eq_true, Nat.one_ne_zero, Nat.zero_ne_one, Nat.zero_add, Option.toList_some, Option.toList_none, List.nil_append, List.cons_append, List.take_succ_cons, List.take_zero, List.take_nil, List.drop_succ_cons, List.drop_zero, List.length_cons, List.length_nil, List.reverse_cons, List.reverse_nil, List.head?_cons, List.map_cons, List.map_nil, List.sum_cons, List.sum_nil, true_and, and_true, List.getElem?_cons_zero, List.getElem?_cons_succ, Prod.eta, x_get, x_put, x_iald, x_iast, x_bald, x_bast, x_lald, x_last, x_alen, xup_s, xup_a1, xup_1a, xup_uu, nr_i, nr_l, nr_o, nr_a, ft_i, ft_l, ft_o, ft_a, Nat.reduceLT, i_cl0, i_cl1, i_n1, i_m1, List.set_cons_zero, List.set_cons_succ, Nat.reduceLeDiff, Nat.le_refl, Nat.zero_le, Nat.add_zero, x_no, x_ifnull, x_ifnonnull, x_acmp_eq, x_acmp_ne, x_swl, x_tsw, x_castC, true_or, or_true, nr_z, ft_z, nr_z0, nr_z1, ft_z0, ft_z1, nr_on, nr_an, ft_on, ft_an, b_X14_ofWhole_12, q0]
    refine ⟨fun y => ?_, fun y => ?_⟩
    · refine xInv.mk 52 (z, z.natAbs, 0) ⟨rfl, rfl, rfl, trivial⟩ ?_
      · unfold I_X14_ofWhole
        exact ⟨by omega, z1, z2, by rw [Nat.pow_zero, Nat.mul_one], by omega, fun q => absurd q (by decide), by decide, rfl, hQ⟩
    · have zz : z = 0 := by omega
      subst zz
      have := hQ (by rw [show (0 : Int).natAbs = 0 from rfl, ofW_0]; decide) (by rw [show (0 : Int).natAbs = 0 from rfl, ofW_0]; exact fv_0)
      rw [show (0 : Int).natAbs = 0 from rfl, ofW_0] at this
      exact this
  have n1 : 0 ≤ z → lZ z = lN z.natAbs := fun q => by rw [lZ_pos q]; congr 1; omega
  have n2 : ¬ 0 ≤ z → lZ (-z) = lN z.natAbs := fun q => by rw [lZ_pos (by omega)]; congr 1; omega
  simp only [q_c, x_iload, x_lload, x_aload, q_istore, q_lstore, q_astore, q_astore2, x_iinc, q_iadd, q_isub, q_imul, q_iand, q_ior, q_ixor, q_ladd, q_lsub, q_lmul, q_land, q_lor, q_lxor, q_idiv, q_irem, q_ldiv, q_lrem, q_ineg, q_lneg, q_ishl, q_ishr, q_iushr, q_lshl, q_lshr, q_lushr, q_i2l, q_l2i, q_i2b, q_i2c, q_lcmp, q_if_eq, q_if_ne, q_if_lt, q_if_ge, q_if_gt, q_if_le, q_icmp_eq, q_icmp_ne, q_icmp_lt, q_icmp_ge, q_icmp_gt, q_icmp_le, q_dup, q_pop, q_dup_x1, q_dup2, x_iret, x_zret, x_lret, x_aret, x_vret, x_call, x_callv, x_calli, x_oinit, x_mmax, x_mmin, x_mabs, x_mmaxL, x_mminL, x_mabsL, lg_cmp_ge, lg_cmp_le, lg_cmp_gt, lg_cmp_lt, lg_cmp_eq, xlk, q_xs1, q_xs2, lv_args, Value.category, List.filter_cons, List.filter_nil, Nat.reduceAdd, Nat.reduceBEq, Nat.reduceEqDiff, Nat.reduceSub, Nat.sub_zero, beq_self_eq_true, Bool.not_true, Bool.not_false, Bool.and_true, Bool.and_false, Bool.true_and, Bool.false_and, reduceIte, reduceCtorEq, Bool.false_eq_true, Nat.one_ne_zero, Nat.zero_ne_one, Nat.zero_add, Option.toList_some, Option.toList_none, List.nil_append, List.cons_append, List.take_succ_cons, List.take_zero, List.take_nil, List.drop_succ_cons, List.drop_zero, List.length_cons, List.length_nil, List.reverse_cons, List.reverse_nil, List.head?_cons, List.map_cons, List.map_nil, List.sum_cons, List.sum_nil, true_and, and_true, List.getElem?_cons_zero, List.getElem?_cons_succ, Prod.eta, x_get, x_put, x_iald, x_iast, x_bald, x_bast, x_lald, x_last, x_alen, xup_s, xup_a1, xup_1a, xup_uu, nr_i, nr_l, nr_o, nr_a, ft_i, ft_l, ft_o, ft_a, Nat.reduceLT, i_cl0, i_cl1, i_n1, i_m1, List.set_cons_zero, List.set_cons_succ, Nat.reduceLeDiff, Nat.le_refl, Nat.zero_le, Nat.add_zero, x_no, x_ifnull, x_ifnonnull, x_acmp_eq, x_acmp_ne, x_swl, x_tsw, x_castC, true_or, or_true, nr_z, ft_z, nr_z0, nr_z1, ft_z0, ft_z1, nr_on, nr_an, ft_on, ft_an, b_X14_ofWhole_0, e0, lZ_neg]
  refine ⟨fun q => ?_, fun q => ?_⟩
  · have := fin
    rw [← n1 q] at this
    exact this
  · rw [n2 q]
    exact fin
