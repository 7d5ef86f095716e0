/-! writing: bytes are put behind each other -/
def oA (o : Nat → Nat) (os : Nat) (l : List Nat) : Nat → Nat := fun i => if os ≤ i ∧ i < os + l.length then l.getD (i - os) 0 else o i
theorem oA_nil (o : Nat → Nat) (os : Nat) : oA o os [] = o := by
  funext i
  unfold oA
  rw [if_neg (fun c => by have := c.2; simp at this; omega)]
theorem oA_put (o : Nat → Nat) (os b : Nat) (l : List Nat) : va_up (oA o os l) (os + l.length) b = oA o os (l ++ [b]) := by
  funext i
  unfold va_up oA
  rw [List.length_append, List.length_singleton]
  by_cases c : i = os + l.length
  · rw [if_pos c, if_pos (by omega), c, show os + l.length - os = l.length by omega]
    simp [List.getD]
  · rw [if_neg c]
    by_cases d : os ≤ i ∧ i < os + l.length
    · rw [if_pos d, if_pos (by omega)]
      have : i - os < l.length := by omega
      simp [List.getD, List.getElem?_append_left this]
    · rw [if_neg d, if_neg (by omega)]
/-- so far the list l has been put behind what stood there -/
def wS (h : xH) (M : Nat) (s : Nat → Value) (lo hi : Int) (nn ls : Bool) (n : Nat) (cs : Nat → vC) (os : Nat) (o : Nat → Nat) (l : List Nat) : Prop := ms h M (su s 9 (.int (nI (os + l.length)))) lo hi nn ls n cs ∧ otR h M (oA o os l)
theorem kk_put {h : xH} {T : Nat × Nat × Nat} {K : xQ} {M : Nat} {s : Nat → Value} {lo hi : Int} {nn ls : Bool} {n : Nat} {cs : Nat → vC} {os b : Nat} {o : Nat → Nat} {l : List Nat} (w : wS h M s lo hi nn ls n cs os o l) (hb : b < 256) (hl : os + l.length < 200) (c : ∀ h2, fo h2 h M → wS h2 M s lo hi nn ls n cs os o (l ++ [b]) → K none (h2, T)) : rcv h M ∧ C_X14_put [.ref M, .int (nI b)] (h, T) K := by
  refine ⟨w.1.r, M, s, lo, hi, nn, ls, n, cs, b, os + l.length, _, rfl, hb, w.1, hl, w.2, fun h2 f2 w2 o2 => c h2 f2 ⟨?_, ?_⟩⟩
  · rw [List.length_append, List.length_singleton, ← Nat.add_assoc]
    exact w2
  · rw [oA_put] at o2
    exact o2
/-- the decimal digits of v from 10 ^ k down -/
def dgL (v : Nat) : Nat → List Nat
  | 0 => [48 + v % 10]
  | k + 1 => (48 + v / 10 ^ (k + 1) % 10) :: dgL v k
theorem dgL_len (v k : Nat) : (dgL v k).length = k + 1 := by
  induction k with
  | zero => rfl
  | succ k ih => show (dgL v k).length + 1 = _; rw [ih]
/-- the number of v's digits, less one -/
def kD (v : Nat) : Nat := if v < 10 then 0 else if v < 100 then 1 else if v < 1000 then 2 else 3
def nD (z : Int) : List Nat := (if z < 0 then [45] else []) ++ dgL z.natAbs (kD z.natAbs)
theorem dX14_putNumber_0 : decode cX14_putNumber 0 = .ok (.lload_n 1, 1) := by decide +kernel
theorem dX14_putNumber_1 : decode cX14_putNumber 1 = .ok (.lstore_n 3, 1) := by decide +kernel
theorem dX14_putNumber_2 : decode cX14_putNumber 2 = .ok (.lload_n 3, 1) := by decide +kernel
theorem dX14_putNumber_3 : decode cX14_putNumber 3 = .ok (.lconst 0, 1) := by decide +kernel
theorem dX14_putNumber_4 : decode cX14_putNumber 4 = .ok (.lcmp, 1) := by decide +kernel
theorem dX14_putNumber_5 : decode cX14_putNumber 5 = .ok (.ifCond .ge 12, 3) := by decide +kernel
theorem dX14_putNumber_8 : decode cX14_putNumber 8 = .ok (.aload_n 0, 1) := by decide +kernel
theorem dX14_putNumber_9 : decode cX14_putNumber 9 = .ok (.bipush 45, 2) := by decide +kernel
theorem dX14_putNumber_11 : decode cX14_putNumber 11 = .ok (.invokevirtual 476, 3) := by decide +kernel
theorem dX14_putNumber_14 : decode cX14_putNumber 14 = .ok (.lload_n 3, 1) := by decide +kernel
theorem dX14_putNumber_15 : decode cX14_putNumber 15 = .ok (.lneg, 1) := by decide +kernel
theorem dX14_putNumber_16 : decode cX14_putNumber 16 = .ok (.lstore_n 3, 1) := by decide +kernel
theorem dX14_putNumber_17 : decode cX14_putNumber 17 = .ok (.lconst 1, 1) := by decide +kernel
theorem dX14_putNumber_18 : decode cX14_putNumber 18 = .ok (.lstore 5, 2) := by decide +kernel
theorem dX14_putNumber_20 : decode cX14_putNumber 20 = .ok (.lload_n 3, 1) := by decide +kernel
theorem dX14_putNumber_21 : decode cX14_putNumber 21 = .ok (.lload 5, 2) := by decide +kernel
theorem dX14_putNumber_23 : decode cX14_putNumber 23 = .ok (.ldiv, 1) := by decide +kernel
theorem dX14_putNumber_24 : decode cX14_putNumber 24 = .ok (.ldc2_w 479, 3) := by decide +kernel
theorem dX14_putNumber_27 : decode cX14_putNumber 27 = .ok (.lcmp, 1) := by decide +kernel
theorem dX14_putNumber_28 : decode cX14_putNumber 28 = .ok (.ifCond .le 14, 3) := by decide +kernel
theorem dX14_putNumber_31 : decode cX14_putNumber 31 = .ok (.ldc2_w 481, 3) := by decide +kernel
theorem dX14_putNumber_34 : decode cX14_putNumber 34 = .ok (.lload 5, 2) := by decide +kernel
theorem dX14_putNumber_36 : decode cX14_putNumber 36 = .ok (.lmul, 1) := by decide +kernel
theorem dX14_putNumber_37 : decode cX14_putNumber 37 = .ok (.lstore 5, 2) := by decide +kernel
theorem dX14_putNumber_39 : decode cX14_putNumber 39 = .ok (.goto (-19), 3) := by decide +kernel
theorem dX14_putNumber_42 : decode cX14_putNumber 42 = .ok (.lload 5, 2) := by decide +kernel
theorem dX14_putNumber_44 : decode cX14_putNumber 44 = .ok (.lconst 0, 1) := by decide +kernel
theorem dX14_putNumber_45 : decode cX14_putNumber 45 = .ok (.lcmp, 1) := by decide +kernel
theorem dX14_putNumber_46 : decode cX14_putNumber 46 = .ok (.ifCond .le 31, 3) := by decide +kernel
theorem dX14_putNumber_49 : decode cX14_putNumber 49 = .ok (.aload_n 0, 1) := by decide +kernel
theorem dX14_putNumber_50 : decode cX14_putNumber 50 = .ok (.ldc2_w 483, 3) := by decide +kernel
theorem dX14_putNumber_53 : decode cX14_putNumber 53 = .ok (.lload_n 3, 1) := by decide +kernel
theorem dX14_putNumber_54 : decode cX14_putNumber 54 = .ok (.lload 5, 2) := by decide +kernel
theorem dX14_putNumber_56 : decode cX14_putNumber 56 = .ok (.ldiv, 1) := by decide +kernel
theorem dX14_putNumber_57 : decode cX14_putNumber 57 = .ok (.ldc2_w 481, 3) := by decide +kernel
theorem dX14_putNumber_60 : decode cX14_putNumber 60 = .ok (.lrem, 1) := by decide +kernel
theorem dX14_putNumber_61 : decode cX14_putNumber 61 = .ok (.ladd, 1) := by decide +kernel
theorem dX14_putNumber_62 : decode cX14_putNumber 62 = .ok (.l2i, 1) := by decide +kernel
theorem dX14_putNumber_63 : decode cX14_putNumber 63 = .ok (.invokevirtual 476, 3) := by decide +kernel
theorem dX14_putNumber_66 : decode cX14_putNumber 66 = .ok (.lload 5, 2) := by decide +kernel
theorem dX14_putNumber_68 : decode cX14_putNumber 68 = .ok (.ldc2_w 481, 3) := by decide +kernel
theorem dX14_putNumber_71 : decode cX14_putNumber 71 = .ok (.ldiv, 1) := by decide +kernel
theorem dX14_putNumber_72 : decode cX14_putNumber 72 = .ok (.lstore 5, 2) := by decide +kernel
theorem dX14_putNumber_74 : decode cX14_putNumber 74 = .ok (.goto (-32), 3) := by decide +kernel
theorem dX14_putNumber_77 : decode cX14_putNumber 77 = .ok (.return_, 1) := by decide +kernel
abbrev r_X14_putNumber : Room := { frames := 1, cells := 0, slots := 0, locals := 21 }
abbrev m_X14_putNumber : xMd := (cX14_putNumber, RX14, 7, none, false, r_X14_putNumber)
def b_X14_putNumber_17 (Q : xQ) (K20 : xK) (K42 : xK) : xK := x_c (.long 1) <| x_lstore 5 <| K20
def b_X14_putNumber_20 (Q : xQ) (K20 : xK) (K42 : xK) : xK := x_lload 3 <| x_lload 5 <| x_ldiv <| x_c (.long 9) <| x_lcmp <| x_if_le (K42) <| x_c (.long 10) <| x_lload 5 <| x_lmul <| x_lstore 5 <| K20
def b_X14_putNumber_42 (Q : xQ) (K20 : xK) (K42 : xK) : xK := x_lload 5 <| x_c (.long 0) <| x_lcmp <| x_if_le (x_vret Q) <| x_aload 0 <| x_c (.long 48) <| x_lload 3 <| x_lload 5 <| x_ldiv <| x_c (.long 10) <| x_lrem <| x_ladd <| x_l2i <| x_callv 13 C_X14_put 2 0 0 <| x_lload 5 <| x_c (.long 10) <| x_ldiv <| x_lstore 5 <| K42
def b_X14_putNumber_0 (Q : xQ) (K20 : xK) (K42 : xK) : xK := x_lload 1 <| x_lstore 3 <| x_lload 3 <| x_c (.long 0) <| x_lcmp <| x_if_ge ((b_X14_putNumber_17 Q K20 K42)) <| x_aload 0 <| x_c (.int 45) <| x_callv 13 C_X14_put 2 0 0 <| x_lload 3 <| x_lneg <| x_lstore 3 <| (b_X14_putNumber_17 Q K20 K42)
theorem s_X14_putNumber_17 (G : xG) (l : Launch) (Q : xQ) (K20 : xK) (K42 : xK) (h20 : xW G l m_X14_putNumber xX0 (xPm G Q r_X14_putNumber) 20 K20) (h42 : xW G l m_X14_putNumber xX0 (xPm G Q r_X14_putNumber) 42 K42) : xW G l m_X14_putNumber xX0 (xPm G Q r_X14_putNumber) 17 (b_X14_putNumber_17 Q K20 K42) := xo_lconst (pc := 17) dX14_putNumber_17 (by decide) <| xo_lstore (pc := 18) (i := 5) dX14_putNumber_18 (by decide) <| h20
theorem s_X14_putNumber_20 (G : xG) (l : Launch) (Q : xQ) (K20 : xK) (K42 : xK) (h20 : xW G l m_X14_putNumber xX0 (xPm G Q r_X14_putNumber) 20 K20) (h42 : xW G l m_X14_putNumber xX0 (xPm G Q r_X14_putNumber) 42 K42) : xW G l m_X14_putNumber xX0 (xPm G Q r_X14_putNumber) 20 (b_X14_putNumber_20 Q K20 K42) := xo_lload_n (pc := 20) (i := 3) dX14_putNumber_20 rfl <| xo_lload (pc := 21) (i := 5) dX14_putNumber_21 <| xo_ldiv (pc := 23) dX14_putNumber_23 <| xo_ldc2_w (pc := 24) dX14_putNumber_24 kw1770 <| xo_lcmp (pc := 27) dX14_putNumber_27 <| xo_if_le (pc := 28) (tgt := 42) dX14_putNumber_28 (by decide) (h42) <| xo_ldc2_w (pc := 31) dX14_putNumber_31 kw1771 <| xo_lload (pc := 34) (i := 5) dX14_putNumber_34 <| xo_lmul (pc := 36) dX14_putNumber_36 <| xo_lstore (pc := 37) (i := 5) dX14_putNumber_37 (by decide) <| xo_goto (pc := 39) (tgt := 20) dX14_putNumber_39 (by decide) <| h20
theorem s_X14_putNumber_42 (G : xG) (l : Launch) (Q : xQ) (K20 : xK) (K42 : xK) (h20 : xW G l m_X14_putNumber xX0 (xPm G Q r_X14_putNumber) 20 K20) (h42 : xW G l m_X14_putNumber xX0 (xPm G Q r_X14_putNumber) 42 K42) : xW G l m_X14_putNumber xX0 (xPm G Q r_X14_putNumber) 42 (b_X14_putNumber_42 Q K20 K42) := xo_lload (pc := 42) (i := 5) dX14_putNumber_42 <| xo_lconst (pc := 44) dX14_putNumber_44 (by decide) <| xo_lcmp (pc := 45) dX14_putNumber_45 <| xo_if_le (pc := 46) (tgt := 77) dX14_putNumber_46 (by decide) (xo_vret (pc := 77) rfl dX14_putNumber_77) <| xo_aload_n (pc := 49) (i := 0) dX14_putNumber_49 rfl <| xo_ldc2_w (pc := 50) dX14_putNumber_50 kw1772 <| xo_lload_n (pc := 53) (i := 3) dX14_putNumber_53 rfl <| xo_lload (pc := 54) (i := 5) dX14_putNumber_54 <| xo_ldiv (pc := 56) dX14_putNumber_56 <| xo_ldc2_w (pc := 57) dX14_putNumber_57 kw1771 <| xo_lrem (pc := 60) dX14_putNumber_60 <| xo_ladd (pc := 61) dX14_putNumber_61 <| xo_l2i (pc := 62) dX14_putNumber_62 <| xo_callV (pc := 63) (np := 1) (ci := 13) rfl (cM_X14_put G l) dX14_putNumber_63 kw1747 kw1744 kw1746 ks99 kw13 (by decide +kernel) (by decide) <| xo_lload (pc := 66) (i := 5) dX14_putNumber_66 <| xo_ldc2_w (pc := 68) dX14_putNumber_68 kw1771 <| xo_ldiv (pc := 71) dX14_putNumber_71 <| xo_lstore (pc := 72) (i := 5) dX14_putNumber_72 (by decide) <| xo_goto (pc := 74) (tgt := 42) dX14_putNumber_74 (by decide) <| h42
theorem s_X14_putNumber_0 (G : xG) (l : Launch) (Q : xQ) (K20 : xK) (K42 : xK) (h20 : xW G l m_X14_putNumber xX0 (xPm G Q r_X14_putNumber) 20 K20) (h42 : xW G l m_X14_putNumber xX0 (xPm G Q r_X14_putNumber) 42 K42) : xW G l m_X14_putNumber xX0 (xPm G Q r_X14_putNumber) 0 (b_X14_putNumber_0 Q K20 K42) := xo_lload_n (pc := 0) (i := 1) dX14_putNumber_0 rfl <| xo_lstore_n (pc := 1) (i := 3) dX14_putNumber_1 rfl (by decide) <| xo_lload_n (pc := 2) (i := 3) dX14_putNumber_2 rfl <| xo_lconst (pc := 3) dX14_putNumber_3 (by decide) <| xo_lcmp (pc := 4) dX14_putNumber_4 <| xo_if_ge (pc := 5) (tgt := 17) dX14_putNumber_5 (by decide) ((s_X14_putNumber_17 G l Q K20 K42 h20 h42)) <| xo_aload_n (pc := 8) (i := 0) dX14_putNumber_8 rfl <| xo_bipush (pc := 9) dX14_putNumber_9 (by decide) <| xo_callV (pc := 11) (np := 1) (ci := 13) rfl (cM_X14_put G l) dX14_putNumber_11 kw1747 kw1744 kw1746 ks99 kw13 (by decide +kernel) (by decide) <| xo_lload_n (pc := 14) (i := 3) dX14_putNumber_14 rfl <| xo_lneg (pc := 15) dX14_putNumber_15 <| xo_lstore_n (pc := 16) (i := 3) dX14_putNumber_16 rfl (by decide) <| (s_X14_putNumber_17 G l Q K20 K42 h20 h42)

def C_X14_putNumber : xC := fun av S Q => ∃ (M : Nat) (s : Nat → Value) (lo hi : Int) (nn ls : Bool) (n : Nat) (cs : Nat → vC) (os : Nat) (o : Nat → Nat) (l : List Nat) (z : Int), av = [.ref M, .long (lZ z)] ∧ -9999 ≤ z ∧ z ≤ 9999 ∧ wS S.1 M s lo hi nn ls n cs os o l ∧ os + l.length + 5 < 200 ∧ ∀ h', fo h' S.1 M → wS h' M s lo hi nn ls n cs os o (l ++ nD z) → Q none (h', S.2)
def cn_X14_putNumber : Nat × Nat × Nat → List (Nat × Value) := fun v => [(0, .ref v.1), (3, .long (lN v.2.1)), (5, .long (lN v.2.2))]
def I_X14_putNumber42 (Q : xQ) : Nat → Nat × Nat × Nat → xS → Prop := fun m w S => match w with
  | (M, v, U) => (U = 0 ∧ m = 0 ∧ Q none S) ∨ ∃ (s : Nat → Value) (lo hi : Int) (nn ls : Bool) (n : Nat) (cs : Nat → vC) (os : Nat) (o : Nat → Nat) (l : List Nat) (j : Nat), U = 10 ^ j ∧ m = j + 1 ∧ j ≤ 3 ∧ v ≤ 9999 ∧ os + l.length + j + 1 < 200 ∧ wS S.1 M s lo hi nn ls n cs os o l ∧ ∀ h', fo h' S.1 M → wS h' M s lo hi nn ls n cs os o (l ++ dgL v j) → Q none (h', S.2)
def I_X14_putNumber20 (Q : xQ) : Nat → Nat × Nat × Nat → xS → Prop := fun m w S => match w with
  | (M, v, U) => ∃ (s : Nat → Value) (lo hi : Int) (nn ls : Bool) (n : Nat) (cs : Nat → vC) (os : Nat) (o : Nat → Nat) (l : List Nat) (j : Nat), U = 10 ^ j ∧ m = kD v - j ∧ j ≤ kD v ∧ v ≤ 9999 ∧ os + l.length + 4 < 200 ∧ wS S.1 M s lo hi nn ls n cs os o l ∧ ∀ h', fo h' S.1 M → wS h' M s lo hi nn ls n cs os o (l ++ dgL v (kD v)) → Q none (h', S.2)
theorem kD_3 (v : Nat) : kD v ≤ 3 := by
  unfold kD
  repeat' split
  all_goals decide
theorem kD_st {v j : Nat} (hv : v ≤ 9999) (hj : j ≤ kD v) : v / 10 ^ j ≤ 9 ↔ j = kD v := by
  have h3 := kD_3 v
  have e : (v < 10 → kD v = 0) ∧ (10 ≤ v → v < 100 → kD v = 1) ∧ (100 ≤ v → v < 1000 → kD v = 2) ∧ (1000 ≤ v → kD v = 3) := by
    unfold kD
    refine ⟨fun a => if_pos a, fun a b => ?_, fun a b => ?_, fun a => ?_⟩
    · rw [if_neg (by omega), if_pos b]
    · rw [if_neg (by omega), if_neg (by omega), if_pos b]
    · rw [if_neg (by omega), if_neg (by omega), if_neg (by omega)]
  rcases (show j = 0 ∨ j = 1 ∨ j = 2 ∨ j = 3 by omega) with rfl | rfl | rfl | rfl <;> omega
theorem p10_le {j : Nat} (h : j ≤ 3) : (10 : Nat) ^ j ≤ 1000 := p10_3 h
set_option maxHeartbeats 1000000 in
theorem cM_X14_putNumber (G : xG) (l : Launch) : xM G l yX14_putNumber cX14_putNumber 7 none r_X14_putNumber C_X14_putNumber := by
  have L2 : ∀ Q K20, xW G l m_X14_putNumber xX0 (xPm G Q r_X14_putNumber) 20 K20 → xW G l m_X14_putNumber xX0 (xPm G Q r_X14_putNumber) 42 (xInv cn_X14_putNumber (I_X14_putNumber42 Q)) := by
    intro Q K20 h20
    refine xW.lp (b_X14_putNumber_42 Q K20) (fun K hK => s_X14_putNumber_42 G l Q K20 K h20 hK) ?_
    rintro m ⟨M, v, U⟩ ⟨h, S2⟩ hI
    have c1 : cn_X14_putNumber (M, v, U) = [(0, .ref M), (3, .long (lN v)), (5, .long (lN U))] := rfl
    rw [c1]
    rcases hI with ⟨rfl, rfl, hQ⟩ | ⟨s, lo, hi, nn, ls, n, cs, os, o, l', j, rfl, rfl, hj, hv, hl, w, hQ⟩
    · have z : (lN 0 ≤ 0) = True := eq_true (by decide)
      simp only [q_c, x_iload, x_lload, x_aload, q_istore, q_lstore, q_astore, q_astore2, x_iinc, q_iadd, q_isub, q_imul, q_iand, q_ior, q_ixor, q_ladd, q_lsub, q_lmul, q_land, q_lor, q_lxor, q_idiv, q_irem, q_ldiv, q_lrem, q_ineg, q_lneg, q_ishl, q_ishr, q_iushr, q_lshl, q_lshr, q_lushr, q_i2l, q_l2i, q_i2b, q_i2c, q_lcmp, q_if_eq, q_if_ne, q_if_lt, q_if_ge, q_if_gt, q_if_le, q_icmp_eq, q_icmp_ne, q_icmp_lt, q_icmp_ge, q_icmp_gt, q_icmp_le, q_dup, q_pop, q_dup_x1, q_dup2, x_iret, x_zret, x_lret, x_aret, x_vret, x_call, x_callv, x_calli, x_oinit, x_mmax, x_mmin, x_mabs, x_mmaxL, x_mminL, x_mabsL, lg_cmp_ge, lg_cmp_le, lg_cmp_gt, lg_cmp_lt, lg_cmp_eq, xlk, q_xs1, q_xs2, lv_args, Value.category, List.filter_cons, List.filter_nil, Nat.reduceAdd, Nat.reduceBEq, Nat.reduceEqDiff, Nat.reduceSub, Nat.sub_zero, beq_self_eq_true, Bool.not_true, Bool.not_false, Bool.and_true, Bool.and_false, Bool.true_and, Bool.false_and, reduceIte, reduceCtorEq, Bool.false_eq_true, Nat.one_ne_zero, Nat.zero_ne_one, Nat.zero_add, Option.toList_some, Option.toList_none, List.nil_append, List.cons_append, List.take_succ_cons, List.take_zero, List.take_nil, List.drop_succ_cons, List.drop_zero, List.length_cons, List.length_nil, List.reverse_cons, List.reverse_nil, List.head?_cons, List.map_cons, List.map_nil, List.sum_cons, List.sum_nil, true_and, and_true, List.getElem?_cons_zero, List.getElem?_cons_succ, Prod.eta, x_iast, x_bald, x_bast, x_last, x_alen, xup_s, xup_a1, xup_1a, xup_uu, nr_i, nr_l, nr_o, nr_a, ft_i, ft_l, ft_o, ft_a, Nat.reduceLT, i_cl0, i_cl1, i_n1, i_m1, List.set_cons_zero, List.set_cons_succ, Nat.reduceLeDiff, Nat.le_refl, Nat.zero_le, Nat.add_zero, x_no, x_ifnull, x_ifnonnull, x_acmp_eq, x_acmp_ne, x_swl, x_tsw, x_castC, true_or, or_true, nr_z, ft_z, nr_z0, nr_z1, ft_z0, ft_z1, nr_on, nr_an, ft_on, ft_an, b_X14_putNumber_42, z, true_implies, not_true_eq_false, false_implies]
      exact hQ
    · dsimp only at *
      have pj := p10_le hj
      have pp : 0 < 10 ^ j := Nat.pow_pos (by decide)
      have z : (lN (10 ^ j) ≤ 0) = False := eq_false (fun y => absurd ((pk_lLE (a := 10 ^ j) (b := 0) (by omega) (by decide)).mp y) (by omega))
      have nz : (lN (10 ^ j) = 0) = False := eq_false (fun y => absurd ((pk_lEQ (a := 10 ^ j) (b := 0) (by omega) (by decide)).mp y) (by omega))
      have nt : ((10 : Int64) = 0) = False := eq_false (by decide)
      have d1 : lN v / lN (10 ^ j) = lN (v / 10 ^ j) := pk_lDiv (by omega) pp (by omega)
      have vd : v / 10 ^ j ≤ 9999 := Nat.le_trans (Nat.div_le_self _ _) hv
      have d2 : lN (v / 10 ^ j) - lN (v / 10 ^ j) / 10 * 10 = lN (v / 10 ^ j % 10) := pk_lRem (b := 10) (by omega) (by decide) (by decide)
      have d3 : (48 : Int64) + lN (v / 10 ^ j % 10) = lN (48 + v / 10 ^ j % 10) := lN_add 48 _
      have d4 : lN (10 ^ j) / 10 = lN (10 ^ j / 10) := pk_lDiv (b := 10) (by omega) (by decide) (by decide)
      generalize hK : xInvL cn_X14_putNumber (I_X14_putNumber42 Q) (j + 1) = K
      simp only [q_c, x_iload, x_lload, x_aload, q_istore, q_lstore, q_astore, q_astore2, x_iinc, q_iadd, q_isub, q_imul, q_iand, q_ior, q_ixor, q_ladd, q_lsub, q_lmul, q_land, q_lor, q_lxor, q_idiv, q_irem, q_ldiv, q_lrem, q_ineg, q_lneg, q_ishl, q_ishr, q_iushr, q_lshl, q_lshr, q_lushr, q_i2l, q_l2i, q_i2b, q_i2c, q_lcmp, q_if_eq, q_if_ne, q_if_lt, q_if_ge, q_if_gt, q_if_le, q_icmp_eq, q_icmp_ne, q_icmp_lt, q_icmp_ge, q_icmp_gt, q_icmp_le, q_dup, q_pop, q_dup_x1, q_dup2, x_iret, x_zret, x_lret, x_aret, x_vret, x_call, x_callv, x_calli, x_oinit, x_mmax, x_mmin, x_mabs, x_mmaxL, x_mminL, x_mabsL, lg_cmp_ge, lg_cmp_le, lg_cmp_gt, lg_cmp_lt, lg_cmp_eq, xlk, q_xs1, q_xs2, lv_args, Value.category, List.filter_cons, List.filter_nil, Nat.reduceAdd, Nat.reduceBEq, Nat.reduceEqDiff, Nat.reduceSub, Nat.sub_zero, beq_self_eq_true, Bool.not_true, Bool.not_false, Bool.and_true, Bool.and_false, Bool.true_and, Bool.false_and, reduceIte, reduceCtorEq, Bool.false_eq_true, Nat.one_ne_zero, Nat.zero_ne_one, Nat.zero_add, Option.toList_some, Option.toList_none, List.nil_append, List.cons_append, List.take_succ_cons, List.take_zero, List.take_nil, List.drop_succ_cons, List.drop_zero, List.length_cons, List.length_nil, List.reverse_cons, List.reverse_nil, List.head?_cons, List.map_cons, List.map_nil, List.sum_cons, List.sum_nil, true_and, and_true, List.getElem?_cons_zero, List.getElem?_cons_succ, Prod.eta, x_iast, x_bald, x_bast, x_last, x_alen, xup_s, xup_a1, xup_1a, xup_uu, nr_i, nr_l, nr_o, nr_a, ft_i, ft_l, ft_o, ft_a, Nat.reduceLT, i_cl0, i_cl1, i_n1, i_m1, List.set_cons_zero, List.set_cons_succ, Nat.reduceLeDiff, Nat.le_refl, Nat.zero_le, Nat.add_zero, x_no, x_ifnull, x_ifnonnull, x_acmp_eq, x_acmp_ne, x_swl, x_tsw, x_castC, true_or, or_true, nr_z, ft_z, nr_z0, nr_z1, ft_z0, ft_z1, nr_on, nr_an, ft_on, ft_an, b_X14_putNumber_42, z, nz, nt, true_implies, not_false_eq_true, false_implies, d1, d2, d3, lN_l2i]
      refine kk_put w (by omega) (by omega) (fun h2 f2 w2 => ?_)
      simp only [q_c, x_iload, x_lload, x_aload, q_istore, q_lstore, q_astore, q_astore2, x_iinc, q_iadd, q_isub, q_imul, q_iand, q_ior, q_ixor, q_ladd, q_lsub, q_lmul, q_land, q_lor, q_lxor, q_idiv, q_irem, q_ldiv, q_lrem, q_ineg, q_lneg, q_ishl, q_ishr, q_iushr, q_lshl, q_lshr, q_lushr, q_i2l, q_l2i, q_i2b, q_i2c, q_lcmp, q_if_eq, q_if_ne, q_if_lt, q_if_ge, q_if_gt, q_if_le, q_icmp_eq, q_icmp_ne, q_icmp_lt, q_icmp_ge, q_icmp_gt, q_icmp_le, q_dup, q_pop, q_dup_x1, q_dup2, x_iret, x_zret, x_lret, x_aret, x_vret, x_call, x_callv, x_calli, x_oinit, x_mmax, x_mmin, x_mabs, x_mmaxL, x_mminL, x_mabsL, lg_cmp_ge, lg_cmp_le, lg_cmp_gt, lg_cmp_lt, lg_cmp_eq, xlk, q_xs1, q_xs2, lv_args, Value.category, List.filter_cons, List.filter_nil, Nat.reduceAdd, Nat.reduceBEq, Nat.reduceEqDiff, Nat.reduceSub, Nat.sub_zero, beq_self_eq_true, Bool.not_true, Bool.not_false, Bool.and_true, Bool.and_false, Bool.true_and, Bool.false_and, reduceIte, reduceCtorEq, Bool.false_eq_true, Nat.one_ne_zero, Nat.zero_ne_one, Nat.zero_add, Option.toList_some, Option.toList_none, List.nil_append, List.cons_append, List.take_succ_cons, List.take_zero, List.take_nil, List.drop_succ_cons, List.drop_zero, List.length_cons, List.length_nil, List.reverse_cons, List.reverse_nil, List.head?_cons, List.map_cons, List.map_nil, List.sum_cons, List.sum_nil, true_and, and_true, List.getElem?_cons_zero, List.getElem?_cons_succ, Prod.eta, x_iast, x_bald, x_bast, x_last, x_alen, xup_s, xup_a1, xup_1a, xup_uu, nr_i, nr_l, nr_o, nr_a, ft_i, ft_l, ft_o, ft_a, Nat.reduceLT, i_cl0, i_cl1, i_n1, i_m1, List.set_cons_zero, List.set_cons_succ, Nat.reduceLeDiff, Nat.le_refl, Nat.zero_le, Nat.add_zero, x_no, x_ifnull, x_ifnonnull, x_acmp_eq, x_acmp_ne, x_swl, x_tsw, x_castC, true_or, or_true, nr_z, ft_z, nr_z0, nr_z1, ft_z0, ft_z1, nr_on, nr_an, ft_on, ft_an, d4, nt, not_false_eq_true]
      rw [← hK]
      cases j with
      | zero =>
        refine xInvL.mk 0 (M, v, 10 ^ 0 / 10) (by omega) ⟨rfl, rfl, rfl, trivial⟩ (Or.inl ⟨by decide, rfl, ?_⟩)
        refine hQ h2 f2 ?_
        rw [Nat.pow_zero, Nat.div_one] at w2
        exact w2
      | succ j =>
        refine xInvL.mk (j + 1) (M, v, 10 ^ (j + 1) / 10) (by omega) ⟨rfl, rfl, rfl, trivial⟩ (Or.inr ⟨s, lo, hi, nn, ls, n, cs, os, o, _, j, by rw [Nat.pow_succ]; omega, rfl, by omega, hv, ?_, w2, fun h' f' w' => hQ h' (f'.tr f2) ?_⟩)
        · rw [List.length_append, List.length_singleton]
          omega
        · rw [List.append_assoc] at w'
          exact w'
  have L1 : ∀ Q, xW G l m_X14_putNumber xX0 (xPm G Q r_X14_putNumber) 20 (xInv cn_X14_putNumber (I_X14_putNumber20 Q)) := by
    intro Q
    refine xW.lp (fun K => b_X14_putNumber_20 Q K (xInv cn_X14_putNumber (I_X14_putNumber42 Q))) (fun K hK => s_X14_putNumber_20 G l Q K _ hK (L2 Q K hK)) ?_
    rintro m ⟨M, v, U⟩ ⟨h, S2⟩ ⟨s, lo, hi, nn, ls, n, cs, os, o, l', j, rfl, rfl, hj, hv, hl, w, hQ⟩
    dsimp only at *
    have c1 : cn_X14_putNumber (M, v, 10 ^ j) = [(0, .ref M), (3, .long (lN v)), (5, .long (lN (10 ^ j)))] := rfl
    rw [c1]
    have k3 := kD_3 v
    have pj := p10_le (j := j) (by omega)
    have pp : 0 < 10 ^ j := Nat.pow_pos (by decide)
    have nz : (lN (10 ^ j) = 0) = False := eq_false (fun y => absurd ((pk_lEQ (a := 10 ^ j) (b := 0) (by omega) (by decide)).mp y) (by omega))
    have d1 : lN v / lN (10 ^ j) = lN (v / 10 ^ j) := pk_lDiv (by omega) pp (by omega)
    have vd : v / 10 ^ j ≤ 9999 := Nat.le_trans (Nat.div_le_self _ _) hv
    have q9 : lN (v / 10 ^ j) ≤ 9 ↔ v / 10 ^ j ≤ 9 := pk_lLE (b := 9) (by omega) (by decide)
    have ks := kD_st hv hj
    have m10 : (10 : Int64) * lN (10 ^ j) = lN (10 ^ (j + 1)) := by
      rw [Nat.pow_succ, Nat.mul_comm]
      exact (Int64.ofNat_mul 10 (10 ^ j)).symm
    generalize hK : xInvL cn_X14_putNumber (I_X14_putNumber20 Q) (kD v - j) = K
    generalize hK2 : xInv cn_X14_putNumber (I_X14_putNumber42 Q) = K2
    simp only [q_c, x_iload, x_lload, x_aload, q_istore, q_lstore, q_astore, q_astore2, x_iinc, q_iadd, q_isub, q_imul, q_iand, q_ior, q_ixor, q_ladd, q_lsub, q_lmul, q_land, q_lor, q_lxor, q_idiv, q_irem, q_ldiv, q_lrem, q_ineg, q_lneg, q_ishl, q_ishr, q_iushr, q_lshl, q_lshr, q_lushr, q_i2l, q_l2i, q_i2b, q_i2c, q_lcmp, q_if_eq, q_if_ne, q_if_lt, q_if_ge, q_if_gt, q_if_le, q_icmp_eq, q_icmp_ne, q_icmp_lt, q_icmp_ge, q_icmp_gt, q_icmp_le, q_dup, q_pop, q_dup_x1, q_dup2, x_iret, x_zret, x_lret, x_aret, x_vret, x_call, x_callv, x_calli, x_oinit, x_mmax, x_mmin, x_mabs, x_mmaxL, x_mminL, x_mabsL, lg_cmp_ge, lg_cmp_le, lg_cmp_gt, lg_cmp_lt, lg_cmp_eq, xlk, q_xs1, q_xs2, lv_args, Value.category, List.filter_cons, List.filter_nil, Nat.reduceAdd, Nat.reduceBEq, Nat.reduceEqDiff, Nat.reduceSub, Nat.sub_zero, beq_self_eq_true, Bool.not_true, Bool.not_false, Bool.and_true, Bool.and_false, Bool.true_and, Bool.false_and, reduceIte, reduceCtorEq, Bool.false_eq_true, Nat.one_ne_zero, Nat.zero_ne_one, Nat.zero_add, Option.toList_some, Option.toList_none, List.nil_append, List.cons_append, List.take_succ_cons, List.take_zero, List.take_nil, List.drop_succ_cons, List.drop_zero, List.length_cons, List.length_nil, List.reverse_cons, List.reverse_nil, List.head?_cons, List.map_cons, List.map_nil, List.sum_cons, List.sum_nil, true_and, and_true, List.getElem?_cons_zero, List.getElem?_cons_succ, Prod.eta, x_iast, x_bald, x_bast, x_last, x_alen, xup_s, xup_a1, xup_1a, xup_uu, nr_i, nr_l, nr_o, nr_a, ft_i, ft_l, ft_o, ft_a, Nat.reduceLT, i_cl0, i_cl1, i_n1, i_m1, List.set_cons_zero, List.set_cons_succ, Nat.reduceLeDiff, Nat.le_refl, Nat.zero_le, Nat.add_zero, x_no, x_ifnull, x_ifnonnull, x_acmp_eq, x_acmp_ne, x_swl, x_tsw, x_castC, true_or, or_true, nr_z, ft_z, nr_z0, nr_z1, ft_z0, ft_z1, nr_on, nr_an, ft_on, ft_an, b_X14_putNumber_20, nz, not_false_eq_true, d1, q9, m10, ks]
    refine ⟨fun a => ?_, fun a => ?_⟩
    · rw [← hK2]
      subst a
      exact xInv.mk (kD v + 1) (M, v, 10 ^ kD v) ⟨rfl, rfl, rfl, trivial⟩ (Or.inr ⟨s, lo, hi, nn, ls, n, cs, os, o, l', kD v, rfl, rfl, k3, hv, by omega, w, hQ⟩)
    · rw [← hK]
      exact xInvL.mk (kD v - (j + 1)) (M, v, 10 ^ (j + 1)) (by omega) ⟨rfl, rfl, rfl, trivial⟩ ⟨s, lo, hi, nn, ls, n, cs, os, o, l', j + 1, rfl, rfl, by omega, hv, hl, w, hQ⟩
  refine xM_of (fun Q => b_X14_putNumber_0 Q (xInv cn_X14_putNumber (I_X14_putNumber20 Q)) (xInv cn_X14_putNumber (I_X14_putNumber42 Q))) RX14 false (fun Q => s_X14_putNumber_0 G l Q _ _ (L1 Q) (L2 Q _ (L1 Q))) (by decide) rfl (by decide) ?_
  rintro av ⟨h, S2⟩ Q ⟨M, s, lo, hi, nn, ls, n, cs, os, o, l', z, rfl, z1, z2, w, hl, hQ⟩
  dsimp only at *
  refine ⟨Nat.le_of_ble_eq_true rfl, ?_⟩
  generalize hK : xInv cn_X14_putNumber (I_X14_putNumber20 Q) = K
  generalize xInv cn_X14_putNumber (I_X14_putNumber42 Q) = K2
  have zo : oF z := ⟨by omega, by omega⟩
  have go : ∀ h2 l2, fo h2 h M → wS h2 M s lo hi nn ls n cs os o l2 → os + l2.length + 4 < 200 → l2 ++ dgL z.natAbs (kD z.natAbs) = l' ++ nD z → b_X14_putNumber_17 Q K K2 [(3, .long (lN z.natAbs)), (0, .ref M), (1, .long (lZ z))] [] (h2, S2) := by
    intro h2 l2 f2 w2 hl2 he
    simp only [q_c, x_iload, x_lload, x_aload, q_istore, q_lstore, q_astore, q_astore2, x_iinc, q_iadd, q_isub, q_imul, q_iand, q_ior, q_ixor, q_ladd, q_lsub, q_lmul, q_land, q_lor, q_lxor, q_idiv, q_irem, q_ldiv, q_lrem, q_ineg, q_lneg, q_ishl, q_ishr, q_iushr, q_lshl, q_lshr, q_lushr, q_i2l, q_l2i, q_i2b, q_i2c, q_lcmp, q_if_eq, q_if_ne, q_if_lt, q_if_ge, q_if_gt, q_if_le, q_icmp_eq, q_icmp_ne, q_icmp_lt, q_icmp_ge, q_icmp_gt, q_icmp_le, q_dup, q_pop, q_dup_x1, q_dup2, x_iret, x_zret, x_lret, x_aret, x_vret, x_call, x_callv, x_calli, x_oinit, x_mmax, x_mmin, x_mabs, x_mmaxL, x_mminL, x_mabsL, lg_cmp_ge, lg_cmp_le, lg_cmp_gt, lg_cmp_lt, lg_cmp_eq, xlk, q_xs1, q_xs2, lv_args, Value.category, List.filter_cons, List.filter_nil, Nat.reduceAdd, Nat.reduceBEq, Nat.reduceEqDiff, Nat.reduceSub, Nat.sub_zero, beq_self_eq_true, Bool.not_true, Bool.not_false, Bool.and_true, Bool.and_false, Bool.true_and, Bool.false_and, reduceIte, reduceCtorEq, Bool.false_eq_true, Nat.one_ne_zero, Nat.zero_ne_one, Nat.zero_add, Option.toList_some, Option.toList_none, List.nil_append, List.cons_append, List.take_succ_cons, List.take_zero, List.take_nil, List.drop_succ_cons, List.drop_zero, List.length_cons, List.length_nil, List.reverse_cons, List.reverse_nil, List.head?_cons, List.map_cons, List.map_nil, List.sum_cons, List.sum_nil, true_and, and_true, List.getElem?_cons_zero, List.getElem?_cons_succ, Prod.eta, x_iast, x_bald, x_bast, x_last, x_alen, xup_s, xup_a1, xup_1a, xup_uu, nr_i, nr_l, nr_o, nr_a, ft_i, ft_l, ft_o, ft_a, Nat.reduceLT, i_cl0, i_cl1, i_n1, i_m1, List.set_cons_zero, List.set_cons_succ, Nat.reduceLeDiff, Nat.le_refl, Nat.zero_le, Nat.add_zero, x_no, x_ifnull, x_ifnonnull, x_acmp_eq, x_acmp_ne, x_swl, x_tsw, x_castC, true_or, or_true, nr_z, ft_z, nr_z0, nr_z1, ft_z0, ft_z1, nr_on, nr_an, ft_on, ft_an, b_X14_putNumber_17]
    rw [← hK]
    exact xInv.mk (kD z.natAbs) (M, z.natAbs, 1) ⟨rfl, rfl, rfl, trivial⟩ ⟨s, lo, hi, nn, ls, n, cs, os, o, l2, 0, rfl, rfl, by omega, by omega, hl2, w2, fun h' f' w' => hQ h' (f'.tr f2) (by rw [← he]; exact w')⟩
  unfold b_X14_putNumber_0
  generalize b_X14_putNumber_17 Q K K2 = J at *
  simp only [q_c, x_iload, x_lload, x_aload, q_istore, q_lstore, q_astore, q_astore2, x_iinc, q_iadd, q_isub, q_imul, q_iand, q_ior, q_ixor, q_ladd, q_lsub, q_lmul, q_land, q_lor, q_lxor, q_idiv, q_irem, q_ldiv, q_lrem, q_ineg, q_lneg, q_ishl, q_ishr, q_iushr, q_lshl, q_lshr, q_lushr, q_i2l, q_l2i, q_i2b, q_i2c, q_lcmp, q_if_eq, q_if_ne, q_if_lt, q_if_ge, q_if_gt, q_if_le, q_icmp_eq, q_icmp_ne, q_icmp_lt, q_icmp_ge, q_icmp_gt, q_icmp_le, q_dup, q_pop, q_dup_x1, q_dup2, x_iret, x_zret, x_lret, x_aret, x_vret, x_call, x_callv, x_calli, x_oinit, x_mmax, x_mmin, x_mabs, x_mmaxL, x_mminL, x_mabsL, lg_cmp_ge, lg_cmp_le, lg_cmp_gt, lg_cmp_lt, lg_cmp_eq, xlk, q_xs1, q_xs2, lv_args, Value.category, List.filter_cons, List.filter_nil, Nat.reduceAdd, Nat.reduceBEq, Nat.reduceEqDiff, Nat.reduceSub, Nat.sub_zero, beq_self_eq_true, Bool.not_true, Bool.not_false, Bool.and_true, Bool.and_false, Bool.true_and, Bool.false_and, reduceIte, reduceCtorEq, Bool.false_eq_true, Nat.one_ne_zero, Nat.zero_ne_one, Nat.zero_add, Option.toList_some, Option.toList_none, List.nil_append, List.cons_append, List.take_succ_cons, List.take_zero, List.take_nil, List.drop_succ_cons, List.drop_zero, List.length_cons, List.length_nil, List.reverse_cons, List.reverse_nil, List.head?_cons, List.map_cons, List.map_nil, List.sum_cons, List.sum_nil, true_and, and_true, List.getElem?_cons_zero, List.getElem?_cons_succ, Prod.eta, x_iast, x_bald, x_bast, x_last, x_alen, xup_s, xup_a1, xup_1a, xup_uu, nr_i, nr_l, nr_o, nr_a, ft_i, ft_l, ft_o, ft_a, Nat.reduceLT, i_cl0, i_cl1, i_n1, i_m1, List.set_cons_zero, List.set_cons_succ, Nat.reduceLeDiff, Nat.le_refl, Nat.zero_le, Nat.add_zero, x_no, x_ifnull, x_ifnonnull, x_acmp_eq, x_acmp_ne, x_swl, x_tsw, x_castC, true_or, or_true, nr_z, ft_z, nr_z0, nr_z1, ft_z0, ft_z1, nr_on, nr_an, ft_on, ft_an, lz_ge0 zo, lZ_neg]
  refine ⟨fun a => ?_, fun a => ?_⟩
  · rw [show lZ z = lN z.natAbs by rw [lZ_pos a]; congr 1; omega] at *
    refine go h l' fo.rf w (by omega) ?_
    unfold nD
    rw [if_neg (by omega), List.nil_append]
  · refine kk_put (b := 45) w (by decide) (by omega) (fun h2 f2 w2 => ?_)
    simp only [q_c, x_iload, x_lload, x_aload, q_istore, q_lstore, q_astore, q_astore2, x_iinc, q_iadd, q_isub, q_imul, q_iand, q_ior, q_ixor, q_ladd, q_lsub, q_lmul, q_land, q_lor, q_lxor, q_idiv, q_irem, q_ldiv, q_lrem, q_ineg, q_lneg, q_ishl, q_ishr, q_iushr, q_lshl, q_lshr, q_lushr, q_i2l, q_l2i, q_i2b, q_i2c, q_lcmp, q_if_eq, q_if_ne, q_if_lt, q_if_ge, q_if_gt, q_if_le, q_icmp_eq, q_icmp_ne, q_icmp_lt, q_icmp_ge, q_icmp_gt, q_icmp_le, q_dup, q_pop, q_dup_x1, q_dup2, x_iret, x_zret, x_lret, x_aret, x_vret, x_call, x_callv, x_calli, x_oinit, x_mmax, x_mmin, x_mabs, x_mmaxL, x_mminL, x_mabsL, lg_cmp_ge, lg_cmp_le, lg_cmp_gt, lg_cmp_lt, lg_cmp_eq, xlk, q_xs1, q_xs2, lv_args, Value.category, List.filter_cons, List.filter_nil, Nat.reduceAdd, Nat.reduceBEq, Nat.reduceEqDiff, Nat.reduceSub, Nat.sub_zero, beq_self_eq_true, Bool.not_true, Bool.not_false, Bool.and_true, Bool.and_false, Bool.true_and, Bool.false_and, reduceIte, reduceCtorEq, Bool.false_eq_true, Nat.one_ne_zero, Nat.zero_ne_one, Nat.zero_add, Option.toList_some, Option.toList_none, List.nil_append, List.cons_append, List.take_succ_cons, List.take_zero, List.take_nil, List.drop_succ_cons, List.drop_zero, List.length_cons, List.length_nil, List.reverse_cons, List.reverse_nil, List.head?_cons, List.map_cons, List.map_nil, List.sum_cons, List.sum_nil, true_and, and_true, List.getElem?_cons_zero, List.getElem?_cons_succ, Prod.eta, x_iast, x_bald, x_bast, x_last, x_alen, xup_s, xup_a1, xup_1a, xup_uu, nr_i, nr_l, nr_o, nr_a, ft_i, ft_l, ft_o, ft_a, Nat.reduceLT, i_cl0, i_cl1, i_n1, i_m1, List.set_cons_zero, List.set_cons_succ, Nat.reduceLeDiff, Nat.le_refl, Nat.zero_le, Nat.add_zero, x_no, x_ifnull, x_ifnonnull, x_acmp_eq, x_acmp_ne, x_swl, x_tsw, x_castC, true_or, or_true, nr_z, ft_z, nr_z0, nr_z1, ft_z0, ft_z1, nr_on, nr_an, ft_on, ft_an, lZ_neg]
    rw [show lZ (-z) = lN z.natAbs by rw [lZ_pos (by omega)]; congr 1; omega]
    refine go h2 _ f2 w2 (by rw [List.length_append, List.length_singleton]; omega) ?_
    unfold nD
    rw [if_pos (by omega), List.append_assoc]
