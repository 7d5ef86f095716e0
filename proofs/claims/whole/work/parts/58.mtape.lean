/-! the reference's other fields, its tape and its out -/
section MS
variable {h : xH} {M : Nat} {s : Nat → Value} {lo hi : Int} {nn ls : Bool} {n : Nat} {cs : Nat → vC} {k : xK} {lv : List (Nat × Value)} {r : List Value} {T : Nat × Nat × Nat} {i : Nat}
theorem ms.s6 (w : ms h M s lo hi nn ls n cs) : x_get 13 6 k lv (.ref M :: r) (h, T) = k lv (s 6 :: r) (h, T) := q_get w.1.M rfl
theorem ms.s7 (w : ms h M s lo hi nn ls n cs) : x_get 13 7 k lv (.ref M :: r) (h, T) = k lv (s 7 :: r) (h, T) := q_get w.1.M rfl
theorem ms.s9 (w : ms h M s lo hi nn ls n cs) : x_get 13 9 k lv (.ref M :: r) (h, T) = k lv (s 9 :: r) (h, T) := q_get w.1.M rfl
theorem ms.s15 (w : ms h M s lo hi nn ls n cs) : x_get 13 15 k lv (.ref M :: r) (h, T) = k lv (s 15 :: r) (h, T) := q_get w.1.M rfl
theorem ms.s23 (w : ms h M s lo hi nn ls n cs) : x_get 13 23 k lv (.ref M :: r) (h, T) = k lv (s 23 :: r) (h, T) := q_get w.1.M rfl
theorem ms.s24 (w : ms h M s lo hi nn ls n cs) : x_get 13 24 k lv (.ref M :: r) (h, T) = k lv (s 24 :: r) (h, T) := q_get w.1.M rfl
theorem ms.s25 (w : ms h M s lo hi nn ls n cs) : x_get 13 25 k lv (.ref M :: r) (h, T) = k lv (s 25 :: r) (h, T) := q_get w.1.M rfl
theorem ms.s26 (w : ms h M s lo hi nn ls n cs) : x_get 13 26 k lv (.ref M :: r) (h, T) = k lv (s 26 :: r) (h, T) := q_get w.1.M rfl
theorem ms.s8 (w : ms h M s lo hi nn ls n cs) : x_get 13 8 k lv (.ref M :: r) (h, T) = k lv (.ref (M + 20) :: r) (h, T) := q_get w.1.M rfl
theorem ms.s10 (w : ms h M s lo hi nn ls n cs) : x_get 13 10 k lv (.ref M :: r) (h, T) = k lv (.ref (M + 21) :: r) (h, T) := q_get w.1.M rfl
theorem ms.t6 {v : Int32} (w : ms h M s lo hi nn ls n cs) : x_put 13 6 .int k lv (.int v :: .ref M :: r) (h, T) = k lv r (xup h M (.inr (13, mF M (su s 6 (.int v)) lo hi nn ls)), T) := by
  (simp only [x_put, w.1.M, mF, nr_z, ft_z, nr_z0, nr_z1, ft_z0, ft_z1, nr_i, ft_i, List.length_cons, List.length_nil, Nat.reduceAdd, Nat.reduceLT, true_and, and_true, List.set_cons_succ, List.set_cons_zero]) <;> rfl
theorem ms.t9 {v : Int32} (w : ms h M s lo hi nn ls n cs) : x_put 13 9 .int k lv (.int v :: .ref M :: r) (h, T) = k lv r (xup h M (.inr (13, mF M (su s 9 (.int v)) lo hi nn ls)), T) := by
  (simp only [x_put, w.1.M, mF, nr_z, ft_z, nr_z0, nr_z1, ft_z0, ft_z1, nr_i, ft_i, List.length_cons, List.length_nil, Nat.reduceAdd, Nat.reduceLT, true_and, and_true, List.set_cons_succ, List.set_cons_zero]) <;> rfl
theorem ms.t15 {v : Int32} (w : ms h M s lo hi nn ls n cs) : x_put 13 15 .int k lv (.int v :: .ref M :: r) (h, T) = k lv r (xup h M (.inr (13, mF M (su s 15 (.int v)) lo hi nn ls)), T) := by
  (simp only [x_put, w.1.M, mF, nr_z, ft_z, nr_z0, nr_z1, ft_z0, ft_z1, nr_i, ft_i, List.length_cons, List.length_nil, Nat.reduceAdd, Nat.reduceLT, true_and, and_true, List.set_cons_succ, List.set_cons_zero]) <;> rfl
theorem ms.t23 {v : Int32} (w : ms h M s lo hi nn ls n cs) : x_put 13 23 .int k lv (.int v :: .ref M :: r) (h, T) = k lv r (xup h M (.inr (13, mF M (su s 23 (.int v)) lo hi nn ls)), T) := by
  (simp only [x_put, w.1.M, mF, nr_z, ft_z, nr_z0, nr_z1, ft_z0, ft_z1, nr_i, ft_i, List.length_cons, List.length_nil, Nat.reduceAdd, Nat.reduceLT, true_and, and_true, List.set_cons_succ, List.set_cons_zero]) <;> rfl
theorem ms.t24 {v : Int32} (w : ms h M s lo hi nn ls n cs) : x_put 13 24 .int k lv (.int v :: .ref M :: r) (h, T) = k lv r (xup h M (.inr (13, mF M (su s 24 (.int v)) lo hi nn ls)), T) := by
  (simp only [x_put, w.1.M, mF, nr_z, ft_z, nr_z0, nr_z1, ft_z0, ft_z1, nr_i, ft_i, List.length_cons, List.length_nil, Nat.reduceAdd, Nat.reduceLT, true_and, and_true, List.set_cons_succ, List.set_cons_zero]) <;> rfl
theorem ms.t7 {b : Bool} (w : ms h M s lo hi nn ls n cs) : x_put 13 7 .boolean k lv (.int (bI b) :: .ref M :: r) (h, T) = k lv r (xup h M (.inr (13, mF M (su s 7 (.int (bI b))) lo hi nn ls)), T) := by
  (simp only [x_put, w.1.M, mF, nr_z, ft_z, nr_z0, nr_z1, ft_z0, ft_z1, nr_i, ft_i, List.length_cons, List.length_nil, Nat.reduceAdd, Nat.reduceLT, true_and, and_true, List.set_cons_succ, List.set_cons_zero]) <;> rfl
theorem ms.t7a (w : ms h M s lo hi nn ls n cs) : x_put 13 7 .boolean k lv (.int 0 :: .ref M :: r) (h, T) = k lv r (xup h M (.inr (13, mF M (su s 7 (.int (bI false))) lo hi nn ls)), T) := by
  (simp only [x_put, w.1.M, mF, nr_z, ft_z, nr_z0, nr_z1, ft_z0, ft_z1, nr_i, ft_i, List.length_cons, List.length_nil, Nat.reduceAdd, Nat.reduceLT, true_and, and_true, List.set_cons_succ, List.set_cons_zero]) <;> rfl
theorem ms.t7b (w : ms h M s lo hi nn ls n cs) : x_put 13 7 .boolean k lv (.int 1 :: .ref M :: r) (h, T) = k lv r (xup h M (.inr (13, mF M (su s 7 (.int (bI true))) lo hi nn ls)), T) := by
  (simp only [x_put, w.1.M, mF, nr_z, ft_z, nr_z0, nr_z1, ft_z0, ft_z1, nr_i, ft_i, List.length_cons, List.length_nil, Nat.reduceAdd, Nat.reduceLT, true_and, and_true, List.set_cons_succ, List.set_cons_zero]) <;> rfl
theorem ms.t25 {b : Bool} (w : ms h M s lo hi nn ls n cs) : x_put 13 25 .boolean k lv (.int (bI b) :: .ref M :: r) (h, T) = k lv r (xup h M (.inr (13, mF M (su s 25 (.int (bI b))) lo hi nn ls)), T) := by
  (simp only [x_put, w.1.M, mF, nr_z, ft_z, nr_z0, nr_z1, ft_z0, ft_z1, nr_i, ft_i, List.length_cons, List.length_nil, Nat.reduceAdd, Nat.reduceLT, true_and, and_true, List.set_cons_succ, List.set_cons_zero]) <;> rfl
theorem ms.t25a (w : ms h M s lo hi nn ls n cs) : x_put 13 25 .boolean k lv (.int 0 :: .ref M :: r) (h, T) = k lv r (xup h M (.inr (13, mF M (su s 25 (.int (bI false))) lo hi nn ls)), T) := by
  (simp only [x_put, w.1.M, mF, nr_z, ft_z, nr_z0, nr_z1, ft_z0, ft_z1, nr_i, ft_i, List.length_cons, List.length_nil, Nat.reduceAdd, Nat.reduceLT, true_and, and_true, List.set_cons_succ, List.set_cons_zero]) <;> rfl
theorem ms.t25b (w : ms h M s lo hi nn ls n cs) : x_put 13 25 .boolean k lv (.int 1 :: .ref M :: r) (h, T) = k lv r (xup h M (.inr (13, mF M (su s 25 (.int (bI true))) lo hi nn ls)), T) := by
  (simp only [x_put, w.1.M, mF, nr_z, ft_z, nr_z0, nr_z1, ft_z0, ft_z1, nr_i, ft_i, List.length_cons, List.length_nil, Nat.reduceAdd, Nat.reduceLT, true_and, and_true, List.set_cons_succ, List.set_cons_zero]) <;> rfl
theorem ms.t26 {b : Bool} (w : ms h M s lo hi nn ls n cs) : x_put 13 26 .boolean k lv (.int (bI b) :: .ref M :: r) (h, T) = k lv r (xup h M (.inr (13, mF M (su s 26 (.int (bI b))) lo hi nn ls)), T) := by
  (simp only [x_put, w.1.M, mF, nr_z, ft_z, nr_z0, nr_z1, ft_z0, ft_z1, nr_i, ft_i, List.length_cons, List.length_nil, Nat.reduceAdd, Nat.reduceLT, true_and, and_true, List.set_cons_succ, List.set_cons_zero]) <;> rfl
theorem ms.t26a (w : ms h M s lo hi nn ls n cs) : x_put 13 26 .boolean k lv (.int 0 :: .ref M :: r) (h, T) = k lv r (xup h M (.inr (13, mF M (su s 26 (.int (bI false))) lo hi nn ls)), T) := by
  (simp only [x_put, w.1.M, mF, nr_z, ft_z, nr_z0, nr_z1, ft_z0, ft_z1, nr_i, ft_i, List.length_cons, List.length_nil, Nat.reduceAdd, Nat.reduceLT, true_and, and_true, List.set_cons_succ, List.set_cons_zero]) <;> rfl
theorem ms.t26b (w : ms h M s lo hi nn ls n cs) : x_put 13 26 .boolean k lv (.int 1 :: .ref M :: r) (h, T) = k lv r (xup h M (.inr (13, mF M (su s 26 (.int (bI true))) lo hi nn ls)), T) := by
  (simp only [x_put, w.1.M, mF, nr_z, ft_z, nr_z0, nr_z1, ft_z0, ft_z1, nr_i, ft_i, List.length_cons, List.length_nil, Nat.reduceAdd, Nat.reduceLT, true_and, and_true, List.set_cons_succ, List.set_cons_zero]) <;> rfl
theorem ms.sf {s' : Nat → Value} (w : ms h M s lo hi nn ls n cs) (e : s' 11 = s 11) : ms (xup h M (.inr (13, mF M s' lo hi nn ls))) M s' lo hi nn ls n cs := by
  obtain ⟨w1, w2, w3, w4, fl, fh, fm, cl, ch, cm, ca⟩ := w
  exact ⟨⟨xup_s, w1.2.1.off (off1 (r := M)) (by omega), w1.2.2.m (off1 (r := M)) (by omega)⟩, e.trans w2, w3, w4, fl, fh, fm, (xup_n (by omega)).trans cl, (xup_n (by omega)).trans ch, (xup_n (by omega)).trans cm, ca⟩
/-- something outside has changed -/
theorem ms.o {h' : xH} (w : ms h M s lo hi nn ls n cs) (o : ∀ q, (M ≤ q ∧ q < M + 20) ∨ (M + 22 ≤ q ∧ q < M + 45) → h' q = h q) : ms h' M s lo hi nn ls n cs := by
  obtain ⟨⟨a1, a2, a3⟩, w2, w3, w4, fl, fh, fm, cl, ch, cm, ca⟩ := w
  obtain ⟨⟨⟨x, a⟩, ⟨y, b⟩⟩, ⟨b0, p0, q0, e0, n0⟩, ⟨b1, p1, q1, e1, n1⟩, ⟨b2, p2, q2, e2, n2⟩⟩ := a2
  obtain ⟨⟨_, _, _, _, x1⟩, ⟨_, _, _, _, x2⟩, ⟨_, _, _, _, x3⟩, ⟨_, _, _, _, x4⟩⟩ := a3
  exact ⟨⟨(o M (by omega)).trans a1, ⟨⟨⟨x, a.ag (fun q _ _ => o q (by omega))⟩, ⟨y, b.ag (fun q _ _ => o q (by omega))⟩⟩, ⟨_, _, _, _, n0.ag (fun q _ _ => o q (by omega))⟩, ⟨_, _, _, _, n1.ag (fun q _ _ => o q (by omega))⟩, ⟨_, _, _, _, n2.ag (fun q _ _ => o q (by omega))⟩⟩, ⟨_, _, _, _, x1.ag (fun q _ _ => o q (by omega))⟩, ⟨_, _, _, _, x2.ag (fun q _ _ => o q (by omega))⟩, ⟨_, _, _, _, x3.ag (fun q _ _ => o q (by omega))⟩, ⟨_, _, _, _, x4.ag (fun q _ _ => o q (by omega))⟩⟩, w2, w3, w4, fl, fh, fm, (o _ (by omega)).trans cl, (o _ (by omega)).trans ch, (o _ (by omega)).trans cm, ca⟩
end MS
theorem su_s {s : Nat → Value} {i : Nat} {v : Value} : su s i v i = v := if_pos rfl
theorem su_n {s : Nat → Value} {i j : Nat} {v : Value} (h : j ≠ i) : su s i v j = s j := if_neg h
theorem bt_nI (m : Nat) {i : Nat} (h : i < 32) : bt (nI m) i = m.testBit i := by
  show (BitVec.ofNat 32 m).getLsbD i = _
  rw [BitVec.getLsbD_ofNat]
  simp [h]
theorem sar_byte (x : Int32) {n : Nat} (hn : n ≤ 24) : (x >>> (nI n &&& 31)) &&& 255 = nI (wn x / 2 ^ n % 256) := by
  apply b_ext
  intro i hi
  rw [b_and, b_255, b_sshr n (by omega) x hi, bt_nI _ hi, show (256 : Nat) = 2 ^ 8 from rfl, Nat.testBit_mod_two_pow, Nat.testBit_div_two_pow]
  by_cases c : i < 8
  · rw [if_pos (by omega), decide_eq_true c, Bool.and_true, Bool.true_and]
    unfold bt wn
    rw [BitVec.testBit_toNat, Nat.add_comm]
  · rw [decide_eq_false c, Bool.and_false, Bool.false_and]
/-- the tape: 400 ints, each a byte -/
def tpR (h : xH) (M : Nat) (t : Nat → Nat) : Prop := h (M + 20) = some (.inl (0, 400, .inl (fun i => nI (t i)))) ∧ ∀ i, t i < 256
def bY (v : Int32) (k : Nat) : Nat := wn v / 2 ^ (24 - 8 * k) % 256
def fB (t : Nat → Nat) (ts : Nat) (v : Int32) (j : Nat) : Nat → Nat := fun i => if ts ≤ i ∧ i < ts + j then bY v (i - ts) else t i
theorem fB_0 (t : Nat → Nat) (ts : Nat) (v : Int32) : fB t ts v 0 = t := by
  funext i
  unfold fB
  rw [if_neg (by omega)]
theorem fB_up (t : Nat → Nat) (ts : Nat) (v : Int32) (j : Nat) : va_up (fB t ts v j) (ts + j) (bY v j) = fB t ts v (j + 1) := by
  funext i
  unfold va_up fB
  by_cases c : i = ts + j
  · rw [if_pos c, if_pos (by omega), show i - ts = j by omega]
  · rw [if_neg c]
    by_cases d : ts ≤ i ∧ i < ts + j
    · rw [if_pos d, if_pos (by omega)]
    · rw [if_neg d, if_neg (by omega)]
theorem fB_lt {t : Nat → Nat} (ht : ∀ i, t i < 256) (ts : Nat) (v : Int32) (j i : Nat) : fB t ts v j i < 256 := by
  unfold fB bY
  split
  · exact Nat.mod_lt _ (by decide)
  · exact ht i
/-- only the object and its tape have changed -/
def ft (h' h : xH) (M : Nat) : Prop := ∀ q, q ≠ M → q ≠ M + 20 → h' q = h q
theorem dX14_feedInt_0 : decode cX14_feedInt 0 = .ok (.bipush 24, 2) := by decide +kernel
theorem dX14_feedInt_2 : decode cX14_feedInt 2 = .ok (.istore_n 2, 1) := by decide +kernel
theorem dX14_feedInt_3 : decode cX14_feedInt 3 = .ok (.iload_n 2, 1) := by decide +kernel
theorem dX14_feedInt_4 : decode cX14_feedInt 4 = .ok (.ifCond .lt 35, 3) := by decide +kernel
theorem dX14_feedInt_7 : decode cX14_feedInt 7 = .ok (.aload_n 0, 1) := by decide +kernel
theorem dX14_feedInt_8 : decode cX14_feedInt 8 = .ok (.getfield 122, 3) := by decide +kernel
theorem dX14_feedInt_11 : decode cX14_feedInt 11 = .ok (.aload_n 0, 1) := by decide +kernel
theorem dX14_feedInt_12 : decode cX14_feedInt 12 = .ok (.getfield 151, 3) := by decide +kernel
theorem dX14_feedInt_15 : decode cX14_feedInt 15 = .ok (.iload_n 1, 1) := by decide +kernel
theorem dX14_feedInt_16 : decode cX14_feedInt 16 = .ok (.iload_n 2, 1) := by decide +kernel
theorem dX14_feedInt_17 : decode cX14_feedInt 17 = .ok (.ishr, 1) := by decide +kernel
theorem dX14_feedInt_18 : decode cX14_feedInt 18 = .ok (.sipush 255, 3) := by decide +kernel
theorem dX14_feedInt_21 : decode cX14_feedInt 21 = .ok (.iand, 1) := by decide +kernel
theorem dX14_feedInt_22 : decode cX14_feedInt 22 = .ok (.iastore, 1) := by decide +kernel
theorem dX14_feedInt_23 : decode cX14_feedInt 23 = .ok (.aload_n 0, 1) := by decide +kernel
theorem dX14_feedInt_24 : decode cX14_feedInt 24 = .ok (.dup, 1) := by decide +kernel
theorem dX14_feedInt_25 : decode cX14_feedInt 25 = .ok (.getfield 151, 3) := by decide +kernel
theorem dX14_feedInt_28 : decode cX14_feedInt 28 = .ok (.iconst 1, 1) := by decide +kernel
theorem dX14_feedInt_29 : decode cX14_feedInt 29 = .ok (.iadd, 1) := by decide +kernel
theorem dX14_feedInt_30 : decode cX14_feedInt 30 = .ok (.putfield 151, 3) := by decide +kernel
theorem dX14_feedInt_33 : decode cX14_feedInt 33 = .ok (.iinc 2 (-8), 3) := by decide +kernel
theorem dX14_feedInt_36 : decode cX14_feedInt 36 = .ok (.goto (-33), 3) := by decide +kernel
theorem dX14_feedInt_39 : decode cX14_feedInt 39 = .ok (.return_, 1) := by decide +kernel
abbrev r_X14_feedInt : Room := { frames := 0, cells := 0, slots := 0, locals := 0 }
abbrev m_X14_feedInt : xMd := (cX14_feedInt, RX14, 3, none, false, r_X14_feedInt)
def b_X14_feedInt_0 (Q : xQ) (K3 : xK) : xK := x_c (.int 24) <| x_istore 2 <| K3
def b_X14_feedInt_3 (Q : xQ) (K3 : xK) : xK := x_iload 2 <| x_if_lt (x_vret Q) <| x_aload 0 <| x_get 13 8 <| x_aload 0 <| x_get 13 6 <| x_iload 1 <| x_iload 2 <| x_ishr <| x_c (.int 255) <| x_iand <| x_iast <| x_aload 0 <| x_dup <| x_get 13 6 <| x_c (.int 1) <| x_iadd <| x_put 13 6 .int <| x_iinc 2 (-8) <| K3
theorem s_X14_feedInt_0 (G : xG) (l : Launch) (Q : xQ) (K3 : xK) (h3 : xW G l m_X14_feedInt xX0 (xPm G Q r_X14_feedInt) 3 K3) : xW G l m_X14_feedInt xX0 (xPm G Q r_X14_feedInt) 0 (b_X14_feedInt_0 Q K3) := xo_bipush (pc := 0) dX14_feedInt_0 (by decide) <| xo_istore_n (pc := 2) (i := 2) dX14_feedInt_2 rfl (by decide) <| h3
theorem s_X14_feedInt_3 (G : xG) (l : Launch) (Q : xQ) (K3 : xK) (h3 : xW G l m_X14_feedInt xX0 (xPm G Q r_X14_feedInt) 3 K3) : xW G l m_X14_feedInt xX0 (xPm G Q r_X14_feedInt) 3 (b_X14_feedInt_3 Q K3) := xo_iload_n (pc := 3) (i := 2) dX14_feedInt_3 rfl <| xo_if_lt (pc := 4) (tgt := 39) dX14_feedInt_4 (by decide) (xo_vret (pc := 39) rfl dX14_feedInt_39) <| xo_aload_n (pc := 7) (i := 0) dX14_feedInt_7 rfl <| xo_get (pc := 8) (ci := 13) (i := 8) rfl ok13 (by decide) dX14_feedInt_8 kw1209 <| xo_aload_n (pc := 11) (i := 0) dX14_feedInt_11 rfl <| xo_get (pc := 12) (ci := 13) (i := 6) rfl ok13 (by decide) dX14_feedInt_12 kw1207 <| xo_iload_n (pc := 15) (i := 1) dX14_feedInt_15 rfl <| xo_iload_n (pc := 16) (i := 2) dX14_feedInt_16 rfl <| xo_ishr (pc := 17) dX14_feedInt_17 <| xo_sipush (pc := 18) dX14_feedInt_18 (by decide) <| xo_iand (pc := 21) dX14_feedInt_21 <| xo_iast (pc := 22) dX14_feedInt_22 <| xo_aload_n (pc := 23) (i := 0) dX14_feedInt_23 rfl <| xo_dup (pc := 24) dX14_feedInt_24 <| xo_get (pc := 25) (ci := 13) (i := 6) rfl ok13 (by decide) dX14_feedInt_25 kw1207 <| xo_iconst (pc := 28) dX14_feedInt_28 (by decide) <| xo_iadd (pc := 29) dX14_feedInt_29 <| xo_put (pc := 30) (ci := 13) (i := 6) rfl ok13 (by decide) rfl rfl dX14_feedInt_30 kw1207 <| xo_iinc (pc := 33) dX14_feedInt_33 (by decide) <| xo_goto (pc := 36) (tgt := 3) dX14_feedInt_36 (by decide) <| h3

def C_X14_feedInt : xC := fun av S Q => ∃ (M : Nat) (s : Nat → Value) (lo hi : Int) (nn ls : Bool) (n : Nat) (cs : Nat → vC) (v : Int32) (ts : Nat) (t : Nat → Nat), av = [.ref M, .int v] ∧ ms S.1 M s lo hi nn ls n cs ∧ s 6 = .int (nI ts) ∧ ts + 4 ≤ 400 ∧ tpR S.1 M t ∧ ∀ h', ft h' S.1 M → ms h' M (su s 6 (.int (nI (ts + 4)))) lo hi nn ls n cs → tpR h' M (fB t ts v 4) → Q none (h', S.2)
def cn_X14_feedInt : Nat × Int32 × Nat → List (Nat × Value) := fun v => [(0, .ref v.1), (1, .int v.2.1), (2, .int (iZ (24 - 8 * (v.2.2 : Int))))]
def I_X14_feedInt (Q : xQ) : Nat → Nat × Int32 × Nat → xS → Prop := fun m v S => match v with
  | (M, v, j) => ∃ (s : Nat → Value) (lo hi : Int) (nn ls : Bool) (n : Nat) (cs : Nat → vC) (ts : Nat) (t : Nat → Nat), j ≤ 4 ∧ m = 4 - j ∧ ms S.1 M (su s 6 (.int (nI (ts + j)))) lo hi nn ls n cs ∧ ts + 4 ≤ 400 ∧ tpR S.1 M (fB t ts v j) ∧ (∀ i, t i < 256) ∧ ∀ h', ft h' S.1 M → ms h' M (su s 6 (.int (nI (ts + 4)))) lo hi nn ls n cs → tpR h' M (fB t ts v 4) → Q none (h', S.2)
theorem su_su {s : Nat → Value} {i : Nat} {v w : Value} : su (su s i v) i w = su s i w := by
  funext j
  unfold su
  split <;> rfl
theorem iZ_lt0 {z : Int} (h1 : -2147483648 ≤ z) (h2 : z < 2147483648) : iZ z < 0 ↔ z < 0 := by rw [i_lt, iZ_toInt h1 h2, i_0]
set_option maxHeartbeats 1000000 in
theorem cM_X14_feedInt (G : xG) (l : Launch) : xM G l yX14_feedInt cX14_feedInt 3 none r_X14_feedInt C_X14_feedInt := by
  refine xM_of (fun Q => b_X14_feedInt_0 Q (xInv cn_X14_feedInt (I_X14_feedInt Q))) RX14 false (fun Q => s_X14_feedInt_0 G l Q _ (xW.lp (b_X14_feedInt_3 Q) (fun K hK => s_X14_feedInt_3 G l Q K hK) ?_)) (by decide) rfl (by decide) ?_
  · rintro m ⟨M, v, j⟩ ⟨h, S2⟩ ⟨s, lo, hi, nn, ls, n, cs, ts, t, hj, rfl, w, hts, ht, tl, hQ⟩
    dsimp only at *
    have c1 : cn_X14_feedInt (M, v, j) = [(0, .ref M), (1, .int v), (2, .int (iZ (24 - 8 * (j : Int))))] := rfl
    rw [c1]
    have e6 : su s 6 (.int (nI (ts + j))) 6 = .int (nI (ts + j)) := su_s
    have z0 := iZ_lt0 (z := 24 - 8 * (j : Int)) (by omega) (by omega)
    have cl : (nI (ts + j)).toNatClampNeg = ts + j := m_cl (by omega)
    have e1 : nI (ts + j) + 1 = nI (ts + (j + 1)) := by rw [← Nat.add_assoc]; exact nI_1 _
    have e8 : iZ (24 - 8 * (j : Int)) + Int32.ofInt (-8) = iZ (24 - 8 * ((j + 1 : Nat) : Int)) := by
      rw [show Int32.ofInt (-8) = iZ (-8) from rfl, iZ_add]
      congr 1
      omega
    simp only [q_c, x_iload, x_lload, x_aload, q_istore, q_lstore, q_astore, q_astore2, x_iinc, q_iadd, q_isub, q_imul, q_iand, q_ior, q_ixor, q_ladd, q_lsub, q_lmul, q_land, q_lor, q_lxor, q_idiv, q_irem, q_ldiv, q_lrem, q_ineg, q_lneg, q_ishl, q_ishr, q_iushr, q_lshl, q_lshr, q_lushr, q_i2l, q_l2i, q_i2b, q_i2c, q_lcmp, q_if_eq, q_if_ne, q_if_lt, q_if_ge, q_if_gt, q_if_le, q_icmp_eq, q_icmp_ne, q_icmp_lt, q_icmp_ge, q_icmp_gt, q_icmp_le, q_dup, q_pop, q_dup_x1, q_dup2, x_iret, x_zret, x_lret, x_aret, x_vret, x_call, x_callv, x_calli, x_oinit, x_mmax, x_mmin, x_mabs, x_mmaxL, x_mminL, x_mabsL, lg_cmp_ge, lg_cmp_le, lg_cmp_gt, lg_cmp_lt, lg_cmp_eq, xlk, q_xs1, q_xs2, lv_args, Value.category, List.filter_cons, List.filter_nil, Nat.reduceAdd, Nat.reduceBEq, Nat.reduceEqDiff, Nat.reduceSub, Nat.sub_zero, beq_self_eq_true, Bool.not_true, Bool.not_false, Bool.and_true, Bool.and_false, Bool.true_and, Bool.false_and, reduceIte, reduceCtorEq, Bool.false_eq_true, Nat.one_ne_zero, Nat.zero_ne_one, Nat.zero_add, Option.toList_some, Option.toList_none, List.nil_append, List.cons_append, List.take_succ_cons, List.take_zero, List.take_nil, List.drop_succ_cons, List.drop_zero, List.length_cons, List.length_nil, List.reverse_cons, List.reverse_nil, List.head?_cons, List.map_cons, List.map_nil, List.sum_cons, List.sum_nil, true_and, and_true, List.getElem?_cons_zero, List.getElem?_cons_succ, Prod.eta, x_iast, x_bald, x_bast, x_last, x_alen, xup_s, xup_a1, xup_1a, xup_uu, nr_i, nr_l, nr_o, nr_a, ft_i, ft_l, ft_o, ft_a, Nat.reduceLT, i_cl0, i_cl1, i_n1, i_m1, List.set_cons_zero, List.set_cons_succ, Nat.reduceLeDiff, Nat.le_refl, Nat.zero_le, Nat.add_zero, x_no, x_ifnull, x_ifnonnull, x_acmp_eq, x_acmp_ne, x_swl, x_tsw, x_castC, true_or, or_true, nr_z, ft_z, nr_z0, nr_z1, ft_z0, ft_z1, nr_on, nr_an, ft_on, ft_an, b_X14_feedInt_3, z0]
    refine ⟨fun a => ?_, fun a => ?_⟩
    · obtain rfl : j = 4 := by omega
      exact hQ h (fun _ _ _ => rfl) w ht
    · have sb : (v >>> (iZ (24 - 8 * (j : Int)) &&& 31)) &&& 255 = nI (bY v j) := by
        rw [show iZ (24 - 8 * (j : Int)) = nI (24 - 8 * j) by rw [← iZ_nat]; congr 1; omega]
        exact sar_byte v (by omega)
      have tw : tpR (xup h (M + 20) (.inl (0, 400, .inl (fun i => nI (fB t ts v (j + 1) i))))) M (fB t ts v (j + 1)) := ⟨xup_s, fun i => fB_lt tl ts v _ i⟩
      have w2 : ms (xup h (M + 20) (.inl (0, 400, .inl (fun i => nI (fB t ts v (j + 1) i))))) M (su s 6 (.int (nI (ts + j)))) lo hi nn ls n cs := w.o (fun q d => xup_n (by omega))
      have w3 := w2.sf (s' := su s 6 (.int (nI (ts + (j + 1))))) rfl
      have in4 : vp_in (nI (ts + j)) 400 = True := eq_true (vp_in_nI (by omega) (by decide))
      simp only [q_c, x_iload, x_lload, x_aload, q_istore, q_lstore, q_astore, q_astore2, x_iinc, q_iadd, q_isub, q_imul, q_iand, q_ior, q_ixor, q_ladd, q_lsub, q_lmul, q_land, q_lor, q_lxor, q_idiv, q_irem, q_ldiv, q_lrem, q_ineg, q_lneg, q_ishl, q_ishr, q_iushr, q_lshl, q_lshr, q_lushr, q_i2l, q_l2i, q_i2b, q_i2c, q_lcmp, q_if_eq, q_if_ne, q_if_lt, q_if_ge, q_if_gt, q_if_le, q_icmp_eq, q_icmp_ne, q_icmp_lt, q_icmp_ge, q_icmp_gt, q_icmp_le, q_dup, q_pop, q_dup_x1, q_dup2, x_iret, x_zret, x_lret, x_aret, x_vret, x_call, x_callv, x_calli, x_oinit, x_mmax, x_mmin, x_mabs, x_mmaxL, x_mminL, x_mabsL, lg_cmp_ge, lg_cmp_le, lg_cmp_gt, lg_cmp_lt, lg_cmp_eq, xlk, q_xs1, q_xs2, lv_args, Value.category, List.filter_cons, List.filter_nil, Nat.reduceAdd, Nat.reduceBEq, Nat.reduceEqDiff, Nat.reduceSub, Nat.sub_zero, beq_self_eq_true, Bool.not_true, Bool.not_false, Bool.and_true, Bool.and_false, Bool.true_and, Bool.false_and, reduceIte, reduceCtorEq, Bool.false_eq_true, Nat.one_ne_zero, Nat.zero_ne_one, Nat.zero_add, Option.toList_some, Option.toList_none, List.nil_append, List.cons_append, List.take_succ_cons, List.take_zero, List.take_nil, List.drop_succ_cons, List.drop_zero, List.length_cons, List.length_nil, List.reverse_cons, List.reverse_nil, List.head?_cons, List.map_cons, List.map_nil, List.sum_cons, List.sum_nil, true_and, and_true, List.getElem?_cons_zero, List.getElem?_cons_succ, Prod.eta, x_iast, x_bald, x_bast, x_last, x_alen, xup_s, xup_a1, xup_1a, xup_uu, nr_i, nr_l, nr_o, nr_a, ft_i, ft_l, ft_o, ft_a, Nat.reduceLT, i_cl0, i_cl1, i_n1, i_m1, List.set_cons_zero, List.set_cons_succ, Nat.reduceLeDiff, Nat.le_refl, Nat.zero_le, Nat.add_zero, x_no, x_ifnull, x_ifnonnull, x_acmp_eq, x_acmp_ne, x_swl, x_tsw, x_castC, true_or, or_true, nr_z, ft_z, nr_z0, nr_z1, ft_z0, ft_z1, nr_on, nr_an, ft_on, ft_an, ms.s6 w, ms.s7 w, ms.s9 w, ms.s15 w, ms.s23 w, ms.s24 w, ms.s25 w, ms.s26 w, ms.s8 w, ms.s10 w, ms.t6 w, ms.t9 w, ms.t15 w, ms.t23 w, ms.t24 w, ms.t7 w, ms.t7a w, ms.t7b w, ms.t25 w, ms.t25a w, ms.t25b w, ms.t26 w, ms.t26a w, ms.t26b w, e6, sb, x_iast, ht.1, cl, in4, upd_nI, fB_up, ms.s6 w2, ms.s7 w2, ms.s9 w2, ms.s15 w2, ms.s23 w2, ms.s24 w2, ms.s25 w2, ms.s26 w2, ms.s8 w2, ms.s10 w2, ms.t6 w2, ms.t9 w2, ms.t15 w2, ms.t23 w2, ms.t24 w2, ms.t7 w2, ms.t7a w2, ms.t7b w2, ms.t25 w2, ms.t25a w2, ms.t25b w2, ms.t26 w2, ms.t26a w2, ms.t26b w2, e1, su_su, e8]
      refine xInvL.mk (4 - (j + 1)) (M, v, j + 1) (by omega) ⟨rfl, rfl, rfl, trivial⟩ ⟨s, lo, hi, nn, ls, n, cs, ts, t, by omega, rfl, w3, hts, ?_, tl, fun h' f' m' t' => hQ h' ?_ m' t'⟩
      · exact ⟨(xup_n (by omega)).trans tw.1, tw.2⟩
      · intro q a b
        exact (f' q a b).trans ((xup_n a).trans (xup_n b))
  · rintro av ⟨h, S2⟩ Q ⟨M, s, lo, hi, nn, ls, n, cs, v, ts, t, rfl, w, s6, hts, ht, hQ⟩
    dsimp only at *
    refine ⟨Nat.le_of_ble_eq_true rfl, ?_⟩
    simp only [q_c, x_iload, x_lload, x_aload, q_istore, q_lstore, q_astore, q_astore2, x_iinc, q_iadd, q_isub, q_imul, q_iand, q_ior, q_ixor, q_ladd, q_lsub, q_lmul, q_land, q_lor, q_lxor, q_idiv, q_irem, q_ldiv, q_lrem, q_ineg, q_lneg, q_ishl, q_ishr, q_iushr, q_lshl, q_lshr, q_lushr, q_i2l, q_l2i, q_i2b, q_i2c, q_lcmp, q_if_eq, q_if_ne, q_if_lt, q_if_ge, q_if_gt, q_if_le, q_icmp_eq, q_icmp_ne, q_icmp_lt, q_icmp_ge, q_icmp_gt, q_icmp_le, q_dup, q_pop, q_dup_x1, q_dup2, x_iret, x_zret, x_lret, x_aret, x_vret, x_call, x_callv, x_calli, x_oinit, x_mmax, x_mmin, x_mabs, x_mmaxL, x_mminL, x_mabsL, lg_cmp_ge, lg_cmp_le, lg_cmp_gt, lg_cmp_lt, lg_cmp_eq, xlk, q_xs1, q_xs2, lv_args, Value.category, List.filter_cons, List.filter_nil, Nat.reduceAdd, Nat.reduceBEq, Nat.reduceEqDiff, Nat.reduceSub, Nat.sub_zero, beq_self_eq_true, Bool.not_true, Bool.not_false, Bool.and_true, Bool.and_false, Bool.true_and, Bool.false_and, reduceIte, reduceCtorEq, Bool.false_eq_true, Nat.one_ne_zero, Nat.zero_ne_one, Nat.zero_add, Option.toList_some, Option.toList_none, List.nil_append, List.cons_append, List.take_succ_cons, List.take_zero, List.take_nil, List.drop_succ_cons, List.drop_zero, List.length_cons, List.length_nil, List.reverse_cons, List.reverse_nil, List.head?_cons, List.map_cons, List.map_nil, List.sum_cons, List.sum_nil, true_and, and_true, List.getElem?_cons_zero, List.getElem?_cons_succ, Prod.eta, x_iast, x_bald, x_bast, x_last, x_alen, xup_s, xup_a1, xup_1a, xup_uu, nr_i, nr_l, nr_o, nr_a, ft_i, ft_l, ft_o, ft_a, Nat.reduceLT, i_cl0, i_cl1, i_n1, i_m1, List.set_cons_zero, List.set_cons_succ, Nat.reduceLeDiff, Nat.le_refl, Nat.zero_le, Nat.add_zero, x_no, x_ifnull, x_ifnonnull, x_acmp_eq, x_acmp_ne, x_swl, x_tsw, x_castC, true_or, or_true, nr_z, ft_z, nr_z0, nr_z1, ft_z0, ft_z1, nr_on, nr_an, ft_on, ft_an, b_X14_feedInt_0]
    refine xInv.mk 4 (M, v, 0) ⟨rfl, rfl, rfl, trivial⟩ ⟨s, lo, hi, nn, ls, n, cs, ts, t, by decide, rfl, ?_, hts, ?_, ht.2, hQ⟩
    · rw [show su s 6 (.int (nI (ts + 0))) = s by funext q; unfold su; split; rename_i e; rw [e, s6]; rfl; rfl]
      exact w
    · rw [fB_0]
      exact ht
def fF5 (t : Nat → Nat) (ts : Nat) (a b c d e : Int32) : Nat → Nat := fB (fB (fB (fB (fB t ts a 4) (ts + 4) b 4) (ts + 4 + 4) c 4) (ts + 4 + 4 + 4) d 4) (ts + 4 + 4 + 4 + 4) e 4
theorem ft.tr {h h' h'' : xH} {M : Nat} (a : ft h'' h' M) (b : ft h' h M) : ft h'' h M := fun q c d => (a q c d).trans (b q c d)
theorem ft.up {h : xH} {M : Nat} {c : xE} : ft (xup h M c) h M := fun q a _ => xup_n a
theorem tpR.up {h : xH} {M : Nat} {t : Nat → Nat} {c : xE} (w : tpR h M t) : tpR (xup h M c) M t := ⟨(xup_n (by omega)).trans w.1, w.2⟩
theorem dX14_feed_0 : decode cX14_feed 0 = .ok (.aload_n 0, 1) := by decide +kernel
theorem dX14_feed_1 : decode cX14_feed 1 = .ok (.getfield 151, 3) := by decide +kernel
theorem dX14_feed_4 : decode cX14_feed 4 = .ok (.bipush 20, 2) := by decide +kernel
theorem dX14_feed_6 : decode cX14_feed 6 = .ok (.iadd, 1) := by decide +kernel
theorem dX14_feed_7 : decode cX14_feed 7 = .ok (.sipush 400, 3) := by decide +kernel
theorem dX14_feed_10 : decode cX14_feed 10 = .ok (.if_icmp .le 6, 3) := by decide +kernel
theorem dX14_feed_13 : decode cX14_feed 13 = .ok (.bipush (-2), 2) := by decide +kernel
theorem dX14_feed_15 : decode cX14_feed 15 = .ok (.ireturn, 1) := by decide +kernel
theorem dX14_feed_16 : decode cX14_feed 16 = .ok (.aload_n 0, 1) := by decide +kernel
theorem dX14_feed_17 : decode cX14_feed 17 = .ok (.iload_n 1, 1) := by decide +kernel
theorem dX14_feed_18 : decode cX14_feed 18 = .ok (.invokevirtual 154, 3) := by decide +kernel
theorem dX14_feed_21 : decode cX14_feed 21 = .ok (.aload_n 0, 1) := by decide +kernel
theorem dX14_feed_22 : decode cX14_feed 22 = .ok (.iload_n 2, 1) := by decide +kernel
theorem dX14_feed_23 : decode cX14_feed 23 = .ok (.invokevirtual 154, 3) := by decide +kernel
theorem dX14_feed_26 : decode cX14_feed 26 = .ok (.aload_n 0, 1) := by decide +kernel
theorem dX14_feed_27 : decode cX14_feed 27 = .ok (.iload_n 3, 1) := by decide +kernel
theorem dX14_feed_28 : decode cX14_feed 28 = .ok (.invokevirtual 154, 3) := by decide +kernel
theorem dX14_feed_31 : decode cX14_feed 31 = .ok (.aload_n 0, 1) := by decide +kernel
theorem dX14_feed_32 : decode cX14_feed 32 = .ok (.iload 4, 2) := by decide +kernel
theorem dX14_feed_34 : decode cX14_feed 34 = .ok (.invokevirtual 154, 3) := by decide +kernel
theorem dX14_feed_37 : decode cX14_feed 37 = .ok (.aload_n 0, 1) := by decide +kernel
theorem dX14_feed_38 : decode cX14_feed 38 = .ok (.iload 5, 2) := by decide +kernel
theorem dX14_feed_40 : decode cX14_feed 40 = .ok (.invokevirtual 154, 3) := by decide +kernel
theorem dX14_feed_43 : decode cX14_feed 43 = .ok (.aload_n 0, 1) := by decide +kernel
theorem dX14_feed_44 : decode cX14_feed 44 = .ok (.iconst 1, 1) := by decide +kernel
theorem dX14_feed_45 : decode cX14_feed 45 = .ok (.putfield 157, 3) := by decide +kernel
theorem dX14_feed_48 : decode cX14_feed 48 = .ok (.aload_n 0, 1) := by decide +kernel
theorem dX14_feed_49 : decode cX14_feed 49 = .ok (.getfield 151, 3) := by decide +kernel
theorem dX14_feed_52 : decode cX14_feed 52 = .ok (.ireturn, 1) := by decide +kernel
abbrev r_X14_feed : Room := { frames := 1, cells := 0, slots := 0, locals := 22 }
abbrev m_X14_feed : xMd := (cX14_feed, RX14, 6, (some FieldType.int), false, r_X14_feed)
def b_X14_feed_0 (Q : xQ) : xK := x_aload 0 <| x_get 13 6 <| x_c (.int 20) <| x_iadd <| x_c (.int 400) <| x_icmp_le (x_aload 0 <| x_iload 1 <| x_callv 13 C_X14_feedInt 2 0 0 <| x_aload 0 <| x_iload 2 <| x_callv 13 C_X14_feedInt 2 0 0 <| x_aload 0 <| x_iload 3 <| x_callv 13 C_X14_feedInt 2 0 0 <| x_aload 0 <| x_iload 4 <| x_callv 13 C_X14_feedInt 2 0 0 <| x_aload 0 <| x_iload 5 <| x_callv 13 C_X14_feedInt 2 0 0 <| x_aload 0 <| x_c (.int 1) <| x_put 13 7 .boolean <| x_aload 0 <| x_get 13 6 <| x_iret Q) <| x_c (.int (-2)) <| x_iret Q
theorem s_X14_feed_0 (G : xG) (l : Launch) (Q : xQ) : xW G l m_X14_feed xX0 (xPm G Q r_X14_feed) 0 (b_X14_feed_0 Q) := xo_aload_n (pc := 0) (i := 0) dX14_feed_0 rfl <| xo_get (pc := 1) (ci := 13) (i := 6) rfl ok13 (by decide) dX14_feed_1 kw1207 <| xo_bipush (pc := 4) dX14_feed_4 (by decide) <| xo_iadd (pc := 6) dX14_feed_6 <| xo_sipush (pc := 7) dX14_feed_7 (by decide) <| xo_icmp_le (pc := 10) (tgt := 16) dX14_feed_10 (by decide) (xo_aload_n (pc := 16) (i := 0) dX14_feed_16 rfl <| xo_iload_n (pc := 17) (i := 1) dX14_feed_17 rfl <| xo_callV (pc := 18) (np := 1) (ci := 13) rfl (cM_X14_feedInt G l) dX14_feed_18 kw1291 kw1288 kw1290 ks47 kw13 (by decide +kernel) (by decide) <| xo_aload_n (pc := 21) (i := 0) dX14_feed_21 rfl <| xo_iload_n (pc := 22) (i := 2) dX14_feed_22 rfl <| xo_callV (pc := 23) (np := 1) (ci := 13) rfl (cM_X14_feedInt G l) dX14_feed_23 kw1291 kw1288 kw1290 ks47 kw13 (by decide +kernel) (by decide) <| xo_aload_n (pc := 26) (i := 0) dX14_feed_26 rfl <| xo_iload_n (pc := 27) (i := 3) dX14_feed_27 rfl <| xo_callV (pc := 28) (np := 1) (ci := 13) rfl (cM_X14_feedInt G l) dX14_feed_28 kw1291 kw1288 kw1290 ks47 kw13 (by decide +kernel) (by decide) <| xo_aload_n (pc := 31) (i := 0) dX14_feed_31 rfl <| xo_iload (pc := 32) (i := 4) dX14_feed_32 <| xo_callV (pc := 34) (np := 1) (ci := 13) rfl (cM_X14_feedInt G l) dX14_feed_34 kw1291 kw1288 kw1290 ks47 kw13 (by decide +kernel) (by decide) <| xo_aload_n (pc := 37) (i := 0) dX14_feed_37 rfl <| xo_iload (pc := 38) (i := 5) dX14_feed_38 <| xo_callV (pc := 40) (np := 1) (ci := 13) rfl (cM_X14_feedInt G l) dX14_feed_40 kw1291 kw1288 kw1290 ks47 kw13 (by decide +kernel) (by decide) <| xo_aload_n (pc := 43) (i := 0) dX14_feed_43 rfl <| xo_iconst (pc := 44) dX14_feed_44 (by decide) <| xo_put (pc := 45) (ci := 13) (i := 7) rfl ok13 (by decide) rfl rfl dX14_feed_45 kw1208 <| xo_aload_n (pc := 48) (i := 0) dX14_feed_48 rfl <| xo_get (pc := 49) (ci := 13) (i := 6) rfl ok13 (by decide) dX14_feed_49 kw1207 <| xo_iret (pc := 52) rfl dX14_feed_52) <| xo_bipush (pc := 13) dX14_feed_13 (by decide) <| xo_iret (pc := 15) rfl dX14_feed_15

def C_X14_feed : xC := fun av S Q => ∃ (M : Nat) (s : Nat → Value) (n : Nat) (cs : Nat → vC) (a b c d e : Int32) (ts : Nat) (t : Nat → Nat), av = [.ref M, .int a, .int b, .int c, .int d, .int e] ∧ mz S.1 M s n cs ∧ s 6 = .int (nI ts) ∧ ts ≤ 400 ∧ tpR S.1 M t ∧ (380 < ts → Q (some (.int (-2))) S) ∧ (ts ≤ 380 → ∀ h', ft h' S.1 M → mz h' M (su (su s 6 (.int (nI (ts + 20)))) 7 (.int (bI true))) n cs → tpR h' M (fF5 t ts a b c d e) → Q (some (.int (nI (ts + 20)))) (h', S.2))
section FD
variable {h : xH} {T : Nat × Nat × Nat} {K : xQ} {M : Nat} {s : Nat → Value} {lo hi : Int} {nn ls : Bool} {n : Nat} {cs : Nat → vC} {v : Int32} {ts : Nat} {t : Nat → Nat}
theorem kk_fi (w : ms h M (su s 6 (.int (nI ts))) lo hi nn ls n cs) (hts : ts + 4 ≤ 400) (ht : tpR h M t) (c : ∀ h2, ft h2 h M → ms h2 M (su s 6 (.int (nI (ts + 4)))) lo hi nn ls n cs → tpR h2 M (fB t ts v 4) → K none (h2, T)) : rcv h M ∧ C_X14_feedInt [.ref M, .int v] (h, T) K := ⟨w.r, M, su s 6 (.int (nI ts)), lo, hi, nn, ls, n, cs, v, ts, t, rfl, w, su_s, hts, ht, fun h2 f2 w2 t2 => c h2 f2 (by rw [su_su] at w2; exact w2) t2⟩
end FD
theorem su_id {s : Nat → Value} {i : Nat} {v : Value} (h : s i = v) : su s i v = s := by
  funext j
  unfold su
  split
  · rename_i e
    rw [e, h]
  · rfl
theorem cM_X14_feed (G : xG) (l : Launch) : xM G l yX14_feed cX14_feed 6 (some FieldType.int) r_X14_feed C_X14_feed := by
  refine xM_of (fun Q => b_X14_feed_0 Q) RX14 false (s_X14_feed_0 G l) (by decide) rfl (by decide) ?_
  rintro av ⟨h, S2⟩ Q ⟨M, s, n, cs, a, b, c, d, e, ts, t, rfl, ⟨lo, hi, nn, ls, w⟩, s6, hts, ht, h1, h2⟩
  dsimp only at *
  refine ⟨Nat.le_of_ble_eq_true rfl, ?_⟩
  have e1 : nI ts + 20 = nI (ts + 20) := (Int32.ofNat_add ts 20).symm
  have c4 : nI (ts + 20) ≤ 400 ↔ ts + 20 ≤ 400 := by rw [i_le, nI_toInt (by omega)]; exact Int.ofNat_le
  simp only [q_c, x_iload, x_lload, x_aload, q_istore, q_lstore, q_astore, q_astore2, x_iinc, q_iadd, q_isub, q_imul, q_iand, q_ior, q_ixor, q_ladd, q_lsub, q_lmul, q_land, q_lor, q_lxor, q_idiv, q_irem, q_ldiv, q_lrem, q_ineg, q_lneg, q_ishl, q_ishr, q_iushr, q_lshl, q_lshr, q_lushr, q_i2l, q_l2i, q_i2b, q_i2c, q_lcmp, q_if_eq, q_if_ne, q_if_lt, q_if_ge, q_if_gt, q_if_le, q_icmp_eq, q_icmp_ne, q_icmp_lt, q_icmp_ge, q_icmp_gt, q_icmp_le, q_dup, q_pop, q_dup_x1, q_dup2, x_iret, x_zret, x_lret, x_aret, x_vret, x_call, x_callv, x_calli, x_oinit, x_mmax, x_mmin, x_mabs, x_mmaxL, x_mminL, x_mabsL, lg_cmp_ge, lg_cmp_le, lg_cmp_gt, lg_cmp_lt, lg_cmp_eq, xlk, q_xs1, q_xs2, lv_args, Value.category, List.filter_cons, List.filter_nil, Nat.reduceAdd, Nat.reduceBEq, Nat.reduceEqDiff, Nat.reduceSub, Nat.sub_zero, beq_self_eq_true, Bool.not_true, Bool.not_false, Bool.and_true, Bool.and_false, Bool.true_and, Bool.false_and, reduceIte, reduceCtorEq, Bool.false_eq_true, Nat.one_ne_zero, Nat.zero_ne_one, Nat.zero_add, Option.toList_some, Option.toList_none, List.nil_append, List.cons_append, List.take_succ_cons, List.take_zero, List.take_nil, List.drop_succ_cons, List.drop_zero, List.length_cons, List.length_nil, List.reverse_cons, List.reverse_nil, List.head?_cons, List.map_cons, List.map_nil, List.sum_cons, List.sum_nil, true_and, and_true, List.getElem?_cons_zero, List.getElem?_cons_succ, Prod.eta, x_iast, x_bald, x_bast, x_last, x_alen, xup_s, xup_a1, xup_1a, xup_uu, nr_i, nr_l, nr_o, nr_a, ft_i, ft_l, ft_o, ft_a, Nat.reduceLT, i_cl0, i_cl1, i_n1, i_m1, List.set_cons_zero, List.set_cons_succ, Nat.reduceLeDiff, Nat.le_refl, Nat.zero_le, Nat.add_zero, x_no, x_ifnull, x_ifnonnull, x_acmp_eq, x_acmp_ne, x_swl, x_tsw, x_castC, true_or, or_true, nr_z, ft_z, nr_z0, nr_z1, ft_z0, ft_z1, nr_on, nr_an, ft_on, ft_an, b_X14_feed_0, ms.s6 w, ms.s7 w, ms.s9 w, ms.s15 w, ms.s23 w, ms.s24 w, ms.s25 w, ms.s26 w, ms.s8 w, ms.s10 w, ms.t6 w, ms.t9 w, ms.t15 w, ms.t23 w, ms.t24 w, ms.t7 w, ms.t7a w, ms.t7b w, ms.t25 w, ms.t25a w, ms.t25b w, ms.t26 w, ms.t26a w, ms.t26b w, s6, e1, c4]
  refine ⟨fun y => ?_, fun y => h1 (by omega)⟩
  have w' : ms h M (su s 6 (.int (nI ts))) lo hi nn ls n cs := by rw [su_id s6]; exact w
  refine kk_fi w' (by omega) ht (fun h3 f3 w3 t3 => ?_)
  try simp only [q_c, x_iload, x_lload, x_aload, q_istore, q_lstore, q_astore, q_astore2, x_iinc, q_iadd, q_isub, q_imul, q_iand, q_ior, q_ixor, q_ladd, q_lsub, q_lmul, q_land, q_lor, q_lxor, q_idiv, q_irem, q_ldiv, q_lrem, q_ineg, q_lneg, q_ishl, q_ishr, q_iushr, q_lshl, q_lshr, q_lushr, q_i2l, q_l2i, q_i2b, q_i2c, q_lcmp, q_if_eq, q_if_ne, q_if_lt, q_if_ge, q_if_gt, q_if_le, q_icmp_eq, q_icmp_ne, q_icmp_lt, q_icmp_ge, q_icmp_gt, q_icmp_le, q_dup, q_pop, q_dup_x1, q_dup2, x_iret, x_zret, x_lret, x_aret, x_vret, x_call, x_callv, x_calli, x_oinit, x_mmax, x_mmin, x_mabs, x_mmaxL, x_mminL, x_mabsL, lg_cmp_ge, lg_cmp_le, lg_cmp_gt, lg_cmp_lt, lg_cmp_eq, xlk, q_xs1, q_xs2, lv_args, Value.category, List.filter_cons, List.filter_nil, Nat.reduceAdd, Nat.reduceBEq, Nat.reduceEqDiff, Nat.reduceSub, Nat.sub_zero, beq_self_eq_true, Bool.not_true, Bool.not_false, Bool.and_true, Bool.and_false, Bool.true_and, Bool.false_and, reduceIte, reduceCtorEq, Bool.false_eq_true, Nat.one_ne_zero, Nat.zero_ne_one, Nat.zero_add, Option.toList_some, Option.toList_none, List.nil_append, List.cons_append, List.take_succ_cons, List.take_zero, List.take_nil, List.drop_succ_cons, List.drop_zero, List.length_cons, List.length_nil, List.reverse_cons, List.reverse_nil, List.head?_cons, List.map_cons, List.map_nil, List.sum_cons, List.sum_nil, true_and, and_true, List.getElem?_cons_zero, List.getElem?_cons_succ, Prod.eta, x_iast, x_bald, x_bast, x_last, x_alen, xup_s, xup_a1, xup_1a, xup_uu, nr_i, nr_l, nr_o, nr_a, ft_i, ft_l, ft_o, ft_a, Nat.reduceLT, i_cl0, i_cl1, i_n1, i_m1, List.set_cons_zero, List.set_cons_succ, Nat.reduceLeDiff, Nat.le_refl, Nat.zero_le, Nat.add_zero, x_no, x_ifnull, x_ifnonnull, x_acmp_eq, x_acmp_ne, x_swl, x_tsw, x_castC, true_or, or_true, nr_z, ft_z, nr_z0, nr_z1, ft_z0, ft_z1, nr_on, nr_an, ft_on, ft_an]
  refine kk_fi w3 (by omega) t3 (fun h4 f4 w4 t4 => ?_)
  try simp only [q_c, x_iload, x_lload, x_aload, q_istore, q_lstore, q_astore, q_astore2, x_iinc, q_iadd, q_isub, q_imul, q_iand, q_ior, q_ixor, q_ladd, q_lsub, q_lmul, q_land, q_lor, q_lxor, q_idiv, q_irem, q_ldiv, q_lrem, q_ineg, q_lneg, q_ishl, q_ishr, q_iushr, q_lshl, q_lshr, q_lushr, q_i2l, q_l2i, q_i2b, q_i2c, q_lcmp, q_if_eq, q_if_ne, q_if_lt, q_if_ge, q_if_gt, q_if_le, q_icmp_eq, q_icmp_ne, q_icmp_lt, q_icmp_ge, q_icmp_gt, q_icmp_le, q_dup, q_pop, q_dup_x1, q_dup2, x_iret, x_zret, x_lret, x_aret, x_vret, x_call, x_callv, x_calli, x_oinit, x_mmax, x_mmin, x_mabs, x_mmaxL, x_mminL, x_mabsL, lg_cmp_ge, lg_cmp_le, lg_cmp_gt, lg_cmp_lt, lg_cmp_eq, xlk, q_xs1, q_xs2, lv_args, Value.category, List.filter_cons, List.filter_nil, Nat.reduceAdd, Nat.reduceBEq, Nat.reduceEqDiff, Nat.reduceSub, Nat.sub_zero, beq_self_eq_true, Bool.not_true, Bool.not_false, Bool.and_true, Bool.and_false, Bool.true_and, Bool.false_and, reduceIte, reduceCtorEq, Bool.false_eq_true, Nat.one_ne_zero, Nat.zero_ne_one, Nat.zero_add, Option.toList_some, Option.toList_none, List.nil_append, List.cons_append, List.take_succ_cons, List.take_zero, List.take_nil, List.drop_succ_cons, List.drop_zero, List.length_cons, List.length_nil, List.reverse_cons, List.reverse_nil, List.head?_cons, List.map_cons, List.map_nil, List.sum_cons, List.sum_nil, true_and, and_true, List.getElem?_cons_zero, List.getElem?_cons_succ, Prod.eta, x_iast, x_bald, x_bast, x_last, x_alen, xup_s, xup_a1, xup_1a, xup_uu, nr_i, nr_l, nr_o, nr_a, ft_i, ft_l, ft_o, ft_a, Nat.reduceLT, i_cl0, i_cl1, i_n1, i_m1, List.set_cons_zero, List.set_cons_succ, Nat.reduceLeDiff, Nat.le_refl, Nat.zero_le, Nat.add_zero, x_no, x_ifnull, x_ifnonnull, x_acmp_eq, x_acmp_ne, x_swl, x_tsw, x_castC, true_or, or_true, nr_z, ft_z, nr_z0, nr_z1, ft_z0, ft_z1, nr_on, nr_an, ft_on, ft_an]
  refine kk_fi w4 (by omega) t4 (fun h5 f5 w5 t5 => ?_)
  try simp only [q_c, x_iload, x_lload, x_aload, q_istore, q_lstore, q_astore, q_astore2, x_iinc, q_iadd, q_isub, q_imul, q_iand, q_ior, q_ixor, q_ladd, q_lsub, q_lmul, q_land, q_lor, q_lxor, q_idiv, q_irem, q_ldiv, q_lrem, q_ineg, q_lneg, q_ishl, q_ishr, q_iushr, q_lshl, q_lshr, q_lushr, q_i2l, q_l2i, q_i2b, q_i2c, q_lcmp, q_if_eq, q_if_ne, q_if_lt, q_if_ge, q_if_gt, q_if_le, q_icmp_eq, q_icmp_ne, q_icmp_lt, q_icmp_ge, q_icmp_gt, q_icmp_le, q_dup, q_pop, q_dup_x1, q_dup2, x_iret, x_zret, x_lret, x_aret, x_vret, x_call, x_callv, x_calli, x_oinit, x_mmax, x_mmin, x_mabs, x_mmaxL, x_mminL, x_mabsL, lg_cmp_ge, lg_cmp_le, lg_cmp_gt, lg_cmp_lt, lg_cmp_eq, xlk, q_xs1, q_xs2, lv_args, Value.category, List.filter_cons, List.filter_nil, Nat.reduceAdd, Nat.reduceBEq, Nat.reduceEqDiff, Nat.reduceSub, Nat.sub_zero, beq_self_eq_true, Bool.not_true, Bool.not_false, Bool.and_true, Bool.and_false, Bool.true_and, Bool.false_and, reduceIte, reduceCtorEq, Bool.false_eq_true, Nat.one_ne_zero, Nat.zero_ne_one, Nat.zero_add, Option.toList_some, Option.toList_none, List.nil_append, List.cons_append, List.take_succ_cons, List.take_zero, List.take_nil, List.drop_succ_cons, List.drop_zero, List.length_cons, List.length_nil, List.reverse_cons, List.reverse_nil, List.head?_cons, List.map_cons, List.map_nil, List.sum_cons, List.sum_nil, true_and, and_true, List.getElem?_cons_zero, List.getElem?_cons_succ, Prod.eta, x_iast, x_bald, x_bast, x_last, x_alen, xup_s, xup_a1, xup_1a, xup_uu, nr_i, nr_l, nr_o, nr_a, ft_i, ft_l, ft_o, ft_a, Nat.reduceLT, i_cl0, i_cl1, i_n1, i_m1, List.set_cons_zero, List.set_cons_succ, Nat.reduceLeDiff, Nat.le_refl, Nat.zero_le, Nat.add_zero, x_no, x_ifnull, x_ifnonnull, x_acmp_eq, x_acmp_ne, x_swl, x_tsw, x_castC, true_or, or_true, nr_z, ft_z, nr_z0, nr_z1, ft_z0, ft_z1, nr_on, nr_an, ft_on, ft_an]
  refine kk_fi w5 (by omega) t5 (fun h6 f6 w6 t6 => ?_)
  try simp only [q_c, x_iload, x_lload, x_aload, q_istore, q_lstore, q_astore, q_astore2, x_iinc, q_iadd, q_isub, q_imul, q_iand, q_ior, q_ixor, q_ladd, q_lsub, q_lmul, q_land, q_lor, q_lxor, q_idiv, q_irem, q_ldiv, q_lrem, q_ineg, q_lneg, q_ishl, q_ishr, q_iushr, q_lshl, q_lshr, q_lushr, q_i2l, q_l2i, q_i2b, q_i2c, q_lcmp, q_if_eq, q_if_ne, q_if_lt, q_if_ge, q_if_gt, q_if_le, q_icmp_eq, q_icmp_ne, q_icmp_lt, q_icmp_ge, q_icmp_gt, q_icmp_le, q_dup, q_pop, q_dup_x1, q_dup2, x_iret, x_zret, x_lret, x_aret, x_vret, x_call, x_callv, x_calli, x_oinit, x_mmax, x_mmin, x_mabs, x_mmaxL, x_mminL, x_mabsL, lg_cmp_ge, lg_cmp_le, lg_cmp_gt, lg_cmp_lt, lg_cmp_eq, xlk, q_xs1, q_xs2, lv_args, Value.category, List.filter_cons, List.filter_nil, Nat.reduceAdd, Nat.reduceBEq, Nat.reduceEqDiff, Nat.reduceSub, Nat.sub_zero, beq_self_eq_true, Bool.not_true, Bool.not_false, Bool.and_true, Bool.and_false, Bool.true_and, Bool.false_and, reduceIte, reduceCtorEq, Bool.false_eq_true, Nat.one_ne_zero, Nat.zero_ne_one, Nat.zero_add, Option.toList_some, Option.toList_none, List.nil_append, List.cons_append, List.take_succ_cons, List.take_zero, List.take_nil, List.drop_succ_cons, List.drop_zero, List.length_cons, List.length_nil, List.reverse_cons, List.reverse_nil, List.head?_cons, List.map_cons, List.map_nil, List.sum_cons, List.sum_nil, true_and, and_true, List.getElem?_cons_zero, List.getElem?_cons_succ, Prod.eta, x_iast, x_bald, x_bast, x_last, x_alen, xup_s, xup_a1, xup_1a, xup_uu, nr_i, nr_l, nr_o, nr_a, ft_i, ft_l, ft_o, ft_a, Nat.reduceLT, i_cl0, i_cl1, i_n1, i_m1, List.set_cons_zero, List.set_cons_succ, Nat.reduceLeDiff, Nat.le_refl, Nat.zero_le, Nat.add_zero, x_no, x_ifnull, x_ifnonnull, x_acmp_eq, x_acmp_ne, x_swl, x_tsw, x_castC, true_or, or_true, nr_z, ft_z, nr_z0, nr_z1, ft_z0, ft_z1, nr_on, nr_an, ft_on, ft_an]
  refine kk_fi w6 (by omega) t6 (fun h7 f7 w7 t7 => ?_)
  have e20 : ts + 4 + 4 + 4 + 4 + 4 = ts + 20 := by omega
  rw [e20] at w7
  have w8 := w7.sf (s' := su (su s 6 (.int (nI (ts + 20)))) 7 (.int (bI true))) rfl
  have e6 : su (su s 6 (.int (nI (ts + 20)))) 7 (.int (bI true)) 6 = .int (nI (ts + 20)) := rfl
  simp only [q_c, x_iload, x_lload, x_aload, q_istore, q_lstore, q_astore, q_astore2, x_iinc, q_iadd, q_isub, q_imul, q_iand, q_ior, q_ixor, q_ladd, q_lsub, q_lmul, q_land, q_lor, q_lxor, q_idiv, q_irem, q_ldiv, q_lrem, q_ineg, q_lneg, q_ishl, q_ishr, q_iushr, q_lshl, q_lshr, q_lushr, q_i2l, q_l2i, q_i2b, q_i2c, q_lcmp, q_if_eq, q_if_ne, q_if_lt, q_if_ge, q_if_gt, q_if_le, q_icmp_eq, q_icmp_ne, q_icmp_lt, q_icmp_ge, q_icmp_gt, q_icmp_le, q_dup, q_pop, q_dup_x1, q_dup2, x_iret, x_zret, x_lret, x_aret, x_vret, x_call, x_callv, x_calli, x_oinit, x_mmax, x_mmin, x_mabs, x_mmaxL, x_mminL, x_mabsL, lg_cmp_ge, lg_cmp_le, lg_cmp_gt, lg_cmp_lt, lg_cmp_eq, xlk, q_xs1, q_xs2, lv_args, Value.category, List.filter_cons, List.filter_nil, Nat.reduceAdd, Nat.reduceBEq, Nat.reduceEqDiff, Nat.reduceSub, Nat.sub_zero, beq_self_eq_true, Bool.not_true, Bool.not_false, Bool.and_true, Bool.and_false, Bool.true_and, Bool.false_and, reduceIte, reduceCtorEq, Bool.false_eq_true, Nat.one_ne_zero, Nat.zero_ne_one, Nat.zero_add, Option.toList_some, Option.toList_none, List.nil_append, List.cons_append, List.take_succ_cons, List.take_zero, List.take_nil, List.drop_succ_cons, List.drop_zero, List.length_cons, List.length_nil, List.reverse_cons, List.reverse_nil, List.head?_cons, List.map_cons, List.map_nil, List.sum_cons, List.sum_nil, true_and, and_true, List.getElem?_cons_zero, List.getElem?_cons_succ, Prod.eta, x_iast, x_bald, x_bast, x_last, x_alen, xup_s, xup_a1, xup_1a, xup_uu, nr_i, nr_l, nr_o, nr_a, ft_i, ft_l, ft_o, ft_a, Nat.reduceLT, i_cl0, i_cl1, i_n1, i_m1, List.set_cons_zero, List.set_cons_succ, Nat.reduceLeDiff, Nat.le_refl, Nat.zero_le, Nat.add_zero, x_no, x_ifnull, x_ifnonnull, x_acmp_eq, x_acmp_ne, x_swl, x_tsw, x_castC, true_or, or_true, nr_z, ft_z, nr_z0, nr_z1, ft_z0, ft_z1, nr_on, nr_an, ft_on, ft_an, ms.s6 w7, ms.s7 w7, ms.s9 w7, ms.s15 w7, ms.s23 w7, ms.s24 w7, ms.s25 w7, ms.s26 w7, ms.s8 w7, ms.s10 w7, ms.t6 w7, ms.t9 w7, ms.t15 w7, ms.t23 w7, ms.t24 w7, ms.t7 w7, ms.t7a w7, ms.t7b w7, ms.t25 w7, ms.t25a w7, ms.t25b w7, ms.t26 w7, ms.t26a w7, ms.t26b w7, ms.s6 w8, ms.s7 w8, ms.s9 w8, ms.s15 w8, ms.s23 w8, ms.s24 w8, ms.s25 w8, ms.s26 w8, ms.s8 w8, ms.s10 w8, ms.t6 w8, ms.t9 w8, ms.t15 w8, ms.t23 w8, ms.t24 w8, ms.t7 w8, ms.t7a w8, ms.t7b w8, ms.t25 w8, ms.t25a w8, ms.t25b w8, ms.t26 w8, ms.t26a w8, ms.t26b w8, e6]
  exact h2 (by omega) _ (ft.up.tr (f7.tr (f6.tr (f5.tr (f4.tr f3))))) ⟨_, _, _, _, w8⟩ t7.up
theorem dX14_end_0 : decode cX14_end 0 = .ok (.aload_n 0, 1) := by decide +kernel
theorem dX14_end_1 : decode cX14_end 1 = .ok (.getfield 157, 3) := by decide +kernel
theorem dX14_end_4 : decode cX14_end 4 = .ok (.ifCond .eq 13, 3) := by decide +kernel
theorem dX14_end_7 : decode cX14_end 7 = .ok (.iload_n 1, 1) := by decide +kernel
theorem dX14_end_8 : decode cX14_end 8 = .ok (.ifCond .lt 9, 3) := by decide +kernel
theorem dX14_end_11 : decode cX14_end 11 = .ok (.iload_n 1, 1) := by decide +kernel
theorem dX14_end_12 : decode cX14_end 12 = .ok (.bipush 20, 2) := by decide +kernel
theorem dX14_end_14 : decode cX14_end 14 = .ok (.if_icmp .le 5, 3) := by decide +kernel
theorem dX14_end_17 : decode cX14_end 17 = .ok (.iconst (-1), 1) := by decide +kernel
theorem dX14_end_18 : decode cX14_end 18 = .ok (.ireturn, 1) := by decide +kernel
theorem dX14_end_19 : decode cX14_end 19 = .ok (.aload_n 0, 1) := by decide +kernel
theorem dX14_end_20 : decode cX14_end 20 = .ok (.aload_n 0, 1) := by decide +kernel
theorem dX14_end_21 : decode cX14_end 21 = .ok (.getfield 151, 3) := by decide +kernel
theorem dX14_end_24 : decode cX14_end 24 = .ok (.bipush 20, 2) := by decide +kernel
theorem dX14_end_26 : decode cX14_end 26 = .ok (.isub, 1) := by decide +kernel
theorem dX14_end_27 : decode cX14_end 27 = .ok (.iload_n 1, 1) := by decide +kernel
theorem dX14_end_28 : decode cX14_end 28 = .ok (.iadd, 1) := by decide +kernel
theorem dX14_end_29 : decode cX14_end 29 = .ok (.putfield 151, 3) := by decide +kernel
theorem dX14_end_32 : decode cX14_end 32 = .ok (.aload_n 0, 1) := by decide +kernel
theorem dX14_end_33 : decode cX14_end 33 = .ok (.iconst 0, 1) := by decide +kernel
theorem dX14_end_34 : decode cX14_end 34 = .ok (.putfield 157, 3) := by decide +kernel
theorem dX14_end_37 : decode cX14_end 37 = .ok (.aload_n 0, 1) := by decide +kernel
theorem dX14_end_38 : decode cX14_end 38 = .ok (.getfield 151, 3) := by decide +kernel
theorem dX14_end_41 : decode cX14_end 41 = .ok (.ireturn, 1) := by decide +kernel
abbrev r_X14_end : Room := { frames := 0, cells := 0, slots := 0, locals := 0 }
abbrev m_X14_end : xMd := (cX14_end, RX14, 2, (some FieldType.int), false, r_X14_end)
def b_X14_end_17 (Q : xQ) : xK := x_c (.int (-1)) <| x_iret Q
def b_X14_end_0 (Q : xQ) : xK := x_aload 0 <| x_get 13 7 <| x_if_eq ((b_X14_end_17 Q)) <| x_iload 1 <| x_if_lt ((b_X14_end_17 Q)) <| x_iload 1 <| x_c (.int 20) <| x_icmp_le (x_aload 0 <| x_aload 0 <| x_get 13 6 <| x_c (.int 20) <| x_isub <| x_iload 1 <| x_iadd <| x_put 13 6 .int <| x_aload 0 <| x_c (.int 0) <| x_put 13 7 .boolean <| x_aload 0 <| x_get 13 6 <| x_iret Q) <| (b_X14_end_17 Q)
theorem s_X14_end_17 (G : xG) (l : Launch) (Q : xQ) : xW G l m_X14_end xX0 (xPm G Q r_X14_end) 17 (b_X14_end_17 Q) := xo_iconst (pc := 17) dX14_end_17 (by decide) <| xo_iret (pc := 18) rfl dX14_end_18
theorem s_X14_end_0 (G : xG) (l : Launch) (Q : xQ) : xW G l m_X14_end xX0 (xPm G Q r_X14_end) 0 (b_X14_end_0 Q) := xo_aload_n (pc := 0) (i := 0) dX14_end_0 rfl <| xo_get (pc := 1) (ci := 13) (i := 7) rfl ok13 (by decide) dX14_end_1 kw1208 <| xo_if_eq (pc := 4) (tgt := 17) dX14_end_4 (by decide) ((s_X14_end_17 G l Q)) <| xo_iload_n (pc := 7) (i := 1) dX14_end_7 rfl <| xo_if_lt (pc := 8) (tgt := 17) dX14_end_8 (by decide) ((s_X14_end_17 G l Q)) <| xo_iload_n (pc := 11) (i := 1) dX14_end_11 rfl <| xo_bipush (pc := 12) dX14_end_12 (by decide) <| xo_icmp_le (pc := 14) (tgt := 19) dX14_end_14 (by decide) (xo_aload_n (pc := 19) (i := 0) dX14_end_19 rfl <| xo_aload_n (pc := 20) (i := 0) dX14_end_20 rfl <| xo_get (pc := 21) (ci := 13) (i := 6) rfl ok13 (by decide) dX14_end_21 kw1207 <| xo_bipush (pc := 24) dX14_end_24 (by decide) <| xo_isub (pc := 26) dX14_end_26 <| xo_iload_n (pc := 27) (i := 1) dX14_end_27 rfl <| xo_iadd (pc := 28) dX14_end_28 <| xo_put (pc := 29) (ci := 13) (i := 6) rfl ok13 (by decide) rfl rfl dX14_end_29 kw1207 <| xo_aload_n (pc := 32) (i := 0) dX14_end_32 rfl <| xo_iconst (pc := 33) dX14_end_33 (by decide) <| xo_put (pc := 34) (ci := 13) (i := 7) rfl ok13 (by decide) rfl rfl dX14_end_34 kw1208 <| xo_aload_n (pc := 37) (i := 0) dX14_end_37 rfl <| xo_get (pc := 38) (ci := 13) (i := 6) rfl ok13 (by decide) dX14_end_38 kw1207 <| xo_iret (pc := 41) rfl dX14_end_41) <| (s_X14_end_17 G l Q)

def C_X14_end : xC := fun av S Q => ∃ (M : Nat) (s : Nat → Value) (n : Nat) (cs : Nat → vC) (p : Int32) (ts : Nat) (fd : Bool) (t : Nat → Nat), av = [.ref M, .int p] ∧ mz S.1 M s n cs ∧ s 6 = .int (nI ts) ∧ s 7 = .int (bI fd) ∧ ts ≤ 400 ∧ (fd = true → 20 ≤ ts) ∧ tpR S.1 M t ∧ (¬ (fd = true ∧ oB 0 20 p = true) → Q (some (.int (-1))) S) ∧ ∀ k, k ≤ 20 → p = nI k → fd = true → ∀ h', ft h' S.1 M → mz h' M (su (su s 6 (.int (nI (ts - 20 + k)))) 7 (.int (bI false))) n cs → tpR h' M t → Q (some (.int (nI (ts - 20 + k)))) (h', S.2)
theorem cM_X14_end (G : xG) (l : Launch) : xM G l yX14_end cX14_end 2 (some FieldType.int) r_X14_end C_X14_end := by
  refine xM_of (fun Q => b_X14_end_0 Q) RX14 false (s_X14_end_0 G l) (by decide) rfl (by decide) ?_
  rintro av ⟨h, S2⟩ Q ⟨M, s, n, cs, p, ts, fd, t, rfl, ⟨lo, hi, nn, ls, w⟩, s6, s7, hts, hf, ht, hB, hG⟩
  dsimp only at *
  refine ⟨Nat.le_of_ble_eq_true rfl, ?_⟩
  have o20 : p ≤ 20 ↔ p.toInt ≤ 20 := by rw [i_le]; exact Iff.rfl
  have o0 : p < 0 ↔ p.toInt < 0 := by rw [i_lt, i_0]
  simp only [q_c, x_iload, x_lload, x_aload, q_istore, q_lstore, q_astore, q_astore2, x_iinc, q_iadd, q_isub, q_imul, q_iand, q_ior, q_ixor, q_ladd, q_lsub, q_lmul, q_land, q_lor, q_lxor, q_idiv, q_irem, q_ldiv, q_lrem, q_ineg, q_lneg, q_ishl, q_ishr, q_iushr, q_lshl, q_lshr, q_lushr, q_i2l, q_l2i, q_i2b, q_i2c, q_lcmp, q_if_eq, q_if_ne, q_if_lt, q_if_ge, q_if_gt, q_if_le, q_icmp_eq, q_icmp_ne, q_icmp_lt, q_icmp_ge, q_icmp_gt, q_icmp_le, q_dup, q_pop, q_dup_x1, q_dup2, x_iret, x_zret, x_lret, x_aret, x_vret, x_call, x_callv, x_calli, x_oinit, x_mmax, x_mmin, x_mabs, x_mmaxL, x_mminL, x_mabsL, lg_cmp_ge, lg_cmp_le, lg_cmp_gt, lg_cmp_lt, lg_cmp_eq, xlk, q_xs1, q_xs2, lv_args, Value.category, List.filter_cons, List.filter_nil, Nat.reduceAdd, Nat.reduceBEq, Nat.reduceEqDiff, Nat.reduceSub, Nat.sub_zero, beq_self_eq_true, Bool.not_true, Bool.not_false, Bool.and_true, Bool.and_false, Bool.true_and, Bool.false_and, reduceIte, reduceCtorEq, Bool.false_eq_true, Nat.one_ne_zero, Nat.zero_ne_one, Nat.zero_add, Option.toList_some, Option.toList_none, List.nil_append, List.cons_append, List.take_succ_cons, List.take_zero, List.take_nil, List.drop_succ_cons, List.drop_zero, List.length_cons, List.length_nil, List.reverse_cons, List.reverse_nil, List.head?_cons, List.map_cons, List.map_nil, List.sum_cons, List.sum_nil, true_and, and_true, List.getElem?_cons_zero, List.getElem?_cons_succ, Prod.eta, x_iast, x_bald, x_bast, x_last, x_alen, xup_s, xup_a1, xup_1a, xup_uu, nr_i, nr_l, nr_o, nr_a, ft_i, ft_l, ft_o, ft_a, Nat.reduceLT, i_cl0, i_cl1, i_n1, i_m1, List.set_cons_zero, List.set_cons_succ, Nat.reduceLeDiff, Nat.le_refl, Nat.zero_le, Nat.add_zero, x_no, x_ifnull, x_ifnonnull, x_acmp_eq, x_acmp_ne, x_swl, x_tsw, x_castC, true_or, or_true, nr_z, ft_z, nr_z0, nr_z1, ft_z0, ft_z1, nr_on, nr_an, ft_on, ft_an, b_X14_end_0, b_X14_end_17, ms.s6 w, ms.s7 w, ms.s9 w, ms.s15 w, ms.s23 w, ms.s24 w, ms.s25 w, ms.s26 w, ms.s8 w, ms.s10 w, ms.t6 w, ms.t9 w, ms.t15 w, ms.t23 w, ms.t24 w, ms.t7 w, ms.t7a w, ms.t7b w, ms.t25 w, ms.t25a w, ms.t25b w, ms.t26 w, ms.t26a w, ms.t26b w, s6, s7, bI_e0, o20, o0]
  refine ⟨fun a => hB (fun b => absurd b.1 (by rw [a]; decide)), fun a => ⟨fun b => hB (fun d => absurd (of_decide_eq_true d.2) (by omega)), fun b => ⟨fun d => ?_, fun d => hB (fun e => absurd (of_decide_eq_true e.2) (by omega))⟩⟩⟩
  obtain ⟨k, hk, rfl⟩ := oB_t (k := 20) (x := p) (decide_eq_true (by omega)) (by decide)
  have ft' := eq_true_of_ne_false a
  have h20 := hf ft'
  have e1 : nI ts - 20 = nI (ts - 20) := pk_sub (b := 20) (by omega)
  have e2 : nI (ts - 20) + nI k = nI (ts - 20 + k) := (Int32.ofNat_add _ _).symm
  have w2 := w.sf (s' := su s 6 (.int (nI (ts - 20 + k)))) rfl
  have w3 := w2.sf (s' := su (su s 6 (.int (nI (ts - 20 + k)))) 7 (.int (bI false))) rfl
  have e6 : su (su s 6 (.int (nI (ts - 20 + k)))) 7 (.int (bI false)) 6 = .int (nI (ts - 20 + k)) := rfl
  rw [xup_uu] at w3
  have w3' := w3
  simp only [q_c, x_iload, x_lload, x_aload, q_istore, q_lstore, q_astore, q_astore2, x_iinc, q_iadd, q_isub, q_imul, q_iand, q_ior, q_ixor, q_ladd, q_lsub, q_lmul, q_land, q_lor, q_lxor, q_idiv, q_irem, q_ldiv, q_lrem, q_ineg, q_lneg, q_ishl, q_ishr, q_iushr, q_lshl, q_lshr, q_lushr, q_i2l, q_l2i, q_i2b, q_i2c, q_lcmp, q_if_eq, q_if_ne, q_if_lt, q_if_ge, q_if_gt, q_if_le, q_icmp_eq, q_icmp_ne, q_icmp_lt, q_icmp_ge, q_icmp_gt, q_icmp_le, q_dup, q_pop, q_dup_x1, q_dup2, x_iret, x_zret, x_lret, x_aret, x_vret, x_call, x_callv, x_calli, x_oinit, x_mmax, x_mmin, x_mabs, x_mmaxL, x_mminL, x_mabsL, lg_cmp_ge, lg_cmp_le, lg_cmp_gt, lg_cmp_lt, lg_cmp_eq, xlk, q_xs1, q_xs2, lv_args, Value.category, List.filter_cons, List.filter_nil, Nat.reduceAdd, Nat.reduceBEq, Nat.reduceEqDiff, Nat.reduceSub, Nat.sub_zero, beq_self_eq_true, Bool.not_true, Bool.not_false, Bool.and_true, Bool.and_false, Bool.true_and, Bool.false_and, reduceIte, reduceCtorEq, Bool.false_eq_true, Nat.one_ne_zero, Nat.zero_ne_one, Nat.zero_add, Option.toList_some, Option.toList_none, List.nil_append, List.cons_append, List.take_succ_cons, List.take_zero, List.take_nil, List.drop_succ_cons, List.drop_zero, List.length_cons, List.length_nil, List.reverse_cons, List.reverse_nil, List.head?_cons, List.map_cons, List.map_nil, List.sum_cons, List.sum_nil, true_and, and_true, List.getElem?_cons_zero, List.getElem?_cons_succ, Prod.eta, x_iast, x_bald, x_bast, x_last, x_alen, xup_s, xup_a1, xup_1a, xup_uu, nr_i, nr_l, nr_o, nr_a, ft_i, ft_l, ft_o, ft_a, Nat.reduceLT, i_cl0, i_cl1, i_n1, i_m1, List.set_cons_zero, List.set_cons_succ, Nat.reduceLeDiff, Nat.le_refl, Nat.zero_le, Nat.add_zero, x_no, x_ifnull, x_ifnonnull, x_acmp_eq, x_acmp_ne, x_swl, x_tsw, x_castC, true_or, or_true, nr_z, ft_z, nr_z0, nr_z1, ft_z0, ft_z1, nr_on, nr_an, ft_on, ft_an, e1, e2, ms.s6 w, ms.s7 w, ms.s9 w, ms.s15 w, ms.s23 w, ms.s24 w, ms.s25 w, ms.s26 w, ms.s8 w, ms.s10 w, ms.t6 w, ms.t9 w, ms.t15 w, ms.t23 w, ms.t24 w, ms.t7 w, ms.t7a w, ms.t7b w, ms.t25 w, ms.t25a w, ms.t25b w, ms.t26 w, ms.t26a w, ms.t26b w, ms.s6 w2, ms.s7 w2, ms.s9 w2, ms.s15 w2, ms.s23 w2, ms.s24 w2, ms.s25 w2, ms.s26 w2, ms.s8 w2, ms.s10 w2, ms.t6 w2, ms.t9 w2, ms.t15 w2, ms.t23 w2, ms.t24 w2, ms.t7 w2, ms.t7a w2, ms.t7b w2, ms.t25 w2, ms.t25a w2, ms.t25b w2, ms.t26 w2, ms.t26a w2, ms.t26b w2, ms.s6 w3, ms.s7 w3, ms.s9 w3, ms.s15 w3, ms.s23 w3, ms.s24 w3, ms.s25 w3, ms.s26 w3, ms.s8 w3, ms.s10 w3, ms.t6 w3, ms.t9 w3, ms.t15 w3, ms.t23 w3, ms.t24 w3, ms.t7 w3, ms.t7a w3, ms.t7b w3, ms.t25 w3, ms.t25a w3, ms.t25b w3, ms.t26 w3, ms.t26a w3, ms.t26b w3, e6]
  exact hG k hk rfl ft' _ ft.up ⟨_, _, _, _, w3⟩ ht.up
/-- the out: 200 ints -/
def otR (h : xH) (M : Nat) (o : Nat → Nat) : Prop := h (M + 21) = some (.inl (0, 200, .inl (fun i => nI (o i)))) ∧ ∀ i, o i < 256
def fo (h' h : xH) (M : Nat) : Prop := ∀ q, q ≠ M → q ≠ M + 21 → h' q = h q
theorem fo.tr {h h' h'' : xH} {M : Nat} (a : fo h'' h' M) (b : fo h' h M) : fo h'' h M := fun q c d => (a q c d).trans (b q c d)
theorem fo.rf {h : xH} {M : Nat} : fo h h M := fun _ _ _ => rfl
theorem dX14_put_0 : decode cX14_put 0 = .ok (.aload_n 0, 1) := by decide +kernel
theorem dX14_put_1 : decode cX14_put 1 = .ok (.getfield 126, 3) := by decide +kernel
theorem dX14_put_4 : decode cX14_put 4 = .ok (.aload_n 0, 1) := by decide +kernel
theorem dX14_put_5 : decode cX14_put 5 = .ok (.getfield 473, 3) := by decide +kernel
theorem dX14_put_8 : decode cX14_put 8 = .ok (.iload_n 1, 1) := by decide +kernel
theorem dX14_put_9 : decode cX14_put 9 = .ok (.iastore, 1) := by decide +kernel
theorem dX14_put_10 : decode cX14_put 10 = .ok (.aload_n 0, 1) := by decide +kernel
theorem dX14_put_11 : decode cX14_put 11 = .ok (.dup, 1) := by decide +kernel
theorem dX14_put_12 : decode cX14_put 12 = .ok (.getfield 473, 3) := by decide +kernel
theorem dX14_put_15 : decode cX14_put 15 = .ok (.iconst 1, 1) := by decide +kernel
theorem dX14_put_16 : decode cX14_put 16 = .ok (.iadd, 1) := by decide +kernel
theorem dX14_put_17 : decode cX14_put 17 = .ok (.putfield 473, 3) := by decide +kernel
theorem dX14_put_20 : decode cX14_put 20 = .ok (.return_, 1) := by decide +kernel
abbrev r_X14_put : Room := { frames := 0, cells := 0, slots := 0, locals := 0 }
abbrev m_X14_put : xMd := (cX14_put, RX14, 2, none, false, r_X14_put)
def b_X14_put_0 (Q : xQ) : xK := x_aload 0 <| x_get 13 10 <| x_aload 0 <| x_get 13 9 <| x_iload 1 <| x_iast <| x_aload 0 <| x_dup <| x_get 13 9 <| x_c (.int 1) <| x_iadd <| x_put 13 9 .int <| x_vret Q
theorem s_X14_put_0 (G : xG) (l : Launch) (Q : xQ) : xW G l m_X14_put xX0 (xPm G Q r_X14_put) 0 (b_X14_put_0 Q) := xo_aload_n (pc := 0) (i := 0) dX14_put_0 rfl <| xo_get (pc := 1) (ci := 13) (i := 10) rfl ok13 (by decide) dX14_put_1 kw1211 <| xo_aload_n (pc := 4) (i := 0) dX14_put_4 rfl <| xo_get (pc := 5) (ci := 13) (i := 9) rfl ok13 (by decide) dX14_put_5 kw1210 <| xo_iload_n (pc := 8) (i := 1) dX14_put_8 rfl <| xo_iast (pc := 9) dX14_put_9 <| xo_aload_n (pc := 10) (i := 0) dX14_put_10 rfl <| xo_dup (pc := 11) dX14_put_11 <| xo_get (pc := 12) (ci := 13) (i := 9) rfl ok13 (by decide) dX14_put_12 kw1210 <| xo_iconst (pc := 15) dX14_put_15 (by decide) <| xo_iadd (pc := 16) dX14_put_16 <| xo_put (pc := 17) (ci := 13) (i := 9) rfl ok13 (by decide) rfl rfl dX14_put_17 kw1210 <| xo_vret (pc := 20) rfl dX14_put_20

def C_X14_put : xC := fun av S Q => ∃ (M : Nat) (s : Nat → Value) (lo hi : Int) (nn ls : Bool) (n : Nat) (cs : Nat → vC) (b os : Nat) (o : Nat → Nat), av = [.ref M, .int (nI b)] ∧ b < 256 ∧ ms S.1 M (su s 9 (.int (nI os))) lo hi nn ls n cs ∧ os < 200 ∧ otR S.1 M o ∧ ∀ h', fo h' S.1 M → ms h' M (su s 9 (.int (nI (os + 1)))) lo hi nn ls n cs → otR h' M (va_up o os b) → Q none (h', S.2)
theorem cM_X14_put (G : xG) (l : Launch) : xM G l yX14_put cX14_put 2 none r_X14_put C_X14_put := by
  refine xM_of (fun Q => b_X14_put_0 Q) RX14 false (s_X14_put_0 G l) (by decide) rfl (by decide) ?_
  rintro av ⟨h, S2⟩ Q ⟨M, s, lo, hi, nn, ls, n, cs, b, os, o, rfl, hb, w, hos, ho, hQ⟩
  dsimp only at *
  refine ⟨Nat.le_of_ble_eq_true rfl, ?_⟩
  have e9 : su s 9 (.int (nI os)) 9 = .int (nI os) := su_s
  have cl : (nI os).toNatClampNeg = os := m_cl (by omega)
  have e1 : nI os + 1 = nI (os + 1) := nI_1 _
  have in4 : vp_in (nI os) 200 = True := eq_true (vp_in_nI (by omega) (by decide))
  have w2 : ms (xup h (M + 21) (.inl (0, 200, .inl (fun i => nI (va_up o os b i))))) M (su s 9 (.int (nI os))) lo hi nn ls n cs := w.o (fun q d => xup_n (by omega))
  have w3 := w2.sf (s' := su s 9 (.int (nI (os + 1)))) rfl
  simp only [q_c, x_iload, x_lload, x_aload, q_istore, q_lstore, q_astore, q_astore2, x_iinc, q_iadd, q_isub, q_imul, q_iand, q_ior, q_ixor, q_ladd, q_lsub, q_lmul, q_land, q_lor, q_lxor, q_idiv, q_irem, q_ldiv, q_lrem, q_ineg, q_lneg, q_ishl, q_ishr, q_iushr, q_lshl, q_lshr, q_lushr, q_i2l, q_l2i, q_i2b, q_i2c, q_lcmp, q_if_eq, q_if_ne, q_if_lt, q_if_ge, q_if_gt, q_if_le, q_icmp_eq, q_icmp_ne, q_icmp_lt, q_icmp_ge, q_icmp_gt, q_icmp_le, q_dup, q_pop, q_dup_x1, q_dup2, x_iret, x_zret, x_lret, x_aret, x_vret, x_call, x_callv, x_calli, x_oinit, x_mmax, x_mmin, x_mabs, x_mmaxL, x_mminL, x_mabsL, lg_cmp_ge, lg_cmp_le, lg_cmp_gt, lg_cmp_lt, lg_cmp_eq, xlk, q_xs1, q_xs2, lv_args, Value.category, List.filter_cons, List.filter_nil, Nat.reduceAdd, Nat.reduceBEq, Nat.reduceEqDiff, Nat.reduceSub, Nat.sub_zero, beq_self_eq_true, Bool.not_true, Bool.not_false, Bool.and_true, Bool.and_false, Bool.true_and, Bool.false_and, reduceIte, reduceCtorEq, Bool.false_eq_true, Nat.one_ne_zero, Nat.zero_ne_one, Nat.zero_add, Option.toList_some, Option.toList_none, List.nil_append, List.cons_append, List.take_succ_cons, List.take_zero, List.take_nil, List.drop_succ_cons, List.drop_zero, List.length_cons, List.length_nil, List.reverse_cons, List.reverse_nil, List.head?_cons, List.map_cons, List.map_nil, List.sum_cons, List.sum_nil, true_and, and_true, List.getElem?_cons_zero, List.getElem?_cons_succ, Prod.eta, x_iast, x_bald, x_bast, x_last, x_alen, xup_s, xup_a1, xup_1a, xup_uu, nr_i, nr_l, nr_o, nr_a, ft_i, ft_l, ft_o, ft_a, Nat.reduceLT, i_cl0, i_cl1, i_n1, i_m1, List.set_cons_zero, List.set_cons_succ, Nat.reduceLeDiff, Nat.le_refl, Nat.zero_le, Nat.add_zero, x_no, x_ifnull, x_ifnonnull, x_acmp_eq, x_acmp_ne, x_swl, x_tsw, x_castC, true_or, or_true, nr_z, ft_z, nr_z0, nr_z1, ft_z0, ft_z1, nr_on, nr_an, ft_on, ft_an, b_X14_put_0, ms.s6 w, ms.s7 w, ms.s9 w, ms.s15 w, ms.s23 w, ms.s24 w, ms.s25 w, ms.s26 w, ms.s8 w, ms.s10 w, ms.t6 w, ms.t9 w, ms.t15 w, ms.t23 w, ms.t24 w, ms.t7 w, ms.t7a w, ms.t7b w, ms.t25 w, ms.t25a w, ms.t25b w, ms.t26 w, ms.t26a w, ms.t26b w, e9, x_iast, ho.1, cl, in4, upd_nI, ms.s6 w2, ms.s7 w2, ms.s9 w2, ms.s15 w2, ms.s23 w2, ms.s24 w2, ms.s25 w2, ms.s26 w2, ms.s8 w2, ms.s10 w2, ms.t6 w2, ms.t9 w2, ms.t15 w2, ms.t23 w2, ms.t24 w2, ms.t7 w2, ms.t7a w2, ms.t7b w2, ms.t25 w2, ms.t25a w2, ms.t25b w2, ms.t26 w2, ms.t26a w2, ms.t26b w2, e1, su_su]
  refine hQ _ (fun q a c => (xup_n a).trans (xup_n c)) w3 ⟨(xup_n (by omega)).trans xup_s, fun i => ?_⟩
  unfold va_up
  split
  · exact hb
  · exact ho.2 i
