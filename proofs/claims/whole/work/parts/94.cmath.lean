/-! methods of classes with natives, told apart by their names -/
theorem metF {l : Launch} {y : MethodName} {ws ws' : List Cond} {rm : Room} {Pc : Array Value → State → Prop} {Qc : Array Value → State → Outcome → State → Prop} {mc ms : Nat} {free : Addr → Prop} {cc : ByteArray} {maxL : Nat} {ret : Option FieldType} (hy : plainFor y = true) (hw : ws = Cond.code y cc maxL ret :: ws') (body : ∀ p e s m args below meth c s₁, BodyLoose p l y (headSpec ws rm) cc maxL ret e s m args below meth c s₁ → c.maxLocals = maxL → Pc args s → W p l e (headSpec ws rm).room s m args below meth c s.heap [] 0 0 (MQ below Qc args s mc ms free) (entryFrame m args maxL)) : Met l y ws rm Pc Qc mc ms free := by
  refine MetFree.of_bodySF (code := cc) (maxLocals := maxL) (ret := ret) hy ?_ ?_
  · intro args s m h hn
    obtain ⟨meth, c, h1, h2, h3, h4, h5, h6, -, -⟩ := Cond.code_spec hn (atoms_spec (ws := ws) h _ (by rw [hw]; exact List.mem_cons_self))
    exact ⟨meth, c, h1, h2, h3, h4, h5, h6⟩
  · intro p e s m args below meth c s₁ B hml hP _
    obtain ⟨t, a1, o, b1, b2, b3⟩ := body p e s m args below meth c s₁ B hml hP s₁ (by rw [B.state]; rfl) (Stand.of_body B)
    exact ⟨t, o, a1, b1, b2, ⟨b3.1, b3.2⟩⟩
theorem xM_ofF {G : xG} {l : Launch} {y : MethodName} {cc : ByteArray} {nL : Nat} {ret : Option FieldType} {R : Room} {C : xC} (E : xQ → xK) (own : String) (ini : Bool) (hE : ∀ Q, xW G l (cc, own, nL, ret, ini, R) xX0 (xPm G Q R) 0 (E Q)) (hy : plainFor y = true) (ho : y.cls = own) (hi : ini = true → y.name = "<init>") (hC : ∀ av S Q, C av S Q → (lg_sl av).length ≤ nL ∧ E Q (lv_args 0 av) [] S) : xM G l y cc nL ret R C := by
  intro av S Q hc hb1 hb2
  obtain ⟨hn, hK⟩ := hC av S Q hc
  refine metF (cc := cc) (maxL := nL) (ret := ret) hy rfl ?_
  intro p e s m args below meth c s₁ B hml hv
  obtain ⟨rfl, hR, hI⟩ := hv
  have hts := atoms_spec (ws := Cond.code y cc nL ret :: xws) B.pre
  have hown : s.vm.findClass own = some m.cls := by rw [← ho]; exact findClass_of_methodNamed B.named
  have hl := lv_entry av (n := nL) hn
  rw [lg_entry_eq]
  exact hE Q p e s m av.toArray below meth c ⟨B.exec, B.bytes, hml, hown, fun w hw => hts w (List.mem_cons_of_mem _ hw), B.returns, B.notSynchronized, fun h => by rw [← hi h]; exact (name_of_methodNamed B.named B.method).1, hI, trivial, hR.1 ▸ hR.1 ▸ hR.2.1⟩ _ [] S s.heap [] 0 0 _ hK hl hR va_S.rf (by rw [hb1]; exact Nat.le_of_eq (Nat.zero_add _)) (by rw [hb2]; exact Nat.le_of_eq (Nat.zero_add _))
theorem dJ9_floorDiv_7cf53_0 : decode cJ9_floorDiv_7cf53 0 = .ok (.iload_n 0, 1) := by decide +kernel
theorem dJ9_floorDiv_7cf53_1 : decode cJ9_floorDiv_7cf53 1 = .ok (.iload_n 1, 1) := by decide +kernel
theorem dJ9_floorDiv_7cf53_2 : decode cJ9_floorDiv_7cf53 2 = .ok (.idiv, 1) := by decide +kernel
theorem dJ9_floorDiv_7cf53_3 : decode cJ9_floorDiv_7cf53 3 = .ok (.istore_n 2, 1) := by decide +kernel
theorem dJ9_floorDiv_7cf53_4 : decode cJ9_floorDiv_7cf53 4 = .ok (.iload_n 0, 1) := by decide +kernel
theorem dJ9_floorDiv_7cf53_5 : decode cJ9_floorDiv_7cf53 5 = .ok (.iload_n 1, 1) := by decide +kernel
theorem dJ9_floorDiv_7cf53_6 : decode cJ9_floorDiv_7cf53 6 = .ok (.ixor, 1) := by decide +kernel
theorem dJ9_floorDiv_7cf53_7 : decode cJ9_floorDiv_7cf53 7 = .ok (.ifCond .ge 14, 3) := by decide +kernel
theorem dJ9_floorDiv_7cf53_10 : decode cJ9_floorDiv_7cf53 10 = .ok (.iload_n 2, 1) := by decide +kernel
theorem dJ9_floorDiv_7cf53_11 : decode cJ9_floorDiv_7cf53 11 = .ok (.iload_n 1, 1) := by decide +kernel
theorem dJ9_floorDiv_7cf53_12 : decode cJ9_floorDiv_7cf53 12 = .ok (.imul, 1) := by decide +kernel
theorem dJ9_floorDiv_7cf53_13 : decode cJ9_floorDiv_7cf53 13 = .ok (.iload_n 0, 1) := by decide +kernel
theorem dJ9_floorDiv_7cf53_14 : decode cJ9_floorDiv_7cf53 14 = .ok (.if_icmp .eq 7, 3) := by decide +kernel
theorem dJ9_floorDiv_7cf53_17 : decode cJ9_floorDiv_7cf53 17 = .ok (.iload_n 2, 1) := by decide +kernel
theorem dJ9_floorDiv_7cf53_18 : decode cJ9_floorDiv_7cf53 18 = .ok (.iconst 1, 1) := by decide +kernel
theorem dJ9_floorDiv_7cf53_19 : decode cJ9_floorDiv_7cf53 19 = .ok (.isub, 1) := by decide +kernel
theorem dJ9_floorDiv_7cf53_20 : decode cJ9_floorDiv_7cf53 20 = .ok (.ireturn, 1) := by decide +kernel
theorem dJ9_floorDiv_7cf53_21 : decode cJ9_floorDiv_7cf53 21 = .ok (.iload_n 2, 1) := by decide +kernel
theorem dJ9_floorDiv_7cf53_22 : decode cJ9_floorDiv_7cf53 22 = .ok (.ireturn, 1) := by decide +kernel
abbrev r_J9_floorDiv_7cf53 : Room := { frames := 0, cells := 0, slots := 0, locals := 0 }
abbrev m_J9_floorDiv_7cf53 : xMd := (cJ9_floorDiv_7cf53, RJ9, 3, (some FieldType.int), false, r_J9_floorDiv_7cf53)
def b_J9_floorDiv_7cf53_21 (Q : xQ) : xK := x_iload 2 <| x_iret Q
def b_J9_floorDiv_7cf53_0 (Q : xQ) : xK := x_iload 0 <| x_iload 1 <| x_idiv <| x_istore 2 <| x_iload 0 <| x_iload 1 <| x_ixor <| x_if_ge ((b_J9_floorDiv_7cf53_21 Q)) <| x_iload 2 <| x_iload 1 <| x_imul <| x_iload 0 <| x_icmp_eq ((b_J9_floorDiv_7cf53_21 Q)) <| x_iload 2 <| x_c (.int 1) <| x_isub <| x_iret Q
theorem s_J9_floorDiv_7cf53_21 (G : xG) (l : Launch) (Q : xQ) : xW G l m_J9_floorDiv_7cf53 xX0 (xPm G Q r_J9_floorDiv_7cf53) 21 (b_J9_floorDiv_7cf53_21 Q) := xo_iload_n (pc := 21) (i := 2) dJ9_floorDiv_7cf53_21 rfl <| xo_iret (pc := 22) rfl dJ9_floorDiv_7cf53_22
theorem s_J9_floorDiv_7cf53_0 (G : xG) (l : Launch) (Q : xQ) : xW G l m_J9_floorDiv_7cf53 xX0 (xPm G Q r_J9_floorDiv_7cf53) 0 (b_J9_floorDiv_7cf53_0 Q) := xo_iload_n (pc := 0) (i := 0) dJ9_floorDiv_7cf53_0 rfl <| xo_iload_n (pc := 1) (i := 1) dJ9_floorDiv_7cf53_1 rfl <| xo_idiv (pc := 2) dJ9_floorDiv_7cf53_2 <| xo_istore_n (pc := 3) (i := 2) dJ9_floorDiv_7cf53_3 rfl (by decide) <| xo_iload_n (pc := 4) (i := 0) dJ9_floorDiv_7cf53_4 rfl <| xo_iload_n (pc := 5) (i := 1) dJ9_floorDiv_7cf53_5 rfl <| xo_ixor (pc := 6) dJ9_floorDiv_7cf53_6 <| xo_if_ge (pc := 7) (tgt := 21) dJ9_floorDiv_7cf53_7 (by decide) ((s_J9_floorDiv_7cf53_21 G l Q)) <| xo_iload_n (pc := 10) (i := 2) dJ9_floorDiv_7cf53_10 rfl <| xo_iload_n (pc := 11) (i := 1) dJ9_floorDiv_7cf53_11 rfl <| xo_imul (pc := 12) dJ9_floorDiv_7cf53_12 <| xo_iload_n (pc := 13) (i := 0) dJ9_floorDiv_7cf53_13 rfl <| xo_icmp_eq (pc := 14) (tgt := 21) dJ9_floorDiv_7cf53_14 (by decide) ((s_J9_floorDiv_7cf53_21 G l Q)) <| xo_iload_n (pc := 17) (i := 2) dJ9_floorDiv_7cf53_17 rfl <| xo_iconst (pc := 18) dJ9_floorDiv_7cf53_18 (by decide) <| xo_isub (pc := 19) dJ9_floorDiv_7cf53_19 <| xo_iret (pc := 20) rfl dJ9_floorDiv_7cf53_20

def C_J9_floorDiv_7cf53 : xC := fun av S Q => ∃ z : Int, av = [.int (iZ z), .int 100000] ∧ (-1000000000 ≤ z ∧ z ≤ 1000000000) ∧ Q (some (.int (iZ (z / 100000)))) S
theorem td_e {z : Int} : z.tdiv 100000 = if 0 ≤ z then z / 100000 else -(-z / 100000) := by
  split
  · rename_i c
    exact Int.tdiv_eq_ediv_of_nonneg c
  · have e : z = -(-z) := by omega
    rw [e, Int.neg_tdiv, Int.tdiv_eq_ediv_of_nonneg (by omega), Int.neg_neg]
theorem iz_div {z : Int} (h : -1000000000 ≤ z ∧ z ≤ 1000000000) : iZ z / 100000 = iZ (if 0 ≤ z then z / 100000 else -(-z / 100000)) := by
  apply Int32.toInt_inj.mp
  rw [Int32.toInt_div_of_ne_right _ _ (by decide), iZ_toInt (by omega) (by omega), show (100000 : Int32).toInt = 100000 by decide, td_e, iZ_toInt (by split <;> omega) (by split <;> omega)]
theorem iz_neg1 {z : Int} (h : -1000000000 ≤ z ∧ z ≤ 1000000000) : 0 ≤ iZ z ^^^ (100000 : Int32) ↔ 0 ≤ z := by
  have m : ∀ x : BitVec 32, x.toInt < 0 ↔ x.msb = true := fun x => by rw [BitVec.msb_eq_toInt, decide_eq_true_iff]
  have e : (iZ z ^^^ (100000 : Int32)).toInt < 0 ↔ z < 0 := by
    show ((iZ z).toBitVec ^^^ (100000 : Int32).toBitVec).toInt < 0 ↔ _
    rw [m, BitVec.msb_xor, show (100000 : Int32).toBitVec.msb = false by decide, Bool.xor_false, ← m]
    show (iZ z).toInt < 0 ↔ _
    rw [iZ_toInt (by omega) (by omega)]
  rw [i_le, i_0]
  omega
theorem cM_J9_floorDiv_7cf53 (G : xG) (l : Launch) : xM G l yJ9_floorDiv_7cf53 cJ9_floorDiv_7cf53 3 (some FieldType.int) r_J9_floorDiv_7cf53 C_J9_floorDiv_7cf53 := by
  refine xM_ofF (fun Q => b_J9_floorDiv_7cf53_0 Q) RJ9 false (s_J9_floorDiv_7cf53_0 G l) (by decide +kernel) rfl (by decide) ?_
  rintro av S Q ⟨z, rfl, hz, hQ⟩
  refine ⟨Nat.le_of_ble_eq_true rfl, ?_⟩
  have n0 : ¬ (100000 : Int32) = 0 := by decide
  have n0' : ((100000 : Int32) = 0) = False := eq_false n0
  obtain ⟨t, ht⟩ : ∃ t : Int, t = if 0 ≤ z then z / 100000 else -(-z / 100000) := ⟨_, rfl⟩
  have d1 := iz_div hz
  rw [← ht] at d1
  have tb : -10000 ≤ t ∧ t ≤ 10000 := by rw [ht]; split <;> omega
  have m1 : iZ t * (100000 : Int32) = iZ (t * 100000) := by rw [show (100000 : Int32) = iZ 100000 from rfl, iZ_mul]
  have q1 : iZ (t * 100000) = iZ z ↔ t * 100000 = z := iz_inj (by omega) (by omega)
  have s1 : iZ t - 1 = iZ (t - 1) := by rw [show (1 : Int32) = iZ 1 from rfl, iZ_sub]
  simp only [q_c, x_iload, x_lload, x_aload, q_istore, q_lstore, q_astore, q_astore2, x_iinc, q_iadd, q_isub, q_imul, q_iand, q_ior, q_ixor, q_ladd, q_lsub, q_lmul, q_land, q_lor, q_lxor, q_idiv, q_irem, q_ldiv, q_lrem, q_ineg, q_lneg, q_ishl, q_ishr, q_iushr, q_lshl, q_lshr, q_lushr, q_i2l, q_l2i, q_i2b, q_i2c, q_lcmp, q_if_eq, q_if_ne, q_if_lt, q_if_ge, q_if_gt, q_if_le, q_icmp_eq, q_icmp_ne, q_icmp_lt, q_icmp_ge, q_icmp_gt, q_icmp_le, q_dup, q_pop, q_dup_x1, q_dup2, x_iret, x_zret, x_lret, x_aret, x_vret, x_call, x_callv, x_calli, x_oinit, x_mmax, x_mmin, x_mabs, x_mmaxL, x_mminL, x_mabsL, lg_cmp_ge, lg_cmp_le, lg_cmp_gt, lg_cmp_lt, lg_cmp_eq, xlk, q_xs1, q_xs2, lv_args, Value.category, List.filter_cons, List.filter_nil, Nat.reduceAdd, Nat.reduceBEq, Nat.reduceEqDiff, Nat.reduceSub, Nat.sub_zero, beq_self_eq_true, Bool.not_true, Bool.not_false, Bool.and_true, Bool.and_false, Bool.true_and, Bool.false_and, reduceIte, reduceCtorEq, Bool.false_eq_true, Nat.one_ne_zero, Nat.zero_ne_one, Nat.zero_add, Option.toList_some, Option.toList_none, List.nil_append, List.cons_append, List.take_succ_cons, List.take_zero, List.take_nil, List.drop_succ_cons, List.drop_zero, List.length_cons, List.length_nil, List.reverse_cons, List.reverse_nil, List.head?_cons, List.map_cons, List.map_nil, List.sum_cons, List.sum_nil, true_and, and_true, List.getElem?_cons_zero, List.getElem?_cons_succ, Prod.eta, x_iast, x_bald, x_bast, x_last, x_alen, xup_s, xup_a1, xup_1a, xup_uu, nr_i, nr_l, nr_o, nr_a, ft_i, ft_l, ft_o, ft_a, Nat.reduceLT, i_cl0, i_cl1, i_n1, i_m1, List.set_cons_zero, List.set_cons_succ, Nat.reduceLeDiff, Nat.le_refl, Nat.zero_le, Nat.add_zero, x_no, x_ifnull, x_ifnonnull, x_acmp_eq, x_acmp_ne, x_swl, x_tsw, x_castC, true_or, or_true, nr_z, ft_z, nr_z0, nr_z1, ft_z0, ft_z1, nr_on, nr_an, ft_on, ft_an, b_J9_floorDiv_7cf53_0, b_J9_floorDiv_7cf53_21, n0', not_false_eq_true, d1, iz_neg1 hz, m1, q1, s1]
  refine ⟨fun y => ?_, fun y => ⟨fun w => ?_, fun w => ?_⟩⟩
  · rw [if_pos y] at ht; rw [ht]; exact hQ
  · rw [if_neg y] at ht; rw [show z / 100000 = t by omega] at hQ; exact hQ
  · rw [if_neg y] at ht; rw [show z / 100000 = t - 1 by omega] at hQ; exact hQ
