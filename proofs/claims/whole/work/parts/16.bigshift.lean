def pd (d : Nat → Nat) (j : Nat) : Nat := if j = 0 then 0 else d (j - 1)
def se (d : Nat → Nat) (ρ j : Nat) : Nat := (d j * 2 ^ ρ + pd d j * 2 ^ ρ / 2 ^ 32) % 2 ^ 32
theorem shl_hi {x ρ : Nat} (hρ : ρ < 32) (h : x < 2 ^ 32) : x * 2 ^ ρ / 2 ^ 32 < 2 ^ ρ := by
  rw [Nat.div_lt_iff_lt_mul (by decide), Nat.mul_comm (2 ^ ρ)]
  exact Nat.mul_lt_mul_of_pos_right h (Nat.two_pow_pos ρ)
theorem se_eq {d : Nat → Nat} {ρ j : Nat} (hρ : ρ < 32) (hd : ∀ j, d j < 2 ^ 32) : se d ρ j = d j * 2 ^ ρ % 2 ^ 32 + pd d j * 2 ^ ρ / 2 ^ 32 := by
  have hp : pd d j < 2 ^ 32 := by
    unfold pd
    split
    · decide
    · exact hd _
  have h1 := shl_hi hρ hp
  have e6 : (2 : Nat) ^ 32 = 2 ^ ρ * 2 ^ (32 - ρ) := by rw [← Nat.pow_add]; congr 1; omega
  have h2 : d j * 2 ^ ρ % 2 ^ 32 = 2 ^ ρ * (d j % 2 ^ (32 - ρ)) := by rw [e6, Nat.mul_comm (d j), Nat.mul_mod_mul_left]
  have h3 : 2 ^ ρ * (d j % 2 ^ (32 - ρ)) + 2 ^ ρ ≤ 2 ^ 32 := by
    have : 2 ^ ρ * (d j % 2 ^ (32 - ρ) + 1) ≤ 2 ^ ρ * 2 ^ (32 - ρ) := Nat.mul_le_mul_left _ (Nat.mod_lt _ (Nat.two_pow_pos _))
    rw [Nat.mul_add, Nat.mul_one, ← e6] at this
    exact this
  unfold se
  omega
theorem se_sum {d : Nat → Nat} {ρ : Nat} (hρ : ρ < 32) (hd : ∀ j, d j < 2 ^ 32) (m : Nat) : sd (2 ^ 32) (se d ρ) m + pd d m * 2 ^ ρ / 2 ^ 32 * (2 ^ 32) ^ m = 2 ^ ρ * sd (2 ^ 32) d m := by
  induction m with
  | zero => simp [sd, pd]
  | succ m ih =>
    rw [sd, sd, se_eq hρ hd, show pd d (m + 1) = d m from if_neg (by omega), show (2 ^ 32) ^ (m + 1) = (2 ^ 32) ^ m * 2 ^ 32 from Nat.pow_succ _ _, Nat.mul_add, ← ih, Nat.add_mul]
    generalize (2 ^ 32) ^ m = E
    generalize hz : d m * 2 ^ ρ = z
    have h1 := Nat.div_add_mod z (2 ^ 32)
    have h2 : z * E = (2 ^ 32 * (z / 2 ^ 32) + z % 2 ^ 32) * E := by rw [h1]
    rw [Nat.add_mul] at h2
    have h3 : z / 2 ^ 32 * (E * 2 ^ 32) = 2 ^ 32 * (z / 2 ^ 32) * E := by ac_rfl
    have h4 : 2 ^ ρ * (d m * E) = z * E := by rw [← hz]; ac_rfl
    omega
/-- zeros below: the number times a power of the base -/
theorem sd_low {B : Nat} {d e : Nat → Nat} {w : Nat} (h0 : ∀ j, j < w → d j = 0) : ∀ n, (∀ j, j < n → d (w + j) = e j) → sd B d (w + n) = B ^ w * sd B e n := by
  intro n
  induction n with
  | zero =>
    intro _
    rw [sd, Nat.mul_zero, Nat.add_zero]
    have : ∀ m, m ≤ w → sd B d m = 0 := by
      intro m
      induction m with
      | zero => intro _; rfl
      | succ m ih => intro h; rw [sd, ih (by omega), h0 m (by omega), Nat.zero_mul]
    exact this w (Nat.le_refl w)
  | succ n ih =>
    intro h
    rw [← Nat.add_assoc, sd, sd, ih (fun j hj => h j (by omega)), h n (by omega), Nat.mul_add, Nat.pow_add]
    congr 1
    ac_rfl
theorem dgt_pred (f : Nat → Int32) {n k : Nat} (h : k < 2 ^ 31) : dgt f n (nI k - 1) = pd (dg f n) k := by
  cases k with
  | zero =>
    unfold dgt
    rw [if_neg (by rw [show nI 0 - 1 = -1 by decide, show (-1 : Int32).toInt = -1 by decide]; omega)]
    rfl
  | succ k =>
    rw [nI_pred, dgt_nI f n (by omega)]
    rfl
theorem dX0_shiftLeft_0 : decode cX0_shiftLeft 0 = .ok (.iload_n 1, 1) := by decide +kernel
theorem dX0_shiftLeft_1 : decode cX0_shiftLeft 1 = .ok (.iconst 5, 1) := by decide +kernel
theorem dX0_shiftLeft_2 : decode cX0_shiftLeft 2 = .ok (.ishr, 1) := by decide +kernel
theorem dX0_shiftLeft_3 : decode cX0_shiftLeft 3 = .ok (.istore_n 2, 1) := by decide +kernel
theorem dX0_shiftLeft_4 : decode cX0_shiftLeft 4 = .ok (.iload_n 1, 1) := by decide +kernel
theorem dX0_shiftLeft_5 : decode cX0_shiftLeft 5 = .ok (.bipush 31, 2) := by decide +kernel
theorem dX0_shiftLeft_7 : decode cX0_shiftLeft 7 = .ok (.iand, 1) := by decide +kernel
theorem dX0_shiftLeft_8 : decode cX0_shiftLeft 8 = .ok (.istore_n 3, 1) := by decide +kernel
theorem dX0_shiftLeft_9 : decode cX0_shiftLeft 9 = .ok (.iload_n 1, 1) := by decide +kernel
theorem dX0_shiftLeft_10 : decode cX0_shiftLeft 10 = .ok (.ifCond .le 22, 3) := by decide +kernel
theorem dX0_shiftLeft_13 : decode cX0_shiftLeft 13 = .ok (.aload_n 0, 1) := by decide +kernel
theorem dX0_shiftLeft_14 : decode cX0_shiftLeft 14 = .ok (.getfield 13, 3) := by decide +kernel
theorem dX0_shiftLeft_17 : decode cX0_shiftLeft 17 = .ok (.ifCond .eq 15, 3) := by decide +kernel
theorem dX0_shiftLeft_20 : decode cX0_shiftLeft 20 = .ok (.aload_n 0, 1) := by decide +kernel
theorem dX0_shiftLeft_21 : decode cX0_shiftLeft 21 = .ok (.getfield 13, 3) := by decide +kernel
theorem dX0_shiftLeft_24 : decode cX0_shiftLeft 24 = .ok (.iload_n 2, 1) := by decide +kernel
theorem dX0_shiftLeft_25 : decode cX0_shiftLeft 25 = .ok (.iadd, 1) := by decide +kernel
theorem dX0_shiftLeft_26 : decode cX0_shiftLeft 26 = .ok (.sipush 200, 3) := by decide +kernel
theorem dX0_shiftLeft_29 : decode cX0_shiftLeft 29 = .ok (.if_icmp .lt 4, 3) := by decide +kernel
theorem dX0_shiftLeft_32 : decode cX0_shiftLeft 32 = .ok (.return_, 1) := by decide +kernel
theorem dX0_shiftLeft_33 : decode cX0_shiftLeft 33 = .ok (.aload_n 0, 1) := by decide +kernel
theorem dX0_shiftLeft_34 : decode cX0_shiftLeft 34 = .ok (.getfield 13, 3) := by decide +kernel
theorem dX0_shiftLeft_37 : decode cX0_shiftLeft 37 = .ok (.istore 4, 2) := by decide +kernel
theorem dX0_shiftLeft_39 : decode cX0_shiftLeft 39 = .ok (.iload 4, 2) := by decide +kernel
theorem dX0_shiftLeft_41 : decode cX0_shiftLeft 41 = .ok (.ifCond .lt 41, 3) := by decide +kernel
theorem dX0_shiftLeft_44 : decode cX0_shiftLeft 44 = .ok (.aload_n 0, 1) := by decide +kernel
theorem dX0_shiftLeft_45 : decode cX0_shiftLeft 45 = .ok (.getfield 9, 3) := by decide +kernel
theorem dX0_shiftLeft_48 : decode cX0_shiftLeft 48 = .ok (.iload 4, 2) := by decide +kernel
theorem dX0_shiftLeft_50 : decode cX0_shiftLeft 50 = .ok (.iload_n 2, 1) := by decide +kernel
theorem dX0_shiftLeft_51 : decode cX0_shiftLeft 51 = .ok (.iadd, 1) := by decide +kernel
theorem dX0_shiftLeft_52 : decode cX0_shiftLeft 52 = .ok (.aload_n 0, 1) := by decide +kernel
theorem dX0_shiftLeft_53 : decode cX0_shiftLeft 53 = .ok (.iload 4, 2) := by decide +kernel
theorem dX0_shiftLeft_55 : decode cX0_shiftLeft 55 = .ok (.invokevirtual 31, 3) := by decide +kernel
theorem dX0_shiftLeft_58 : decode cX0_shiftLeft 58 = .ok (.iload_n 3, 1) := by decide +kernel
theorem dX0_shiftLeft_59 : decode cX0_shiftLeft 59 = .ok (.lshl, 1) := by decide +kernel
theorem dX0_shiftLeft_60 : decode cX0_shiftLeft 60 = .ok (.aload_n 0, 1) := by decide +kernel
theorem dX0_shiftLeft_61 : decode cX0_shiftLeft 61 = .ok (.iload 4, 2) := by decide +kernel
theorem dX0_shiftLeft_63 : decode cX0_shiftLeft 63 = .ok (.iconst 1, 1) := by decide +kernel
theorem dX0_shiftLeft_64 : decode cX0_shiftLeft 64 = .ok (.isub, 1) := by decide +kernel
theorem dX0_shiftLeft_65 : decode cX0_shiftLeft 65 = .ok (.invokevirtual 31, 3) := by decide +kernel
theorem dX0_shiftLeft_68 : decode cX0_shiftLeft 68 = .ok (.iload_n 3, 1) := by decide +kernel
theorem dX0_shiftLeft_69 : decode cX0_shiftLeft 69 = .ok (.lshl, 1) := by decide +kernel
theorem dX0_shiftLeft_70 : decode cX0_shiftLeft 70 = .ok (.bipush 32, 2) := by decide +kernel
theorem dX0_shiftLeft_72 : decode cX0_shiftLeft 72 = .ok (.lushr, 1) := by decide +kernel
theorem dX0_shiftLeft_73 : decode cX0_shiftLeft 73 = .ok (.lor, 1) := by decide +kernel
theorem dX0_shiftLeft_74 : decode cX0_shiftLeft 74 = .ok (.l2i, 1) := by decide +kernel
theorem dX0_shiftLeft_75 : decode cX0_shiftLeft 75 = .ok (.iastore, 1) := by decide +kernel
theorem dX0_shiftLeft_76 : decode cX0_shiftLeft 76 = .ok (.iinc 4 (-1), 3) := by decide +kernel
theorem dX0_shiftLeft_79 : decode cX0_shiftLeft 79 = .ok (.goto (-40), 3) := by decide +kernel
theorem dX0_shiftLeft_82 : decode cX0_shiftLeft 82 = .ok (.iconst 0, 1) := by decide +kernel
theorem dX0_shiftLeft_83 : decode cX0_shiftLeft 83 = .ok (.istore 4, 2) := by decide +kernel
theorem dX0_shiftLeft_85 : decode cX0_shiftLeft 85 = .ok (.iload 4, 2) := by decide +kernel
theorem dX0_shiftLeft_87 : decode cX0_shiftLeft 87 = .ok (.iload_n 2, 1) := by decide +kernel
theorem dX0_shiftLeft_88 : decode cX0_shiftLeft 88 = .ok (.if_icmp .ge 17, 3) := by decide +kernel
theorem dX0_shiftLeft_91 : decode cX0_shiftLeft 91 = .ok (.aload_n 0, 1) := by decide +kernel
theorem dX0_shiftLeft_92 : decode cX0_shiftLeft 92 = .ok (.getfield 9, 3) := by decide +kernel
theorem dX0_shiftLeft_95 : decode cX0_shiftLeft 95 = .ok (.iload 4, 2) := by decide +kernel
theorem dX0_shiftLeft_97 : decode cX0_shiftLeft 97 = .ok (.iconst 0, 1) := by decide +kernel
theorem dX0_shiftLeft_98 : decode cX0_shiftLeft 98 = .ok (.iastore, 1) := by decide +kernel
theorem dX0_shiftLeft_99 : decode cX0_shiftLeft 99 = .ok (.iinc 4 1, 3) := by decide +kernel
theorem dX0_shiftLeft_102 : decode cX0_shiftLeft 102 = .ok (.goto (-17), 3) := by decide +kernel
theorem dX0_shiftLeft_105 : decode cX0_shiftLeft 105 = .ok (.aload_n 0, 1) := by decide +kernel
theorem dX0_shiftLeft_106 : decode cX0_shiftLeft 106 = .ok (.dup, 1) := by decide +kernel
theorem dX0_shiftLeft_107 : decode cX0_shiftLeft 107 = .ok (.getfield 13, 3) := by decide +kernel
theorem dX0_shiftLeft_110 : decode cX0_shiftLeft 110 = .ok (.iload_n 2, 1) := by decide +kernel
theorem dX0_shiftLeft_111 : decode cX0_shiftLeft 111 = .ok (.iconst 1, 1) := by decide +kernel
theorem dX0_shiftLeft_112 : decode cX0_shiftLeft 112 = .ok (.iadd, 1) := by decide +kernel
theorem dX0_shiftLeft_113 : decode cX0_shiftLeft 113 = .ok (.iadd, 1) := by decide +kernel
theorem dX0_shiftLeft_114 : decode cX0_shiftLeft 114 = .ok (.putfield 13, 3) := by decide +kernel
theorem dX0_shiftLeft_117 : decode cX0_shiftLeft 117 = .ok (.aload_n 0, 1) := by decide +kernel
theorem dX0_shiftLeft_118 : decode cX0_shiftLeft 118 = .ok (.invokevirtual 45, 3) := by decide +kernel
theorem dX0_shiftLeft_121 : decode cX0_shiftLeft 121 = .ok (.return_, 1) := by decide +kernel
abbrev r_X0_shiftLeft : Room := { frames := 1, cells := 0, slots := 0, locals := 21 }
abbrev m_X0_shiftLeft : xMd := (cX0_shiftLeft, RX0, 5, none, false, r_X0_shiftLeft)
def b_X0_shiftLeft_32 (Q : xQ) (K39 : xK) (K85 : xK) : xK := x_vret Q
def b_X0_shiftLeft_39 (Q : xQ) (K39 : xK) (K85 : xK) : xK := x_iload 4 <| x_if_lt (x_c (.int 0) <| x_istore 4 <| K85) <| x_aload 0 <| x_get 1 0 <| x_iload 4 <| x_iload 2 <| x_iadd <| x_aload 0 <| x_iload 4 <| x_callv 1 C_X0_digit 2 0 0 <| x_iload 3 <| x_lshl <| x_aload 0 <| x_iload 4 <| x_c (.int 1) <| x_isub <| x_callv 1 C_X0_digit 2 0 0 <| x_iload 3 <| x_lshl <| x_c (.int 32) <| x_lushr <| x_lor <| x_l2i <| x_iast <| x_iinc 4 (-1) <| K39
def b_X0_shiftLeft_85 (Q : xQ) (K39 : xK) (K85 : xK) : xK := x_iload 4 <| x_iload 2 <| x_icmp_ge (x_aload 0 <| x_dup <| x_get 1 1 <| x_iload 2 <| x_c (.int 1) <| x_iadd <| x_iadd <| x_put 1 1 .int <| x_aload 0 <| x_callv 1 C_X0_trim 1 0 0 <| x_vret Q) <| x_aload 0 <| x_get 1 0 <| x_iload 4 <| x_c (.int 0) <| x_iast <| x_iinc 4 1 <| K85
def b_X0_shiftLeft_0 (Q : xQ) (K39 : xK) (K85 : xK) : xK := x_iload 1 <| x_c (.int 5) <| x_ishr <| x_istore 2 <| x_iload 1 <| x_c (.int 31) <| x_iand <| x_istore 3 <| x_iload 1 <| x_if_le ((b_X0_shiftLeft_32 Q K39 K85)) <| x_aload 0 <| x_get 1 1 <| x_if_eq ((b_X0_shiftLeft_32 Q K39 K85)) <| x_aload 0 <| x_get 1 1 <| x_iload 2 <| x_iadd <| x_c (.int 200) <| x_icmp_lt (x_aload 0 <| x_get 1 1 <| x_istore 4 <| K39) <| (b_X0_shiftLeft_32 Q K39 K85)
theorem s_X0_shiftLeft_32 (G : xG) (l : Launch) (Q : xQ) (K39 : xK) (K85 : xK) (h39 : xW G l m_X0_shiftLeft xX0 (xPm G Q r_X0_shiftLeft) 39 K39) (h85 : xW G l m_X0_shiftLeft xX0 (xPm G Q r_X0_shiftLeft) 85 K85) : xW G l m_X0_shiftLeft xX0 (xPm G Q r_X0_shiftLeft) 32 (b_X0_shiftLeft_32 Q K39 K85) := xo_vret (pc := 32) rfl dX0_shiftLeft_32
theorem s_X0_shiftLeft_39 (G : xG) (l : Launch) (Q : xQ) (K39 : xK) (K85 : xK) (h39 : xW G l m_X0_shiftLeft xX0 (xPm G Q r_X0_shiftLeft) 39 K39) (h85 : xW G l m_X0_shiftLeft xX0 (xPm G Q r_X0_shiftLeft) 85 K85) : xW G l m_X0_shiftLeft xX0 (xPm G Q r_X0_shiftLeft) 39 (b_X0_shiftLeft_39 Q K39 K85) := xo_iload (pc := 39) (i := 4) dX0_shiftLeft_39 <| xo_if_lt (pc := 41) (tgt := 82) dX0_shiftLeft_41 (by decide) (xo_iconst (pc := 82) dX0_shiftLeft_82 (by decide) <| xo_istore (pc := 83) (i := 4) dX0_shiftLeft_83 (by decide) <| h85) <| xo_aload_n (pc := 44) (i := 0) dX0_shiftLeft_44 rfl <| xo_get (pc := 45) (ci := 1) (i := 0) rfl ok1 (by decide) dX0_shiftLeft_45 kw76 <| xo_iload (pc := 48) (i := 4) dX0_shiftLeft_48 <| xo_iload_n (pc := 50) (i := 2) dX0_shiftLeft_50 rfl <| xo_iadd (pc := 51) dX0_shiftLeft_51 <| xo_aload_n (pc := 52) (i := 0) dX0_shiftLeft_52 rfl <| xo_iload (pc := 53) (i := 4) dX0_shiftLeft_53 <| xo_callV (pc := 55) (np := 1) (ci := 1) rfl (cM_X0_digit G l) dX0_shiftLeft_55 kw587 kw584 kw585 kw586 kw6 (by decide +kernel) (by decide) <| xo_iload_n (pc := 58) (i := 3) dX0_shiftLeft_58 rfl <| xo_lshl (pc := 59) dX0_shiftLeft_59 <| xo_aload_n (pc := 60) (i := 0) dX0_shiftLeft_60 rfl <| xo_iload (pc := 61) (i := 4) dX0_shiftLeft_61 <| xo_iconst (pc := 63) dX0_shiftLeft_63 (by decide) <| xo_isub (pc := 64) dX0_shiftLeft_64 <| xo_callV (pc := 65) (np := 1) (ci := 1) rfl (cM_X0_digit G l) dX0_shiftLeft_65 kw587 kw584 kw585 kw586 kw6 (by decide +kernel) (by decide) <| xo_iload_n (pc := 68) (i := 3) dX0_shiftLeft_68 rfl <| xo_lshl (pc := 69) dX0_shiftLeft_69 <| xo_bipush (pc := 70) dX0_shiftLeft_70 (by decide) <| xo_lushr (pc := 72) dX0_shiftLeft_72 <| xo_lor (pc := 73) dX0_shiftLeft_73 <| xo_l2i (pc := 74) dX0_shiftLeft_74 <| xo_iast (pc := 75) dX0_shiftLeft_75 <| xo_iinc (pc := 76) dX0_shiftLeft_76 (by decide) <| xo_goto (pc := 79) (tgt := 39) dX0_shiftLeft_79 (by decide) <| h39
theorem s_X0_shiftLeft_85 (G : xG) (l : Launch) (Q : xQ) (K39 : xK) (K85 : xK) (h39 : xW G l m_X0_shiftLeft xX0 (xPm G Q r_X0_shiftLeft) 39 K39) (h85 : xW G l m_X0_shiftLeft xX0 (xPm G Q r_X0_shiftLeft) 85 K85) : xW G l m_X0_shiftLeft xX0 (xPm G Q r_X0_shiftLeft) 85 (b_X0_shiftLeft_85 Q K39 K85) := xo_iload (pc := 85) (i := 4) dX0_shiftLeft_85 <| xo_iload_n (pc := 87) (i := 2) dX0_shiftLeft_87 rfl <| xo_icmp_ge (pc := 88) (tgt := 105) dX0_shiftLeft_88 (by decide) (xo_aload_n (pc := 105) (i := 0) dX0_shiftLeft_105 rfl <| xo_dup (pc := 106) dX0_shiftLeft_106 <| xo_get (pc := 107) (ci := 1) (i := 1) rfl ok1 (by decide) dX0_shiftLeft_107 kw77 <| xo_iload_n (pc := 110) (i := 2) dX0_shiftLeft_110 rfl <| xo_iconst (pc := 111) dX0_shiftLeft_111 (by decide) <| xo_iadd (pc := 112) dX0_shiftLeft_112 <| xo_iadd (pc := 113) dX0_shiftLeft_113 <| xo_put (pc := 114) (ci := 1) (i := 1) rfl ok1 (by decide) rfl rfl dX0_shiftLeft_114 kw77 <| xo_aload_n (pc := 117) (i := 0) dX0_shiftLeft_117 rfl <| xo_callV (pc := 118) (np := 0) (ci := 1) rfl (cM_X0_trim G l) dX0_shiftLeft_118 kw591 kw588 kw590 ks17 kw6 (by decide +kernel) (by decide) <| xo_vret (pc := 121) rfl dX0_shiftLeft_121) <| xo_aload_n (pc := 91) (i := 0) dX0_shiftLeft_91 rfl <| xo_get (pc := 92) (ci := 1) (i := 0) rfl ok1 (by decide) dX0_shiftLeft_92 kw76 <| xo_iload (pc := 95) (i := 4) dX0_shiftLeft_95 <| xo_iconst (pc := 97) dX0_shiftLeft_97 (by decide) <| xo_iast (pc := 98) dX0_shiftLeft_98 <| xo_iinc (pc := 99) dX0_shiftLeft_99 (by decide) <| xo_goto (pc := 102) (tgt := 85) dX0_shiftLeft_102 (by decide) <| h85
theorem s_X0_shiftLeft_0 (G : xG) (l : Launch) (Q : xQ) (K39 : xK) (K85 : xK) (h39 : xW G l m_X0_shiftLeft xX0 (xPm G Q r_X0_shiftLeft) 39 K39) (h85 : xW G l m_X0_shiftLeft xX0 (xPm G Q r_X0_shiftLeft) 85 K85) : xW G l m_X0_shiftLeft xX0 (xPm G Q r_X0_shiftLeft) 0 (b_X0_shiftLeft_0 Q K39 K85) := xo_iload_n (pc := 0) (i := 1) dX0_shiftLeft_0 rfl <| xo_iconst (pc := 1) dX0_shiftLeft_1 (by decide) <| xo_ishr (pc := 2) dX0_shiftLeft_2 <| xo_istore_n (pc := 3) (i := 2) dX0_shiftLeft_3 rfl (by decide) <| xo_iload_n (pc := 4) (i := 1) dX0_shiftLeft_4 rfl <| xo_bipush (pc := 5) dX0_shiftLeft_5 (by decide) <| xo_iand (pc := 7) dX0_shiftLeft_7 <| xo_istore_n (pc := 8) (i := 3) dX0_shiftLeft_8 rfl (by decide) <| xo_iload_n (pc := 9) (i := 1) dX0_shiftLeft_9 rfl <| xo_if_le (pc := 10) (tgt := 32) dX0_shiftLeft_10 (by decide) ((s_X0_shiftLeft_32 G l Q K39 K85 h39 h85)) <| xo_aload_n (pc := 13) (i := 0) dX0_shiftLeft_13 rfl <| xo_get (pc := 14) (ci := 1) (i := 1) rfl ok1 (by decide) dX0_shiftLeft_14 kw77 <| xo_if_eq (pc := 17) (tgt := 32) dX0_shiftLeft_17 (by decide) ((s_X0_shiftLeft_32 G l Q K39 K85 h39 h85)) <| xo_aload_n (pc := 20) (i := 0) dX0_shiftLeft_20 rfl <| xo_get (pc := 21) (ci := 1) (i := 1) rfl ok1 (by decide) dX0_shiftLeft_21 kw77 <| xo_iload_n (pc := 24) (i := 2) dX0_shiftLeft_24 rfl <| xo_iadd (pc := 25) dX0_shiftLeft_25 <| xo_sipush (pc := 26) dX0_shiftLeft_26 (by decide) <| xo_icmp_lt (pc := 29) (tgt := 33) dX0_shiftLeft_29 (by decide) (xo_aload_n (pc := 33) (i := 0) dX0_shiftLeft_33 rfl <| xo_get (pc := 34) (ci := 1) (i := 1) rfl ok1 (by decide) dX0_shiftLeft_34 kw77 <| xo_istore (pc := 37) (i := 4) dX0_shiftLeft_37 (by decide) <| h39) <| (s_X0_shiftLeft_32 G l Q K39 K85 h39 h85)

def C_X0_shiftLeft : xC := fun av S Q => ∃ t u s, av = [.ref t, .int s] ∧ bigV S.1 t u ∧ u * 2 ^ s.toInt.toNat < 2 ^ 6368 ∧ ∀ h', xoff h' S.1 t (t + 2) → bigV h' t (u * 2 ^ s.toInt.toNat) → Q none (h', S.2)
def cn_X0_shiftLeft2 : Nat × Nat × Nat → List (Nat × Value) := fun v => [(0, .ref v.1), (2, .int (nI v.2.1)), (4, .int (nI v.2.2))]
def I_X0_shiftLeft2 (Q : xQ) : Nat → Nat × Nat × Nat → xS → Prop := fun k v S => match v with
  | (t, w, i) => ∃ f n e, bigR S.1 t f n ∧ k + i = w ∧ n + w < 200 ∧ (∀ j, j < i → wn (f j) = 0) ∧ (∀ j, j ≤ n → wn (f (w + j)) = e j) ∧ ∀ h', xoff h' S.1 t (t + 2) → bigV h' t ((2 ^ 32) ^ w * sd (2 ^ 32) e (n + 1)) → Q none (h', S.2)
def cn_X0_shiftLeft1 : Nat × Nat × Nat × Int32 → List (Nat × Value) := fun v => [(0, .ref v.1), (2, .int (nI v.2.1)), (3, .int (nI v.2.2.1)), (4, .int v.2.2.2)]
def I_X0_shiftLeft1 (Q : xQ) : Nat → Nat × Nat × Nat × Int32 → xS → Prop := fun k v S => match v with
  | (t, w, ρ, i) => ∃ f n d, bigR S.1 t f n ∧ i = nI k - 1 ∧ k ≤ n + 1 ∧ n + w < 200 ∧ ρ < 32 ∧ (∀ j, j < k → dg f n j = d j) ∧ (∀ j, d j < 2 ^ 32) ∧ d n = 0 ∧ (∀ j, k ≤ j → j ≤ n → wn (f (w + j)) = se d ρ j) ∧ ∀ h', xoff h' S.1 t (t + 2) → bigV h' t ((2 ^ 32) ^ w * (2 ^ ρ * sd (2 ^ 32) d n)) → Q none (h', S.2)
theorem cM_X0_shiftLeft (G : xG) (l : Launch) : xM G l yX0_shiftLeft cX0_shiftLeft 5 none r_X0_shiftLeft C_X0_shiftLeft := by
  have L2 : ∀ Q K39, xW G l m_X0_shiftLeft xX0 (xPm G Q r_X0_shiftLeft) 39 K39 → xW G l m_X0_shiftLeft xX0 (xPm G Q r_X0_shiftLeft) 85 (xInv cn_X0_shiftLeft2 (I_X0_shiftLeft2 Q)) := by
    intro Q K39 h39
    refine xW.lp (b_X0_shiftLeft_85 Q K39) (fun K hK => s_X0_shiftLeft_85 G l Q K39 K h39 hK) ?_
    rintro k ⟨t, w, i⟩ S ⟨f, n, e, r, hk, hnw, hz, hw, hQ⟩
    have n2 := r.2.2
    have en := nI_leI (show w < 2 ^ 31 by omega) (show i < 2 ^ 31 by omega)
    have ci := nI_clamp (show i < 2 ^ 31 by omega)
    have g1 : nI w + 1 = nI (w + 1) := nI_1 w
    have g2 : nI n + nI (w + 1) = nI (n + (w + 1)) := nI_add n (w + 1)
    simp only [x_c, x_iload, x_lload, x_aload, x_istore, x_lstore, x_astore, x_iinc, x_iadd, x_isub, x_imul, x_iand, x_ior, x_ixor, x_ladd, x_lsub, x_lmul, x_land, x_lor, x_lxor, x_idiv, x_irem, x_ldiv, x_lrem, x_ineg, x_lneg, x_ishl, x_ishr, x_iushr, x_lshl, x_lshr, x_lushr, x_i2l, x_l2i, x_i2b, x_i2c, x_lcmp, x_if_eq, x_if_ne, x_if_lt, x_if_ge, x_if_gt, x_if_le, x_icmp_eq, x_icmp_ne, x_icmp_lt, x_icmp_ge, x_icmp_gt, x_icmp_le, x_dup, x_pop, x_dup_x1, x_dup2, x_iret, x_zret, x_lret, x_aret, x_vret, x_call, x_callv, x_calli, x_oinit, x_mmax, x_mmin, x_mabs, x_mmaxL, x_mminL, x_mabsL, lg_cmp_ge, lg_cmp_le, lg_cmp_gt, lg_cmp_lt, lg_cmp_eq, xlk, xs1, xs2, lv_args, Value.category, List.filter_cons, List.filter_nil, Nat.reduceAdd, Nat.reduceBEq, Nat.reduceEqDiff, Nat.reduceSub, Nat.sub_zero, beq_self_eq_true, Bool.not_true, Bool.not_false, Bool.and_true, Bool.and_false, Bool.true_and, Bool.false_and, reduceIte, reduceCtorEq, Bool.false_eq_true, Nat.one_ne_zero, Nat.zero_ne_one, Nat.zero_add, Option.toList_some, Option.toList_none, List.nil_append, List.cons_append, List.take_succ_cons, List.take_zero, List.take_nil, List.drop_succ_cons, List.drop_zero, List.length_cons, List.length_nil, List.reverse_cons, List.reverse_nil, List.head?_cons, List.map_cons, List.map_nil, List.sum_cons, List.sum_nil, true_and, and_true, List.getElem?_cons_zero, List.getElem?_cons_succ, Prod.eta, x_get, x_put, x_iald, x_iast, x_bald, x_bast, x_lald, x_last, x_alen, xup_s, xup_a1, xup_1a, xup_uu, nr_i, nr_l, nr_o, nr_a, ft_i, ft_l, ft_o, ft_a, Nat.reduceLT, i_cl0, i_cl1, i_n1, i_m1, List.set_cons_zero, List.set_cons_succ, Nat.reduceLeDiff, Nat.le_refl, Nat.zero_le, Nat.add_zero, b_X0_shiftLeft_0, b_X0_shiftLeft_32, b_X0_shiftLeft_39, b_X0_shiftLeft_85, cn_X0_shiftLeft2, en, r.1, r.2.1, ci, g1, g2]
    refine ⟨fun q => ?_, fun q => ⟨vp_in_nI (by omega) (by decide), ?_⟩⟩
    · obtain rfl : i = w := by omega
      have rM := r.sz (show n + (i + 1) ≤ 200 by omega)
      refine ⟨⟨t, _, rfl, rM.1⟩, t, f, n + (i + 1), rfl, rM, fun h' o' r' => hQ h' (xoff_tr o' off_sz) ?_⟩
      have e1 := sd_low (B := 2 ^ 32) (d := fun j => wn (f j)) (e := e) hz (n + 1) (fun j hj => hw j (by omega))
      rw [← e1, show i + (n + 1) = n + (i + 1) by omega, ← bv_sd]
      exact r'
    · refine xInvL.mk (k - 1) (t, w, i + 1) (by omega) ⟨rfl, rfl, rfl, trivial⟩ ⟨_, n, e, r.wr _, by omega, hnw, fun j hj => ?_, fun j hj => ?_, fun h' o' r' => hQ h' (xoff_tr o' off_wr) r'⟩
      · rcases Nat.lt_or_ge j i with c | c
        · rw [pk_un (by omega)]; exact hz j c
        · rw [show j = i by omega, pk_us]; decide
      · rw [pk_un (by omega)]; exact hw j hj
  have L1 : ∀ Q, xW G l m_X0_shiftLeft xX0 (xPm G Q r_X0_shiftLeft) 39 (xInv cn_X0_shiftLeft1 (I_X0_shiftLeft1 Q)) := by
    intro Q
    refine xW.lp (fun K => b_X0_shiftLeft_39 Q K (xInv cn_X0_shiftLeft2 (I_X0_shiftLeft2 Q))) (fun K hK => s_X0_shiftLeft_39 G l Q K _ hK (L2 Q K hK)) ?_
    rintro k ⟨t, w, ρ, i⟩ S ⟨f, n, d, r, hi, hkn, hnw, hρ, ed, hd, hn0, hw, hQ⟩
    have n2 := r.2.2
    simp only [x_c, x_iload, x_lload, x_aload, x_istore, x_lstore, x_astore, x_iinc, x_iadd, x_isub, x_imul, x_iand, x_ior, x_ixor, x_ladd, x_lsub, x_lmul, x_land, x_lor, x_lxor, x_idiv, x_irem, x_ldiv, x_lrem, x_ineg, x_lneg, x_ishl, x_ishr, x_iushr, x_lshl, x_lshr, x_lushr, x_i2l, x_l2i, x_i2b, x_i2c, x_lcmp, x_if_eq, x_if_ne, x_if_lt, x_if_ge, x_if_gt, x_if_le, x_icmp_eq, x_icmp_ne, x_icmp_lt, x_icmp_ge, x_icmp_gt, x_icmp_le, x_dup, x_pop, x_dup_x1, x_dup2, x_iret, x_zret, x_lret, x_aret, x_vret, x_call, x_callv, x_calli, x_oinit, x_mmax, x_mmin, x_mabs, x_mmaxL, x_mminL, x_mabsL, lg_cmp_ge, lg_cmp_le, lg_cmp_gt, lg_cmp_lt, lg_cmp_eq, xlk, xs1, xs2, lv_args, Value.category, List.filter_cons, List.filter_nil, Nat.reduceAdd, Nat.reduceBEq, Nat.reduceEqDiff, Nat.reduceSub, Nat.sub_zero, beq_self_eq_true, Bool.not_true, Bool.not_false, Bool.and_true, Bool.and_false, Bool.true_and, Bool.false_and, reduceIte, reduceCtorEq, Bool.false_eq_true, Nat.one_ne_zero, Nat.zero_ne_one, Nat.zero_add, Option.toList_some, Option.toList_none, List.nil_append, List.cons_append, List.take_succ_cons, List.take_zero, List.take_nil, List.drop_succ_cons, List.drop_zero, List.length_cons, List.length_nil, List.reverse_cons, List.reverse_nil, List.head?_cons, List.map_cons, List.map_nil, List.sum_cons, List.sum_nil, true_and, and_true, List.getElem?_cons_zero, List.getElem?_cons_succ, Prod.eta, x_get, x_put, x_iald, x_iast, x_bald, x_bast, x_lald, x_last, x_alen, xup_s, xup_a1, xup_1a, xup_uu, nr_i, nr_l, nr_o, nr_a, ft_i, ft_l, ft_o, ft_a, Nat.reduceLT, i_cl0, i_cl1, i_n1, i_m1, List.set_cons_zero, List.set_cons_succ, Nat.reduceLeDiff, Nat.le_refl, Nat.zero_le, Nat.add_zero, b_X0_shiftLeft_39, cn_X0_shiftLeft1, r.1, r.2.1]
    cases k with
    | zero =>
      have e : i < 0 := by rw [hi]; decide
      refine ⟨fun _ => ?_, fun q => absurd e q⟩
      refine xInv.mk w (t, w, 0) ⟨rfl, rfl, rfl, trivial⟩ ⟨f, n, se d ρ, r, rfl, hnw, fun j hj => absurd hj (Nat.not_lt_zero j), fun j hj => hw j (Nat.zero_le j) hj, fun h' o' r' => hQ h' o' ?_⟩
      have e1 := se_sum hρ hd (n + 1)
      rw [show pd d (n + 1) = d n from if_neg (by omega), hn0, Nat.zero_mul, Nat.zero_div, Nat.zero_mul, Nat.add_zero] at e1
      rw [e1, sd, hn0, Nat.zero_mul, Nat.add_zero] at r'
      exact r'
    | succ k =>
      rw [nI_pred] at hi
      subst hi
      have c1 := nI_clamp (show k + w < 2 ^ 31 by omega)
      have g1 : nI k + nI w = nI (k + w) := nI_add k w
      refine ⟨fun q => absurd q (nI_pos (by omega)), fun _ => ⟨⟨t, _, rfl, r.1⟩, t, f, n, _, r, rfl, ?_⟩⟩
      simp only [x_c, x_iload, x_lload, x_aload, x_istore, x_lstore, x_astore, x_iinc, x_iadd, x_isub, x_imul, x_iand, x_ior, x_ixor, x_ladd, x_lsub, x_lmul, x_land, x_lor, x_lxor, x_idiv, x_irem, x_ldiv, x_lrem, x_ineg, x_lneg, x_ishl, x_ishr, x_iushr, x_lshl, x_lshr, x_lushr, x_i2l, x_l2i, x_i2b, x_i2c, x_lcmp, x_if_eq, x_if_ne, x_if_lt, x_if_ge, x_if_gt, x_if_le, x_icmp_eq, x_icmp_ne, x_icmp_lt, x_icmp_ge, x_icmp_gt, x_icmp_le, x_dup, x_pop, x_dup_x1, x_dup2, x_iret, x_zret, x_lret, x_aret, x_vret, x_call, x_callv, x_calli, x_oinit, x_mmax, x_mmin, x_mabs, x_mmaxL, x_mminL, x_mabsL, lg_cmp_ge, lg_cmp_le, lg_cmp_gt, lg_cmp_lt, lg_cmp_eq, xlk, xs1, xs2, lv_args, Value.category, List.filter_cons, List.filter_nil, Nat.reduceAdd, Nat.reduceBEq, Nat.reduceEqDiff, Nat.reduceSub, Nat.sub_zero, beq_self_eq_true, Bool.not_true, Bool.not_false, Bool.and_true, Bool.and_false, Bool.true_and, Bool.false_and, reduceIte, reduceCtorEq, Bool.false_eq_true, Nat.one_ne_zero, Nat.zero_ne_one, Nat.zero_add, Option.toList_some, Option.toList_none, List.nil_append, List.cons_append, List.take_succ_cons, List.take_zero, List.take_nil, List.drop_succ_cons, List.drop_zero, List.length_cons, List.length_nil, List.reverse_cons, List.reverse_nil, List.head?_cons, List.map_cons, List.map_nil, List.sum_cons, List.sum_nil, true_and, and_true, List.getElem?_cons_zero, List.getElem?_cons_succ, Prod.eta, x_get, x_put, x_iald, x_iast, x_bald, x_bast, x_lald, x_last, x_alen, xup_s, xup_a1, xup_1a, xup_uu, nr_i, nr_l, nr_o, nr_a, ft_i, ft_l, ft_o, ft_a, Nat.reduceLT, i_cl0, i_cl1, i_n1, i_m1, List.set_cons_zero, List.set_cons_succ, Nat.reduceLeDiff, Nat.le_refl, Nat.zero_le, Nat.add_zero]
      refine ⟨⟨t, _, rfl, r.1⟩, t, f, n, _, r, rfl, ?_⟩
      have hk1 := ed k (by omega)
      have hk2 : pd (dg f n) k = pd d k := by
        unfold pd
        split
        · rfl
        · exact ed (k - 1) (by omega)
      have dk := hd k
      have dp : pd d k < 2 ^ 32 := by
        unfold pd
        split
        · decide
        · exact hd _
      have sL : ∀ x : Nat, lN x <<< ((nI ρ).toInt64 &&& 63) = lN (x * 2 ^ ρ) := fun x => wb_shl x (k := ρ) (by omega)
      have hb : ∀ x, x < 2 ^ 32 → x * 2 ^ ρ < 2 ^ 64 := fun x hx => Nat.lt_of_lt_of_le (Nat.mul_lt_mul_of_pos_right hx (Nat.two_pow_pos ρ)) (by rw [← Nat.pow_add]; exact Nat.pow_le_pow_right (by decide) (by omega))
      have hb2 := hb _ dk
      have hb3 := hb _ dp
      have h1 := shl_hi hρ dp
      have eo : lN (d k * 2 ^ ρ) ||| lN (pd d k * 2 ^ ρ / 2 ^ 32) = lN (d k * 2 ^ ρ + pd d k * 2 ^ ρ / 2 ^ 32) := by
        refine g_or (k := ρ) rfl h1 ?_
        have e6 : (2 : Nat) ^ 64 = 2 ^ ρ * 2 ^ (64 - ρ) := by rw [← Nat.pow_add]; congr 1; omega
        have h7 : d k + 1 ≤ 2 ^ (64 - ρ) := Nat.le_trans dk (Nat.pow_le_pow_right (by decide) (by omega))
        have h8 : 2 ^ ρ * (d k + 1) ≤ 2 ^ ρ * 2 ^ (64 - ρ) := Nat.mul_le_mul_left _ h7
        rw [Nat.mul_add, Nat.mul_one, ← e6, Nat.mul_comm] at h8
        omega
      simp only [x_c, x_iload, x_lload, x_aload, x_istore, x_lstore, x_astore, x_iinc, x_iadd, x_isub, x_imul, x_iand, x_ior, x_ixor, x_ladd, x_lsub, x_lmul, x_land, x_lor, x_lxor, x_idiv, x_irem, x_ldiv, x_lrem, x_ineg, x_lneg, x_ishl, x_ishr, x_iushr, x_lshl, x_lshr, x_lushr, x_i2l, x_l2i, x_i2b, x_i2c, x_lcmp, x_if_eq, x_if_ne, x_if_lt, x_if_ge, x_if_gt, x_if_le, x_icmp_eq, x_icmp_ne, x_icmp_lt, x_icmp_ge, x_icmp_gt, x_icmp_le, x_dup, x_pop, x_dup_x1, x_dup2, x_iret, x_zret, x_lret, x_aret, x_vret, x_call, x_callv, x_calli, x_oinit, x_mmax, x_mmin, x_mabs, x_mmaxL, x_mminL, x_mabsL, lg_cmp_ge, lg_cmp_le, lg_cmp_gt, lg_cmp_lt, lg_cmp_eq, xlk, xs1, xs2, lv_args, Value.category, List.filter_cons, List.filter_nil, Nat.reduceAdd, Nat.reduceBEq, Nat.reduceEqDiff, Nat.reduceSub, Nat.sub_zero, beq_self_eq_true, Bool.not_true, Bool.not_false, Bool.and_true, Bool.and_false, Bool.true_and, Bool.false_and, reduceIte, reduceCtorEq, Bool.false_eq_true, Nat.one_ne_zero, Nat.zero_ne_one, Nat.zero_add, Option.toList_some, Option.toList_none, List.nil_append, List.cons_append, List.take_succ_cons, List.take_zero, List.take_nil, List.drop_succ_cons, List.drop_zero, List.length_cons, List.length_nil, List.reverse_cons, List.reverse_nil, List.head?_cons, List.map_cons, List.map_nil, List.sum_cons, List.sum_nil, true_and, and_true, List.getElem?_cons_zero, List.getElem?_cons_succ, Prod.eta, x_get, x_put, x_iald, x_iast, x_bald, x_bast, x_lald, x_last, x_alen, xup_s, xup_a1, xup_1a, xup_uu, nr_i, nr_l, nr_o, nr_a, ft_i, ft_l, ft_o, ft_a, Nat.reduceLT, i_cl0, i_cl1, i_n1, i_m1, List.set_cons_zero, List.set_cons_succ, Nat.reduceLeDiff, Nat.le_refl, Nat.zero_le, Nat.add_zero, r.1, r.2.1, dgt_nI f n (show k < 2 ^ 31 by omega), dgt_pred f (n := n) (show k < 2 ^ 31 by omega), hk1, hk2, sL, lN_ush32 hb3, eo, lN_l2i, g1, c1]
      refine ⟨vp_in_nI (by omega) (by decide), xInvL.mk k (t, w, ρ, nI k - 1) (by omega) ⟨rfl, rfl, rfl, rfl, trivial⟩ ⟨_, n, d, r.wr _, rfl, by omega, hnw, hρ, fun j hj => ?_, hd, hn0, fun j h1 h2 => ?_, fun h' o' r' => hQ h' (xoff_tr o' off_wr) r'⟩⟩
      · rw [← ed j (by omega)]
        unfold dg
        rw [pk_un (by omega)]
      · rcases Nat.lt_or_ge k j with c | c
        · rw [pk_un (by omega)]; exact hw j (by omega) h2
        · rw [show j = k by omega, Nat.add_comm w k, pk_us, wn_nI]; rfl
  refine xM_of (fun Q => b_X0_shiftLeft_0 Q (xInv cn_X0_shiftLeft1 (I_X0_shiftLeft1 Q)) (xInv cn_X0_shiftLeft2 (I_X0_shiftLeft2 Q))) RX0 false (fun Q => s_X0_shiftLeft_0 G l Q _ _ (L1 Q) (L2 Q _ (L1 Q))) (by decide) rfl (by decide) ?_
  rintro av S Q ⟨t, u, s, rfl, ⟨f, n, r, rfl, z0⟩, hm, hQ⟩
  refine ⟨Nat.le_of_ble_eq_true rfl, ?_⟩
  have n2 := r.2.2
  have rV : bigV S.1 t (bv f n) := ⟨f, n, r, rfl, z0⟩
  have en0 : nI n = 0 ↔ n = 0 := nI_eq (b := 0) (by omega) (by decide)
  simp only [x_c, x_iload, x_lload, x_aload, x_istore, x_lstore, x_astore, x_iinc, x_iadd, x_isub, x_imul, x_iand, x_ior, x_ixor, x_ladd, x_lsub, x_lmul, x_land, x_lor, x_lxor, x_idiv, x_irem, x_ldiv, x_lrem, x_ineg, x_lneg, x_ishl, x_ishr, x_iushr, x_lshl, x_lshr, x_lushr, x_i2l, x_l2i, x_i2b, x_i2c, x_lcmp, x_if_eq, x_if_ne, x_if_lt, x_if_ge, x_if_gt, x_if_le, x_icmp_eq, x_icmp_ne, x_icmp_lt, x_icmp_ge, x_icmp_gt, x_icmp_le, x_dup, x_pop, x_dup_x1, x_dup2, x_iret, x_zret, x_lret, x_aret, x_vret, x_call, x_callv, x_calli, x_oinit, x_mmax, x_mmin, x_mabs, x_mmaxL, x_mminL, x_mabsL, lg_cmp_ge, lg_cmp_le, lg_cmp_gt, lg_cmp_lt, lg_cmp_eq, xlk, xs1, xs2, lv_args, Value.category, List.filter_cons, List.filter_nil, Nat.reduceAdd, Nat.reduceBEq, Nat.reduceEqDiff, Nat.reduceSub, Nat.sub_zero, beq_self_eq_true, Bool.not_true, Bool.not_false, Bool.and_true, Bool.and_false, Bool.true_and, Bool.false_and, reduceIte, reduceCtorEq, Bool.false_eq_true, Nat.one_ne_zero, Nat.zero_ne_one, Nat.zero_add, Option.toList_some, Option.toList_none, List.nil_append, List.cons_append, List.take_succ_cons, List.take_zero, List.take_nil, List.drop_succ_cons, List.drop_zero, List.length_cons, List.length_nil, List.reverse_cons, List.reverse_nil, List.head?_cons, List.map_cons, List.map_nil, List.sum_cons, List.sum_nil, true_and, and_true, List.getElem?_cons_zero, List.getElem?_cons_succ, Prod.eta, x_get, x_put, x_iald, x_iast, x_bald, x_bast, x_lald, x_last, x_alen, xup_s, xup_a1, xup_1a, xup_uu, nr_i, nr_l, nr_o, nr_a, ft_i, ft_l, ft_o, ft_a, Nat.reduceLT, i_cl0, i_cl1, i_n1, i_m1, List.set_cons_zero, List.set_cons_succ, Nat.reduceLeDiff, Nat.le_refl, Nat.zero_le, Nat.add_zero, b_X0_shiftLeft_0, b_X0_shiftLeft_32, r.1, en0]
  refine ⟨fun q => ?_, fun q => ⟨fun z => ?_, fun z => ?_⟩⟩
  · rw [i_le, i_0] at q
    rw [show s.toInt.toNat = 0 by omega, Nat.pow_zero, Nat.mul_one] at hQ
    exact hQ _ xoff_rf rV
  · subst z
    rw [show bv f 0 = 0 from rfl, Nat.zero_mul] at hQ
    exact hQ _ xoff_rf rV
  · rw [i_le, i_0] at q
    obtain ⟨σ, hσ, rfl⟩ := nI_of (x := s) (by rw [i_lt, i_0]; omega)
    rw [nI_toInt hσ] at q hm hQ
    simp only [Int.toNat_natCast] at hm hQ
    have e5 : nI σ >>> ((5 : Int32) &&& 31) = nI (σ / 2 ^ 5) := pk_shrN (by omega) _ 5 (by decide)
    have e31 : nI σ &&& (31 : Int32) = nI (σ % 2 ^ 5) := pk_andN (by omega) 5 (by decide)
    have g1 : nI n + nI (σ / 2 ^ 5) = nI (n + σ / 2 ^ 5) := nI_add _ _
    have h1 := bv_top (by omega) (z0 (by omega))
    have hlt : n + σ / 32 < 200 := by
      have h2 : 2 ^ (32 * (n - 1)) * 2 ^ σ ≤ bv f n * 2 ^ σ := Nat.mul_le_mul_right _ h1
      rw [← Nat.pow_add] at h2
      have h3 : 32 * (n - 1) + σ < 6368 := (Nat.pow_lt_pow_iff_right (by decide)).mp (Nat.lt_of_le_of_lt h2 hm)
      omega
    rw [e5, e31, g1]
    refine ⟨fun _ => ?_, fun c => absurd (show nI (n + σ / 2 ^ 5) < nI 200 from nI_lt (by omega) (by decide)) c⟩
    have cA := bv_dg (f := f) (Nat.le_refl n)
    have e2 : nI n = nI (n + 1) - 1 := (nI_pred n).symm
    refine xInv.mk (n + 1) (t, σ / 2 ^ 5, σ % 2 ^ 5, nI n) ⟨rfl, rfl, rfl, rfl, trivial⟩ ⟨f, n, dg f n, r, e2, by omega, by omega, by omega, fun _ _ => rfl, dg_lt f n, if_neg (by omega), fun j h1 h2 => by omega, fun h' o' r' => hQ h' o' ?_⟩
    rw [← cA, ← Nat.mul_assoc, ← Nat.pow_mul, ← Nat.pow_add, show 32 * (σ / 2 ^ 5) + σ % 2 ^ 5 = σ by omega, Nat.mul_comm] at r'
    exact r'
