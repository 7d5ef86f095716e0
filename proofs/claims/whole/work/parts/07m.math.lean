/-! Math.max, min, abs -/
def x_mmax (k : xK) : xK := fun lv st S => match st with
  | .int y :: .int x :: r => (r.map fun v => v.category).sum ≤ 8 ∧ k lv (.int (if x < y then y else x) :: r) S
  | _ => False
theorem xo_mmax {G : xG} {l : Launch} {M : xMd} {X : Array Value → State → Prop} {P : xP} {pc : Nat} {k : xK} {index : Nat} (hd : decode M.1 pc = .ok (.invokestatic index, 3)) (hlk : Cond.methodLink M.2.1 index Lib.Math.max.name ∈ xws) (hst : Cond.static Lib.Math.max.name ∈ xws) (hini : Cond.initialized "java/lang/Math" ∈ xws) (hcode : Cond.code Lib.Math.max.name Lib.Math.max.code 2 (some .int) ∈ xws) (hroom : 1 ≤ M.2.2.2.2.2.frames ∧ 21 ≤ M.2.2.2.2.2.locals) (h : xW G l M X P (pc + 3) k) : xW G l M X P pc (x_mmax k) := by
  intro p e s m args below meth c C lv st S H locs cells slots ls hK hl hR hS hc hs
  unfold x_mmax at hK
  split at hK
  · exact va_mmax C.1 C.2.1 (C.2.2.1.trans hl.1.symm) C.2.2.2.1 (C.2.2.2.2.1 _ hlk) (C.2.2.2.2.1 _ hst) (C.2.2.2.2.1 _ hini) (C.2.2.2.2.1 _ hcode) hroom.1 (by omega) (by omega) (by omega) hd (h p e s m args below meth c C _ _ S H locs cells slots ls hK.2 hl hR hS hc hs)
  · exact hK.elim
def x_mmin (k : xK) : xK := fun lv st S => match st with
  | .int y :: .int x :: r => (r.map fun v => v.category).sum ≤ 8 ∧ k lv (.int (if y < x then y else x) :: r) S
  | _ => False
theorem xo_mmin {G : xG} {l : Launch} {M : xMd} {X : Array Value → State → Prop} {P : xP} {pc : Nat} {k : xK} {index : Nat} (hd : decode M.1 pc = .ok (.invokestatic index, 3)) (hlk : Cond.methodLink M.2.1 index Lib.Math.min.name ∈ xws) (hst : Cond.static Lib.Math.min.name ∈ xws) (hini : Cond.initialized "java/lang/Math" ∈ xws) (hcode : Cond.code Lib.Math.min.name Lib.Math.min.code 2 (some .int) ∈ xws) (hroom : 1 ≤ M.2.2.2.2.2.frames ∧ 21 ≤ M.2.2.2.2.2.locals) (h : xW G l M X P (pc + 3) k) : xW G l M X P pc (x_mmin k) := by
  intro p e s m args below meth c C lv st S H locs cells slots ls hK hl hR hS hc hs
  unfold x_mmin at hK
  split at hK
  · exact va_mmin C.1 C.2.1 (C.2.2.1.trans hl.1.symm) C.2.2.2.1 (C.2.2.2.2.1 _ hlk) (C.2.2.2.2.1 _ hst) (C.2.2.2.2.1 _ hini) (C.2.2.2.2.1 _ hcode) hroom.1 (by omega) (by omega) (by omega) hd (h p e s m args below meth c C _ _ S H locs cells slots ls hK.2 hl hR hS hc hs)
  · exact hK.elim
def x_mabs (k : xK) : xK := fun lv st S => match st with
  | .int x :: r => (r.map fun v => v.category).sum ≤ 8 ∧ k lv (.int (if 0 ≤ x then x else 0 - x) :: r) S
  | _ => False
theorem xo_mabs {G : xG} {l : Launch} {M : xMd} {X : Array Value → State → Prop} {P : xP} {pc : Nat} {k : xK} {index : Nat} (hd : decode M.1 pc = .ok (.invokestatic index, 3)) (hlk : Cond.methodLink M.2.1 index Lib.Math.abs.name ∈ xws) (hst : Cond.static Lib.Math.abs.name ∈ xws) (hini : Cond.initialized "java/lang/Math" ∈ xws) (hcode : Cond.code Lib.Math.abs.name Lib.Math.abs.code 1 (some .int) ∈ xws) (hroom : 1 ≤ M.2.2.2.2.2.frames ∧ 21 ≤ M.2.2.2.2.2.locals) (h : xW G l M X P (pc + 3) k) : xW G l M X P pc (x_mabs k) := by
  intro p e s m args below meth c C lv st S H locs cells slots ls hK hl hR hS hc hs
  unfold x_mabs at hK
  split at hK
  · exact va_mabs C.1 C.2.1 (C.2.2.1.trans hl.1.symm) C.2.2.2.1 (C.2.2.2.2.1 _ hlk) (C.2.2.2.2.1 _ hst) (C.2.2.2.2.1 _ hini) (C.2.2.2.2.1 _ hcode) hroom.1 (by omega) (by omega) (by omega) hd (h p e s m args below meth c C _ _ S H locs cells slots ls hK.2 hl hR hS hc hs)
  · exact hK.elim
def x_mmaxL (k : xK) : xK := fun lv st S => match st with
  | .long y :: .long x :: r => (r.map fun v => v.category).sum ≤ 8 ∧ k lv (.long (if y < x then x else y) :: r) S
  | _ => False
theorem xo_mmaxL {G : xG} {l : Launch} {M : xMd} {X : Array Value → State → Prop} {P : xP} {pc : Nat} {k : xK} {index : Nat} (hd : decode M.1 pc = .ok (.invokestatic index, 3)) (hlk : Cond.methodLink M.2.1 index Lib.MathLoose.max_long.x ∈ xws) (hst : Cond.static Lib.MathLoose.max_long.x ∈ xws) (hini : Cond.initialized "java/lang/Math" ∈ xws) (hcode : Cond.code Lib.MathLoose.max_long.x Lib.MathLoose.max_long.code 4 (some .long) ∈ xws) (hroom : 1 ≤ M.2.2.2.2.2.frames ∧ 23 ≤ M.2.2.2.2.2.locals) (h : xW G l M X P (pc + 3) k) : xW G l M X P pc (x_mmaxL k) := by
  intro p e s m args below meth c C lv st S H locs cells slots ls hK hl hR hS hc hs
  unfold x_mmaxL at hK
  split at hK
  · exact va_mmax_long C.1 C.2.1 (C.2.2.1.trans hl.1.symm) C.2.2.2.1 (C.2.2.2.2.1 _ hlk) (C.2.2.2.2.1 _ hst) (C.2.2.2.2.1 _ hini) (C.2.2.2.2.1 _ hcode) hroom.1 (by omega) (by omega) (by omega) hd (h p e s m args below meth c C _ _ S H locs cells slots ls hK.2 hl hR hS hc hs)
  · exact hK.elim
def x_mminL (k : xK) : xK := fun lv st S => match st with
  | .long y :: .long x :: r => (r.map fun v => v.category).sum ≤ 8 ∧ k lv (.long (if y < x then y else x) :: r) S
  | _ => False
theorem xo_mminL {G : xG} {l : Launch} {M : xMd} {X : Array Value → State → Prop} {P : xP} {pc : Nat} {k : xK} {index : Nat} (hd : decode M.1 pc = .ok (.invokestatic index, 3)) (hlk : Cond.methodLink M.2.1 index Lib.MathLoose.min_long.x ∈ xws) (hst : Cond.static Lib.MathLoose.min_long.x ∈ xws) (hini : Cond.initialized "java/lang/Math" ∈ xws) (hcode : Cond.code Lib.MathLoose.min_long.x Lib.MathLoose.min_long.code 4 (some .long) ∈ xws) (hroom : 1 ≤ M.2.2.2.2.2.frames ∧ 23 ≤ M.2.2.2.2.2.locals) (h : xW G l M X P (pc + 3) k) : xW G l M X P pc (x_mminL k) := by
  intro p e s m args below meth c C lv st S H locs cells slots ls hK hl hR hS hc hs
  unfold x_mminL at hK
  split at hK
  · exact va_mmin_long C.1 C.2.1 (C.2.2.1.trans hl.1.symm) C.2.2.2.1 (C.2.2.2.2.1 _ hlk) (C.2.2.2.2.1 _ hst) (C.2.2.2.2.1 _ hini) (C.2.2.2.2.1 _ hcode) hroom.1 (by omega) (by omega) (by omega) hd (h p e s m args below meth c C _ _ S H locs cells slots ls hK.2 hl hR hS hc hs)
  · exact hK.elim
def x_mabsL (k : xK) : xK := fun lv st S => match st with
  | .long x :: r => (r.map fun v => v.category).sum ≤ 8 ∧ k lv (.long (if 0 < x then x else -x) :: r) S
  | _ => False
theorem xo_mabsL {G : xG} {l : Launch} {M : xMd} {X : Array Value → State → Prop} {P : xP} {pc : Nat} {k : xK} {index : Nat} (hd : decode M.1 pc = .ok (.invokestatic index, 3)) (hlk : Cond.methodLink M.2.1 index Lib.MathLoose.abs_long.x ∈ xws) (hst : Cond.static Lib.MathLoose.abs_long.x ∈ xws) (hini : Cond.initialized "java/lang/Math" ∈ xws) (hcode : Cond.code Lib.MathLoose.abs_long.x Lib.MathLoose.abs_long.code 2 (some .long) ∈ xws) (hroom : 1 ≤ M.2.2.2.2.2.frames ∧ 21 ≤ M.2.2.2.2.2.locals) (h : xW G l M X P (pc + 3) k) : xW G l M X P pc (x_mabsL k) := by
  intro p e s m args below meth c C lv st S H locs cells slots ls hK hl hR hS hc hs
  unfold x_mabsL at hK
  split at hK
  · exact va_mabs_long C.1 C.2.1 (C.2.2.1.trans hl.1.symm) C.2.2.2.1 (C.2.2.2.2.1 _ hlk) (C.2.2.2.2.1 _ hst) (C.2.2.2.2.1 _ hini) (C.2.2.2.2.1 _ hcode) hroom.1 (by omega) (by omega) (by omega) hd (h p e s m args below meth c C _ _ S H locs cells slots ls hK.2 hl hR hS hc hs)
  · exact hK.elim
