theorem kw1809 : (Jvm.Cond.fieldLink "java/lang/String" (9 : Nat) "java/lang/String" "value" "[B") ∈ xws := xw_t8 129 (by decide +kernel) rfl
