/-! the words of the tables, each by its place -/
theorem tb_app {w : Cond} {a b : List Cond} (h : w ∈ a ∨ w ∈ b) : w ∈ a ++ b := List.mem_append.mpr h
theorem xw_t1 {w : Cond} (i : Nat) (h : tables_1_1[i]? = some w) (g : goodWord w = true) : w ∈ xws := List.mem_filter.mpr ⟨List.mem_append_right _ (by unfold tables_1; exact tb_app (Or.inl (List.mem_of_getElem? h))), g⟩
theorem xn_t1 {w : Cond} (i : Nat) (h : tables_1_1[i]? = some w) (g : xisN w = true) : w ∈ xnw := List.mem_filter.mpr ⟨List.mem_append_right _ (by unfold tables_1; exact tb_app (Or.inl (List.mem_of_getElem? h))), g⟩
theorem xw_t2 {w : Cond} (i : Nat) (h : tables_1_2[i]? = some w) (g : goodWord w = true) : w ∈ xws := List.mem_filter.mpr ⟨List.mem_append_right _ (by unfold tables_1; exact tb_app (Or.inr (tb_app (Or.inl (List.mem_of_getElem? h))))), g⟩
theorem xn_t2 {w : Cond} (i : Nat) (h : tables_1_2[i]? = some w) (g : xisN w = true) : w ∈ xnw := List.mem_filter.mpr ⟨List.mem_append_right _ (by unfold tables_1; exact tb_app (Or.inr (tb_app (Or.inl (List.mem_of_getElem? h))))), g⟩
theorem xw_t3 {w : Cond} (i : Nat) (h : tables_1_3[i]? = some w) (g : goodWord w = true) : w ∈ xws := List.mem_filter.mpr ⟨List.mem_append_right _ (by unfold tables_1; exact tb_app (Or.inr (tb_app (Or.inr (tb_app (Or.inl (List.mem_of_getElem? h))))))), g⟩
theorem xn_t3 {w : Cond} (i : Nat) (h : tables_1_3[i]? = some w) (g : xisN w = true) : w ∈ xnw := List.mem_filter.mpr ⟨List.mem_append_right _ (by unfold tables_1; exact tb_app (Or.inr (tb_app (Or.inr (tb_app (Or.inl (List.mem_of_getElem? h))))))), g⟩
theorem xw_t4 {w : Cond} (i : Nat) (h : tables_1_4[i]? = some w) (g : goodWord w = true) : w ∈ xws := List.mem_filter.mpr ⟨List.mem_append_right _ (by unfold tables_1; exact tb_app (Or.inr (tb_app (Or.inr (tb_app (Or.inr (tb_app (Or.inl (List.mem_of_getElem? h))))))))), g⟩
theorem xn_t4 {w : Cond} (i : Nat) (h : tables_1_4[i]? = some w) (g : xisN w = true) : w ∈ xnw := List.mem_filter.mpr ⟨List.mem_append_right _ (by unfold tables_1; exact tb_app (Or.inr (tb_app (Or.inr (tb_app (Or.inr (tb_app (Or.inl (List.mem_of_getElem? h))))))))), g⟩
theorem xw_t5 {w : Cond} (i : Nat) (h : tables_1_5[i]? = some w) (g : goodWord w = true) : w ∈ xws := List.mem_filter.mpr ⟨List.mem_append_right _ (by unfold tables_1; exact tb_app (Or.inr (tb_app (Or.inr (tb_app (Or.inr (tb_app (Or.inr (tb_app (Or.inl (List.mem_of_getElem? h))))))))))), g⟩
theorem xn_t5 {w : Cond} (i : Nat) (h : tables_1_5[i]? = some w) (g : xisN w = true) : w ∈ xnw := List.mem_filter.mpr ⟨List.mem_append_right _ (by unfold tables_1; exact tb_app (Or.inr (tb_app (Or.inr (tb_app (Or.inr (tb_app (Or.inr (tb_app (Or.inl (List.mem_of_getElem? h))))))))))), g⟩
theorem xw_t6 {w : Cond} (i : Nat) (h : tables_1_6[i]? = some w) (g : goodWord w = true) : w ∈ xws := List.mem_filter.mpr ⟨List.mem_append_right _ (by unfold tables_1; exact tb_app (Or.inr (tb_app (Or.inr (tb_app (Or.inr (tb_app (Or.inr (tb_app (Or.inr (tb_app (Or.inl (List.mem_of_getElem? h))))))))))))), g⟩
theorem xn_t6 {w : Cond} (i : Nat) (h : tables_1_6[i]? = some w) (g : xisN w = true) : w ∈ xnw := List.mem_filter.mpr ⟨List.mem_append_right _ (by unfold tables_1; exact tb_app (Or.inr (tb_app (Or.inr (tb_app (Or.inr (tb_app (Or.inr (tb_app (Or.inr (tb_app (Or.inl (List.mem_of_getElem? h))))))))))))), g⟩
theorem xw_t7 {w : Cond} (i : Nat) (h : tables_1_7[i]? = some w) (g : goodWord w = true) : w ∈ xws := List.mem_filter.mpr ⟨List.mem_append_right _ (by unfold tables_1; exact tb_app (Or.inr (tb_app (Or.inr (tb_app (Or.inr (tb_app (Or.inr (tb_app (Or.inr (tb_app (Or.inr (tb_app (Or.inl (List.mem_of_getElem? h))))))))))))))), g⟩
theorem xn_t7 {w : Cond} (i : Nat) (h : tables_1_7[i]? = some w) (g : xisN w = true) : w ∈ xnw := List.mem_filter.mpr ⟨List.mem_append_right _ (by unfold tables_1; exact tb_app (Or.inr (tb_app (Or.inr (tb_app (Or.inr (tb_app (Or.inr (tb_app (Or.inr (tb_app (Or.inr (tb_app (Or.inl (List.mem_of_getElem? h))))))))))))))), g⟩
theorem xw_t8 {w : Cond} (i : Nat) (h : tables_1_8[i]? = some w) (g : goodWord w = true) : w ∈ xws := List.mem_filter.mpr ⟨List.mem_append_right _ (by unfold tables_1; exact tb_app (Or.inr (tb_app (Or.inr (tb_app (Or.inr (tb_app (Or.inr (tb_app (Or.inr (tb_app (Or.inr (tb_app (Or.inr (List.mem_of_getElem? h))))))))))))))), g⟩
theorem xn_t8 {w : Cond} (i : Nat) (h : tables_1_8[i]? = some w) (g : xisN w = true) : w ∈ xnw := List.mem_filter.mpr ⟨List.mem_append_right _ (by unfold tables_1; exact tb_app (Or.inr (tb_app (Or.inr (tb_app (Or.inr (tb_app (Or.inr (tb_app (Or.inr (tb_app (Or.inr (tb_app (Or.inr (List.mem_of_getElem? h))))))))))))))), g⟩
theorem xw_s {q : MethodName × Nat} (i : Nat) (h : lw_privs[i]? = some q) : Cond.selects q.1.cls q.1 q.1 ∈ xws := List.mem_filter.mpr ⟨List.mem_append_left _ (List.mem_map.mpr ⟨q, List.mem_of_getElem? h, rfl⟩), rfl⟩
theorem kw0 : (Jvm.Cond.initialized "IntervalTapeLaw") ∈ xws := xw_t1 0 (by decide +kernel) rfl
theorem kw1 : (Jvm.Cond.initialized "IntervalTape") ∈ xws := xw_t1 1 (by decide +kernel) rfl
theorem kw2 : (Jvm.Cond.initialized "java/util/AbstractCollection") ∈ xws := xw_t1 2 (by decide +kernel) rfl
theorem kw3 : (Jvm.Cond.initialized "java/util/AbstractList") ∈ xws := xw_t1 3 (by decide +kernel) rfl
theorem kw4 : (Jvm.Cond.initialized "java/util/ArrayList") ∈ xws := xw_t1 4 (by decide +kernel) rfl
theorem kw5 : (Jvm.Cond.initialized "IntervalTape$Exact") ∈ xws := xw_t1 5 (by decide +kernel) rfl
theorem kw6 : (Jvm.Cond.initialized "IntervalTape$Big") ∈ xws := xw_t1 6 (by decide +kernel) rfl
theorem kw7 : (Jvm.Cond.initialized "IntervalTape$Real") ∈ xws := xw_t1 7 (by decide +kernel) rfl
theorem kw8 : (Jvm.Cond.initialized "IntervalTape$Ends") ∈ xws := xw_t1 8 (by decide +kernel) rfl
theorem kw9 : (Jvm.Cond.initialized "IntervalTape$Sets") ∈ xws := xw_t1 9 (by decide +kernel) rfl
theorem kw10 : (Jvm.Cond.initialized "IntervalTape$Gauge") ∈ xws := xw_t1 10 (by decide +kernel) rfl
theorem kw11 : (Jvm.Cond.initialized "IntervalTape$Reader") ∈ xws := xw_t1 11 (by decide +kernel) rfl
theorem kw12 : (Jvm.Cond.initialized "IntervalTape$Writer") ∈ xws := xw_t1 12 (by decide +kernel) rfl
theorem kw13 : (Jvm.Cond.initialized "IntervalTapeModel") ∈ xws := xw_t1 13 (by decide +kernel) rfl
theorem kw14 : (Jvm.Cond.initialized "IntervalTapeModel$Big") ∈ xws := xw_t1 14 (by decide +kernel) rfl
theorem kw15 : (Jvm.Cond.initialized "IntervalTapeModel$Num") ∈ xws := xw_t1 15 (by decide +kernel) rfl
theorem kw16 : (Jvm.Cond.initialized "java/util/Arrays") ∈ xws := xw_t1 16 (by decide +kernel) rfl
theorem kw17 : (Jvm.Cond.initialized "java/lang/Math") ∈ xws := xw_t1 17 (by decide +kernel) rfl
theorem kw18 : (Jvm.Cond.initialized "java/lang/System") ∈ xws := xw_t1 18 (by decide +kernel) rfl
theorem kw19 : (Jvm.Cond.initialized "IntervalTape$Cell") ∈ xws := xw_t1 19 (by decide +kernel) rfl
theorem kw20 : (Jvm.Cond.initialized "java/lang/String") ∈ xws := xw_t1 20 (by decide +kernel) rfl
theorem kw21 : (Jvm.Cond.initialized "java/lang/StringLatin1") ∈ xws := xw_t1 21 (by decide +kernel) rfl
theorem kw22 : (Jvm.Cond.initialized "jdk/internal/util/Preconditions") ∈ xws := xw_t1 22 (by decide +kernel) rfl
theorem kw23 : (Jvm.Cond.initialized "java/lang/StringUTF16") ∈ xws := xw_t1 23 (by decide +kernel) rfl
theorem kw24 : (Jvm.Cond.initialized "java/lang/Long") ∈ xws := xw_t1 24 (by decide +kernel) rfl
theorem kw25 : (Jvm.Cond.initialized "IntervalTape$Floats") ∈ xws := xw_t1 25 (by decide +kernel) rfl
theorem kw26 : (Jvm.Cond.initialized "java/lang/Integer") ∈ xws := xw_t1 26 (by decide +kernel) rfl
theorem kw27 : (Jvm.Cond.initialized "jdk/internal/util/ArraysSupport") ∈ xws := xw_t1 27 (by decide +kernel) rfl
theorem kw28 : (Jvm.Cond.initialized "java/util/Objects") ∈ xws := xw_t1 28 (by decide +kernel) rfl
theorem kw29 : (Jvm.Cond.initialized "IntervalTape$Marks") ∈ xws := xw_t1 29 (by decide +kernel) rfl
theorem kw30 : (Jvm.Cond.classLink "IntervalTapeLaw" (7 : Nat) "IntervalTape") ∈ xws := xw_t1 30 (by decide +kernel) rfl
theorem kw31 : (Jvm.Cond.instantiable "IntervalTape" (12 : Nat)) ∈ xws := xw_t1 31 (by decide +kernel) rfl
theorem kw32 : (Jvm.Cond.methodLink "IntervalTapeLaw" (9 : Nat) ({ cls := "IntervalTape", name := "<init>", desc := "()V" } : Jvm.MethodName)) ∈ xws := xw_t1 32 (by decide +kernel) rfl
theorem kw33 : (Jvm.Cond.instanceMethod ({ cls := "IntervalTape", name := "<init>", desc := "()V" } : Jvm.MethodName)) ∈ xws := xw_t1 33 (by decide +kernel) rfl
theorem kw34 : (Jvm.Cond.code ({ cls := "IntervalTape", name := "<init>", desc := "()V" } : Jvm.MethodName) prog_1_method_1_code (1 : Nat) (Option.none : Option Jvm.ClassFile.FieldType)) ∈ xws := xw_t1 34 rfl rfl
theorem kw35 : (Jvm.Cond.methodLink "IntervalTape" (3 : Nat) ({ cls := "java/lang/Object", name := "<init>", desc := "()V" } : Jvm.MethodName)) ∈ xws := xw_t1 35 (by decide +kernel) rfl
theorem kw36 : (Jvm.Cond.instanceMethod ({ cls := "java/lang/Object", name := "<init>", desc := "()V" } : Jvm.MethodName)) ∈ xws := xw_t1 36 (by decide +kernel) rfl
theorem kw37 : (Jvm.Cond.code ({ cls := "java/lang/Object", name := "<init>", desc := "()V" } : Jvm.MethodName) object_method_1_code (1 : Nat) (Option.none : Option Jvm.ClassFile.FieldType)) ∈ xws := xw_t1 37 rfl rfl
theorem kw38 : (Jvm.Cond.classLink "IntervalTape" (9 : Nat) "java/util/ArrayList") ∈ xws := xw_t1 38 (by decide +kernel) rfl
theorem kw39 : (Jvm.Cond.instantiable "java/util/ArrayList" (3 : Nat)) ∈ xws := xw_t1 39 (by decide +kernel) rfl
theorem kw40 : (Jvm.Cond.methodLink "IntervalTape" (11 : Nat) ({ cls := "java/util/ArrayList", name := "<init>", desc := "()V" } : Jvm.MethodName)) ∈ xws := xw_t1 40 (by decide +kernel) rfl
theorem kw41 : (Jvm.Cond.instanceMethod ({ cls := "java/util/ArrayList", name := "<init>", desc := "()V" } : Jvm.MethodName)) ∈ xws := xw_t1 41 (by decide +kernel) rfl
theorem kw42 : (Jvm.Cond.code ({ cls := "java/util/ArrayList", name := "<init>", desc := "()V" } : Jvm.MethodName) prog_29_method_2_code (1 : Nat) (Option.none : Option Jvm.ClassFile.FieldType)) ∈ xws := xw_t1 42 rfl rfl
theorem kw43 : (Jvm.Cond.methodLink "java/util/ArrayList" (1 : Nat) ({ cls := "java/util/AbstractList", name := "<init>", desc := "()V" } : Jvm.MethodName)) ∈ xws := xw_t1 43 (by decide +kernel) rfl
theorem kw44 : (Jvm.Cond.instanceMethod ({ cls := "java/util/AbstractList", name := "<init>", desc := "()V" } : Jvm.MethodName)) ∈ xws := xw_t1 44 (by decide +kernel) rfl
theorem kw45 : (Jvm.Cond.code ({ cls := "java/util/AbstractList", name := "<init>", desc := "()V" } : Jvm.MethodName) prog_28_method_1_code (1 : Nat) (Option.none : Option Jvm.ClassFile.FieldType)) ∈ xws := xw_t1 45 rfl rfl
theorem kw46 : (Jvm.Cond.methodLink "java/util/AbstractList" (1 : Nat) ({ cls := "java/util/AbstractCollection", name := "<init>", desc := "()V" } : Jvm.MethodName)) ∈ xws := xw_t1 46 (by decide +kernel) rfl
theorem kw47 : (Jvm.Cond.instanceMethod ({ cls := "java/util/AbstractCollection", name := "<init>", desc := "()V" } : Jvm.MethodName)) ∈ xws := xw_t1 47 (by decide +kernel) rfl
theorem kw48 : (Jvm.Cond.code ({ cls := "java/util/AbstractCollection", name := "<init>", desc := "()V" } : Jvm.MethodName) prog_27_method_1_code (1 : Nat) (Option.none : Option Jvm.ClassFile.FieldType)) ∈ xws := xw_t1 48 rfl rfl
theorem kw49 : (Jvm.Cond.methodLink "java/util/AbstractCollection" (1 : Nat) ({ cls := "java/lang/Object", name := "<init>", desc := "()V" } : Jvm.MethodName)) ∈ xws := xw_t1 49 (by decide +kernel) rfl
theorem kw50 : (Jvm.Cond.fieldLink "java/util/ArrayList" (39 : Nat) "java/util/ArrayList" "DEFAULTCAPACITY_EMPTY_ELEMENTDATA" "[Ljava/lang/Object;") ∈ xws := xw_t1 50 (by decide +kernel) rfl
theorem kw52 : (Jvm.Cond.fieldLink "java/util/ArrayList" (9 : Nat) "java/util/ArrayList" "elementData" "[Ljava/lang/Object;") ∈ xws := xw_t1 52 (by decide +kernel) rfl
theorem kw53 : (Jvm.Cond.fieldLink "java/util/ArrayList" (48 : Nat) "java/util/ArrayList" "size" "I") ∈ xws := xw_t1 53 (by decide +kernel) rfl
theorem kw54 : (Jvm.Cond.fieldLink "java/util/AbstractList" (7 : Nat) "java/util/AbstractList" "modCount" "I") ∈ xws := xw_t1 54 (by decide +kernel) rfl
theorem kw55 : (Jvm.Cond.fieldLink "java/util/ArrayList" (63 : Nat) "java/util/ArrayList" "modCount" "I") ∈ xws := xw_t1 55 (by decide +kernel) rfl
theorem kw56 : (Jvm.Cond.sameField "java/util/ArrayList" "java/util/AbstractList" "modCount" "I") ∈ xws := xw_t1 56 (by decide +kernel) rfl
theorem kw64 : (Jvm.Cond.classLink "IntervalTape" (20 : Nat) "IntervalTape$Exact") ∈ xws := xw_t1 64 (by decide +kernel) rfl
theorem kw65 : (Jvm.Cond.instantiable "IntervalTape$Exact" (4 : Nat)) ∈ xws := xw_t1 65 (by decide +kernel) rfl
theorem kw66 : (Jvm.Cond.methodLinkNest "IntervalTape" (22 : Nat) ({ cls := "IntervalTape$Exact", name := "<init>", desc := "()V" } : Jvm.MethodName) "IntervalTape") ∈ xnw := xn_t1 66 (by decide +kernel) rfl
theorem kw67 : (Jvm.Cond.instanceMethod ({ cls := "IntervalTape$Exact", name := "<init>", desc := "()V" } : Jvm.MethodName)) ∈ xws := xw_t1 67 (by decide +kernel) rfl
theorem kw68 : (Jvm.Cond.code ({ cls := "IntervalTape$Exact", name := "<init>", desc := "()V" } : Jvm.MethodName) prog_5_method_1_code (1 : Nat) (Option.none : Option Jvm.ClassFile.FieldType)) ∈ xws := xw_t1 68 rfl rfl
theorem kw69 : (Jvm.Cond.methodLink "IntervalTape$Exact" (3 : Nat) ({ cls := "java/lang/Object", name := "<init>", desc := "()V" } : Jvm.MethodName)) ∈ xws := xw_t1 69 (by decide +kernel) rfl
theorem kw70 : (Jvm.Cond.classLink "IntervalTape$Exact" (9 : Nat) "IntervalTape$Big") ∈ xws := xw_t1 70 (by decide +kernel) rfl
theorem kw71 : (Jvm.Cond.instantiable "IntervalTape$Big" (2 : Nat)) ∈ xws := xw_t1 71 (by decide +kernel) rfl
theorem kw72 : (Jvm.Cond.methodLinkNest "IntervalTape$Exact" (11 : Nat) ({ cls := "IntervalTape$Big", name := "<init>", desc := "()V" } : Jvm.MethodName) "IntervalTape") ∈ xnw := xn_t1 72 (by decide +kernel) rfl
theorem kw73 : (Jvm.Cond.instanceMethod ({ cls := "IntervalTape$Big", name := "<init>", desc := "()V" } : Jvm.MethodName)) ∈ xws := xw_t1 73 (by decide +kernel) rfl
theorem kw74 : (Jvm.Cond.code ({ cls := "IntervalTape$Big", name := "<init>", desc := "()V" } : Jvm.MethodName) prog_2_method_1_code (1 : Nat) (Option.none : Option Jvm.ClassFile.FieldType)) ∈ xws := xw_t1 74 rfl rfl
theorem kw75 : (Jvm.Cond.methodLink "IntervalTape$Big" (1 : Nat) ({ cls := "java/lang/Object", name := "<init>", desc := "()V" } : Jvm.MethodName)) ∈ xws := xw_t1 75 (by decide +kernel) rfl
theorem kw76 : (Jvm.Cond.fieldLink "IntervalTape$Big" (9 : Nat) "IntervalTape$Big" "words" "[I") ∈ xws := xw_t1 76 (by decide +kernel) rfl
theorem kw77 : (Jvm.Cond.fieldLink "IntervalTape$Big" (13 : Nat) "IntervalTape$Big" "size" "I") ∈ xws := xw_t1 77 (by decide +kernel) rfl
theorem kw78 : (Jvm.Cond.fieldLinkNest "IntervalTape$Real" (98 : Nat) "IntervalTape$Big" "size" "I" "IntervalTape") ∈ xnw := xn_t1 78 (by decide +kernel) rfl
theorem kw79 : (Jvm.Cond.fieldLinkNest "IntervalTape$Exact" (153 : Nat) "IntervalTape$Big" "size" "I" "IntervalTape") ∈ xnw := xn_t1 79 (by decide +kernel) rfl
theorem kw80 : (Jvm.Cond.fieldLinkNest "IntervalTape$Reader" (148 : Nat) "IntervalTape$Big" "size" "I" "IntervalTape") ∈ xnw := xn_t1 80 (by decide +kernel) rfl
theorem kw86 : (Jvm.Cond.arrayClass Jvm.ClassFile.FieldType.byte) ∈ xws := xw_t1 86 (by decide +kernel) rfl
theorem kw87 : (Jvm.Cond.arrayClass Jvm.ClassFile.FieldType.int) ∈ xws := xw_t1 87 (by decide +kernel) rfl
theorem kw88 : (Jvm.Cond.classLink "IntervalTape$Exact" (21 : Nat) "IntervalTape$Real") ∈ xws := xw_t1 88 (by decide +kernel) rfl
theorem kw89 : (Jvm.Cond.instantiable "IntervalTape$Real" (6 : Nat)) ∈ xws := xw_t1 89 (by decide +kernel) rfl
theorem kw90 : (Jvm.Cond.methodLinkNest "IntervalTape$Exact" (23 : Nat) ({ cls := "IntervalTape$Real", name := "<init>", desc := "()V" } : Jvm.MethodName) "IntervalTape") ∈ xnw := xn_t1 90 (by decide +kernel) rfl
theorem kw91 : (Jvm.Cond.instanceMethod ({ cls := "IntervalTape$Real", name := "<init>", desc := "()V" } : Jvm.MethodName)) ∈ xws := xw_t1 91 (by decide +kernel) rfl
theorem kw92 : (Jvm.Cond.code ({ cls := "IntervalTape$Real", name := "<init>", desc := "()V" } : Jvm.MethodName) prog_10_method_1_code (1 : Nat) (Option.none : Option Jvm.ClassFile.FieldType)) ∈ xws := xw_t1 92 rfl rfl
theorem kw93 : (Jvm.Cond.methodLink "IntervalTape$Real" (3 : Nat) ({ cls := "java/lang/Object", name := "<init>", desc := "()V" } : Jvm.MethodName)) ∈ xws := xw_t1 93 (by decide +kernel) rfl
theorem kw94 : (Jvm.Cond.classLink "IntervalTape$Real" (9 : Nat) "IntervalTape$Big") ∈ xws := xw_t1 94 (by decide +kernel) rfl
theorem kw95 : (Jvm.Cond.methodLinkNest "IntervalTape$Real" (11 : Nat) ({ cls := "IntervalTape$Big", name := "<init>", desc := "()V" } : Jvm.MethodName) "IntervalTape") ∈ xnw := xn_t1 95 (by decide +kernel) rfl
theorem kw96 : (Jvm.Cond.fieldLinkNest "IntervalTape$Exact" (28 : Nat) "IntervalTape$Real" "sign" "I" "IntervalTape") ∈ xnw := xn_t1 96 (by decide +kernel) rfl
theorem kw97 : (Jvm.Cond.fieldLink "IntervalTape$Real" (21 : Nat) "IntervalTape$Real" "sign" "I") ∈ xws := xw_t1 97 (by decide +kernel) rfl
theorem kw98 : (Jvm.Cond.fieldLinkNest "IntervalTape$Reader" (192 : Nat) "IntervalTape$Real" "sign" "I" "IntervalTape") ∈ xnw := xn_t1 98 (by decide +kernel) rfl
theorem kw99 : (Jvm.Cond.fieldLink "IntervalTape$Real" (25 : Nat) "IntervalTape$Real" "exponent" "I") ∈ xws := xw_t1 99 (by decide +kernel) rfl
theorem kw100 : (Jvm.Cond.fieldLinkNest "IntervalTape$Exact" (42 : Nat) "IntervalTape$Real" "exponent" "I" "IntervalTape") ∈ xnw := xn_t1 100 (by decide +kernel) rfl
theorem kw101 : (Jvm.Cond.fieldLinkNest "IntervalTape$Gauge" (69 : Nat) "IntervalTape$Real" "exponent" "I" "IntervalTape") ∈ xnw := xn_t1 101 (by decide +kernel) rfl
theorem kw102 : (Jvm.Cond.fieldLinkNest "IntervalTape$Reader" (161 : Nat) "IntervalTape$Real" "exponent" "I" "IntervalTape") ∈ xnw := xn_t1 102 (by decide +kernel) rfl
theorem kw103 : (Jvm.Cond.fieldLink "IntervalTape$Real" (28 : Nat) "IntervalTape$Real" "infinite" "Z") ∈ xws := xw_t1 103 (by decide +kernel) rfl
theorem kw104 : (Jvm.Cond.fieldLinkNest "IntervalTape$Exact" (38 : Nat) "IntervalTape$Real" "infinite" "Z" "IntervalTape") ∈ xnw := xn_t1 104 (by decide +kernel) rfl
theorem kw105 : (Jvm.Cond.fieldLink "IntervalTape$Real" (32 : Nat) "IntervalTape$Real" "root" "Z") ∈ xws := xw_t1 105 (by decide +kernel) rfl
theorem kw106 : (Jvm.Cond.fieldLinkNest "IntervalTape$Exact" (71 : Nat) "IntervalTape$Real" "root" "Z" "IntervalTape") ∈ xnw := xn_t1 106 (by decide +kernel) rfl
theorem kw107 : (Jvm.Cond.fieldLinkNest "IntervalTape$Ends" (111 : Nat) "IntervalTape$Real" "root" "Z" "IntervalTape") ∈ xnw := xn_t1 107 (by decide +kernel) rfl
theorem kw108 : (Jvm.Cond.fieldLink "IntervalTape$Real" (12 : Nat) "IntervalTape$Real" "top" "LIntervalTape$Big;") ∈ xws := xw_t1 108 (by decide +kernel) rfl
theorem kw109 : (Jvm.Cond.fieldLinkNest "IntervalTape$Exact" (45 : Nat) "IntervalTape$Real" "top" "LIntervalTape$Big;" "IntervalTape") ∈ xnw := xn_t1 109 (by decide +kernel) rfl
theorem kw110 : (Jvm.Cond.fieldLinkNest "IntervalTape$Reader" (131 : Nat) "IntervalTape$Real" "top" "LIntervalTape$Big;" "IntervalTape") ∈ xnw := xn_t1 110 (by decide +kernel) rfl
theorem kw111 : (Jvm.Cond.fieldLink "IntervalTape$Real" (18 : Nat) "IntervalTape$Real" "bottom" "LIntervalTape$Big;") ∈ xws := xw_t1 111 (by decide +kernel) rfl
theorem kw112 : (Jvm.Cond.fieldLinkNest "IntervalTape$Exact" (52 : Nat) "IntervalTape$Real" "bottom" "LIntervalTape$Big;" "IntervalTape") ∈ xnw := xn_t1 112 (by decide +kernel) rfl
theorem kw113 : (Jvm.Cond.fieldLinkNest "IntervalTape$Reader" (164 : Nat) "IntervalTape$Real" "bottom" "LIntervalTape$Big;" "IntervalTape") ∈ xnw := xn_t1 113 (by decide +kernel) rfl
theorem kw127 : (Jvm.Cond.fieldLink "IntervalTape$Exact" (12 : Nat) "IntervalTape$Exact" "left" "LIntervalTape$Big;") ∈ xws := xw_t1 127 (by decide +kernel) rfl
theorem kw128 : (Jvm.Cond.fieldLink "IntervalTape$Exact" (18 : Nat) "IntervalTape$Exact" "right" "LIntervalTape$Big;") ∈ xws := xw_t1 128 (by decide +kernel) rfl
theorem kw129 : (Jvm.Cond.fieldLink "IntervalTape$Exact" (24 : Nat) "IntervalTape$Exact" "probe" "LIntervalTape$Real;") ∈ xws := xw_t1 129 (by decide +kernel) rfl
theorem kw130 : (Jvm.Cond.fieldLink "IntervalTape$Exact" (87 : Nat) "IntervalTape$Exact" "inexact" "Z") ∈ xws := xw_t1 130 (by decide +kernel) rfl
theorem kw131 : (Jvm.Cond.fieldLinkNest "IntervalTape$Writer" (131 : Nat) "IntervalTape$Exact" "inexact" "Z" "IntervalTape") ∈ xnw := xn_t1 131 (by decide +kernel) rfl
theorem kw141 : (Jvm.Cond.classLink "IntervalTape" (27 : Nat) "IntervalTape$Ends") ∈ xws := xw_t1 141 (by decide +kernel) rfl
theorem kw142 : (Jvm.Cond.instantiable "IntervalTape$Ends" (7 : Nat)) ∈ xws := xw_t1 142 (by decide +kernel) rfl
theorem kw143 : (Jvm.Cond.methodLink "IntervalTape" (29 : Nat) ({ cls := "IntervalTape$Ends", name := "<init>", desc := "(LIntervalTape$Exact;)V" } : Jvm.MethodName)) ∈ xws := xw_t1 143 (by decide +kernel) rfl
theorem kw144 : (Jvm.Cond.instanceMethod ({ cls := "IntervalTape$Ends", name := "<init>", desc := "(LIntervalTape$Exact;)V" } : Jvm.MethodName)) ∈ xws := xw_t1 144 (by decide +kernel) rfl
theorem kw145 : (Jvm.Cond.code ({ cls := "IntervalTape$Ends", name := "<init>", desc := "(LIntervalTape$Exact;)V" } : Jvm.MethodName) prog_4_method_1_code (2 : Nat) (Option.none : Option Jvm.ClassFile.FieldType)) ∈ xws := xw_t1 145 rfl rfl
theorem kw146 : (Jvm.Cond.methodLink "IntervalTape$Ends" (3 : Nat) ({ cls := "java/lang/Object", name := "<init>", desc := "()V" } : Jvm.MethodName)) ∈ xws := xw_t1 146 (by decide +kernel) rfl
theorem kw147 : (Jvm.Cond.classLink "IntervalTape$Ends" (9 : Nat) "IntervalTape$Real") ∈ xws := xw_t1 147 (by decide +kernel) rfl
theorem kw148 : (Jvm.Cond.methodLinkNest "IntervalTape$Ends" (11 : Nat) ({ cls := "IntervalTape$Real", name := "<init>", desc := "()V" } : Jvm.MethodName) "IntervalTape") ∈ xnw := xn_t1 148 (by decide +kernel) rfl
theorem kw149 : (Jvm.Cond.fieldLinkNest "IntervalTape$Reader" (37 : Nat) "IntervalTape$Ends" "empty" "Z" "IntervalTape") ∈ xnw := xn_t1 149 (by decide +kernel) rfl
theorem kw150 : (Jvm.Cond.fieldLink "IntervalTape$Ends" (50 : Nat) "IntervalTape$Ends" "empty" "Z") ∈ xws := xw_t1 150 (by decide +kernel) rfl
theorem kw151 : (Jvm.Cond.fieldLinkNest "IntervalTape" (251 : Nat) "IntervalTape$Ends" "empty" "Z" "IntervalTape") ∈ xnw := xn_t1 151 (by decide +kernel) rfl
theorem kw152 : (Jvm.Cond.fieldLink "IntervalTape$Ends" (12 : Nat) "IntervalTape$Ends" "low" "LIntervalTape$Real;") ∈ xws := xw_t1 152 (by decide +kernel) rfl
theorem kw153 : (Jvm.Cond.fieldLinkNest "IntervalTape" (61 : Nat) "IntervalTape$Ends" "low" "LIntervalTape$Real;" "IntervalTape") ∈ xnw := xn_t1 153 (by decide +kernel) rfl
theorem kw154 : (Jvm.Cond.fieldLinkNest "IntervalTape$Reader" (61 : Nat) "IntervalTape$Ends" "low" "LIntervalTape$Real;" "IntervalTape") ∈ xnw := xn_t1 154 (by decide +kernel) rfl
theorem kw155 : (Jvm.Cond.fieldLinkNest "IntervalTape$Gauge" (60 : Nat) "IntervalTape$Ends" "low" "LIntervalTape$Real;" "IntervalTape") ∈ xnw := xn_t1 155 (by decide +kernel) rfl
theorem kw156 : (Jvm.Cond.fieldLinkNest "IntervalTape$Sets" (72 : Nat) "IntervalTape$Ends" "low" "LIntervalTape$Real;" "IntervalTape") ∈ xnw := xn_t1 156 (by decide +kernel) rfl
theorem kw157 : (Jvm.Cond.fieldLink "IntervalTape$Ends" (18 : Nat) "IntervalTape$Ends" "high" "LIntervalTape$Real;") ∈ xws := xw_t1 157 (by decide +kernel) rfl
theorem kw158 : (Jvm.Cond.fieldLinkNest "IntervalTape$Reader" (65 : Nat) "IntervalTape$Ends" "high" "LIntervalTape$Real;" "IntervalTape") ∈ xnw := xn_t1 158 (by decide +kernel) rfl
theorem kw159 : (Jvm.Cond.fieldLinkNest "IntervalTape$Sets" (81 : Nat) "IntervalTape$Ends" "high" "LIntervalTape$Real;" "IntervalTape") ∈ xnw := xn_t1 159 (by decide +kernel) rfl
theorem kw160 : (Jvm.Cond.fieldLinkNest "IntervalTape" (258 : Nat) "IntervalTape$Ends" "high" "LIntervalTape$Real;" "IntervalTape") ∈ xnw := xn_t1 160 (by decide +kernel) rfl
theorem kw161 : (Jvm.Cond.fieldLink "IntervalTape$Ends" (21 : Nat) "IntervalTape$Ends" "left" "LIntervalTape$Real;") ∈ xws := xw_t1 161 (by decide +kernel) rfl
theorem kw162 : (Jvm.Cond.fieldLinkNest "IntervalTape$Reader" (179 : Nat) "IntervalTape$Ends" "left" "LIntervalTape$Real;" "IntervalTape") ∈ xnw := xn_t1 162 (by decide +kernel) rfl
theorem kw163 : (Jvm.Cond.fieldLink "IntervalTape$Ends" (24 : Nat) "IntervalTape$Ends" "right" "LIntervalTape$Real;") ∈ xws := xw_t1 163 (by decide +kernel) rfl
theorem kw164 : (Jvm.Cond.fieldLinkNest "IntervalTape$Reader" (182 : Nat) "IntervalTape$Ends" "right" "LIntervalTape$Real;" "IntervalTape") ∈ xnw := xn_t1 164 (by decide +kernel) rfl
theorem kw165 : (Jvm.Cond.fieldLink "IntervalTape$Ends" (27 : Nat) "IntervalTape$Ends" "corner" "LIntervalTape$Real;") ∈ xws := xw_t1 165 (by decide +kernel) rfl
theorem kw166 : (Jvm.Cond.fieldLink "IntervalTape$Ends" (30 : Nat) "IntervalTape$Ends" "exact" "LIntervalTape$Exact;") ∈ xws := xw_t1 166 (by decide +kernel) rfl
theorem kw182 : (Jvm.Cond.classLink "IntervalTape" (36 : Nat) "IntervalTape$Sets") ∈ xws := xw_t1 182 (by decide +kernel) rfl
theorem kw183 : (Jvm.Cond.instantiable "IntervalTape$Sets" (2 : Nat)) ∈ xws := xw_t1 183 (by decide +kernel) rfl
theorem kw184 : (Jvm.Cond.methodLink "IntervalTape" (38 : Nat) ({ cls := "IntervalTape$Sets", name := "<init>", desc := "(LIntervalTape$Ends;LIntervalTape$Exact;)V" } : Jvm.MethodName)) ∈ xws := xw_t1 184 (by decide +kernel) rfl
theorem kw185 : (Jvm.Cond.instanceMethod ({ cls := "IntervalTape$Sets", name := "<init>", desc := "(LIntervalTape$Ends;LIntervalTape$Exact;)V" } : Jvm.MethodName)) ∈ xws := xw_t1 185 (by decide +kernel) rfl
theorem kw186 : (Jvm.Cond.code ({ cls := "IntervalTape$Sets", name := "<init>", desc := "(LIntervalTape$Ends;LIntervalTape$Exact;)V" } : Jvm.MethodName) prog_11_method_1_code (3 : Nat) (Option.none : Option Jvm.ClassFile.FieldType)) ∈ xws := xw_t1 186 rfl rfl
theorem kw187 : (Jvm.Cond.methodLink "IntervalTape$Sets" (3 : Nat) ({ cls := "java/lang/Object", name := "<init>", desc := "()V" } : Jvm.MethodName)) ∈ xws := xw_t1 187 (by decide +kernel) rfl
theorem kw188 : (Jvm.Cond.fieldLink "IntervalTape$Sets" (9 : Nat) "IntervalTape$Sets" "ends" "LIntervalTape$Ends;") ∈ xws := xw_t1 188 (by decide +kernel) rfl
theorem kw189 : (Jvm.Cond.fieldLink "IntervalTape$Sets" (15 : Nat) "IntervalTape$Sets" "exact" "LIntervalTape$Exact;") ∈ xws := xw_t1 189 (by decide +kernel) rfl
theorem kw195 : (Jvm.Cond.classLink "IntervalTape" (45 : Nat) "IntervalTape$Gauge") ∈ xws := xw_t1 195 (by decide +kernel) rfl
theorem kw196 : (Jvm.Cond.instantiable "IntervalTape$Gauge" (2 : Nat)) ∈ xws := xw_t1 196 (by decide +kernel) rfl
theorem kw197 : (Jvm.Cond.methodLink "IntervalTape" (47 : Nat) ({ cls := "IntervalTape$Gauge", name := "<init>", desc := "(LIntervalTape$Ends;LIntervalTape$Exact;)V" } : Jvm.MethodName)) ∈ xws := xw_t1 197 (by decide +kernel) rfl
theorem kw198 : (Jvm.Cond.instanceMethod ({ cls := "IntervalTape$Gauge", name := "<init>", desc := "(LIntervalTape$Ends;LIntervalTape$Exact;)V" } : Jvm.MethodName)) ∈ xws := xw_t1 198 (by decide +kernel) rfl
theorem kw199 : (Jvm.Cond.code ({ cls := "IntervalTape$Gauge", name := "<init>", desc := "(LIntervalTape$Ends;LIntervalTape$Exact;)V" } : Jvm.MethodName) prog_7_method_1_code (3 : Nat) (Option.none : Option Jvm.ClassFile.FieldType)) ∈ xws := xw_t1 199 rfl rfl
theorem kw200 : (Jvm.Cond.methodLink "IntervalTape$Gauge" (3 : Nat) ({ cls := "java/lang/Object", name := "<init>", desc := "()V" } : Jvm.MethodName)) ∈ xws := xw_t1 200 (by decide +kernel) rfl
theorem kw201 : (Jvm.Cond.fieldLink "IntervalTape$Gauge" (9 : Nat) "IntervalTape$Gauge" "ends" "LIntervalTape$Ends;") ∈ xws := xw_t1 201 (by decide +kernel) rfl
theorem kw202 : (Jvm.Cond.fieldLink "IntervalTape$Gauge" (15 : Nat) "IntervalTape$Gauge" "exact" "LIntervalTape$Exact;") ∈ xws := xw_t1 202 (by decide +kernel) rfl
theorem kw208 : (Jvm.Cond.classLink "IntervalTape" (52 : Nat) "IntervalTape$Reader") ∈ xws := xw_t1 208 (by decide +kernel) rfl
theorem kw209 : (Jvm.Cond.instantiable "IntervalTape$Reader" (8 : Nat)) ∈ xws := xw_t1 209 (by decide +kernel) rfl
theorem kw210 : (Jvm.Cond.methodLink "IntervalTape" (54 : Nat) ({ cls := "IntervalTape$Reader", name := "<init>", desc := "(LIntervalTape$Ends;LIntervalTape$Exact;)V" } : Jvm.MethodName)) ∈ xws := xw_t1 210 (by decide +kernel) rfl
theorem kw211 : (Jvm.Cond.instanceMethod ({ cls := "IntervalTape$Reader", name := "<init>", desc := "(LIntervalTape$Ends;LIntervalTape$Exact;)V" } : Jvm.MethodName)) ∈ xws := xw_t1 211 (by decide +kernel) rfl
theorem kw212 : (Jvm.Cond.code ({ cls := "IntervalTape$Reader", name := "<init>", desc := "(LIntervalTape$Ends;LIntervalTape$Exact;)V" } : Jvm.MethodName) prog_9_method_1_code (3 : Nat) (Option.none : Option Jvm.ClassFile.FieldType)) ∈ xws := xw_t1 212 rfl rfl
theorem kw213 : (Jvm.Cond.methodLink "IntervalTape$Reader" (3 : Nat) ({ cls := "java/lang/Object", name := "<init>", desc := "()V" } : Jvm.MethodName)) ∈ xws := xw_t1 213 (by decide +kernel) rfl
theorem kw214 : (Jvm.Cond.fieldLink "IntervalTape$Reader" (9 : Nat) "IntervalTape$Reader" "ends" "LIntervalTape$Ends;") ∈ xws := xw_t1 214 (by decide +kernel) rfl
theorem kw215 : (Jvm.Cond.fieldLink "IntervalTape$Reader" (15 : Nat) "IntervalTape$Reader" "exact" "LIntervalTape$Exact;") ∈ xws := xw_t1 215 (by decide +kernel) rfl
theorem kw216 : (Jvm.Cond.fieldLink "IntervalTape$Reader" (19 : Nat) "IntervalTape$Reader" "text" "[B") ∈ xws := xw_t1 216 (by decide +kernel) rfl
theorem kw217 : (Jvm.Cond.fieldLink "IntervalTape$Reader" (23 : Nat) "IntervalTape$Reader" "at" "I") ∈ xws := xw_t1 217 (by decide +kernel) rfl
theorem kw218 : (Jvm.Cond.fieldLink "IntervalTape$Reader" (27 : Nat) "IntervalTape$Reader" "given" "I") ∈ xws := xw_t1 218 (by decide +kernel) rfl
theorem kw219 : (Jvm.Cond.fieldLinkNest "IntervalTape" (227 : Nat) "IntervalTape$Reader" "given" "I" "IntervalTape") ∈ xnw := xn_t1 219 (by decide +kernel) rfl
theorem kw220 : (Jvm.Cond.fieldLink "IntervalTape$Reader" (139 : Nat) "IntervalTape$Reader" "behind" "I") ∈ xws := xw_t1 220 (by decide +kernel) rfl
theorem kw221 : (Jvm.Cond.fieldLink "IntervalTape$Reader" (30 : Nat) "IntervalTape$Reader" "fine" "Z") ∈ xws := xw_t1 221 (by decide +kernel) rfl
theorem kw222 : (Jvm.Cond.fieldLink "IntervalTape$Reader" (34 : Nat) "IntervalTape$Reader" "open" "Z") ∈ xws := xw_t1 222 (by decide +kernel) rfl
theorem kw240 : (Jvm.Cond.classLink "IntervalTape" (59 : Nat) "IntervalTape$Writer") ∈ xws := xw_t2 0 (by decide +kernel) rfl
theorem kw241 : (Jvm.Cond.instantiable "IntervalTape$Writer" (4 : Nat)) ∈ xws := xw_t2 1 (by decide +kernel) rfl
theorem kw242 : (Jvm.Cond.methodLink "IntervalTape" (65 : Nat) ({ cls := "IntervalTape$Writer", name := "<init>", desc := "(LIntervalTape$Real;LIntervalTape$Exact;)V" } : Jvm.MethodName)) ∈ xws := xw_t2 2 (by decide +kernel) rfl
theorem kw243 : (Jvm.Cond.instanceMethod ({ cls := "IntervalTape$Writer", name := "<init>", desc := "(LIntervalTape$Real;LIntervalTape$Exact;)V" } : Jvm.MethodName)) ∈ xws := xw_t2 3 (by decide +kernel) rfl
theorem kw244 : (Jvm.Cond.code ({ cls := "IntervalTape$Writer", name := "<init>", desc := "(LIntervalTape$Real;LIntervalTape$Exact;)V" } : Jvm.MethodName) prog_12_method_1_code (3 : Nat) (Option.none : Option Jvm.ClassFile.FieldType)) ∈ xws := xw_t2 4 rfl rfl
theorem kw245 : (Jvm.Cond.methodLink "IntervalTape$Writer" (3 : Nat) ({ cls := "java/lang/Object", name := "<init>", desc := "()V" } : Jvm.MethodName)) ∈ xws := xw_t2 5 (by decide +kernel) rfl
theorem kw246 : (Jvm.Cond.fieldLink "IntervalTape$Writer" (9 : Nat) "IntervalTape$Writer" "out" "[B") ∈ xws := xw_t2 6 (by decide +kernel) rfl
theorem kw247 : (Jvm.Cond.fieldLink "IntervalTape$Writer" (15 : Nat) "IntervalTape$Writer" "value" "LIntervalTape$Real;") ∈ xws := xw_t2 7 (by decide +kernel) rfl
theorem kw248 : (Jvm.Cond.fieldLink "IntervalTape$Writer" (19 : Nat) "IntervalTape$Writer" "exact" "LIntervalTape$Exact;") ∈ xws := xw_t2 8 (by decide +kernel) rfl
theorem kw249 : (Jvm.Cond.fieldLink "IntervalTape$Writer" (23 : Nat) "IntervalTape$Writer" "size" "I") ∈ xws := xw_t2 9 (by decide +kernel) rfl
theorem kw259 : (Jvm.Cond.fieldLink "IntervalTape" (12 : Nat) "IntervalTape" "cells" "Ljava/util/ArrayList;") ∈ xws := xw_t2 19 (by decide +kernel) rfl
theorem kw260 : (Jvm.Cond.fieldLink "IntervalTape" (16 : Nat) "IntervalTape" "tape" "[B") ∈ xws := xw_t2 20 (by decide +kernel) rfl
theorem kw261 : (Jvm.Cond.fieldLink "IntervalTape" (23 : Nat) "IntervalTape" "exact" "LIntervalTape$Exact;") ∈ xws := xw_t2 21 (by decide +kernel) rfl
theorem kw262 : (Jvm.Cond.fieldLink "IntervalTape" (32 : Nat) "IntervalTape" "ends" "LIntervalTape$Ends;") ∈ xws := xw_t2 22 (by decide +kernel) rfl
theorem kw263 : (Jvm.Cond.fieldLink "IntervalTape" (41 : Nat) "IntervalTape" "sets" "LIntervalTape$Sets;") ∈ xws := xw_t2 23 (by decide +kernel) rfl
theorem kw264 : (Jvm.Cond.fieldLink "IntervalTape" (48 : Nat) "IntervalTape" "gauge" "LIntervalTape$Gauge;") ∈ xws := xw_t2 24 (by decide +kernel) rfl
theorem kw265 : (Jvm.Cond.fieldLink "IntervalTape" (55 : Nat) "IntervalTape" "reader" "LIntervalTape$Reader;") ∈ xws := xw_t2 25 (by decide +kernel) rfl
theorem kw266 : (Jvm.Cond.fieldLink "IntervalTape" (68 : Nat) "IntervalTape" "writer" "LIntervalTape$Writer;") ∈ xws := xw_t2 26 (by decide +kernel) rfl
theorem kw267 : (Jvm.Cond.fieldLink "IntervalTape" (72 : Nat) "IntervalTape" "tapeSize" "I") ∈ xws := xw_t2 27 (by decide +kernel) rfl
theorem kw268 : (Jvm.Cond.fieldLink "IntervalTape" (80 : Nat) "IntervalTape" "endable" "Z") ∈ xws := xw_t2 28 (by decide +kernel) rfl
theorem kw269 : (Jvm.Cond.fieldLink "IntervalTape" (170 : Nat) "IntervalTape" "looked" "I") ∈ xws := xw_t2 29 (by decide +kernel) rfl
theorem kw270 : (Jvm.Cond.fieldLink "IntervalTape" (173 : Nat) "IntervalTape" "wrong" "I") ∈ xws := xw_t2 30 (by decide +kernel) rfl
theorem kw296 : (Jvm.Cond.methodLink "IntervalTapeLaw" (13 : Nat) ({ cls := "IntervalTape", name := "feed", desc := "(IIIII)I" } : Jvm.MethodName)) ∈ xws := xw_t2 56 (by decide +kernel) rfl
theorem kw297 : (Jvm.Cond.instanceMethod ({ cls := "IntervalTape", name := "feed", desc := "(IIIII)I" } : Jvm.MethodName)) ∈ xws := xw_t2 57 (by decide +kernel) rfl
theorem kw298 : (Jvm.Cond.selects "IntervalTape" ({ cls := "IntervalTape", name := "feed", desc := "(IIIII)I" } : Jvm.MethodName) ({ cls := "IntervalTape", name := "feed", desc := "(IIIII)I" } : Jvm.MethodName)) ∈ xws := xw_t2 58 (by decide +kernel) rfl
theorem kw299 : (Jvm.Cond.code ({ cls := "IntervalTape", name := "feed", desc := "(IIIII)I" } : Jvm.MethodName) prog_1_method_2_code (6 : Nat) (Option.some Jvm.ClassFile.FieldType.int)) ∈ xws := xw_t2 59 rfl rfl
theorem kw300 : (Jvm.Cond.methodLink "IntervalTape" (76 : Nat) ({ cls := "IntervalTape", name := "append", desc := "(I)V" } : Jvm.MethodName)) ∈ xws := xw_t2 60 (by decide +kernel) rfl
theorem kw302 : (Jvm.Cond.instanceMethod ({ cls := "IntervalTape", name := "append", desc := "(I)V" } : Jvm.MethodName)) ∈ xws := xw_t2 62 (by decide +kernel) rfl
theorem kw303 : (Jvm.Cond.code ({ cls := "IntervalTape", name := "append", desc := "(I)V" } : Jvm.MethodName) prog_1_method_23_code (3 : Nat) (Option.none : Option Jvm.ClassFile.FieldType)) ∈ xws := xw_t2 63 rfl rfl
theorem kw304 : (Jvm.Cond.methodLink "IntervalTapeLaw" (18 : Nat) ({ cls := "IntervalTape", name := "end", desc := "(I)I" } : Jvm.MethodName)) ∈ xws := xw_t2 64 (by decide +kernel) rfl
theorem kw305 : (Jvm.Cond.instanceMethod ({ cls := "IntervalTape", name := "end", desc := "(I)I" } : Jvm.MethodName)) ∈ xws := xw_t2 65 (by decide +kernel) rfl
theorem kw306 : (Jvm.Cond.selects "IntervalTape" ({ cls := "IntervalTape", name := "end", desc := "(I)I" } : Jvm.MethodName) ({ cls := "IntervalTape", name := "end", desc := "(I)I" } : Jvm.MethodName)) ∈ xws := xw_t2 66 (by decide +kernel) rfl
theorem kw307 : (Jvm.Cond.code ({ cls := "IntervalTape", name := "end", desc := "(I)I" } : Jvm.MethodName) prog_1_method_3_code (2 : Nat) (Option.some Jvm.ClassFile.FieldType.int)) ∈ xws := xw_t2 67 rfl rfl
theorem kw308 : (Jvm.Cond.methodLink "IntervalTapeLaw" (23 : Nat) ({ cls := "IntervalTape", name := "literal", desc := "()I" } : Jvm.MethodName)) ∈ xws := xw_t2 68 (by decide +kernel) rfl
theorem kw309 : (Jvm.Cond.instanceMethod ({ cls := "IntervalTape", name := "literal", desc := "()I" } : Jvm.MethodName)) ∈ xws := xw_t2 69 (by decide +kernel) rfl
theorem kw310 : (Jvm.Cond.selects "IntervalTape" ({ cls := "IntervalTape", name := "literal", desc := "()I" } : Jvm.MethodName) ({ cls := "IntervalTape", name := "literal", desc := "()I" } : Jvm.MethodName)) ∈ xws := xw_t2 70 (by decide +kernel) rfl
theorem kw311 : (Jvm.Cond.code ({ cls := "IntervalTape", name := "literal", desc := "()I" } : Jvm.MethodName) prog_1_method_4_code (2 : Nat) (Option.some Jvm.ClassFile.FieldType.int)) ∈ xws := xw_t2 71 rfl rfl
theorem kw312 : (Jvm.Cond.methodLink "IntervalTape" (84 : Nat) ({ cls := "IntervalTape", name := "isFull", desc := "()Z" } : Jvm.MethodName)) ∈ xws := xw_t2 72 (by decide +kernel) rfl
theorem kw314 : (Jvm.Cond.instanceMethod ({ cls := "IntervalTape", name := "isFull", desc := "()Z" } : Jvm.MethodName)) ∈ xws := xw_t2 74 (by decide +kernel) rfl
theorem kw315 : (Jvm.Cond.code ({ cls := "IntervalTape", name := "isFull", desc := "()Z" } : Jvm.MethodName) prog_1_method_25_code (1 : Nat) (Option.some Jvm.ClassFile.FieldType.boolean)) ∈ xws := xw_t2 75 rfl rfl
theorem kw316 : (Jvm.Cond.methodLink "IntervalTape" (164 : Nat) ({ cls := "java/util/ArrayList", name := "size", desc := "()I" } : Jvm.MethodName)) ∈ xws := xw_t2 76 (by decide +kernel) rfl
theorem kw317 : (Jvm.Cond.instanceMethod ({ cls := "java/util/ArrayList", name := "size", desc := "()I" } : Jvm.MethodName)) ∈ xws := xw_t2 77 (by decide +kernel) rfl
theorem kw318 : (Jvm.Cond.selects "java/util/ArrayList" ({ cls := "java/util/ArrayList", name := "size", desc := "()I" } : Jvm.MethodName) ({ cls := "java/util/ArrayList", name := "size", desc := "()I" } : Jvm.MethodName)) ∈ xws := xw_t2 78 (by decide +kernel) rfl
theorem kw319 : (Jvm.Cond.code ({ cls := "java/util/ArrayList", name := "size", desc := "()I" } : Jvm.MethodName) prog_29_method_8_code (1 : Nat) (Option.some Jvm.ClassFile.FieldType.int)) ∈ xws := xw_t2 79 rfl rfl
theorem kw320 : (Jvm.Cond.methodLink "IntervalTape" (88 : Nat) ({ cls := "java/util/Arrays", name := "copyOf", desc := "([BI)[B" } : Jvm.MethodName)) ∈ xws := xw_t2 80 (by decide +kernel) rfl
theorem kw321 : (Jvm.Cond.static ({ cls := "java/util/Arrays", name := "copyOf", desc := "([BI)[B" } : Jvm.MethodName)) ∈ xws := xw_t2 81 (by decide +kernel) rfl
theorem kw322 : (Jvm.Cond.code ({ cls := "java/util/Arrays", name := "copyOf", desc := "([BI)[B" } : Jvm.MethodName) prog_30_method_121_code (3 : Nat) (Option.some (Jvm.ClassFile.FieldType.array Jvm.ClassFile.FieldType.byte))) ∈ xws := xw_t2 82 rfl rfl
theorem kw323 : (Jvm.Cond.methodLink "java/util/Arrays" (310 : Nat) ({ cls := "[B", name := "clone", desc := "()Ljava/lang/Object;" } : Jvm.MethodName)) ∈ xws := xw_t2 83 (by decide +kernel) rfl
theorem kw326 : (Jvm.Cond.instanceMethod ({ cls := "java/lang/Object", name := "clone", desc := "()Ljava/lang/Object;" } : Jvm.MethodName)) ∈ xws := xw_t2 86 (by decide +kernel) rfl
theorem kw327 : (Jvm.Cond.selects "[B" ({ cls := "[B", name := "clone", desc := "()Ljava/lang/Object;" } : Jvm.MethodName) ({ cls := "java/lang/Object", name := "clone", desc := "()Ljava/lang/Object;" } : Jvm.MethodName)) ∈ xws := xw_t2 87 (by decide +kernel) rfl
theorem kw329 : (Jvm.Cond.classLink "java/util/Arrays" (311 : Nat) "[B") ∈ xws := xw_t2 89 (by decide +kernel) rfl
theorem kw330 : (Jvm.Cond.methodLink "java/util/Arrays" (304 : Nat) ({ cls := "java/lang/Math", name := "min", desc := "(II)I" } : Jvm.MethodName)) ∈ xws := xw_t2 90 (by decide +kernel) rfl
theorem kw331 : (Jvm.Cond.static ({ cls := "java/lang/Math", name := "min", desc := "(II)I" } : Jvm.MethodName)) ∈ xws := xw_t2 91 (by decide +kernel) rfl
theorem kw332 : (Jvm.Cond.code ({ cls := "java/lang/Math", name := "min", desc := "(II)I" } : Jvm.MethodName) prog_22_method_69_code (2 : Nat) (Option.some Jvm.ClassFile.FieldType.int)) ∈ xws := xw_t2 92 rfl rfl
theorem kw333 : (Jvm.Cond.methodLink "java/util/Arrays" (150 : Nat) ({ cls := "java/lang/System", name := "arraycopy", desc := "(Ljava/lang/Object;ILjava/lang/Object;II)V" } : Jvm.MethodName)) ∈ xws := xw_t2 93 (by decide +kernel) rfl
theorem kw334 : (Jvm.Cond.static ({ cls := "java/lang/System", name := "arraycopy", desc := "(Ljava/lang/Object;ILjava/lang/Object;II)V" } : Jvm.MethodName)) ∈ xws := xw_t2 94 (by decide +kernel) rfl
theorem kw336 : (Jvm.Cond.methodLink "IntervalTape" (94 : Nat) ({ cls := "IntervalTape", name := "readCell", desc := "([B)LIntervalTape$Cell;" } : Jvm.MethodName)) ∈ xws := xw_t2 96 (by decide +kernel) rfl
theorem kw338 : (Jvm.Cond.instanceMethod ({ cls := "IntervalTape", name := "readCell", desc := "([B)LIntervalTape$Cell;" } : Jvm.MethodName)) ∈ xws := xw_t2 98 (by decide +kernel) rfl
theorem kw339 : (Jvm.Cond.code ({ cls := "IntervalTape", name := "readCell", desc := "([B)LIntervalTape$Cell;" } : Jvm.MethodName) prog_1_method_27_code (3 : Nat) (Option.some (Jvm.ClassFile.FieldType.object "IntervalTape$Cell"))) ∈ xws := xw_t2 99 rfl rfl
theorem kw340 : (Jvm.Cond.classLink "IntervalTape" (102 : Nat) "IntervalTape$Cell") ∈ xws := xw_t2 100 (by decide +kernel) rfl
theorem kw341 : (Jvm.Cond.instantiable "IntervalTape$Cell" (9 : Nat)) ∈ xws := xw_t2 101 (by decide +kernel) rfl
theorem kw342 : (Jvm.Cond.methodLinkNest "IntervalTape" (104 : Nat) ({ cls := "IntervalTape$Cell", name := "<init>", desc := "()V" } : Jvm.MethodName) "IntervalTape") ∈ xnw := xn_t2 102 (by decide +kernel) rfl
theorem kw343 : (Jvm.Cond.instanceMethod ({ cls := "IntervalTape$Cell", name := "<init>", desc := "()V" } : Jvm.MethodName)) ∈ xws := xw_t2 103 (by decide +kernel) rfl
theorem kw344 : (Jvm.Cond.code ({ cls := "IntervalTape$Cell", name := "<init>", desc := "()V" } : Jvm.MethodName) prog_3_method_1_code (1 : Nat) (Option.none : Option Jvm.ClassFile.FieldType)) ∈ xws := xw_t2 104 rfl rfl
theorem kw345 : (Jvm.Cond.methodLink "IntervalTape$Cell" (3 : Nat) ({ cls := "java/lang/Object", name := "<init>", desc := "()V" } : Jvm.MethodName)) ∈ xws := xw_t2 105 (by decide +kernel) rfl
theorem kw346 : (Jvm.Cond.fieldLink "IntervalTape$Cell" (9 : Nat) "IntervalTape$Cell" "low" "J") ∈ xws := xw_t2 106 (by decide +kernel) rfl
theorem kw347 : (Jvm.Cond.fieldLinkNest "IntervalTape$Gauge" (38 : Nat) "IntervalTape$Cell" "low" "J" "IntervalTape") ∈ xnw := xn_t2 107 (by decide +kernel) rfl
theorem kw348 : (Jvm.Cond.fieldLinkNest "IntervalTape$Sets" (38 : Nat) "IntervalTape$Cell" "low" "J" "IntervalTape") ∈ xnw := xn_t2 108 (by decide +kernel) rfl
theorem kw349 : (Jvm.Cond.fieldLinkNest "IntervalTape$Writer" (54 : Nat) "IntervalTape$Cell" "low" "J" "IntervalTape") ∈ xnw := xn_t2 109 (by decide +kernel) rfl
theorem kw350 : (Jvm.Cond.fieldLinkNest "IntervalTape$Marks" (38 : Nat) "IntervalTape$Cell" "low" "J" "IntervalTape") ∈ xnw := xn_t2 110 (by decide +kernel) rfl
theorem kw351 : (Jvm.Cond.fieldLinkNest "IntervalTape$Ends" (77 : Nat) "IntervalTape$Cell" "low" "J" "IntervalTape") ∈ xnw := xn_t2 111 (by decide +kernel) rfl
theorem kw352 : (Jvm.Cond.fieldLinkNest "IntervalTape" (138 : Nat) "IntervalTape$Cell" "low" "J" "IntervalTape") ∈ xnw := xn_t2 112 (by decide +kernel) rfl
theorem kw353 : (Jvm.Cond.fieldLink "IntervalTape$Cell" (15 : Nat) "IntervalTape$Cell" "high" "J") ∈ xws := xw_t2 113 (by decide +kernel) rfl
theorem kw354 : (Jvm.Cond.fieldLinkNest "IntervalTape$Gauge" (42 : Nat) "IntervalTape$Cell" "high" "J" "IntervalTape") ∈ xnw := xn_t2 114 (by decide +kernel) rfl
theorem kw355 : (Jvm.Cond.fieldLinkNest "IntervalTape$Sets" (48 : Nat) "IntervalTape$Cell" "high" "J" "IntervalTape") ∈ xnw := xn_t2 115 (by decide +kernel) rfl
theorem kw356 : (Jvm.Cond.fieldLinkNest "IntervalTape$Marks" (42 : Nat) "IntervalTape$Cell" "high" "J" "IntervalTape") ∈ xnw := xn_t2 116 (by decide +kernel) rfl
theorem kw357 : (Jvm.Cond.fieldLinkNest "IntervalTape$Writer" (62 : Nat) "IntervalTape$Cell" "high" "J" "IntervalTape") ∈ xnw := xn_t2 117 (by decide +kernel) rfl
theorem kw358 : (Jvm.Cond.fieldLinkNest "IntervalTape$Ends" (84 : Nat) "IntervalTape$Cell" "high" "J" "IntervalTape") ∈ xnw := xn_t2 118 (by decide +kernel) rfl
theorem kw359 : (Jvm.Cond.fieldLinkNest "IntervalTape" (141 : Nat) "IntervalTape$Cell" "high" "J" "IntervalTape") ∈ xnw := xn_t2 119 (by decide +kernel) rfl
theorem kw360 : (Jvm.Cond.fieldLinkNest "IntervalTape$Writer" (27 : Nat) "IntervalTape$Cell" "mark" "I" "IntervalTape") ∈ xnw := xn_t2 120 (by decide +kernel) rfl
theorem kw361 : (Jvm.Cond.fieldLinkNest "IntervalTape$Sets" (22 : Nat) "IntervalTape$Cell" "mark" "I" "IntervalTape") ∈ xnw := xn_t2 121 (by decide +kernel) rfl
theorem kw362 : (Jvm.Cond.fieldLinkNest "IntervalTape" (127 : Nat) "IntervalTape$Cell" "mark" "I" "IntervalTape") ∈ xnw := xn_t2 122 (by decide +kernel) rfl
theorem kw363 : (Jvm.Cond.fieldLink "IntervalTape$Cell" (35 : Nat) "IntervalTape$Cell" "mark" "I") ∈ xws := xw_t2 123 (by decide +kernel) rfl
theorem kw364 : (Jvm.Cond.fieldLinkNest "IntervalTape$Marks" (31 : Nat) "IntervalTape$Cell" "kind" "I" "IntervalTape") ∈ xnw := xn_t2 124 (by decide +kernel) rfl
theorem kw365 : (Jvm.Cond.fieldLinkNest "IntervalTape$Ends" (54 : Nat) "IntervalTape$Cell" "kind" "I" "IntervalTape") ∈ xnw := xn_t2 125 (by decide +kernel) rfl
theorem kw366 : (Jvm.Cond.fieldLinkNest "IntervalTape" (161 : Nat) "IntervalTape$Cell" "kind" "I" "IntervalTape") ∈ xnw := xn_t2 126 (by decide +kernel) rfl
theorem kw367 : (Jvm.Cond.fieldLinkNest "IntervalTape$Marks" (35 : Nat) "IntervalTape$Cell" "operation" "I" "IntervalTape") ∈ xnw := xn_t2 127 (by decide +kernel) rfl
theorem kw368 : (Jvm.Cond.fieldLinkNest "IntervalTape$Ends" (58 : Nat) "IntervalTape$Cell" "operation" "I" "IntervalTape") ∈ xnw := xn_t2 128 (by decide +kernel) rfl
theorem kw369 : (Jvm.Cond.fieldLinkNest "IntervalTape" (230 : Nat) "IntervalTape$Cell" "operation" "I" "IntervalTape") ∈ xnw := xn_t2 129 (by decide +kernel) rfl
theorem kw370 : (Jvm.Cond.fieldLinkNest "IntervalTape$Ends" (34 : Nat) "IntervalTape$Cell" "x" "LIntervalTape$Cell;" "IntervalTape") ∈ xnw := xn_t2 130 (by decide +kernel) rfl
theorem kw371 : (Jvm.Cond.fieldLinkNest "IntervalTape$Marks" (9 : Nat) "IntervalTape$Cell" "x" "LIntervalTape$Cell;" "IntervalTape") ∈ xnw := xn_t2 131 (by decide +kernel) rfl
theorem kw372 : (Jvm.Cond.fieldLinkNest "IntervalTape" (233 : Nat) "IntervalTape$Cell" "x" "LIntervalTape$Cell;" "IntervalTape") ∈ xnw := xn_t2 132 (by decide +kernel) rfl
theorem kw373 : (Jvm.Cond.fieldLinkNest "IntervalTape$Ends" (40 : Nat) "IntervalTape$Cell" "y" "LIntervalTape$Cell;" "IntervalTape") ∈ xnw := xn_t2 133 (by decide +kernel) rfl
theorem kw374 : (Jvm.Cond.fieldLinkNest "IntervalTape$Marks" (15 : Nat) "IntervalTape$Cell" "y" "LIntervalTape$Cell;" "IntervalTape") ∈ xnw := xn_t2 134 (by decide +kernel) rfl
theorem kw375 : (Jvm.Cond.fieldLinkNest "IntervalTape" (237 : Nat) "IntervalTape$Cell" "y" "LIntervalTape$Cell;" "IntervalTape") ∈ xnw := xn_t2 135 (by decide +kernel) rfl
theorem kw376 : (Jvm.Cond.fieldLinkNest "IntervalTape$Ends" (43 : Nat) "IntervalTape$Cell" "z" "LIntervalTape$Cell;" "IntervalTape") ∈ xnw := xn_t2 136 (by decide +kernel) rfl
theorem kw377 : (Jvm.Cond.fieldLinkNest "IntervalTape$Marks" (18 : Nat) "IntervalTape$Cell" "z" "LIntervalTape$Cell;" "IntervalTape") ∈ xnw := xn_t2 137 (by decide +kernel) rfl
theorem kw378 : (Jvm.Cond.fieldLinkNest "IntervalTape" (240 : Nat) "IntervalTape$Cell" "z" "LIntervalTape$Cell;" "IntervalTape") ∈ xnw := xn_t2 138 (by decide +kernel) rfl
theorem kw379 : (Jvm.Cond.fieldLinkNest "IntervalTape" (220 : Nat) "IntervalTape$Cell" "text" "[B" "IntervalTape") ∈ xnw := xn_t2 139 (by decide +kernel) rfl
theorem kw399 : (Jvm.Cond.methodLink "IntervalTape" (216 : Nat) ({ cls := "IntervalTape$Reader", name := "read", desc := "([B)Z" } : Jvm.MethodName)) ∈ xws := xw_t2 159 (by decide +kernel) rfl
theorem kw400 : (Jvm.Cond.instanceMethod ({ cls := "IntervalTape$Reader", name := "read", desc := "([B)Z" } : Jvm.MethodName)) ∈ xws := xw_t2 160 (by decide +kernel) rfl
theorem kw401 : (Jvm.Cond.selects "IntervalTape$Reader" ({ cls := "IntervalTape$Reader", name := "read", desc := "([B)Z" } : Jvm.MethodName) ({ cls := "IntervalTape$Reader", name := "read", desc := "([B)Z" } : Jvm.MethodName)) ∈ xws := xw_t2 161 (by decide +kernel) rfl
theorem kw402 : (Jvm.Cond.code ({ cls := "IntervalTape$Reader", name := "read", desc := "([B)Z" } : Jvm.MethodName) prog_9_method_2_code (2 : Nat) (Option.some Jvm.ClassFile.FieldType.boolean)) ∈ xws := xw_t2 162 rfl rfl
theorem kw403 : (Jvm.Cond.methodLink "IntervalTape$Reader" (42 : Nat) ({ cls := "IntervalTape$Reader", name := "lower", desc := "()V" } : Jvm.MethodName)) ∈ xws := xw_t2 163 (by decide +kernel) rfl
theorem kw405 : (Jvm.Cond.instanceMethod ({ cls := "IntervalTape$Reader", name := "lower", desc := "()V" } : Jvm.MethodName)) ∈ xws := xw_t2 165 (by decide +kernel) rfl
theorem kw406 : (Jvm.Cond.code ({ cls := "IntervalTape$Reader", name := "lower", desc := "()V" } : Jvm.MethodName) prog_9_method_3_code (3 : Nat) (Option.none : Option Jvm.ClassFile.FieldType)) ∈ xws := xw_t2 166 rfl rfl
theorem kw407 : (Jvm.Cond.methodLink "IntervalTape$Reader" (45 : Nat) ({ cls := "IntervalTape$Reader", name := "skipBlanks", desc := "()V" } : Jvm.MethodName)) ∈ xws := xw_t2 167 (by decide +kernel) rfl
theorem kw409 : (Jvm.Cond.instanceMethod ({ cls := "IntervalTape$Reader", name := "skipBlanks", desc := "()V" } : Jvm.MethodName)) ∈ xws := xw_t2 169 (by decide +kernel) rfl
theorem kw410 : (Jvm.Cond.code ({ cls := "IntervalTape$Reader", name := "skipBlanks", desc := "()V" } : Jvm.MethodName) prog_9_method_7_code (2 : Nat) (Option.none : Option Jvm.ClassFile.FieldType)) ∈ xws := xw_t2 170 rfl rfl
theorem kw411 : (Jvm.Cond.methodLink "IntervalTape$Reader" (48 : Nat) ({ cls := "IntervalTape$Reader", name := "take", desc := "(I)Z" } : Jvm.MethodName)) ∈ xws := xw_t2 171 (by decide +kernel) rfl
theorem kw413 : (Jvm.Cond.instanceMethod ({ cls := "IntervalTape$Reader", name := "take", desc := "(I)Z" } : Jvm.MethodName)) ∈ xws := xw_t2 173 (by decide +kernel) rfl
theorem kw414 : (Jvm.Cond.code ({ cls := "IntervalTape$Reader", name := "take", desc := "(I)Z" } : Jvm.MethodName) prog_9_method_5_code (2 : Nat) (Option.some Jvm.ClassFile.FieldType.boolean)) ∈ xws := xw_t2 174 rfl rfl
theorem kw415 : (Jvm.Cond.methodLink "IntervalTape$Reader" (52 : Nat) ({ cls := "IntervalTape$Reader", name := "readBrackets", desc := "()V" } : Jvm.MethodName)) ∈ xws := xw_t2 175 (by decide +kernel) rfl
theorem kw417 : (Jvm.Cond.instanceMethod ({ cls := "IntervalTape$Reader", name := "readBrackets", desc := "()V" } : Jvm.MethodName)) ∈ xws := xw_t2 177 (by decide +kernel) rfl
theorem kw418 : (Jvm.Cond.code ({ cls := "IntervalTape$Reader", name := "readBrackets", desc := "()V" } : Jvm.MethodName) prog_9_method_9_code (3 : Nat) (Option.none : Option Jvm.ClassFile.FieldType)) ∈ xws := xw_t2 178 rfl rfl
theorem kw420 : (Jvm.Cond.methodLink "IntervalTape$Reader" (82 : Nat) ({ cls := "IntervalTape$Reader", name := "takeWord", desc := "(Ljava/lang/String;II)Z" } : Jvm.MethodName)) ∈ xws := xw_t2 180 (by decide +kernel) rfl
theorem kw422 : (Jvm.Cond.instanceMethod ({ cls := "IntervalTape$Reader", name := "takeWord", desc := "(Ljava/lang/String;II)Z" } : Jvm.MethodName)) ∈ xws := xw_t2 182 (by decide +kernel) rfl
theorem kw423 : (Jvm.Cond.code ({ cls := "IntervalTape$Reader", name := "takeWord", desc := "(Ljava/lang/String;II)Z" } : Jvm.MethodName) prog_9_method_6_code (6 : Nat) (Option.some Jvm.ClassFile.FieldType.boolean)) ∈ xws := xw_t2 183 rfl rfl
theorem kw424 : (Jvm.Cond.methodLink "IntervalTape$Reader" (74 : Nat) ({ cls := "java/lang/String", name := "charAt", desc := "(I)C" } : Jvm.MethodName)) ∈ xws := xw_t2 184 (by decide +kernel) rfl
theorem kw425 : (Jvm.Cond.instanceMethod ({ cls := "java/lang/String", name := "charAt", desc := "(I)C" } : Jvm.MethodName)) ∈ xws := xw_t2 185 (by decide +kernel) rfl
theorem kw426 : (Jvm.Cond.selects "java/lang/String" ({ cls := "java/lang/String", name := "charAt", desc := "(I)C" } : Jvm.MethodName) ({ cls := "java/lang/String", name := "charAt", desc := "(I)C" } : Jvm.MethodName)) ∈ xws := xw_t2 186 (by decide +kernel) rfl
theorem kw427 : (Jvm.Cond.code ({ cls := "java/lang/String", name := "charAt", desc := "(I)C" } : Jvm.MethodName) prog_23_method_56_code (2 : Nat) (Option.some Jvm.ClassFile.FieldType.char)) ∈ xws := xw_t2 187 rfl rfl
theorem kw428 : (Jvm.Cond.methodLink "java/lang/String" (492 : Nat) ({ cls := "java/lang/String", name := "isLatin1", desc := "()Z" } : Jvm.MethodName)) ∈ xws := xw_t2 188 (by decide +kernel) rfl
theorem kw429 : (Jvm.Cond.instanceMethod ({ cls := "java/lang/String", name := "isLatin1", desc := "()Z" } : Jvm.MethodName)) ∈ xws := xw_t2 189 (by decide +kernel) rfl
theorem kw430 : (Jvm.Cond.selects "java/lang/String" ({ cls := "java/lang/String", name := "isLatin1", desc := "()Z" } : Jvm.MethodName) ({ cls := "java/lang/String", name := "isLatin1", desc := "()Z" } : Jvm.MethodName)) ∈ xws := xw_t2 190 (by decide +kernel) rfl
theorem kw431 : (Jvm.Cond.code ({ cls := "java/lang/String", name := "isLatin1", desc := "()Z" } : Jvm.MethodName) prog_23_method_154_code (1 : Nat) (Option.some Jvm.ClassFile.FieldType.boolean)) ∈ xws := xw_t2 191 rfl rfl
theorem kw432 : (Jvm.Cond.fieldLink "java/lang/String" (38 : Nat) "java/lang/String" "COMPACT_STRINGS" "Z") ∈ xws := xw_t2 192 (by decide +kernel) rfl
theorem kw434 : (Jvm.Cond.methodLink "java/lang/String" (495 : Nat) ({ cls := "java/lang/StringLatin1", name := "charAt", desc := "([BI)C" } : Jvm.MethodName)) ∈ xws := xw_t2 194 (by decide +kernel) rfl
theorem kw435 : (Jvm.Cond.static ({ cls := "java/lang/StringLatin1", name := "charAt", desc := "([BI)C" } : Jvm.MethodName)) ∈ xws := xw_t2 195 (by decide +kernel) rfl
theorem kw436 : (Jvm.Cond.code ({ cls := "java/lang/StringLatin1", name := "charAt", desc := "([BI)C" } : Jvm.MethodName) prog_24_method_2_code (2 : Nat) (Option.some Jvm.ClassFile.FieldType.char)) ∈ xws := xw_t2 196 rfl rfl
theorem kw437 : (Jvm.Cond.methodLink "java/lang/StringLatin1" (9 : Nat) ({ cls := "java/lang/String", name := "checkIndex", desc := "(II)V" } : Jvm.MethodName)) ∈ xws := xw_t2 197 (by decide +kernel) rfl
theorem kw438 : (Jvm.Cond.static ({ cls := "java/lang/String", name := "checkIndex", desc := "(II)V" } : Jvm.MethodName)) ∈ xws := xw_t2 198 (by decide +kernel) rfl
theorem kw439 : (Jvm.Cond.code ({ cls := "java/lang/String", name := "checkIndex", desc := "(II)V" } : Jvm.MethodName) prog_23_method_155_code (2 : Nat) (Option.none : Option Jvm.ClassFile.FieldType)) ∈ xws := xw_t2 199 rfl rfl
theorem kw440 : (Jvm.Cond.fieldLink "java/lang/String" (1053 : Nat) "jdk/internal/util/Preconditions" "SIOOBE_FORMATTER" "Ljava/util/function/BiFunction;") ∈ xws := xw_t2 200 (by decide +kernel) rfl
theorem kw442 : (Jvm.Cond.methodLink "java/lang/String" (1059 : Nat) ({ cls := "jdk/internal/util/Preconditions", name := "checkIndex", desc := "(IILjava/util/function/BiFunction;)I" } : Jvm.MethodName)) ∈ xws := xw_t2 202 (by decide +kernel) rfl
theorem kw443 : (Jvm.Cond.static ({ cls := "jdk/internal/util/Preconditions", name := "checkIndex", desc := "(IILjava/util/function/BiFunction;)I" } : Jvm.MethodName)) ∈ xws := xw_t2 203 (by decide +kernel) rfl
theorem kw444 : (Jvm.Cond.code ({ cls := "jdk/internal/util/Preconditions", name := "checkIndex", desc := "(IILjava/util/function/BiFunction;)I" } : Jvm.MethodName) prog_37_method_11_code (3 : Nat) (Option.some Jvm.ClassFile.FieldType.int)) ∈ xws := xw_t2 204 rfl rfl
theorem kw445 : (Jvm.Cond.methodLink "java/lang/String" (498 : Nat) ({ cls := "java/lang/StringUTF16", name := "charAt", desc := "([BI)C" } : Jvm.MethodName)) ∈ xws := xw_t2 205 (by decide +kernel) rfl
theorem kw446 : (Jvm.Cond.static ({ cls := "java/lang/StringUTF16", name := "charAt", desc := "([BI)C" } : Jvm.MethodName)) ∈ xws := xw_t2 206 (by decide +kernel) rfl
theorem kw447 : (Jvm.Cond.code ({ cls := "java/lang/StringUTF16", name := "charAt", desc := "([BI)C" } : Jvm.MethodName) prog_25_method_83_code (2 : Nat) (Option.some Jvm.ClassFile.FieldType.char)) ∈ xws := xw_t2 207 rfl rfl
theorem kw448 : (Jvm.Cond.methodLink "java/lang/StringUTF16" (67 : Nat) ({ cls := "java/lang/StringUTF16", name := "checkIndex", desc := "(I[B)V" } : Jvm.MethodName)) ∈ xws := xw_t2 208 (by decide +kernel) rfl
theorem kw449 : (Jvm.Cond.static ({ cls := "java/lang/StringUTF16", name := "checkIndex", desc := "(I[B)V" } : Jvm.MethodName)) ∈ xws := xw_t2 209 (by decide +kernel) rfl
theorem kw450 : (Jvm.Cond.code ({ cls := "java/lang/StringUTF16", name := "checkIndex", desc := "(I[B)V" } : Jvm.MethodName) prog_25_method_91_code (2 : Nat) (Option.none : Option Jvm.ClassFile.FieldType)) ∈ xws := xw_t2 210 rfl rfl
theorem kw451 : (Jvm.Cond.methodLink "java/lang/StringUTF16" (48 : Nat) ({ cls := "java/lang/StringUTF16", name := "length", desc := "([B)I" } : Jvm.MethodName)) ∈ xws := xw_t2 211 (by decide +kernel) rfl
theorem kw452 : (Jvm.Cond.static ({ cls := "java/lang/StringUTF16", name := "length", desc := "([B)I" } : Jvm.MethodName)) ∈ xws := xw_t2 212 (by decide +kernel) rfl
theorem kw453 : (Jvm.Cond.code ({ cls := "java/lang/StringUTF16", name := "length", desc := "([B)I" } : Jvm.MethodName) prog_25_method_6_code (1 : Nat) (Option.some Jvm.ClassFile.FieldType.int)) ∈ xws := xw_t2 213 rfl rfl
theorem kw454 : (Jvm.Cond.methodLink "java/lang/StringUTF16" (414 : Nat) ({ cls := "java/lang/String", name := "checkIndex", desc := "(II)V" } : Jvm.MethodName)) ∈ xws := xw_t2 214 (by decide +kernel) rfl
theorem kw455 : (Jvm.Cond.methodLink "java/lang/StringUTF16" (71 : Nat) ({ cls := "java/lang/StringUTF16", name := "getChar", desc := "([BI)C" } : Jvm.MethodName)) ∈ xws := xw_t2 215 (by decide +kernel) rfl
theorem kw456 : (Jvm.Cond.static ({ cls := "java/lang/StringUTF16", name := "getChar", desc := "([BI)C" } : Jvm.MethodName)) ∈ xws := xw_t2 216 (by decide +kernel) rfl
theorem kw457 : (Jvm.Cond.code ({ cls := "java/lang/StringUTF16", name := "getChar", desc := "([BI)C" } : Jvm.MethodName) prog_25_method_5_code (2 : Nat) (Option.some Jvm.ClassFile.FieldType.char)) ∈ xws := xw_t2 217 rfl rfl
theorem kw458 : (Jvm.Cond.fieldLink "java/lang/StringUTF16" (44 : Nat) "java/lang/StringUTF16" "$assertionsDisabled" "Z") ∈ xws := xw_t2 218 (by decide +kernel) rfl
theorem kw460 : (Jvm.Cond.fieldLink "java/lang/StringUTF16" (59 : Nat) "java/lang/StringUTF16" "HI_BYTE_SHIFT" "I") ∈ xws := xw_t2 220 (by decide +kernel) rfl
theorem kw462 : (Jvm.Cond.fieldLink "java/lang/StringUTF16" (63 : Nat) "java/lang/StringUTF16" "LO_BYTE_SHIFT" "I") ∈ xws := xw_t2 222 (by decide +kernel) rfl
theorem kw464 : (Jvm.Cond.constantLong "IntervalTape$Reader" (88 : Nat) (-9218868437227405312 : Int64)) ∈ xws := xw_t2 224 (by decide +kernel) rfl
theorem kw465 : (Jvm.Cond.constantLong "IntervalTape$Reader" (90 : Nat) (9218868437227405312 : Int64)) ∈ xws := xw_t2 225 (by decide +kernel) rfl
theorem kw466 : (Jvm.Cond.methodLink "IntervalTape$Reader" (92 : Nat) ({ cls := "IntervalTape$Ends", name := "becomeRanks", desc := "(JJ)V" } : Jvm.MethodName)) ∈ xws := xw_t2 226 (by decide +kernel) rfl
theorem kw467 : (Jvm.Cond.instanceMethod ({ cls := "IntervalTape$Ends", name := "becomeRanks", desc := "(JJ)V" } : Jvm.MethodName)) ∈ xws := xw_t2 227 (by decide +kernel) rfl
theorem kw468 : (Jvm.Cond.selects "IntervalTape$Ends" ({ cls := "IntervalTape$Ends", name := "becomeRanks", desc := "(JJ)V" } : Jvm.MethodName) ({ cls := "IntervalTape$Ends", name := "becomeRanks", desc := "(JJ)V" } : Jvm.MethodName)) ∈ xws := xw_t2 228 (by decide +kernel) rfl
theorem kw469 : (Jvm.Cond.code ({ cls := "IntervalTape$Ends", name := "becomeRanks", desc := "(JJ)V" } : Jvm.MethodName) prog_4_method_3_code (5 : Nat) (Option.none : Option Jvm.ClassFile.FieldType)) ∈ xws := xw_t2 229 rfl rfl
theorem kw470 : (Jvm.Cond.methodLink "IntervalTape$Ends" (86 : Nat) ({ cls := "IntervalTape$Real", name := "becomeRank", desc := "(J)V" } : Jvm.MethodName)) ∈ xws := xw_t2 230 (by decide +kernel) rfl
theorem kw471 : (Jvm.Cond.instanceMethod ({ cls := "IntervalTape$Real", name := "becomeRank", desc := "(J)V" } : Jvm.MethodName)) ∈ xws := xw_t2 231 (by decide +kernel) rfl
theorem kw472 : (Jvm.Cond.selects "IntervalTape$Real" ({ cls := "IntervalTape$Real", name := "becomeRank", desc := "(J)V" } : Jvm.MethodName) ({ cls := "IntervalTape$Real", name := "becomeRank", desc := "(J)V" } : Jvm.MethodName)) ∈ xws := xw_t2 232 (by decide +kernel) rfl
theorem kw473 : (Jvm.Cond.code ({ cls := "IntervalTape$Real", name := "becomeRank", desc := "(J)V" } : Jvm.MethodName) prog_10_method_3_code (5 : Nat) (Option.none : Option Jvm.ClassFile.FieldType)) ∈ xws := xw_t2 233 rfl rfl
theorem kw474 : (Jvm.Cond.methodLink "IntervalTape$Real" (39 : Nat) ({ cls := "java/lang/Math", name := "abs", desc := "(J)J" } : Jvm.MethodName)) ∈ xws := xw_t2 234 (by decide +kernel) rfl
theorem kw475 : (Jvm.Cond.static ({ cls := "java/lang/Math", name := "abs", desc := "(J)J" } : Jvm.MethodName)) ∈ xws := xw_t2 235 (by decide +kernel) rfl
theorem kw476 : (Jvm.Cond.code ({ cls := "java/lang/Math", name := "abs", desc := "(J)J" } : Jvm.MethodName) prog_22_method_61_code (2 : Nat) (Option.some Jvm.ClassFile.FieldType.long)) ∈ xws := xw_t2 236 rfl rfl
theorem kw477 : (Jvm.Cond.methodLink "IntervalTape$Real" (45 : Nat) ({ cls := "java/lang/Long", name := "signum", desc := "(J)I" } : Jvm.MethodName)) ∈ xws := xw_t2 237 (by decide +kernel) rfl
theorem kw478 : (Jvm.Cond.static ({ cls := "java/lang/Long", name := "signum", desc := "(J)I" } : Jvm.MethodName)) ∈ xws := xw_t2 238 (by decide +kernel) rfl
theorem kw479 : (Jvm.Cond.code ({ cls := "java/lang/Long", name := "signum", desc := "(J)I" } : Jvm.MethodName) prog_21_method_57_code (2 : Nat) (Option.some Jvm.ClassFile.FieldType.int)) ∈ xws := xw_t2 239 rfl rfl
theorem kw480 : (Jvm.Cond.methodLink "IntervalTape$Real" (51 : Nat) ({ cls := "IntervalTape$Floats", name := "exponent", desc := "(J)I" } : Jvm.MethodName)) ∈ xws := xw_t3 0 (by decide +kernel) rfl
theorem kw481 : (Jvm.Cond.static ({ cls := "IntervalTape$Floats", name := "exponent", desc := "(J)I" } : Jvm.MethodName)) ∈ xws := xw_t3 1 (by decide +kernel) rfl
theorem kw482 : (Jvm.Cond.code ({ cls := "IntervalTape$Floats", name := "exponent", desc := "(J)I" } : Jvm.MethodName) prog_6_method_7_code (2 : Nat) (Option.some Jvm.ClassFile.FieldType.int)) ∈ xws := xw_t3 2 rfl rfl
theorem kw483 : (Jvm.Cond.constantLong "IntervalTape$Floats" (19 : Nat) (4503599627370495 : Int64)) ∈ xws := xw_t3 3 (by decide +kernel) rfl
theorem kw484 : (Jvm.Cond.constantLong "IntervalTape$Real" (55 : Nat) (9218868437227405312 : Int64)) ∈ xws := xw_t3 4 (by decide +kernel) rfl
theorem kw485 : (Jvm.Cond.methodLink "IntervalTape$Real" (57 : Nat) ({ cls := "IntervalTape$Floats", name := "significand", desc := "(J)J" } : Jvm.MethodName)) ∈ xws := xw_t3 5 (by decide +kernel) rfl
theorem kw486 : (Jvm.Cond.static ({ cls := "IntervalTape$Floats", name := "significand", desc := "(J)J" } : Jvm.MethodName)) ∈ xws := xw_t3 6 (by decide +kernel) rfl
theorem kw487 : (Jvm.Cond.code ({ cls := "IntervalTape$Floats", name := "significand", desc := "(J)J" } : Jvm.MethodName) prog_6_method_6_code (2 : Nat) (Option.some Jvm.ClassFile.FieldType.long)) ∈ xws := xw_t3 7 rfl rfl
theorem kw488 : (Jvm.Cond.constantLong "IntervalTape$Floats" (21 : Nat) (4503599627370496 : Int64)) ∈ xws := xw_t3 8 (by decide +kernel) rfl
theorem kw489 : (Jvm.Cond.methodLink "IntervalTape$Real" (35 : Nat) ({ cls := "IntervalTape$Big", name := "become", desc := "(J)V" } : Jvm.MethodName)) ∈ xws := xw_t3 9 (by decide +kernel) rfl
theorem kw490 : (Jvm.Cond.instanceMethod ({ cls := "IntervalTape$Big", name := "become", desc := "(J)V" } : Jvm.MethodName)) ∈ xws := xw_t3 10 (by decide +kernel) rfl
theorem kw491 : (Jvm.Cond.selects "IntervalTape$Big" ({ cls := "IntervalTape$Big", name := "become", desc := "(J)V" } : Jvm.MethodName) ({ cls := "IntervalTape$Big", name := "become", desc := "(J)V" } : Jvm.MethodName)) ∈ xws := xw_t3 11 (by decide +kernel) rfl
theorem kw492 : (Jvm.Cond.code ({ cls := "IntervalTape$Big", name := "become", desc := "(J)V" } : Jvm.MethodName) prog_2_method_2_code (3 : Nat) (Option.none : Option Jvm.ClassFile.FieldType)) ∈ xws := xw_t3 12 rfl rfl
theorem kw493 : (Jvm.Cond.methodLink "IntervalTape$Reader" (96 : Nat) ({ cls := "IntervalTape$Reader", name := "peek", desc := "()I" } : Jvm.MethodName)) ∈ xws := xw_t3 13 (by decide +kernel) rfl
theorem kw495 : (Jvm.Cond.instanceMethod ({ cls := "IntervalTape$Reader", name := "peek", desc := "()I" } : Jvm.MethodName)) ∈ xws := xw_t3 15 (by decide +kernel) rfl
theorem kw496 : (Jvm.Cond.code ({ cls := "IntervalTape$Reader", name := "peek", desc := "()I" } : Jvm.MethodName) prog_9_method_4_code (1 : Nat) (Option.some Jvm.ClassFile.FieldType.int)) ∈ xws := xw_t3 16 rfl rfl
theorem kw499 : (Jvm.Cond.methodLink "IntervalTape$Reader" (103 : Nat) ({ cls := "IntervalTape$Reader", name := "takeInfinity", desc := "(Ljava/lang/String;I)Z" } : Jvm.MethodName)) ∈ xws := xw_t3 19 (by decide +kernel) rfl
theorem kw501 : (Jvm.Cond.instanceMethod ({ cls := "IntervalTape$Reader", name := "takeInfinity", desc := "(Ljava/lang/String;I)Z" } : Jvm.MethodName)) ∈ xws := xw_t3 21 (by decide +kernel) rfl
theorem kw502 : (Jvm.Cond.code ({ cls := "IntervalTape$Reader", name := "takeInfinity", desc := "(Ljava/lang/String;I)Z" } : Jvm.MethodName) prog_9_method_10_code (3 : Nat) (Option.some Jvm.ClassFile.FieldType.boolean)) ∈ xws := xw_t3 22 rfl rfl
theorem kw504 : (Jvm.Cond.methodLink "IntervalTape$Reader" (107 : Nat) ({ cls := "IntervalTape$Real", name := "becomeInfinite", desc := "(I)V" } : Jvm.MethodName)) ∈ xws := xw_t3 24 (by decide +kernel) rfl
theorem kw505 : (Jvm.Cond.instanceMethod ({ cls := "IntervalTape$Real", name := "becomeInfinite", desc := "(I)V" } : Jvm.MethodName)) ∈ xws := xw_t3 25 (by decide +kernel) rfl
theorem kw506 : (Jvm.Cond.selects "IntervalTape$Real" ({ cls := "IntervalTape$Real", name := "becomeInfinite", desc := "(I)V" } : Jvm.MethodName) ({ cls := "IntervalTape$Real", name := "becomeInfinite", desc := "(I)V" } : Jvm.MethodName)) ∈ xws := xw_t3 26 (by decide +kernel) rfl
theorem kw507 : (Jvm.Cond.code ({ cls := "IntervalTape$Real", name := "becomeInfinite", desc := "(I)V" } : Jvm.MethodName) prog_10_method_4_code (2 : Nat) (Option.none : Option Jvm.ClassFile.FieldType)) ∈ xws := xw_t3 27 rfl rfl
theorem kw508 : (Jvm.Cond.constantLong "IntervalTape$Real" (60 : Nat) (-9218868437227405312 : Int64)) ∈ xws := xw_t3 28 (by decide +kernel) rfl
theorem kw509 : (Jvm.Cond.methodLink "IntervalTape$Real" (62 : Nat) ({ cls := "IntervalTape$Real", name := "becomeRank", desc := "(J)V" } : Jvm.MethodName)) ∈ xws := xw_t3 29 (by decide +kernel) rfl
theorem kw510 : (Jvm.Cond.methodLink "IntervalTape$Reader" (113 : Nat) ({ cls := "IntervalTape$Reader", name := "readNumber", desc := "(LIntervalTape$Real;)V" } : Jvm.MethodName)) ∈ xws := xw_t3 30 (by decide +kernel) rfl
theorem kw512 : (Jvm.Cond.instanceMethod ({ cls := "IntervalTape$Reader", name := "readNumber", desc := "(LIntervalTape$Real;)V" } : Jvm.MethodName)) ∈ xws := xw_t3 32 (by decide +kernel) rfl
theorem kw513 : (Jvm.Cond.code ({ cls := "IntervalTape$Reader", name := "readNumber", desc := "(LIntervalTape$Real;)V" } : Jvm.MethodName) prog_9_method_12_code (5 : Nat) (Option.none : Option Jvm.ClassFile.FieldType)) ∈ xws := xw_t3 33 rfl rfl
theorem kw514 : (Jvm.Cond.methodLink "IntervalTape$Reader" (126 : Nat) ({ cls := "IntervalTape$Reader", name := "takeSign", desc := "()I" } : Jvm.MethodName)) ∈ xws := xw_t3 34 (by decide +kernel) rfl
theorem kw516 : (Jvm.Cond.instanceMethod ({ cls := "IntervalTape$Reader", name := "takeSign", desc := "()I" } : Jvm.MethodName)) ∈ xws := xw_t3 36 (by decide +kernel) rfl
theorem kw517 : (Jvm.Cond.code ({ cls := "IntervalTape$Reader", name := "takeSign", desc := "()I" } : Jvm.MethodName) prog_9_method_11_code (1 : Nat) (Option.some Jvm.ClassFile.FieldType.int)) ∈ xws := xw_t3 37 rfl rfl
theorem kw519 : (Jvm.Cond.methodLink "IntervalTape$Reader" (135 : Nat) ({ cls := "IntervalTape$Reader", name := "takeDigits", desc := "(LIntervalTape$Big;IZ)Z" } : Jvm.MethodName)) ∈ xws := xw_t3 39 (by decide +kernel) rfl
theorem kw521 : (Jvm.Cond.instanceMethod ({ cls := "IntervalTape$Reader", name := "takeDigits", desc := "(LIntervalTape$Big;IZ)Z" } : Jvm.MethodName)) ∈ xws := xw_t3 41 (by decide +kernel) rfl
theorem kw522 : (Jvm.Cond.code ({ cls := "IntervalTape$Reader", name := "takeDigits", desc := "(LIntervalTape$Big;IZ)Z" } : Jvm.MethodName) prog_9_method_13_code (9 : Nat) (Option.some Jvm.ClassFile.FieldType.boolean)) ∈ xws := xw_t3 42 rfl rfl
theorem kw523 : (Jvm.Cond.methodLink "IntervalTape$Reader" (170 : Nat) ({ cls := "IntervalTape$Big", name := "become", desc := "(J)V" } : Jvm.MethodName)) ∈ xws := xw_t3 43 (by decide +kernel) rfl
theorem kw524 : (Jvm.Cond.methodLink "IntervalTape$Reader" (173 : Nat) ({ cls := "IntervalTape$Reader", name := "digitOf", desc := "(I)I" } : Jvm.MethodName)) ∈ xws := xw_t3 44 (by decide +kernel) rfl
theorem kw525 : (Jvm.Cond.static ({ cls := "IntervalTape$Reader", name := "digitOf", desc := "(I)I" } : Jvm.MethodName)) ∈ xws := xw_t3 45 (by decide +kernel) rfl
theorem kw526 : (Jvm.Cond.code ({ cls := "IntervalTape$Reader", name := "digitOf", desc := "(I)I" } : Jvm.MethodName) prog_9_method_14_code (1 : Nat) (Option.some Jvm.ClassFile.FieldType.int)) ∈ xws := xw_t3 46 rfl rfl
theorem kw527 : (Jvm.Cond.methodLink "IntervalTape$Reader" (176 : Nat) ({ cls := "IntervalTape$Big", name := "timesPlus", desc := "(II)V" } : Jvm.MethodName)) ∈ xws := xw_t3 47 (by decide +kernel) rfl
theorem kw528 : (Jvm.Cond.instanceMethod ({ cls := "IntervalTape$Big", name := "timesPlus", desc := "(II)V" } : Jvm.MethodName)) ∈ xws := xw_t3 48 (by decide +kernel) rfl
theorem kw529 : (Jvm.Cond.selects "IntervalTape$Big" ({ cls := "IntervalTape$Big", name := "timesPlus", desc := "(II)V" } : Jvm.MethodName) ({ cls := "IntervalTape$Big", name := "timesPlus", desc := "(II)V" } : Jvm.MethodName)) ∈ xws := xw_t3 49 (by decide +kernel) rfl
theorem kw530 : (Jvm.Cond.code ({ cls := "IntervalTape$Big", name := "timesPlus", desc := "(II)V" } : Jvm.MethodName) prog_2_method_11_code (6 : Nat) (Option.none : Option Jvm.ClassFile.FieldType)) ∈ xws := xw_t3 50 rfl rfl
theorem kw531 : (Jvm.Cond.constantLong "IntervalTape$Big" (23 : Nat) (4294967295 : Int64)) ∈ xws := xw_t3 51 (by decide +kernel) rfl
theorem kw532 : (Jvm.Cond.methodLink "IntervalTape$Big" (41 : Nat) ({ cls := "IntervalTape$Big", name := "push", desc := "(J)V" } : Jvm.MethodName)) ∈ xws := xw_t3 52 (by decide +kernel) rfl
theorem kw534 : (Jvm.Cond.instanceMethod ({ cls := "IntervalTape$Big", name := "push", desc := "(J)V" } : Jvm.MethodName)) ∈ xws := xw_t3 54 (by decide +kernel) rfl
theorem kw535 : (Jvm.Cond.code ({ cls := "IntervalTape$Big", name := "push", desc := "(J)V" } : Jvm.MethodName) prog_2_method_16_code (3 : Nat) (Option.none : Option Jvm.ClassFile.FieldType)) ∈ xws := xw_t3 55 rfl rfl
theorem kw536 : (Jvm.Cond.methodLink "IntervalTape$Reader" (142 : Nat) ({ cls := "java/lang/Math", name := "max", desc := "(II)I" } : Jvm.MethodName)) ∈ xws := xw_t3 56 (by decide +kernel) rfl
theorem kw537 : (Jvm.Cond.static ({ cls := "java/lang/Math", name := "max", desc := "(II)I" } : Jvm.MethodName)) ∈ xws := xw_t3 57 (by decide +kernel) rfl
theorem kw538 : (Jvm.Cond.code ({ cls := "java/lang/Math", name := "max", desc := "(II)I" } : Jvm.MethodName) prog_22_method_65_code (2 : Nat) (Option.some Jvm.ClassFile.FieldType.int)) ∈ xws := xw_t3 58 rfl rfl
theorem kw539 : (Jvm.Cond.methodLink "IntervalTape$Reader" (153 : Nat) ({ cls := "IntervalTape$Real", name := "becomeWhole", desc := "(II)V" } : Jvm.MethodName)) ∈ xws := xw_t3 59 (by decide +kernel) rfl
theorem kw540 : (Jvm.Cond.instanceMethod ({ cls := "IntervalTape$Real", name := "becomeWhole", desc := "(II)V" } : Jvm.MethodName)) ∈ xws := xw_t3 60 (by decide +kernel) rfl
theorem kw541 : (Jvm.Cond.selects "IntervalTape$Real" ({ cls := "IntervalTape$Real", name := "becomeWhole", desc := "(II)V" } : Jvm.MethodName) ({ cls := "IntervalTape$Real", name := "becomeWhole", desc := "(II)V" } : Jvm.MethodName)) ∈ xws := xw_t3 61 (by decide +kernel) rfl
theorem kw542 : (Jvm.Cond.code ({ cls := "IntervalTape$Real", name := "becomeWhole", desc := "(II)V" } : Jvm.MethodName) prog_10_method_2_code (3 : Nat) (Option.none : Option Jvm.ClassFile.FieldType)) ∈ xws := xw_t3 62 rfl rfl
theorem kw543 : (Jvm.Cond.methodLink "IntervalTape$Reader" (157 : Nat) ({ cls := "IntervalTape$Reader", name := "takeExponent", desc := "(I)I" } : Jvm.MethodName)) ∈ xws := xw_t3 63 (by decide +kernel) rfl
theorem kw545 : (Jvm.Cond.instanceMethod ({ cls := "IntervalTape$Reader", name := "takeExponent", desc := "(I)I" } : Jvm.MethodName)) ∈ xws := xw_t3 65 (by decide +kernel) rfl
theorem kw546 : (Jvm.Cond.code ({ cls := "IntervalTape$Reader", name := "takeExponent", desc := "(I)I" } : Jvm.MethodName) prog_9_method_15_code (6 : Nat) (Option.some Jvm.ClassFile.FieldType.int)) ∈ xws := xw_t3 66 rfl rfl
theorem kw547 : (Jvm.Cond.methodLink "IntervalTape$Reader" (167 : Nat) ({ cls := "IntervalTape$Real", name := "timesTen", desc := "(I)V" } : Jvm.MethodName)) ∈ xws := xw_t3 67 (by decide +kernel) rfl
theorem kw548 : (Jvm.Cond.instanceMethod ({ cls := "IntervalTape$Real", name := "timesTen", desc := "(I)V" } : Jvm.MethodName)) ∈ xws := xw_t3 68 (by decide +kernel) rfl
theorem kw549 : (Jvm.Cond.selects "IntervalTape$Real" ({ cls := "IntervalTape$Real", name := "timesTen", desc := "(I)V" } : Jvm.MethodName) ({ cls := "IntervalTape$Real", name := "timesTen", desc := "(I)V" } : Jvm.MethodName)) ∈ xws := xw_t3 69 (by decide +kernel) rfl
theorem kw550 : (Jvm.Cond.code ({ cls := "IntervalTape$Real", name := "timesTen", desc := "(I)V" } : Jvm.MethodName) prog_10_method_10_code (4 : Nat) (Option.none : Option Jvm.ClassFile.FieldType)) ∈ xws := xw_t3 70 rfl rfl
theorem kw551 : (Jvm.Cond.methodLink "IntervalTape$Real" (101 : Nat) ({ cls := "java/lang/Math", name := "abs", desc := "(I)I" } : Jvm.MethodName)) ∈ xws := xw_t3 71 (by decide +kernel) rfl
theorem kw552 : (Jvm.Cond.static ({ cls := "java/lang/Math", name := "abs", desc := "(I)I" } : Jvm.MethodName)) ∈ xws := xw_t3 72 (by decide +kernel) rfl
theorem kw553 : (Jvm.Cond.code ({ cls := "java/lang/Math", name := "abs", desc := "(I)I" } : Jvm.MethodName) prog_22_method_59_code (1 : Nat) (Option.some Jvm.ClassFile.FieldType.int)) ∈ xws := xw_t3 73 rfl rfl
theorem kw554 : (Jvm.Cond.constant "IntervalTape$Real" (104 : Nat) (1220703125 : Int32)) ∈ xws := xw_t3 74 (by decide +kernel) rfl
theorem kw555 : (Jvm.Cond.methodLink "IntervalTape$Real" (105 : Nat) ({ cls := "IntervalTape$Big", name := "timesPlus", desc := "(II)V" } : Jvm.MethodName)) ∈ xws := xw_t3 75 (by decide +kernel) rfl
theorem kw558 : (Jvm.Cond.methodLink "IntervalTape$Reader" (121 : Nat) ({ cls := "IntervalTape$Real", name := "become", desc := "(LIntervalTape$Real;)V" } : Jvm.MethodName)) ∈ xws := xw_t3 78 (by decide +kernel) rfl
theorem kw559 : (Jvm.Cond.instanceMethod ({ cls := "IntervalTape$Real", name := "become", desc := "(LIntervalTape$Real;)V" } : Jvm.MethodName)) ∈ xws := xw_t3 79 (by decide +kernel) rfl
theorem kw560 : (Jvm.Cond.selects "IntervalTape$Real" ({ cls := "IntervalTape$Real", name := "become", desc := "(LIntervalTape$Real;)V" } : Jvm.MethodName) ({ cls := "IntervalTape$Real", name := "become", desc := "(LIntervalTape$Real;)V" } : Jvm.MethodName)) ∈ xws := xw_t3 80 (by decide +kernel) rfl
theorem kw561 : (Jvm.Cond.code ({ cls := "IntervalTape$Real", name := "become", desc := "(LIntervalTape$Real;)V" } : Jvm.MethodName) prog_10_method_5_code (2 : Nat) (Option.none : Option Jvm.ClassFile.FieldType)) ∈ xws := xw_t3 81 rfl rfl
theorem kw562 : (Jvm.Cond.methodLink "IntervalTape$Real" (65 : Nat) ({ cls := "IntervalTape$Big", name := "copy", desc := "(LIntervalTape$Big;)V" } : Jvm.MethodName)) ∈ xws := xw_t3 82 (by decide +kernel) rfl
theorem kw563 : (Jvm.Cond.instanceMethod ({ cls := "IntervalTape$Big", name := "copy", desc := "(LIntervalTape$Big;)V" } : Jvm.MethodName)) ∈ xws := xw_t3 83 (by decide +kernel) rfl
theorem kw564 : (Jvm.Cond.selects "IntervalTape$Big" ({ cls := "IntervalTape$Big", name := "copy", desc := "(LIntervalTape$Big;)V" } : Jvm.MethodName) ({ cls := "IntervalTape$Big", name := "copy", desc := "(LIntervalTape$Big;)V" } : Jvm.MethodName)) ∈ xws := xw_t3 84 (by decide +kernel) rfl
theorem kw565 : (Jvm.Cond.code ({ cls := "IntervalTape$Big", name := "copy", desc := "(LIntervalTape$Big;)V" } : Jvm.MethodName) prog_2_method_3_code (3 : Nat) (Option.none : Option Jvm.ClassFile.FieldType)) ∈ xws := xw_t3 85 rfl rfl
theorem kw566 : (Jvm.Cond.methodLink "IntervalTape$Reader" (55 : Nat) ({ cls := "IntervalTape$Reader", name := "readUncertain", desc := "()V" } : Jvm.MethodName)) ∈ xws := xw_t3 86 (by decide +kernel) rfl
theorem kw568 : (Jvm.Cond.instanceMethod ({ cls := "IntervalTape$Reader", name := "readUncertain", desc := "()V" } : Jvm.MethodName)) ∈ xws := xw_t3 88 (by decide +kernel) rfl
theorem kw569 : (Jvm.Cond.code ({ cls := "IntervalTape$Reader", name := "readUncertain", desc := "()V" } : Jvm.MethodName) prog_9_method_16_code (8 : Nat) (Option.none : Option Jvm.ClassFile.FieldType)) ∈ xws := xw_t3 89 rfl rfl
theorem kw570 : (Jvm.Cond.methodLink "IntervalTape$Reader" (185 : Nat) ({ cls := "IntervalTape$Reader", name := "readRadius", desc := "(LIntervalTape$Real;)V" } : Jvm.MethodName)) ∈ xws := xw_t3 90 (by decide +kernel) rfl
theorem kw572 : (Jvm.Cond.instanceMethod ({ cls := "IntervalTape$Reader", name := "readRadius", desc := "(LIntervalTape$Real;)V" } : Jvm.MethodName)) ∈ xws := xw_t3 92 (by decide +kernel) rfl
theorem kw573 : (Jvm.Cond.code ({ cls := "IntervalTape$Reader", name := "readRadius", desc := "(LIntervalTape$Real;)V" } : Jvm.MethodName) prog_9_method_17_code (3 : Nat) (Option.none : Option Jvm.ClassFile.FieldType)) ∈ xws := xw_t3 93 rfl rfl
theorem kw574 : (Jvm.Cond.methodLink "IntervalTape$Reader" (188 : Nat) ({ cls := "IntervalTape$Real", name := "becomeSum", desc := "(LIntervalTape$Real;LIntervalTape$Real;)V" } : Jvm.MethodName)) ∈ xws := xw_t3 94 (by decide +kernel) rfl
theorem kw575 : (Jvm.Cond.instanceMethod ({ cls := "IntervalTape$Real", name := "becomeSum", desc := "(LIntervalTape$Real;LIntervalTape$Real;)V" } : Jvm.MethodName)) ∈ xws := xw_t3 95 (by decide +kernel) rfl
theorem kw576 : (Jvm.Cond.selects "IntervalTape$Real" ({ cls := "IntervalTape$Real", name := "becomeSum", desc := "(LIntervalTape$Real;LIntervalTape$Real;)V" } : Jvm.MethodName) ({ cls := "IntervalTape$Real", name := "becomeSum", desc := "(LIntervalTape$Real;LIntervalTape$Real;)V" } : Jvm.MethodName)) ∈ xws := xw_t3 96 (by decide +kernel) rfl
theorem kw577 : (Jvm.Cond.code ({ cls := "IntervalTape$Real", name := "becomeSum", desc := "(LIntervalTape$Real;LIntervalTape$Real;)V" } : Jvm.MethodName) prog_10_method_8_code (6 : Nat) (Option.none : Option Jvm.ClassFile.FieldType)) ∈ xws := xw_t3 97 rfl rfl
theorem kw578 : (Jvm.Cond.methodLink "IntervalTape$Real" (77 : Nat) ({ cls := "IntervalTape$Real", name := "become", desc := "(LIntervalTape$Real;)V" } : Jvm.MethodName)) ∈ xws := xw_t3 98 (by decide +kernel) rfl
theorem kw579 : (Jvm.Cond.methodLink "IntervalTape$Real" (80 : Nat) ({ cls := "java/lang/Math", name := "min", desc := "(II)I" } : Jvm.MethodName)) ∈ xws := xw_t3 99 (by decide +kernel) rfl
theorem kw580 : (Jvm.Cond.methodLink "IntervalTape$Real" (84 : Nat) ({ cls := "IntervalTape$Big", name := "shiftLeft", desc := "(I)V" } : Jvm.MethodName)) ∈ xws := xw_t3 100 (by decide +kernel) rfl
theorem kw581 : (Jvm.Cond.instanceMethod ({ cls := "IntervalTape$Big", name := "shiftLeft", desc := "(I)V" } : Jvm.MethodName)) ∈ xws := xw_t3 101 (by decide +kernel) rfl
theorem kw582 : (Jvm.Cond.selects "IntervalTape$Big" ({ cls := "IntervalTape$Big", name := "shiftLeft", desc := "(I)V" } : Jvm.MethodName) ({ cls := "IntervalTape$Big", name := "shiftLeft", desc := "(I)V" } : Jvm.MethodName)) ∈ xws := xw_t3 102 (by decide +kernel) rfl
theorem kw583 : (Jvm.Cond.code ({ cls := "IntervalTape$Big", name := "shiftLeft", desc := "(I)V" } : Jvm.MethodName) prog_2_method_12_code (5 : Nat) (Option.none : Option Jvm.ClassFile.FieldType)) ∈ xws := xw_t3 103 rfl rfl
theorem kw584 : (Jvm.Cond.methodLink "IntervalTape$Big" (31 : Nat) ({ cls := "IntervalTape$Big", name := "digit", desc := "(I)J" } : Jvm.MethodName)) ∈ xws := xw_t3 104 (by decide +kernel) rfl
theorem kw585 : (Jvm.Cond.instanceMethod ({ cls := "IntervalTape$Big", name := "digit", desc := "(I)J" } : Jvm.MethodName)) ∈ xws := xw_t3 105 (by decide +kernel) rfl
theorem kw586 : (Jvm.Cond.selects "IntervalTape$Big" ({ cls := "IntervalTape$Big", name := "digit", desc := "(I)J" } : Jvm.MethodName) ({ cls := "IntervalTape$Big", name := "digit", desc := "(I)J" } : Jvm.MethodName)) ∈ xws := xw_t3 106 (by decide +kernel) rfl
theorem kw587 : (Jvm.Cond.code ({ cls := "IntervalTape$Big", name := "digit", desc := "(I)J" } : Jvm.MethodName) prog_2_method_6_code (2 : Nat) (Option.some Jvm.ClassFile.FieldType.long)) ∈ xws := xw_t3 107 rfl rfl
theorem kw588 : (Jvm.Cond.methodLink "IntervalTape$Big" (45 : Nat) ({ cls := "IntervalTape$Big", name := "trim", desc := "()V" } : Jvm.MethodName)) ∈ xws := xw_t3 108 (by decide +kernel) rfl
theorem kw590 : (Jvm.Cond.instanceMethod ({ cls := "IntervalTape$Big", name := "trim", desc := "()V" } : Jvm.MethodName)) ∈ xws := xw_t3 110 (by decide +kernel) rfl
theorem kw591 : (Jvm.Cond.code ({ cls := "IntervalTape$Big", name := "trim", desc := "()V" } : Jvm.MethodName) prog_2_method_17_code (1 : Nat) (Option.none : Option Jvm.ClassFile.FieldType)) ∈ xws := xw_t3 111 rfl rfl
theorem kw592 : (Jvm.Cond.methodLink "IntervalTape$Real" (88 : Nat) ({ cls := "IntervalTape$Big", name := "order", desc := "(LIntervalTape$Big;LIntervalTape$Big;)I" } : Jvm.MethodName)) ∈ xws := xw_t3 112 (by decide +kernel) rfl
theorem kw593 : (Jvm.Cond.static ({ cls := "IntervalTape$Big", name := "order", desc := "(LIntervalTape$Big;LIntervalTape$Big;)I" } : Jvm.MethodName)) ∈ xws := xw_t3 113 (by decide +kernel) rfl
theorem kw594 : (Jvm.Cond.code ({ cls := "IntervalTape$Big", name := "order", desc := "(LIntervalTape$Big;LIntervalTape$Big;)I" } : Jvm.MethodName) prog_2_method_7_code (4 : Nat) (Option.some Jvm.ClassFile.FieldType.int)) ∈ xws := xw_t3 114 rfl rfl
theorem kw595 : (Jvm.Cond.methodLink "IntervalTape$Big" (25 : Nat) ({ cls := "java/lang/Math", name := "max", desc := "(II)I" } : Jvm.MethodName)) ∈ xws := xw_t3 115 (by decide +kernel) rfl
theorem kw596 : (Jvm.Cond.methodLink "IntervalTape$Big" (35 : Nat) ({ cls := "java/lang/Long", name := "compare", desc := "(JJ)I" } : Jvm.MethodName)) ∈ xws := xw_t3 116 (by decide +kernel) rfl
theorem kw597 : (Jvm.Cond.static ({ cls := "java/lang/Long", name := "compare", desc := "(JJ)I" } : Jvm.MethodName)) ∈ xws := xw_t3 117 (by decide +kernel) rfl
theorem kw598 : (Jvm.Cond.code ({ cls := "java/lang/Long", name := "compare", desc := "(JJ)I" } : Jvm.MethodName) prog_21_method_42_code (4 : Nat) (Option.some Jvm.ClassFile.FieldType.int)) ∈ xws := xw_t3 118 rfl rfl
theorem kw599 : (Jvm.Cond.methodLink "IntervalTape$Real" (92 : Nat) ({ cls := "IntervalTape$Big", name := "becomeSum", desc := "(LIntervalTape$Big;LIntervalTape$Big;)V" } : Jvm.MethodName)) ∈ xws := xw_t3 119 (by decide +kernel) rfl
theorem kw600 : (Jvm.Cond.instanceMethod ({ cls := "IntervalTape$Big", name := "becomeSum", desc := "(LIntervalTape$Big;LIntervalTape$Big;)V" } : Jvm.MethodName)) ∈ xws := xw_t3 120 (by decide +kernel) rfl
theorem kw601 : (Jvm.Cond.selects "IntervalTape$Big" ({ cls := "IntervalTape$Big", name := "becomeSum", desc := "(LIntervalTape$Big;LIntervalTape$Big;)V" } : Jvm.MethodName) ({ cls := "IntervalTape$Big", name := "becomeSum", desc := "(LIntervalTape$Big;LIntervalTape$Big;)V" } : Jvm.MethodName)) ∈ xws := xw_t3 121 (by decide +kernel) rfl
theorem kw602 : (Jvm.Cond.code ({ cls := "IntervalTape$Big", name := "becomeSum", desc := "(LIntervalTape$Big;LIntervalTape$Big;)V" } : Jvm.MethodName) prog_2_method_8_code (7 : Nat) (Option.none : Option Jvm.ClassFile.FieldType)) ∈ xws := xw_t3 122 rfl rfl
theorem kw603 : (Jvm.Cond.methodLink "IntervalTape$Real" (95 : Nat) ({ cls := "IntervalTape$Big", name := "becomeDifference", desc := "(LIntervalTape$Big;LIntervalTape$Big;)V" } : Jvm.MethodName)) ∈ xws := xw_t3 123 (by decide +kernel) rfl
theorem kw604 : (Jvm.Cond.instanceMethod ({ cls := "IntervalTape$Big", name := "becomeDifference", desc := "(LIntervalTape$Big;LIntervalTape$Big;)V" } : Jvm.MethodName)) ∈ xws := xw_t3 124 (by decide +kernel) rfl
theorem kw605 : (Jvm.Cond.selects "IntervalTape$Big" ({ cls := "IntervalTape$Big", name := "becomeDifference", desc := "(LIntervalTape$Big;LIntervalTape$Big;)V" } : Jvm.MethodName) ({ cls := "IntervalTape$Big", name := "becomeDifference", desc := "(LIntervalTape$Big;LIntervalTape$Big;)V" } : Jvm.MethodName)) ∈ xws := xw_t3 125 (by decide +kernel) rfl
theorem kw606 : (Jvm.Cond.code ({ cls := "IntervalTape$Big", name := "becomeDifference", desc := "(LIntervalTape$Big;LIntervalTape$Big;)V" } : Jvm.MethodName) prog_2_method_9_code (7 : Nat) (Option.none : Option Jvm.ClassFile.FieldType)) ∈ xws := xw_t3 126 rfl rfl
theorem kw607 : (Jvm.Cond.methodLink "IntervalTape$Real" (69 : Nat) ({ cls := "IntervalTape$Real", name := "becomeWhole", desc := "(II)V" } : Jvm.MethodName)) ∈ xws := xw_t3 127 (by decide +kernel) rfl
theorem kw608 : (Jvm.Cond.methodLink "IntervalTape$Reader" (58 : Nat) ({ cls := "IntervalTape$Reader", name := "readMark", desc := "()V" } : Jvm.MethodName)) ∈ xws := xw_t3 128 (by decide +kernel) rfl
theorem kw610 : (Jvm.Cond.instanceMethod ({ cls := "IntervalTape$Reader", name := "readMark", desc := "()V" } : Jvm.MethodName)) ∈ xws := xw_t3 130 (by decide +kernel) rfl
theorem kw611 : (Jvm.Cond.code ({ cls := "IntervalTape$Reader", name := "readMark", desc := "()V" } : Jvm.MethodName) prog_9_method_8_code (2 : Nat) (Option.none : Option Jvm.ClassFile.FieldType)) ∈ xws := xw_t3 131 rfl rfl
theorem kw613 : (Jvm.Cond.methodLink "IntervalTape$Reader" (68 : Nat) ({ cls := "IntervalTape$Exact", name := "order", desc := "(LIntervalTape$Real;LIntervalTape$Real;)I" } : Jvm.MethodName)) ∈ xws := xw_t3 133 (by decide +kernel) rfl
theorem kw614 : (Jvm.Cond.instanceMethod ({ cls := "IntervalTape$Exact", name := "order", desc := "(LIntervalTape$Real;LIntervalTape$Real;)I" } : Jvm.MethodName)) ∈ xws := xw_t3 134 (by decide +kernel) rfl
theorem kw615 : (Jvm.Cond.selects "IntervalTape$Exact" ({ cls := "IntervalTape$Exact", name := "order", desc := "(LIntervalTape$Real;LIntervalTape$Real;)I" } : Jvm.MethodName) ({ cls := "IntervalTape$Exact", name := "order", desc := "(LIntervalTape$Real;LIntervalTape$Real;)I" } : Jvm.MethodName)) ∈ xws := xw_t3 135 (by decide +kernel) rfl
theorem kw616 : (Jvm.Cond.code ({ cls := "IntervalTape$Exact", name := "order", desc := "(LIntervalTape$Real;LIntervalTape$Real;)I" } : Jvm.MethodName) prog_5_method_2_code (5 : Nat) (Option.some Jvm.ClassFile.FieldType.int)) ∈ xws := xw_t3 136 rfl rfl
theorem kw617 : (Jvm.Cond.methodLink "IntervalTape$Exact" (32 : Nat) ({ cls := "java/lang/Integer", name := "compare", desc := "(II)I" } : Jvm.MethodName)) ∈ xws := xw_t3 137 (by decide +kernel) rfl
theorem kw618 : (Jvm.Cond.static ({ cls := "java/lang/Integer", name := "compare", desc := "(II)I" } : Jvm.MethodName)) ∈ xws := xw_t3 138 (by decide +kernel) rfl
theorem kw619 : (Jvm.Cond.code ({ cls := "java/lang/Integer", name := "compare", desc := "(II)I" } : Jvm.MethodName) prog_19_method_40_code (2 : Nat) (Option.some Jvm.ClassFile.FieldType.int)) ∈ xws := xw_t3 139 rfl rfl
theorem kw620 : (Jvm.Cond.methodLink "IntervalTape$Exact" (48 : Nat) ({ cls := "IntervalTape$Big", name := "bits", desc := "()I" } : Jvm.MethodName)) ∈ xws := xw_t3 140 (by decide +kernel) rfl
theorem kw621 : (Jvm.Cond.instanceMethod ({ cls := "IntervalTape$Big", name := "bits", desc := "()I" } : Jvm.MethodName)) ∈ xws := xw_t3 141 (by decide +kernel) rfl
theorem kw622 : (Jvm.Cond.selects "IntervalTape$Big" ({ cls := "IntervalTape$Big", name := "bits", desc := "()I" } : Jvm.MethodName) ({ cls := "IntervalTape$Big", name := "bits", desc := "()I" } : Jvm.MethodName)) ∈ xws := xw_t3 142 (by decide +kernel) rfl
theorem kw623 : (Jvm.Cond.code ({ cls := "IntervalTape$Big", name := "bits", desc := "()I" } : Jvm.MethodName) prog_2_method_5_code (1 : Nat) (Option.some Jvm.ClassFile.FieldType.int)) ∈ xws := xw_t3 143 rfl rfl
theorem kw624 : (Jvm.Cond.methodLink "IntervalTape$Big" (17 : Nat) ({ cls := "java/lang/Integer", name := "numberOfLeadingZeros", desc := "(I)I" } : Jvm.MethodName)) ∈ xws := xw_t3 144 (by decide +kernel) rfl
theorem kw625 : (Jvm.Cond.static ({ cls := "java/lang/Integer", name := "numberOfLeadingZeros", desc := "(I)I" } : Jvm.MethodName)) ∈ xws := xw_t3 145 (by decide +kernel) rfl
theorem kw626 : (Jvm.Cond.code ({ cls := "java/lang/Integer", name := "numberOfLeadingZeros", desc := "(I)I" } : Jvm.MethodName) prog_19_method_47_code (2 : Nat) (Option.some Jvm.ClassFile.FieldType.int)) ∈ xws := xw_t3 146 rfl rfl
theorem kw627 : (Jvm.Cond.constant "java/lang/Integer" (264 : Nat) (65536 : Int32)) ∈ xws := xw_t3 147 (by decide +kernel) rfl
theorem kw628 : (Jvm.Cond.methodLink "IntervalTape$Exact" (55 : Nat) ({ cls := "IntervalTape$Big", name := "becomeProduct", desc := "(LIntervalTape$Big;LIntervalTape$Big;)V" } : Jvm.MethodName)) ∈ xws := xw_t3 148 (by decide +kernel) rfl
theorem kw629 : (Jvm.Cond.instanceMethod ({ cls := "IntervalTape$Big", name := "becomeProduct", desc := "(LIntervalTape$Big;LIntervalTape$Big;)V" } : Jvm.MethodName)) ∈ xws := xw_t3 149 (by decide +kernel) rfl
theorem kw630 : (Jvm.Cond.selects "IntervalTape$Big" ({ cls := "IntervalTape$Big", name := "becomeProduct", desc := "(LIntervalTape$Big;LIntervalTape$Big;)V" } : Jvm.MethodName) ({ cls := "IntervalTape$Big", name := "becomeProduct", desc := "(LIntervalTape$Big;LIntervalTape$Big;)V" } : Jvm.MethodName)) ∈ xws := xw_t3 150 (by decide +kernel) rfl
theorem kw631 : (Jvm.Cond.code ({ cls := "IntervalTape$Big", name := "becomeProduct", desc := "(LIntervalTape$Big;LIntervalTape$Big;)V" } : Jvm.MethodName) prog_2_method_10_code (11 : Nat) (Option.none : Option Jvm.ClassFile.FieldType)) ∈ xws := xw_t3 151 rfl rfl
theorem kw632 : (Jvm.Cond.methodLink "IntervalTape$Big" (48 : Nat) ({ cls := "java/lang/Math", name := "min", desc := "(II)I" } : Jvm.MethodName)) ∈ xws := xw_t3 152 (by decide +kernel) rfl
theorem kw633 : (Jvm.Cond.methodLink "IntervalTape$Exact" (59 : Nat) ({ cls := "IntervalTape$Big", name := "shiftLeft", desc := "(I)V" } : Jvm.MethodName)) ∈ xws := xw_t3 153 (by decide +kernel) rfl
theorem kw634 : (Jvm.Cond.methodLink "IntervalTape$Exact" (63 : Nat) ({ cls := "IntervalTape$Big", name := "order", desc := "(LIntervalTape$Big;LIntervalTape$Big;)I" } : Jvm.MethodName)) ∈ xws := xw_t3 154 (by decide +kernel) rfl
theorem kw635 : (Jvm.Cond.methodLink "IntervalTape" (223 : Nat) ({ cls := "IntervalTape", name := "round", desc := "(LIntervalTape$Cell;)V" } : Jvm.MethodName)) ∈ xws := xw_t3 155 (by decide +kernel) rfl
theorem kw637 : (Jvm.Cond.instanceMethod ({ cls := "IntervalTape", name := "round", desc := "(LIntervalTape$Cell;)V" } : Jvm.MethodName)) ∈ xws := xw_t3 157 (by decide +kernel) rfl
theorem kw638 : (Jvm.Cond.code ({ cls := "IntervalTape", name := "round", desc := "(LIntervalTape$Cell;)V" } : Jvm.MethodName) prog_1_method_29_code (2 : Nat) (Option.none : Option Jvm.ClassFile.FieldType)) ∈ xws := xw_t3 158 rfl rfl
theorem kw639 : (Jvm.Cond.constantLong "IntervalTape" (115 : Nat) (9218868437227405312 : Int64)) ∈ xws := xw_t3 159 (by decide +kernel) rfl
theorem kw640 : (Jvm.Cond.constantLong "IntervalTape" (117 : Nat) (-9218868437227405312 : Int64)) ∈ xws := xw_t3 160 (by decide +kernel) rfl
theorem kw641 : (Jvm.Cond.methodLink "IntervalTape" (119 : Nat) ({ cls := "IntervalTape$Cell", name := "become", desc := "(JJ)V" } : Jvm.MethodName)) ∈ xws := xw_t3 161 (by decide +kernel) rfl
theorem kw642 : (Jvm.Cond.instanceMethod ({ cls := "IntervalTape$Cell", name := "become", desc := "(JJ)V" } : Jvm.MethodName)) ∈ xws := xw_t3 162 (by decide +kernel) rfl
theorem kw643 : (Jvm.Cond.selects "IntervalTape$Cell" ({ cls := "IntervalTape$Cell", name := "become", desc := "(JJ)V" } : Jvm.MethodName) ({ cls := "IntervalTape$Cell", name := "become", desc := "(JJ)V" } : Jvm.MethodName)) ∈ xws := xw_t3 163 (by decide +kernel) rfl
theorem kw644 : (Jvm.Cond.code ({ cls := "IntervalTape$Cell", name := "become", desc := "(JJ)V" } : Jvm.MethodName) prog_3_method_2_code (5 : Nat) (Option.none : Option Jvm.ClassFile.FieldType)) ∈ xws := xw_t3 164 rfl rfl
theorem kw645 : (Jvm.Cond.methodLink "IntervalTape" (254 : Nat) ({ cls := "IntervalTape$Exact", name := "down", desc := "(LIntervalTape$Real;)J" } : Jvm.MethodName)) ∈ xws := xw_t3 165 (by decide +kernel) rfl
theorem kw646 : (Jvm.Cond.instanceMethod ({ cls := "IntervalTape$Exact", name := "down", desc := "(LIntervalTape$Real;)J" } : Jvm.MethodName)) ∈ xws := xw_t3 166 (by decide +kernel) rfl
