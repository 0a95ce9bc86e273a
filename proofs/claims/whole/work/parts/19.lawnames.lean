set_option maxRecDepth 20000 in
theorem k_0 : (Jvm.Cond.initialized "PictureChangeLaw") ∈ gt := List.mem_filter.mpr ⟨List.mem_append_right _ (List.mem_append_left _ (List.mem_of_getElem? (i := 0) (by decide +kernel))), rfl⟩
set_option maxRecDepth 20000 in
theorem k_16 : (Jvm.Cond.classLink "PictureChangeLaw" (8 : Nat) "PictureChange") ∈ gt := List.mem_filter.mpr ⟨List.mem_append_right _ (List.mem_append_left _ (List.mem_of_getElem? (i := 16) (by decide +kernel))), rfl⟩
set_option maxRecDepth 20000 in
theorem k_17 : (Jvm.Cond.instantiable "PictureChange" (12 : Nat)) ∈ gt := List.mem_filter.mpr ⟨List.mem_append_right _ (List.mem_append_left _ (List.mem_of_getElem? (i := 17) (by decide +kernel))), rfl⟩
set_option maxRecDepth 20000 in
theorem k_18 : (Jvm.Cond.methodLink "PictureChangeLaw" (71 : Nat) ({ cls := "PictureChange", name := "<init>", desc := "(II)V" } : Jvm.MethodName)) ∈ gt := List.mem_filter.mpr ⟨List.mem_append_right _ (List.mem_append_left _ (List.mem_of_getElem? (i := 18) (by decide +kernel))), rfl⟩
set_option maxRecDepth 20000 in
theorem k_19 : (Jvm.Cond.instanceMethod ({ cls := "PictureChange", name := "<init>", desc := "(II)V" } : Jvm.MethodName)) ∈ gt := List.mem_filter.mpr ⟨List.mem_append_right _ (List.mem_append_left _ (List.mem_of_getElem? (i := 19) (by decide +kernel))), rfl⟩
set_option maxRecDepth 20000 in
theorem k_20 : (Jvm.Cond.code ({ cls := "PictureChange", name := "<init>", desc := "(II)V" } : Jvm.MethodName) prog_1_method_1_code (4 : Nat) (Option.none : Option Jvm.ClassFile.FieldType)) ∈ gt := List.mem_filter.mpr ⟨List.mem_append_right _ (List.mem_append_left _ (List.mem_of_getElem? (i := 20) rfl)), rfl⟩
set_option maxRecDepth 20000 in
theorem k_208 : (Jvm.Cond.methodLink "PictureChangeLaw" (113 : Nat) ({ cls := "PictureChange", name := "run", desc := "()I" } : Jvm.MethodName)) ∈ gt := List.mem_filter.mpr ⟨List.mem_append_right _ (List.mem_append_left _ (List.mem_of_getElem? (i := 208) (by decide +kernel))), rfl⟩
set_option maxRecDepth 20000 in
theorem k_209 : (Jvm.Cond.instanceMethod ({ cls := "PictureChange", name := "run", desc := "()I" } : Jvm.MethodName)) ∈ gt := List.mem_filter.mpr ⟨List.mem_append_right _ (List.mem_append_left _ (List.mem_of_getElem? (i := 209) (by decide +kernel))), rfl⟩
set_option maxRecDepth 20000 in
theorem k_210 : (Jvm.Cond.selects "PictureChange" ({ cls := "PictureChange", name := "run", desc := "()I" } : Jvm.MethodName) ({ cls := "PictureChange", name := "run", desc := "()I" } : Jvm.MethodName)) ∈ gt := List.mem_filter.mpr ⟨List.mem_append_right _ (List.mem_append_left _ (List.mem_of_getElem? (i := 210) (by decide +kernel))), rfl⟩
set_option maxRecDepth 20000 in
theorem k_211 : (Jvm.Cond.code ({ cls := "PictureChange", name := "run", desc := "()I" } : Jvm.MethodName) prog_1_method_11_code (4 : Nat) (Option.some Jvm.ClassFile.FieldType.int)) ∈ gt := List.mem_filter.mpr ⟨List.mem_append_right _ (List.mem_append_left _ (List.mem_of_getElem? (i := 211) rfl)), rfl⟩
set_option maxRecDepth 20000 in
theorem k_298 : (Jvm.Cond.methodLink "PictureChangeLaw" (126 : Nat) ({ cls := "PictureChange", name := "falseOnes", desc := "()I" } : Jvm.MethodName)) ∈ gt := List.mem_filter.mpr ⟨List.mem_append_right _ (List.mem_append_right _ (List.mem_append_left _ (List.mem_of_getElem? (i := 58) (by decide +kernel)))), rfl⟩
set_option maxRecDepth 20000 in
theorem k_299 : (Jvm.Cond.instanceMethod ({ cls := "PictureChange", name := "falseOnes", desc := "()I" } : Jvm.MethodName)) ∈ gt := List.mem_filter.mpr ⟨List.mem_append_right _ (List.mem_append_right _ (List.mem_append_left _ (List.mem_of_getElem? (i := 59) (by decide +kernel)))), rfl⟩
set_option maxRecDepth 20000 in
theorem k_300 : (Jvm.Cond.selects "PictureChange" ({ cls := "PictureChange", name := "falseOnes", desc := "()I" } : Jvm.MethodName) ({ cls := "PictureChange", name := "falseOnes", desc := "()I" } : Jvm.MethodName)) ∈ gt := List.mem_filter.mpr ⟨List.mem_append_right _ (List.mem_append_right _ (List.mem_append_left _ (List.mem_of_getElem? (i := 60) (by decide +kernel)))), rfl⟩
set_option maxRecDepth 20000 in
theorem k_301 : (Jvm.Cond.code ({ cls := "PictureChange", name := "falseOnes", desc := "()I" } : Jvm.MethodName) prog_1_method_15_code (1 : Nat) (Option.some Jvm.ClassFile.FieldType.int)) ∈ gt := List.mem_filter.mpr ⟨List.mem_append_right _ (List.mem_append_right _ (List.mem_append_left _ (List.mem_of_getElem? (i := 61) rfl))), rfl⟩
set_option maxRecDepth 20000 in
theorem k_302 : (Jvm.Cond.methodLink "PictureChangeLaw" (66 : Nat) ({ cls := "PictureChangeLaw", name := "cell", desc := "([II)I" } : Jvm.MethodName)) ∈ gt := List.mem_filter.mpr ⟨List.mem_append_right _ (List.mem_append_right _ (List.mem_append_left _ (List.mem_of_getElem? (i := 62) (by decide +kernel)))), rfl⟩
set_option maxRecDepth 20000 in
theorem k_303 : (Jvm.Cond.static ({ cls := "PictureChangeLaw", name := "cell", desc := "([II)I" } : Jvm.MethodName)) ∈ gt := List.mem_filter.mpr ⟨List.mem_append_right _ (List.mem_append_right _ (List.mem_append_left _ (List.mem_of_getElem? (i := 63) (by decide +kernel)))), rfl⟩
set_option maxRecDepth 20000 in
theorem k_304 : (Jvm.Cond.code ({ cls := "PictureChangeLaw", name := "cell", desc := "([II)I" } : Jvm.MethodName) method_2_code (2 : Nat) (Option.some Jvm.ClassFile.FieldType.int)) ∈ gt := List.mem_filter.mpr ⟨List.mem_append_right _ (List.mem_append_right _ (List.mem_append_left _ (List.mem_of_getElem? (i := 64) rfl))), rfl⟩
set_option maxRecDepth 20000 in
theorem k_305 : (Jvm.Cond.methodLink "PictureChangeLaw" (77 : Nat) ({ cls := "PictureChangeLaw", name := "cell", desc := "(LPictureChange;ZIII[J)I" } : Jvm.MethodName)) ∈ gt := List.mem_filter.mpr ⟨List.mem_append_right _ (List.mem_append_right _ (List.mem_append_left _ (List.mem_of_getElem? (i := 65) (by decide +kernel)))), rfl⟩
set_option maxRecDepth 20000 in
theorem k_306 : (Jvm.Cond.static ({ cls := "PictureChangeLaw", name := "cell", desc := "(LPictureChange;ZIII[J)I" } : Jvm.MethodName)) ∈ gt := List.mem_filter.mpr ⟨List.mem_append_right _ (List.mem_append_right _ (List.mem_append_left _ (List.mem_of_getElem? (i := 66) (by decide +kernel)))), rfl⟩
set_option maxRecDepth 20000 in
theorem k_307 : (Jvm.Cond.codeWith ({ cls := "PictureChangeLaw", name := "cell", desc := "(LPictureChange;ZIII[J)I" } : Jvm.MethodName) method_3_code (7 : Nat) (Option.some Jvm.ClassFile.FieldType.int) [((0 : Nat), (14 : Nat), (17 : Nat), (13 : Nat)), ((0 : Nat), (14 : Nat), (21 : Nat), (15 : Nat))]) ∈ gt := List.mem_filter.mpr ⟨List.mem_append_right _ (List.mem_append_right _ (List.mem_append_left _ (List.mem_of_getElem? (i := 67) rfl))), rfl⟩
set_option maxRecDepth 20000 in
theorem k_405 : (Jvm.Cond.methodLink "PictureChangeLaw" (85 : Nat) ({ cls := "PictureChangeLaw", name := "register", desc := "(LPictureChange;I[J)I" } : Jvm.MethodName)) ∈ gt := List.mem_filter.mpr ⟨List.mem_append_right _ (List.mem_append_right _ (List.mem_append_left _ (List.mem_of_getElem? (i := 165) (by decide +kernel)))), rfl⟩
set_option maxRecDepth 20000 in
theorem k_406 : (Jvm.Cond.static ({ cls := "PictureChangeLaw", name := "register", desc := "(LPictureChange;I[J)I" } : Jvm.MethodName)) ∈ gt := List.mem_filter.mpr ⟨List.mem_append_right _ (List.mem_append_right _ (List.mem_append_left _ (List.mem_of_getElem? (i := 166) (by decide +kernel)))), rfl⟩
set_option maxRecDepth 20000 in
theorem k_407 : (Jvm.Cond.codeWith ({ cls := "PictureChangeLaw", name := "register", desc := "(LPictureChange;I[J)I" } : Jvm.MethodName) method_4_code (4 : Nat) (Option.some Jvm.ClassFile.FieldType.int) [((0 : Nat), (9 : Nat), (12 : Nat), (15 : Nat))]) ∈ gt := List.mem_filter.mpr ⟨List.mem_append_right _ (List.mem_append_right _ (List.mem_append_left _ (List.mem_of_getElem? (i := 167) rfl))), rfl⟩
set_option maxRecDepth 20000 in
theorem k_438 : (Jvm.Cond.methodLink "PictureChangeLaw" (89 : Nat) ({ cls := "PictureChangeLaw", name := "shift", desc := "(LPictureChange;I[J)I" } : Jvm.MethodName)) ∈ gt := List.mem_filter.mpr ⟨List.mem_append_right _ (List.mem_append_right _ (List.mem_append_left _ (List.mem_of_getElem? (i := 198) (by decide +kernel)))), rfl⟩
set_option maxRecDepth 20000 in
theorem k_439 : (Jvm.Cond.static ({ cls := "PictureChangeLaw", name := "shift", desc := "(LPictureChange;I[J)I" } : Jvm.MethodName)) ∈ gt := List.mem_filter.mpr ⟨List.mem_append_right _ (List.mem_append_right _ (List.mem_append_left _ (List.mem_of_getElem? (i := 199) (by decide +kernel)))), rfl⟩
set_option maxRecDepth 20000 in
theorem k_440 : (Jvm.Cond.codeWith ({ cls := "PictureChangeLaw", name := "shift", desc := "(LPictureChange;I[J)I" } : Jvm.MethodName) method_5_code (4 : Nat) (Option.some Jvm.ClassFile.FieldType.int) [((0 : Nat), (9 : Nat), (12 : Nat), (13 : Nat))]) ∈ gt := List.mem_filter.mpr ⟨List.mem_append_right _ (List.mem_append_right _ (List.mem_append_left _ (List.mem_of_getElem? (i := 200) rfl))), rfl⟩
set_option maxRecDepth 20000 in
theorem k_449 : (Jvm.Cond.methodLink "PictureChangeLaw" (92 : Nat) ({ cls := "PictureChangeLaw", name := "chart", desc := "(LPictureChange;IIZ[J)I" } : Jvm.MethodName)) ∈ gt := List.mem_filter.mpr ⟨List.mem_append_right _ (List.mem_append_right _ (List.mem_append_left _ (List.mem_of_getElem? (i := 209) (by decide +kernel)))), rfl⟩
set_option maxRecDepth 20000 in
theorem k_450 : (Jvm.Cond.static ({ cls := "PictureChangeLaw", name := "chart", desc := "(LPictureChange;IIZ[J)I" } : Jvm.MethodName)) ∈ gt := List.mem_filter.mpr ⟨List.mem_append_right _ (List.mem_append_right _ (List.mem_append_left _ (List.mem_of_getElem? (i := 210) (by decide +kernel)))), rfl⟩
set_option maxRecDepth 20000 in
theorem k_451 : (Jvm.Cond.codeWith ({ cls := "PictureChangeLaw", name := "chart", desc := "(LPictureChange;IIZ[J)I" } : Jvm.MethodName) method_6_code (6 : Nat) (Option.some Jvm.ClassFile.FieldType.int) [((0 : Nat), (19 : Nat), (22 : Nat), (13 : Nat)), ((0 : Nat), (19 : Nat), (26 : Nat), (28 : Nat))]) ∈ gt := List.mem_filter.mpr ⟨List.mem_append_right _ (List.mem_append_right _ (List.mem_append_left _ (List.mem_of_getElem? (i := 211) rfl))), rfl⟩
set_option maxRecDepth 20000 in
theorem k_489 : (Jvm.Cond.methodLink "PictureChangeLaw" (96 : Nat) ({ cls := "PictureChangeLaw", name := "gain", desc := "(LPictureChange;I[J)I" } : Jvm.MethodName)) ∈ gt := List.mem_filter.mpr ⟨List.mem_append_right _ (List.mem_append_right _ (List.mem_append_right _ (List.mem_append_left _ (List.mem_of_getElem? (i := 9) (by decide +kernel))))), rfl⟩
set_option maxRecDepth 20000 in
theorem k_490 : (Jvm.Cond.static ({ cls := "PictureChangeLaw", name := "gain", desc := "(LPictureChange;I[J)I" } : Jvm.MethodName)) ∈ gt := List.mem_filter.mpr ⟨List.mem_append_right _ (List.mem_append_right _ (List.mem_append_right _ (List.mem_append_left _ (List.mem_of_getElem? (i := 10) (by decide +kernel))))), rfl⟩
set_option maxRecDepth 20000 in
theorem k_491 : (Jvm.Cond.codeWith ({ cls := "PictureChangeLaw", name := "gain", desc := "(LPictureChange;I[J)I" } : Jvm.MethodName) method_7_code (4 : Nat) (Option.some Jvm.ClassFile.FieldType.int) [((0 : Nat), (9 : Nat), (12 : Nat), (13 : Nat))]) ∈ gt := List.mem_filter.mpr ⟨List.mem_append_right _ (List.mem_append_right _ (List.mem_append_right _ (List.mem_append_left _ (List.mem_of_getElem? (i := 11) rfl)))), rfl⟩
set_option maxRecDepth 20000 in
theorem k_496 : (Jvm.Cond.methodLink "PictureChangeLaw" (99 : Nat) ({ cls := "PictureChangeLaw", name := "repeat", desc := "(LPictureChange;III[J)I" } : Jvm.MethodName)) ∈ gt := List.mem_filter.mpr ⟨List.mem_append_right _ (List.mem_append_right _ (List.mem_append_right _ (List.mem_append_left _ (List.mem_of_getElem? (i := 16) (by decide +kernel))))), rfl⟩
set_option maxRecDepth 20000 in
theorem k_497 : (Jvm.Cond.static ({ cls := "PictureChangeLaw", name := "repeat", desc := "(LPictureChange;III[J)I" } : Jvm.MethodName)) ∈ gt := List.mem_filter.mpr ⟨List.mem_append_right _ (List.mem_append_right _ (List.mem_append_right _ (List.mem_append_left _ (List.mem_of_getElem? (i := 17) (by decide +kernel))))), rfl⟩
set_option maxRecDepth 20000 in
theorem k_498 : (Jvm.Cond.codeWith ({ cls := "PictureChangeLaw", name := "repeat", desc := "(LPictureChange;III[J)I" } : Jvm.MethodName) method_8_code (6 : Nat) (Option.some Jvm.ClassFile.FieldType.int) [((0 : Nat), (12 : Nat), (15 : Nat), (13 : Nat)), ((0 : Nat), (12 : Nat), (19 : Nat), (15 : Nat))]) ∈ gt := List.mem_filter.mpr ⟨List.mem_append_right _ (List.mem_append_right _ (List.mem_append_right _ (List.mem_append_left _ (List.mem_of_getElem? (i := 18) rfl)))), rfl⟩
set_option maxRecDepth 20000 in
theorem k_508 : (Jvm.Cond.methodLink "PictureChangeLaw" (103 : Nat) ({ cls := "PictureChangeLaw", name := "floor", desc := "(LPictureChange;I[J)I" } : Jvm.MethodName)) ∈ gt := List.mem_filter.mpr ⟨List.mem_append_right _ (List.mem_append_right _ (List.mem_append_right _ (List.mem_append_left _ (List.mem_of_getElem? (i := 28) (by decide +kernel))))), rfl⟩
set_option maxRecDepth 20000 in
theorem k_509 : (Jvm.Cond.static ({ cls := "PictureChangeLaw", name := "floor", desc := "(LPictureChange;I[J)I" } : Jvm.MethodName)) ∈ gt := List.mem_filter.mpr ⟨List.mem_append_right _ (List.mem_append_right _ (List.mem_append_right _ (List.mem_append_left _ (List.mem_of_getElem? (i := 29) (by decide +kernel))))), rfl⟩
set_option maxRecDepth 20000 in
theorem k_510 : (Jvm.Cond.codeWith ({ cls := "PictureChangeLaw", name := "floor", desc := "(LPictureChange;I[J)I" } : Jvm.MethodName) method_9_code (4 : Nat) (Option.some Jvm.ClassFile.FieldType.int) [((0 : Nat), (9 : Nat), (12 : Nat), (15 : Nat))]) ∈ gt := List.mem_filter.mpr ⟨List.mem_append_right _ (List.mem_append_right _ (List.mem_append_right _ (List.mem_append_left _ (List.mem_of_getElem? (i := 30) rfl)))), rfl⟩
set_option maxRecDepth 20000 in
theorem k_515 : (Jvm.Cond.methodLink "PictureChangeLaw" (106 : Nat) ({ cls := "PictureChangeLaw", name := "bound", desc := "(LPictureChange;II[J)I" } : Jvm.MethodName)) ∈ gt := List.mem_filter.mpr ⟨List.mem_append_right _ (List.mem_append_right _ (List.mem_append_right _ (List.mem_append_left _ (List.mem_of_getElem? (i := 35) (by decide +kernel))))), rfl⟩
set_option maxRecDepth 20000 in
theorem k_516 : (Jvm.Cond.static ({ cls := "PictureChangeLaw", name := "bound", desc := "(LPictureChange;II[J)I" } : Jvm.MethodName)) ∈ gt := List.mem_filter.mpr ⟨List.mem_append_right _ (List.mem_append_right _ (List.mem_append_right _ (List.mem_append_left _ (List.mem_of_getElem? (i := 36) (by decide +kernel))))), rfl⟩
set_option maxRecDepth 20000 in
theorem k_517 : (Jvm.Cond.codeWith ({ cls := "PictureChangeLaw", name := "bound", desc := "(LPictureChange;II[J)I" } : Jvm.MethodName) method_10_code (5 : Nat) (Option.some Jvm.ClassFile.FieldType.int) [((0 : Nat), (10 : Nat), (13 : Nat), (13 : Nat))]) ∈ gt := List.mem_filter.mpr ⟨List.mem_append_right _ (List.mem_append_right _ (List.mem_append_right _ (List.mem_append_left _ (List.mem_of_getElem? (i := 37) rfl)))), rfl⟩
set_option maxRecDepth 20000 in
theorem k_522 : (Jvm.Cond.methodLink "PictureChangeLaw" (110 : Nat) ({ cls := "PictureChangeLaw", name := "change", desc := "(LPictureChange;II[J)I" } : Jvm.MethodName)) ∈ gt := List.mem_filter.mpr ⟨List.mem_append_right _ (List.mem_append_right _ (List.mem_append_right _ (List.mem_append_left _ (List.mem_of_getElem? (i := 42) (by decide +kernel))))), rfl⟩
set_option maxRecDepth 20000 in
theorem k_523 : (Jvm.Cond.static ({ cls := "PictureChangeLaw", name := "change", desc := "(LPictureChange;II[J)I" } : Jvm.MethodName)) ∈ gt := List.mem_filter.mpr ⟨List.mem_append_right _ (List.mem_append_right _ (List.mem_append_right _ (List.mem_append_left _ (List.mem_of_getElem? (i := 43) (by decide +kernel))))), rfl⟩
set_option maxRecDepth 20000 in
theorem k_524 : (Jvm.Cond.codeWith ({ cls := "PictureChangeLaw", name := "change", desc := "(LPictureChange;II[J)I" } : Jvm.MethodName) method_11_code (5 : Nat) (Option.some Jvm.ClassFile.FieldType.int) [((0 : Nat), (10 : Nat), (13 : Nat), (13 : Nat))]) ∈ gt := List.mem_filter.mpr ⟨List.mem_append_right _ (List.mem_append_right _ (List.mem_append_right _ (List.mem_append_left _ (List.mem_of_getElem? (i := 44) rfl)))), rfl⟩
set_option maxRecDepth 20000 in
theorem k_529 : (Jvm.Cond.methodLink "PictureChangeLaw" (117 : Nat) ({ cls := "PictureChangeLaw", name := "spot", desc := "(LPictureChange;II[J)I" } : Jvm.MethodName)) ∈ gt := List.mem_filter.mpr ⟨List.mem_append_right _ (List.mem_append_right _ (List.mem_append_right _ (List.mem_append_left _ (List.mem_of_getElem? (i := 49) (by decide +kernel))))), rfl⟩
set_option maxRecDepth 20000 in
theorem k_530 : (Jvm.Cond.static ({ cls := "PictureChangeLaw", name := "spot", desc := "(LPictureChange;II[J)I" } : Jvm.MethodName)) ∈ gt := List.mem_filter.mpr ⟨List.mem_append_right _ (List.mem_append_right _ (List.mem_append_right _ (List.mem_append_left _ (List.mem_of_getElem? (i := 50) (by decide +kernel))))), rfl⟩
set_option maxRecDepth 20000 in
theorem k_531 : (Jvm.Cond.codeWith ({ cls := "PictureChangeLaw", name := "spot", desc := "(LPictureChange;II[J)I" } : Jvm.MethodName) method_12_code (5 : Nat) (Option.some Jvm.ClassFile.FieldType.int) [((0 : Nat), (10 : Nat), (13 : Nat), (13 : Nat))]) ∈ gt := List.mem_filter.mpr ⟨List.mem_append_right _ (List.mem_append_right _ (List.mem_append_right _ (List.mem_append_left _ (List.mem_of_getElem? (i := 51) rfl)))), rfl⟩
set_option maxRecDepth 20000 in
theorem k_542 : (Jvm.Cond.methodLink "PictureChangeLaw" (120 : Nat) ({ cls := "PictureChangeLaw", name := "map", desc := "(LPictureChange;II[J)I" } : Jvm.MethodName)) ∈ gt := List.mem_filter.mpr ⟨List.mem_append_right _ (List.mem_append_right _ (List.mem_append_right _ (List.mem_append_left _ (List.mem_of_getElem? (i := 62) (by decide +kernel))))), rfl⟩
set_option maxRecDepth 20000 in
theorem k_543 : (Jvm.Cond.static ({ cls := "PictureChangeLaw", name := "map", desc := "(LPictureChange;II[J)I" } : Jvm.MethodName)) ∈ gt := List.mem_filter.mpr ⟨List.mem_append_right _ (List.mem_append_right _ (List.mem_append_right _ (List.mem_append_left _ (List.mem_of_getElem? (i := 63) (by decide +kernel))))), rfl⟩
set_option maxRecDepth 20000 in
theorem k_544 : (Jvm.Cond.codeWith ({ cls := "PictureChangeLaw", name := "map", desc := "(LPictureChange;II[J)I" } : Jvm.MethodName) method_13_code (5 : Nat) (Option.some Jvm.ClassFile.FieldType.int) [((0 : Nat), (10 : Nat), (13 : Nat), (13 : Nat))]) ∈ gt := List.mem_filter.mpr ⟨List.mem_append_right _ (List.mem_append_right _ (List.mem_append_right _ (List.mem_append_left _ (List.mem_of_getElem? (i := 64) rfl)))), rfl⟩
set_option maxRecDepth 20000 in
theorem k_550 : (Jvm.Cond.methodLink "PictureChangeLaw" (123 : Nat) ({ cls := "PictureChangeLaw", name := "alarm", desc := "(LPictureChange;III[J)I" } : Jvm.MethodName)) ∈ gt := List.mem_filter.mpr ⟨List.mem_append_right _ (List.mem_append_right _ (List.mem_append_right _ (List.mem_append_left _ (List.mem_of_getElem? (i := 70) (by decide +kernel))))), rfl⟩
set_option maxRecDepth 20000 in
theorem k_551 : (Jvm.Cond.static ({ cls := "PictureChangeLaw", name := "alarm", desc := "(LPictureChange;III[J)I" } : Jvm.MethodName)) ∈ gt := List.mem_filter.mpr ⟨List.mem_append_right _ (List.mem_append_right _ (List.mem_append_right _ (List.mem_append_left _ (List.mem_of_getElem? (i := 71) (by decide +kernel))))), rfl⟩
set_option maxRecDepth 20000 in
theorem k_552 : (Jvm.Cond.codeWith ({ cls := "PictureChangeLaw", name := "alarm", desc := "(LPictureChange;III[J)I" } : Jvm.MethodName) method_14_code (6 : Nat) (Option.some Jvm.ClassFile.FieldType.int) [((0 : Nat), (12 : Nat), (15 : Nat), (13 : Nat))]) ∈ gt := List.mem_filter.mpr ⟨List.mem_append_right _ (List.mem_append_right _ (List.mem_append_right _ (List.mem_append_left _ (List.mem_of_getElem? (i := 72) rfl)))), rfl⟩
set_option maxRecDepth 20000 in
theorem k_562 : (Jvm.Cond.methodLink "PictureChangeLaw" (130 : Nat) ({ cls := "PictureChangeLaw", name := "day", desc := "(LPictureChange;I[J)I" } : Jvm.MethodName)) ∈ gt := List.mem_filter.mpr ⟨List.mem_append_right _ (List.mem_append_right _ (List.mem_append_right _ (List.mem_append_left _ (List.mem_of_getElem? (i := 82) (by decide +kernel))))), rfl⟩
set_option maxRecDepth 20000 in
theorem k_563 : (Jvm.Cond.static ({ cls := "PictureChangeLaw", name := "day", desc := "(LPictureChange;I[J)I" } : Jvm.MethodName)) ∈ gt := List.mem_filter.mpr ⟨List.mem_append_right _ (List.mem_append_right _ (List.mem_append_right _ (List.mem_append_left _ (List.mem_of_getElem? (i := 83) (by decide +kernel))))), rfl⟩
set_option maxRecDepth 20000 in
theorem k_564 : (Jvm.Cond.codeWith ({ cls := "PictureChangeLaw", name := "day", desc := "(LPictureChange;I[J)I" } : Jvm.MethodName) method_15_code (4 : Nat) (Option.some Jvm.ClassFile.FieldType.int) [((0 : Nat), (9 : Nat), (12 : Nat), (15 : Nat)), ((0 : Nat), (9 : Nat), (15 : Nat), (28 : Nat))]) ∈ gt := List.mem_filter.mpr ⟨List.mem_append_right _ (List.mem_append_right _ (List.mem_append_right _ (List.mem_append_left _ (List.mem_of_getElem? (i := 84) rfl)))), rfl⟩
set_option maxRecDepth 20000 in
theorem k_583 : (Jvm.Cond.methodLink "PictureChangeLaw" (133 : Nat) ({ cls := "PictureChangeLaw", name := "growth", desc := "(LPictureChange;I[J)I" } : Jvm.MethodName)) ∈ gt := List.mem_filter.mpr ⟨List.mem_append_right _ (List.mem_append_right _ (List.mem_append_right _ (List.mem_append_left _ (List.mem_of_getElem? (i := 103) (by decide +kernel))))), rfl⟩
set_option maxRecDepth 20000 in
theorem k_584 : (Jvm.Cond.static ({ cls := "PictureChangeLaw", name := "growth", desc := "(LPictureChange;I[J)I" } : Jvm.MethodName)) ∈ gt := List.mem_filter.mpr ⟨List.mem_append_right _ (List.mem_append_right _ (List.mem_append_right _ (List.mem_append_left _ (List.mem_of_getElem? (i := 104) (by decide +kernel))))), rfl⟩
set_option maxRecDepth 20000 in
theorem k_585 : (Jvm.Cond.codeWith ({ cls := "PictureChangeLaw", name := "growth", desc := "(LPictureChange;I[J)I" } : Jvm.MethodName) method_16_code (4 : Nat) (Option.some Jvm.ClassFile.FieldType.int) [((0 : Nat), (8 : Nat), (11 : Nat), (13 : Nat))]) ∈ gt := List.mem_filter.mpr ⟨List.mem_append_right _ (List.mem_append_right _ (List.mem_append_right _ (List.mem_append_left _ (List.mem_of_getElem? (i := 105) rfl)))), rfl⟩
set_option maxRecDepth 20000 in
theorem k_595 : (Jvm.Cond.methodLink "PictureChangeLaw" (136 : Nat) ({ cls := "PictureChangeLaw", name := "count", desc := "(LPictureChange;I[J)I" } : Jvm.MethodName)) ∈ gt := List.mem_filter.mpr ⟨List.mem_append_right _ (List.mem_append_right _ (List.mem_append_right _ (List.mem_append_left _ (List.mem_of_getElem? (i := 115) (by decide +kernel))))), rfl⟩
set_option maxRecDepth 20000 in
theorem k_596 : (Jvm.Cond.static ({ cls := "PictureChangeLaw", name := "count", desc := "(LPictureChange;I[J)I" } : Jvm.MethodName)) ∈ gt := List.mem_filter.mpr ⟨List.mem_append_right _ (List.mem_append_right _ (List.mem_append_right _ (List.mem_append_left _ (List.mem_of_getElem? (i := 116) (by decide +kernel))))), rfl⟩
set_option maxRecDepth 20000 in
theorem k_597 : (Jvm.Cond.codeWith ({ cls := "PictureChangeLaw", name := "count", desc := "(LPictureChange;I[J)I" } : Jvm.MethodName) method_17_code (4 : Nat) (Option.some Jvm.ClassFile.FieldType.int) [((0 : Nat), (9 : Nat), (12 : Nat), (13 : Nat))]) ∈ gt := List.mem_filter.mpr ⟨List.mem_append_right _ (List.mem_append_right _ (List.mem_append_right _ (List.mem_append_left _ (List.mem_of_getElem? (i := 117) rfl)))), rfl⟩
set_option maxRecDepth 20000 in
theorem k_602 : (Jvm.Cond.classLink "PictureChangeLaw" (74 : Nat) "PictureChangeModel") ∈ gt := List.mem_filter.mpr ⟨List.mem_append_right _ (List.mem_append_right _ (List.mem_append_right _ (List.mem_append_left _ (List.mem_of_getElem? (i := 122) (by decide +kernel))))), rfl⟩
set_option maxRecDepth 20000 in
theorem k_603 : (Jvm.Cond.instantiable "PictureChangeModel" (24 : Nat)) ∈ gt := List.mem_filter.mpr ⟨List.mem_append_right _ (List.mem_append_right _ (List.mem_append_right _ (List.mem_append_left _ (List.mem_of_getElem? (i := 123) (by decide +kernel))))), rfl⟩
set_option maxRecDepth 20000 in
theorem k_604 : (Jvm.Cond.methodLink "PictureChangeLaw" (76 : Nat) ({ cls := "PictureChangeModel", name := "<init>", desc := "(II)V" } : Jvm.MethodName)) ∈ gt := List.mem_filter.mpr ⟨List.mem_append_right _ (List.mem_append_right _ (List.mem_append_right _ (List.mem_append_left _ (List.mem_of_getElem? (i := 124) (by decide +kernel))))), rfl⟩
set_option maxRecDepth 20000 in
theorem k_605 : (Jvm.Cond.instanceMethod ({ cls := "PictureChangeModel", name := "<init>", desc := "(II)V" } : Jvm.MethodName)) ∈ gt := List.mem_filter.mpr ⟨List.mem_append_right _ (List.mem_append_right _ (List.mem_append_right _ (List.mem_append_left _ (List.mem_of_getElem? (i := 125) (by decide +kernel))))), rfl⟩
set_option maxRecDepth 20000 in
theorem k_606 : (Jvm.Cond.code ({ cls := "PictureChangeModel", name := "<init>", desc := "(II)V" } : Jvm.MethodName) prog_9_method_1_code (4 : Nat) (Option.none : Option Jvm.ClassFile.FieldType)) ∈ gt := List.mem_filter.mpr ⟨List.mem_append_right _ (List.mem_append_right _ (List.mem_append_right _ (List.mem_append_left _ (List.mem_of_getElem? (i := 126) rfl)))), rfl⟩
set_option maxRecDepth 20000 in
theorem k_682 : (Jvm.Cond.methodLink "PictureChangeLaw" (81 : Nat) ({ cls := "PictureChangeModel", name := "thrown", desc := "()I" } : Jvm.MethodName)) ∈ gt := List.mem_filter.mpr ⟨List.mem_append_right _ (List.mem_append_right _ (List.mem_append_right _ (List.mem_append_left _ (List.mem_of_getElem? (i := 202) (by decide +kernel))))), rfl⟩
set_option maxRecDepth 20000 in
theorem k_683 : (Jvm.Cond.instanceMethod ({ cls := "PictureChangeModel", name := "thrown", desc := "()I" } : Jvm.MethodName)) ∈ gt := List.mem_filter.mpr ⟨List.mem_append_right _ (List.mem_append_right _ (List.mem_append_right _ (List.mem_append_left _ (List.mem_of_getElem? (i := 203) (by decide +kernel))))), rfl⟩
set_option maxRecDepth 20000 in
theorem k_684 : (Jvm.Cond.selects "PictureChangeModel" ({ cls := "PictureChangeModel", name := "thrown", desc := "()I" } : Jvm.MethodName) ({ cls := "PictureChangeModel", name := "thrown", desc := "()I" } : Jvm.MethodName)) ∈ gt := List.mem_filter.mpr ⟨List.mem_append_right _ (List.mem_append_right _ (List.mem_append_right _ (List.mem_append_left _ (List.mem_of_getElem? (i := 204) (by decide +kernel))))), rfl⟩
set_option maxRecDepth 20000 in
theorem k_685 : (Jvm.Cond.code ({ cls := "PictureChangeModel", name := "thrown", desc := "()I" } : Jvm.MethodName) prog_9_method_2_code (1 : Nat) (Option.some Jvm.ClassFile.FieldType.int)) ∈ gt := List.mem_filter.mpr ⟨List.mem_append_right _ (List.mem_append_right _ (List.mem_append_right _ (List.mem_append_left _ (List.mem_of_getElem? (i := 205) rfl)))), rfl⟩
set_option maxRecDepth 20000 in
theorem k_686 : (Jvm.Cond.methodLink "PictureChangeLaw" (80 : Nat) ({ cls := "PictureChangeModel", name := "cell", desc := "(ZIII)I" } : Jvm.MethodName)) ∈ gt := List.mem_filter.mpr ⟨List.mem_append_right _ (List.mem_append_right _ (List.mem_append_right _ (List.mem_append_left _ (List.mem_of_getElem? (i := 206) (by decide +kernel))))), rfl⟩
set_option maxRecDepth 20000 in
theorem k_687 : (Jvm.Cond.instanceMethod ({ cls := "PictureChangeModel", name := "cell", desc := "(ZIII)I" } : Jvm.MethodName)) ∈ gt := List.mem_filter.mpr ⟨List.mem_append_right _ (List.mem_append_right _ (List.mem_append_right _ (List.mem_append_left _ (List.mem_of_getElem? (i := 207) (by decide +kernel))))), rfl⟩
set_option maxRecDepth 20000 in
theorem k_688 : (Jvm.Cond.selects "PictureChangeModel" ({ cls := "PictureChangeModel", name := "cell", desc := "(ZIII)I" } : Jvm.MethodName) ({ cls := "PictureChangeModel", name := "cell", desc := "(ZIII)I" } : Jvm.MethodName)) ∈ gt := List.mem_filter.mpr ⟨List.mem_append_right _ (List.mem_append_right _ (List.mem_append_right _ (List.mem_append_left _ (List.mem_of_getElem? (i := 208) (by decide +kernel))))), rfl⟩
set_option maxRecDepth 20000 in
theorem k_689 : (Jvm.Cond.code ({ cls := "PictureChangeModel", name := "cell", desc := "(ZIII)I" } : Jvm.MethodName) prog_9_method_8_code (7 : Nat) (Option.some Jvm.ClassFile.FieldType.int)) ∈ gt := List.mem_filter.mpr ⟨List.mem_append_right _ (List.mem_append_right _ (List.mem_append_right _ (List.mem_append_left _ (List.mem_of_getElem? (i := 209) rfl)))), rfl⟩
set_option maxRecDepth 20000 in
theorem k_701 : (Jvm.Cond.methodLink "PictureChangeLaw" (88 : Nat) ({ cls := "PictureChangeModel", name := "register", desc := "(I)I" } : Jvm.MethodName)) ∈ gt := List.mem_filter.mpr ⟨List.mem_append_right _ (List.mem_append_right _ (List.mem_append_right _ (List.mem_append_left _ (List.mem_of_getElem? (i := 221) (by decide +kernel))))), rfl⟩
set_option maxRecDepth 20000 in
theorem k_702 : (Jvm.Cond.instanceMethod ({ cls := "PictureChangeModel", name := "register", desc := "(I)I" } : Jvm.MethodName)) ∈ gt := List.mem_filter.mpr ⟨List.mem_append_right _ (List.mem_append_right _ (List.mem_append_right _ (List.mem_append_left _ (List.mem_of_getElem? (i := 222) (by decide +kernel))))), rfl⟩
set_option maxRecDepth 20000 in
theorem k_703 : (Jvm.Cond.selects "PictureChangeModel" ({ cls := "PictureChangeModel", name := "register", desc := "(I)I" } : Jvm.MethodName) ({ cls := "PictureChangeModel", name := "register", desc := "(I)I" } : Jvm.MethodName)) ∈ gt := List.mem_filter.mpr ⟨List.mem_append_right _ (List.mem_append_right _ (List.mem_append_right _ (List.mem_append_left _ (List.mem_of_getElem? (i := 223) (by decide +kernel))))), rfl⟩
set_option maxRecDepth 20000 in
theorem k_704 : (Jvm.Cond.code ({ cls := "PictureChangeModel", name := "register", desc := "(I)I" } : Jvm.MethodName) prog_9_method_11_code (11 : Nat) (Option.some Jvm.ClassFile.FieldType.int)) ∈ gt := List.mem_filter.mpr ⟨List.mem_append_right _ (List.mem_append_right _ (List.mem_append_right _ (List.mem_append_left _ (List.mem_of_getElem? (i := 224) rfl)))), rfl⟩
set_option maxRecDepth 20000 in
theorem k_721 : (Jvm.Cond.methodLink "PictureChangeLaw" (91 : Nat) ({ cls := "PictureChangeModel", name := "shift", desc := "(I)I" } : Jvm.MethodName)) ∈ gt := List.mem_filter.mpr ⟨List.mem_append_right _ (List.mem_append_right _ (List.mem_append_right _ (List.mem_append_right _ (List.mem_of_getElem? (i := 1) (by decide +kernel))))), rfl⟩
set_option maxRecDepth 20000 in
theorem k_722 : (Jvm.Cond.instanceMethod ({ cls := "PictureChangeModel", name := "shift", desc := "(I)I" } : Jvm.MethodName)) ∈ gt := List.mem_filter.mpr ⟨List.mem_append_right _ (List.mem_append_right _ (List.mem_append_right _ (List.mem_append_right _ (List.mem_of_getElem? (i := 2) (by decide +kernel))))), rfl⟩
set_option maxRecDepth 20000 in
theorem k_723 : (Jvm.Cond.selects "PictureChangeModel" ({ cls := "PictureChangeModel", name := "shift", desc := "(I)I" } : Jvm.MethodName) ({ cls := "PictureChangeModel", name := "shift", desc := "(I)I" } : Jvm.MethodName)) ∈ gt := List.mem_filter.mpr ⟨List.mem_append_right _ (List.mem_append_right _ (List.mem_append_right _ (List.mem_append_right _ (List.mem_of_getElem? (i := 3) (by decide +kernel))))), rfl⟩
set_option maxRecDepth 20000 in
theorem k_724 : (Jvm.Cond.code ({ cls := "PictureChangeModel", name := "shift", desc := "(I)I" } : Jvm.MethodName) prog_9_method_12_code (2 : Nat) (Option.some Jvm.ClassFile.FieldType.int)) ∈ gt := List.mem_filter.mpr ⟨List.mem_append_right _ (List.mem_append_right _ (List.mem_append_right _ (List.mem_append_right _ (List.mem_of_getElem? (i := 4) rfl)))), rfl⟩
set_option maxRecDepth 20000 in
theorem k_725 : (Jvm.Cond.methodLink "PictureChangeLaw" (95 : Nat) ({ cls := "PictureChangeModel", name := "chart", desc := "(IIZ)Z" } : Jvm.MethodName)) ∈ gt := List.mem_filter.mpr ⟨List.mem_append_right _ (List.mem_append_right _ (List.mem_append_right _ (List.mem_append_right _ (List.mem_of_getElem? (i := 5) (by decide +kernel))))), rfl⟩
set_option maxRecDepth 20000 in
theorem k_726 : (Jvm.Cond.instanceMethod ({ cls := "PictureChangeModel", name := "chart", desc := "(IIZ)Z" } : Jvm.MethodName)) ∈ gt := List.mem_filter.mpr ⟨List.mem_append_right _ (List.mem_append_right _ (List.mem_append_right _ (List.mem_append_right _ (List.mem_of_getElem? (i := 6) (by decide +kernel))))), rfl⟩
set_option maxRecDepth 20000 in
theorem k_727 : (Jvm.Cond.selects "PictureChangeModel" ({ cls := "PictureChangeModel", name := "chart", desc := "(IIZ)Z" } : Jvm.MethodName) ({ cls := "PictureChangeModel", name := "chart", desc := "(IIZ)Z" } : Jvm.MethodName)) ∈ gt := List.mem_filter.mpr ⟨List.mem_append_right _ (List.mem_append_right _ (List.mem_append_right _ (List.mem_append_right _ (List.mem_of_getElem? (i := 7) (by decide +kernel))))), rfl⟩
set_option maxRecDepth 20000 in
theorem k_728 : (Jvm.Cond.code ({ cls := "PictureChangeModel", name := "chart", desc := "(IIZ)Z" } : Jvm.MethodName) prog_9_method_14_code (6 : Nat) (Option.some Jvm.ClassFile.FieldType.boolean)) ∈ gt := List.mem_filter.mpr ⟨List.mem_append_right _ (List.mem_append_right _ (List.mem_append_right _ (List.mem_append_right _ (List.mem_of_getElem? (i := 8) rfl)))), rfl⟩
set_option maxRecDepth 20000 in
theorem k_733 : (Jvm.Cond.methodLink "PictureChangeLaw" (98 : Nat) ({ cls := "PictureChangeModel", name := "gain", desc := "(I)I" } : Jvm.MethodName)) ∈ gt := List.mem_filter.mpr ⟨List.mem_append_right _ (List.mem_append_right _ (List.mem_append_right _ (List.mem_append_right _ (List.mem_of_getElem? (i := 13) (by decide +kernel))))), rfl⟩
set_option maxRecDepth 20000 in
theorem k_734 : (Jvm.Cond.instanceMethod ({ cls := "PictureChangeModel", name := "gain", desc := "(I)I" } : Jvm.MethodName)) ∈ gt := List.mem_filter.mpr ⟨List.mem_append_right _ (List.mem_append_right _ (List.mem_append_right _ (List.mem_append_right _ (List.mem_of_getElem? (i := 14) (by decide +kernel))))), rfl⟩
set_option maxRecDepth 20000 in
theorem k_735 : (Jvm.Cond.selects "PictureChangeModel" ({ cls := "PictureChangeModel", name := "gain", desc := "(I)I" } : Jvm.MethodName) ({ cls := "PictureChangeModel", name := "gain", desc := "(I)I" } : Jvm.MethodName)) ∈ gt := List.mem_filter.mpr ⟨List.mem_append_right _ (List.mem_append_right _ (List.mem_append_right _ (List.mem_append_right _ (List.mem_of_getElem? (i := 15) (by decide +kernel))))), rfl⟩
set_option maxRecDepth 20000 in
theorem k_736 : (Jvm.Cond.code ({ cls := "PictureChangeModel", name := "gain", desc := "(I)I" } : Jvm.MethodName) prog_9_method_17_code (2 : Nat) (Option.some Jvm.ClassFile.FieldType.int)) ∈ gt := List.mem_filter.mpr ⟨List.mem_append_right _ (List.mem_append_right _ (List.mem_append_right _ (List.mem_append_right _ (List.mem_of_getElem? (i := 16) rfl)))), rfl⟩
set_option maxRecDepth 20000 in
theorem k_744 : (Jvm.Cond.methodLink "PictureChangeLaw" (102 : Nat) ({ cls := "PictureChangeModel", name := "repeat", desc := "(III)I" } : Jvm.MethodName)) ∈ gt := List.mem_filter.mpr ⟨List.mem_append_right _ (List.mem_append_right _ (List.mem_append_right _ (List.mem_append_right _ (List.mem_of_getElem? (i := 24) (by decide +kernel))))), rfl⟩
set_option maxRecDepth 20000 in
theorem k_745 : (Jvm.Cond.instanceMethod ({ cls := "PictureChangeModel", name := "repeat", desc := "(III)I" } : Jvm.MethodName)) ∈ gt := List.mem_filter.mpr ⟨List.mem_append_right _ (List.mem_append_right _ (List.mem_append_right _ (List.mem_append_right _ (List.mem_of_getElem? (i := 25) (by decide +kernel))))), rfl⟩
set_option maxRecDepth 20000 in
theorem k_746 : (Jvm.Cond.selects "PictureChangeModel" ({ cls := "PictureChangeModel", name := "repeat", desc := "(III)I" } : Jvm.MethodName) ({ cls := "PictureChangeModel", name := "repeat", desc := "(III)I" } : Jvm.MethodName)) ∈ gt := List.mem_filter.mpr ⟨List.mem_append_right _ (List.mem_append_right _ (List.mem_append_right _ (List.mem_append_right _ (List.mem_of_getElem? (i := 26) (by decide +kernel))))), rfl⟩
set_option maxRecDepth 20000 in
theorem k_747 : (Jvm.Cond.code ({ cls := "PictureChangeModel", name := "repeat", desc := "(III)I" } : Jvm.MethodName) prog_9_method_19_code (5 : Nat) (Option.some Jvm.ClassFile.FieldType.int)) ∈ gt := List.mem_filter.mpr ⟨List.mem_append_right _ (List.mem_append_right _ (List.mem_append_right _ (List.mem_append_right _ (List.mem_of_getElem? (i := 27) rfl)))), rfl⟩
set_option maxRecDepth 20000 in
theorem k_752 : (Jvm.Cond.methodLink "PictureChangeLaw" (105 : Nat) ({ cls := "PictureChangeModel", name := "floor", desc := "(I)I" } : Jvm.MethodName)) ∈ gt := List.mem_filter.mpr ⟨List.mem_append_right _ (List.mem_append_right _ (List.mem_append_right _ (List.mem_append_right _ (List.mem_of_getElem? (i := 32) (by decide +kernel))))), rfl⟩
set_option maxRecDepth 20000 in
theorem k_753 : (Jvm.Cond.instanceMethod ({ cls := "PictureChangeModel", name := "floor", desc := "(I)I" } : Jvm.MethodName)) ∈ gt := List.mem_filter.mpr ⟨List.mem_append_right _ (List.mem_append_right _ (List.mem_append_right _ (List.mem_append_right _ (List.mem_of_getElem? (i := 33) (by decide +kernel))))), rfl⟩
set_option maxRecDepth 20000 in
theorem k_754 : (Jvm.Cond.selects "PictureChangeModel" ({ cls := "PictureChangeModel", name := "floor", desc := "(I)I" } : Jvm.MethodName) ({ cls := "PictureChangeModel", name := "floor", desc := "(I)I" } : Jvm.MethodName)) ∈ gt := List.mem_filter.mpr ⟨List.mem_append_right _ (List.mem_append_right _ (List.mem_append_right _ (List.mem_append_right _ (List.mem_of_getElem? (i := 34) (by decide +kernel))))), rfl⟩
set_option maxRecDepth 20000 in
theorem k_755 : (Jvm.Cond.code ({ cls := "PictureChangeModel", name := "floor", desc := "(I)I" } : Jvm.MethodName) prog_9_method_20_code (3 : Nat) (Option.some Jvm.ClassFile.FieldType.int)) ∈ gt := List.mem_filter.mpr ⟨List.mem_append_right _ (List.mem_append_right _ (List.mem_append_right _ (List.mem_append_right _ (List.mem_of_getElem? (i := 35) rfl)))), rfl⟩
set_option maxRecDepth 20000 in
theorem k_756 : (Jvm.Cond.methodLink "PictureChangeLaw" (109 : Nat) ({ cls := "PictureChangeModel", name := "bound", desc := "(II)I" } : Jvm.MethodName)) ∈ gt := List.mem_filter.mpr ⟨List.mem_append_right _ (List.mem_append_right _ (List.mem_append_right _ (List.mem_append_right _ (List.mem_of_getElem? (i := 36) (by decide +kernel))))), rfl⟩
set_option maxRecDepth 20000 in
theorem k_757 : (Jvm.Cond.instanceMethod ({ cls := "PictureChangeModel", name := "bound", desc := "(II)I" } : Jvm.MethodName)) ∈ gt := List.mem_filter.mpr ⟨List.mem_append_right _ (List.mem_append_right _ (List.mem_append_right _ (List.mem_append_right _ (List.mem_of_getElem? (i := 37) (by decide +kernel))))), rfl⟩
set_option maxRecDepth 20000 in
theorem k_758 : (Jvm.Cond.selects "PictureChangeModel" ({ cls := "PictureChangeModel", name := "bound", desc := "(II)I" } : Jvm.MethodName) ({ cls := "PictureChangeModel", name := "bound", desc := "(II)I" } : Jvm.MethodName)) ∈ gt := List.mem_filter.mpr ⟨List.mem_append_right _ (List.mem_append_right _ (List.mem_append_right _ (List.mem_append_right _ (List.mem_of_getElem? (i := 38) (by decide +kernel))))), rfl⟩
set_option maxRecDepth 20000 in
theorem k_759 : (Jvm.Cond.code ({ cls := "PictureChangeModel", name := "bound", desc := "(II)I" } : Jvm.MethodName) prog_9_method_21_code (3 : Nat) (Option.some Jvm.ClassFile.FieldType.int)) ∈ gt := List.mem_filter.mpr ⟨List.mem_append_right _ (List.mem_append_right _ (List.mem_append_right _ (List.mem_append_right _ (List.mem_of_getElem? (i := 39) rfl)))), rfl⟩
set_option maxRecDepth 20000 in
theorem k_760 : (Jvm.Cond.methodLink "PictureChangeLaw" (112 : Nat) ({ cls := "PictureChangeModel", name := "change", desc := "(II)I" } : Jvm.MethodName)) ∈ gt := List.mem_filter.mpr ⟨List.mem_append_right _ (List.mem_append_right _ (List.mem_append_right _ (List.mem_append_right _ (List.mem_of_getElem? (i := 40) (by decide +kernel))))), rfl⟩
set_option maxRecDepth 20000 in
theorem k_761 : (Jvm.Cond.instanceMethod ({ cls := "PictureChangeModel", name := "change", desc := "(II)I" } : Jvm.MethodName)) ∈ gt := List.mem_filter.mpr ⟨List.mem_append_right _ (List.mem_append_right _ (List.mem_append_right _ (List.mem_append_right _ (List.mem_of_getElem? (i := 41) (by decide +kernel))))), rfl⟩
set_option maxRecDepth 20000 in
theorem k_762 : (Jvm.Cond.selects "PictureChangeModel" ({ cls := "PictureChangeModel", name := "change", desc := "(II)I" } : Jvm.MethodName) ({ cls := "PictureChangeModel", name := "change", desc := "(II)I" } : Jvm.MethodName)) ∈ gt := List.mem_filter.mpr ⟨List.mem_append_right _ (List.mem_append_right _ (List.mem_append_right _ (List.mem_append_right _ (List.mem_of_getElem? (i := 42) (by decide +kernel))))), rfl⟩
set_option maxRecDepth 20000 in
theorem k_763 : (Jvm.Cond.code ({ cls := "PictureChangeModel", name := "change", desc := "(II)I" } : Jvm.MethodName) prog_9_method_23_code (3 : Nat) (Option.some Jvm.ClassFile.FieldType.int)) ∈ gt := List.mem_filter.mpr ⟨List.mem_append_right _ (List.mem_append_right _ (List.mem_append_right _ (List.mem_append_right _ (List.mem_of_getElem? (i := 43) rfl)))), rfl⟩
set_option maxRecDepth 20000 in
theorem k_769 : (Jvm.Cond.methodLink "PictureChangeLaw" (116 : Nat) ({ cls := "PictureChangeModel", name := "run", desc := "()I" } : Jvm.MethodName)) ∈ gt := List.mem_filter.mpr ⟨List.mem_append_right _ (List.mem_append_right _ (List.mem_append_right _ (List.mem_append_right _ (List.mem_of_getElem? (i := 49) (by decide +kernel))))), rfl⟩
set_option maxRecDepth 20000 in
theorem k_770 : (Jvm.Cond.instanceMethod ({ cls := "PictureChangeModel", name := "run", desc := "()I" } : Jvm.MethodName)) ∈ gt := List.mem_filter.mpr ⟨List.mem_append_right _ (List.mem_append_right _ (List.mem_append_right _ (List.mem_append_right _ (List.mem_of_getElem? (i := 50) (by decide +kernel))))), rfl⟩
set_option maxRecDepth 20000 in
theorem k_771 : (Jvm.Cond.selects "PictureChangeModel" ({ cls := "PictureChangeModel", name := "run", desc := "()I" } : Jvm.MethodName) ({ cls := "PictureChangeModel", name := "run", desc := "()I" } : Jvm.MethodName)) ∈ gt := List.mem_filter.mpr ⟨List.mem_append_right _ (List.mem_append_right _ (List.mem_append_right _ (List.mem_append_right _ (List.mem_of_getElem? (i := 51) (by decide +kernel))))), rfl⟩
set_option maxRecDepth 20000 in
theorem k_772 : (Jvm.Cond.code ({ cls := "PictureChangeModel", name := "run", desc := "()I" } : Jvm.MethodName) prog_9_method_26_code (3 : Nat) (Option.some Jvm.ClassFile.FieldType.int)) ∈ gt := List.mem_filter.mpr ⟨List.mem_append_right _ (List.mem_append_right _ (List.mem_append_right _ (List.mem_append_right _ (List.mem_of_getElem? (i := 52) rfl)))), rfl⟩
set_option maxRecDepth 20000 in
theorem k_781 : (Jvm.Cond.methodLink "PictureChangeLaw" (119 : Nat) ({ cls := "PictureChangeModel", name := "spot", desc := "(II)I" } : Jvm.MethodName)) ∈ gt := List.mem_filter.mpr ⟨List.mem_append_right _ (List.mem_append_right _ (List.mem_append_right _ (List.mem_append_right _ (List.mem_of_getElem? (i := 61) (by decide +kernel))))), rfl⟩
set_option maxRecDepth 20000 in
theorem k_782 : (Jvm.Cond.instanceMethod ({ cls := "PictureChangeModel", name := "spot", desc := "(II)I" } : Jvm.MethodName)) ∈ gt := List.mem_filter.mpr ⟨List.mem_append_right _ (List.mem_append_right _ (List.mem_append_right _ (List.mem_append_right _ (List.mem_of_getElem? (i := 62) (by decide +kernel))))), rfl⟩
set_option maxRecDepth 20000 in
theorem k_783 : (Jvm.Cond.selects "PictureChangeModel" ({ cls := "PictureChangeModel", name := "spot", desc := "(II)I" } : Jvm.MethodName) ({ cls := "PictureChangeModel", name := "spot", desc := "(II)I" } : Jvm.MethodName)) ∈ gt := List.mem_filter.mpr ⟨List.mem_append_right _ (List.mem_append_right _ (List.mem_append_right _ (List.mem_append_right _ (List.mem_of_getElem? (i := 63) (by decide +kernel))))), rfl⟩
set_option maxRecDepth 20000 in
theorem k_784 : (Jvm.Cond.code ({ cls := "PictureChangeModel", name := "spot", desc := "(II)I" } : Jvm.MethodName) prog_9_method_30_code (3 : Nat) (Option.some Jvm.ClassFile.FieldType.int)) ∈ gt := List.mem_filter.mpr ⟨List.mem_append_right _ (List.mem_append_right _ (List.mem_append_right _ (List.mem_append_right _ (List.mem_of_getElem? (i := 64) rfl)))), rfl⟩
set_option maxRecDepth 20000 in
theorem k_797 : (Jvm.Cond.methodLink "PictureChangeLaw" (122 : Nat) ({ cls := "PictureChangeModel", name := "map", desc := "(II)I" } : Jvm.MethodName)) ∈ gt := List.mem_filter.mpr ⟨List.mem_append_right _ (List.mem_append_right _ (List.mem_append_right _ (List.mem_append_right _ (List.mem_of_getElem? (i := 77) (by decide +kernel))))), rfl⟩
set_option maxRecDepth 20000 in
theorem k_798 : (Jvm.Cond.instanceMethod ({ cls := "PictureChangeModel", name := "map", desc := "(II)I" } : Jvm.MethodName)) ∈ gt := List.mem_filter.mpr ⟨List.mem_append_right _ (List.mem_append_right _ (List.mem_append_right _ (List.mem_append_right _ (List.mem_of_getElem? (i := 78) (by decide +kernel))))), rfl⟩
set_option maxRecDepth 20000 in
theorem k_799 : (Jvm.Cond.selects "PictureChangeModel" ({ cls := "PictureChangeModel", name := "map", desc := "(II)I" } : Jvm.MethodName) ({ cls := "PictureChangeModel", name := "map", desc := "(II)I" } : Jvm.MethodName)) ∈ gt := List.mem_filter.mpr ⟨List.mem_append_right _ (List.mem_append_right _ (List.mem_append_right _ (List.mem_append_right _ (List.mem_of_getElem? (i := 79) (by decide +kernel))))), rfl⟩
set_option maxRecDepth 20000 in
theorem k_800 : (Jvm.Cond.code ({ cls := "PictureChangeModel", name := "map", desc := "(II)I" } : Jvm.MethodName) prog_9_method_31_code (6 : Nat) (Option.some Jvm.ClassFile.FieldType.int)) ∈ gt := List.mem_filter.mpr ⟨List.mem_append_right _ (List.mem_append_right _ (List.mem_append_right _ (List.mem_append_right _ (List.mem_of_getElem? (i := 80) rfl)))), rfl⟩
set_option maxRecDepth 20000 in
theorem k_801 : (Jvm.Cond.methodLink "PictureChangeLaw" (125 : Nat) ({ cls := "PictureChangeModel", name := "alarm", desc := "(III)I" } : Jvm.MethodName)) ∈ gt := List.mem_filter.mpr ⟨List.mem_append_right _ (List.mem_append_right _ (List.mem_append_right _ (List.mem_append_right _ (List.mem_of_getElem? (i := 81) (by decide +kernel))))), rfl⟩
set_option maxRecDepth 20000 in
theorem k_802 : (Jvm.Cond.instanceMethod ({ cls := "PictureChangeModel", name := "alarm", desc := "(III)I" } : Jvm.MethodName)) ∈ gt := List.mem_filter.mpr ⟨List.mem_append_right _ (List.mem_append_right _ (List.mem_append_right _ (List.mem_append_right _ (List.mem_of_getElem? (i := 82) (by decide +kernel))))), rfl⟩
set_option maxRecDepth 20000 in
theorem k_803 : (Jvm.Cond.selects "PictureChangeModel" ({ cls := "PictureChangeModel", name := "alarm", desc := "(III)I" } : Jvm.MethodName) ({ cls := "PictureChangeModel", name := "alarm", desc := "(III)I" } : Jvm.MethodName)) ∈ gt := List.mem_filter.mpr ⟨List.mem_append_right _ (List.mem_append_right _ (List.mem_append_right _ (List.mem_append_right _ (List.mem_of_getElem? (i := 83) (by decide +kernel))))), rfl⟩
set_option maxRecDepth 20000 in
theorem k_804 : (Jvm.Cond.code ({ cls := "PictureChangeModel", name := "alarm", desc := "(III)I" } : Jvm.MethodName) prog_9_method_32_code (6 : Nat) (Option.some Jvm.ClassFile.FieldType.int)) ∈ gt := List.mem_filter.mpr ⟨List.mem_append_right _ (List.mem_append_right _ (List.mem_append_right _ (List.mem_append_right _ (List.mem_of_getElem? (i := 84) rfl)))), rfl⟩
set_option maxRecDepth 20000 in
theorem k_805 : (Jvm.Cond.methodLink "PictureChangeLaw" (129 : Nat) ({ cls := "PictureChangeModel", name := "falseOnes", desc := "()I" } : Jvm.MethodName)) ∈ gt := List.mem_filter.mpr ⟨List.mem_append_right _ (List.mem_append_right _ (List.mem_append_right _ (List.mem_append_right _ (List.mem_of_getElem? (i := 85) (by decide +kernel))))), rfl⟩
set_option maxRecDepth 20000 in
theorem k_806 : (Jvm.Cond.instanceMethod ({ cls := "PictureChangeModel", name := "falseOnes", desc := "()I" } : Jvm.MethodName)) ∈ gt := List.mem_filter.mpr ⟨List.mem_append_right _ (List.mem_append_right _ (List.mem_append_right _ (List.mem_append_right _ (List.mem_of_getElem? (i := 86) (by decide +kernel))))), rfl⟩
set_option maxRecDepth 20000 in
theorem k_807 : (Jvm.Cond.selects "PictureChangeModel" ({ cls := "PictureChangeModel", name := "falseOnes", desc := "()I" } : Jvm.MethodName) ({ cls := "PictureChangeModel", name := "falseOnes", desc := "()I" } : Jvm.MethodName)) ∈ gt := List.mem_filter.mpr ⟨List.mem_append_right _ (List.mem_append_right _ (List.mem_append_right _ (List.mem_append_right _ (List.mem_of_getElem? (i := 87) (by decide +kernel))))), rfl⟩
set_option maxRecDepth 20000 in
theorem k_808 : (Jvm.Cond.code ({ cls := "PictureChangeModel", name := "falseOnes", desc := "()I" } : Jvm.MethodName) prog_9_method_33_code (1 : Nat) (Option.some Jvm.ClassFile.FieldType.int)) ∈ gt := List.mem_filter.mpr ⟨List.mem_append_right _ (List.mem_append_right _ (List.mem_append_right _ (List.mem_append_right _ (List.mem_of_getElem? (i := 88) rfl)))), rfl⟩
set_option maxRecDepth 20000 in
theorem k_809 : (Jvm.Cond.methodLink "PictureChangeLaw" (132 : Nat) ({ cls := "PictureChangeModel", name := "day", desc := "(I)I" } : Jvm.MethodName)) ∈ gt := List.mem_filter.mpr ⟨List.mem_append_right _ (List.mem_append_right _ (List.mem_append_right _ (List.mem_append_right _ (List.mem_of_getElem? (i := 89) (by decide +kernel))))), rfl⟩
set_option maxRecDepth 20000 in
theorem k_810 : (Jvm.Cond.instanceMethod ({ cls := "PictureChangeModel", name := "day", desc := "(I)I" } : Jvm.MethodName)) ∈ gt := List.mem_filter.mpr ⟨List.mem_append_right _ (List.mem_append_right _ (List.mem_append_right _ (List.mem_append_right _ (List.mem_of_getElem? (i := 90) (by decide +kernel))))), rfl⟩
set_option maxRecDepth 20000 in
theorem k_811 : (Jvm.Cond.selects "PictureChangeModel" ({ cls := "PictureChangeModel", name := "day", desc := "(I)I" } : Jvm.MethodName) ({ cls := "PictureChangeModel", name := "day", desc := "(I)I" } : Jvm.MethodName)) ∈ gt := List.mem_filter.mpr ⟨List.mem_append_right _ (List.mem_append_right _ (List.mem_append_right _ (List.mem_append_right _ (List.mem_of_getElem? (i := 91) (by decide +kernel))))), rfl⟩
set_option maxRecDepth 20000 in
theorem k_812 : (Jvm.Cond.code ({ cls := "PictureChangeModel", name := "day", desc := "(I)I" } : Jvm.MethodName) prog_9_method_34_code (3 : Nat) (Option.some Jvm.ClassFile.FieldType.int)) ∈ gt := List.mem_filter.mpr ⟨List.mem_append_right _ (List.mem_append_right _ (List.mem_append_right _ (List.mem_append_right _ (List.mem_of_getElem? (i := 92) rfl)))), rfl⟩
set_option maxRecDepth 20000 in
theorem k_813 : (Jvm.Cond.methodLink "PictureChangeLaw" (135 : Nat) ({ cls := "PictureChangeModel", name := "growth", desc := "(I)J" } : Jvm.MethodName)) ∈ gt := List.mem_filter.mpr ⟨List.mem_append_right _ (List.mem_append_right _ (List.mem_append_right _ (List.mem_append_right _ (List.mem_of_getElem? (i := 93) (by decide +kernel))))), rfl⟩
set_option maxRecDepth 20000 in
theorem k_814 : (Jvm.Cond.instanceMethod ({ cls := "PictureChangeModel", name := "growth", desc := "(I)J" } : Jvm.MethodName)) ∈ gt := List.mem_filter.mpr ⟨List.mem_append_right _ (List.mem_append_right _ (List.mem_append_right _ (List.mem_append_right _ (List.mem_of_getElem? (i := 94) (by decide +kernel))))), rfl⟩
set_option maxRecDepth 20000 in
theorem k_815 : (Jvm.Cond.selects "PictureChangeModel" ({ cls := "PictureChangeModel", name := "growth", desc := "(I)J" } : Jvm.MethodName) ({ cls := "PictureChangeModel", name := "growth", desc := "(I)J" } : Jvm.MethodName)) ∈ gt := List.mem_filter.mpr ⟨List.mem_append_right _ (List.mem_append_right _ (List.mem_append_right _ (List.mem_append_right _ (List.mem_of_getElem? (i := 95) (by decide +kernel))))), rfl⟩
set_option maxRecDepth 20000 in
theorem k_816 : (Jvm.Cond.code ({ cls := "PictureChangeModel", name := "growth", desc := "(I)J" } : Jvm.MethodName) prog_9_method_35_code (10 : Nat) (Option.some Jvm.ClassFile.FieldType.long)) ∈ gt := List.mem_filter.mpr ⟨List.mem_append_right _ (List.mem_append_right _ (List.mem_append_right _ (List.mem_append_right _ (List.mem_of_getElem? (i := 96) rfl)))), rfl⟩
set_option maxRecDepth 20000 in
theorem k_817 : (Jvm.Cond.methodLink "PictureChangeLaw" (138 : Nat) ({ cls := "PictureChangeModel", name := "count", desc := "(I)I" } : Jvm.MethodName)) ∈ gt := List.mem_filter.mpr ⟨List.mem_append_right _ (List.mem_append_right _ (List.mem_append_right _ (List.mem_append_right _ (List.mem_of_getElem? (i := 97) (by decide +kernel))))), rfl⟩
set_option maxRecDepth 20000 in
theorem k_818 : (Jvm.Cond.instanceMethod ({ cls := "PictureChangeModel", name := "count", desc := "(I)I" } : Jvm.MethodName)) ∈ gt := List.mem_filter.mpr ⟨List.mem_append_right _ (List.mem_append_right _ (List.mem_append_right _ (List.mem_append_right _ (List.mem_of_getElem? (i := 98) (by decide +kernel))))), rfl⟩
set_option maxRecDepth 20000 in
theorem k_819 : (Jvm.Cond.selects "PictureChangeModel" ({ cls := "PictureChangeModel", name := "count", desc := "(I)I" } : Jvm.MethodName) ({ cls := "PictureChangeModel", name := "count", desc := "(I)I" } : Jvm.MethodName)) ∈ gt := List.mem_filter.mpr ⟨List.mem_append_right _ (List.mem_append_right _ (List.mem_append_right _ (List.mem_append_right _ (List.mem_of_getElem? (i := 99) (by decide +kernel))))), rfl⟩
set_option maxRecDepth 20000 in
theorem k_820 : (Jvm.Cond.code ({ cls := "PictureChangeModel", name := "count", desc := "(I)I" } : Jvm.MethodName) prog_9_method_36_code (2 : Nat) (Option.some Jvm.ClassFile.FieldType.int)) ∈ gt := List.mem_filter.mpr ⟨List.mem_append_right _ (List.mem_append_right _ (List.mem_append_right _ (List.mem_append_right _ (List.mem_of_getElem? (i := 100) rfl)))), rfl⟩
set_option maxRecDepth 20000 in
theorem k_821 : (Jvm.Cond.arrayClass Jvm.ClassFile.FieldType.long) ∈ gt := List.mem_filter.mpr ⟨List.mem_append_right _ (List.mem_append_right _ (List.mem_append_right _ (List.mem_append_right _ (List.mem_of_getElem? (i := 101) (by decide +kernel))))), rfl⟩
abbrev b_Law_law : ByteArray := code
def y_Law_law : MethodName := ⟨"PictureChangeLaw", "law", "([I)Z"⟩
def w_Law_law : List Cond := .code y_Law_law b_Law_law 8 (some .boolean) :: gt
theorem hdV_Law_law : y_Law_law.cls = "PictureChangeLaw" ∧ y_Law_law.cls ≠ "java/lang/invoke/MethodHandle" ∧ y_Law_law.cls ≠ "java/lang/invoke/VarHandle" ∧ (parseMethodDescriptor y_Law_law.desc).map (fun d => d.parameters.length) = some 1 := by decide +kernel
abbrev rm_Law_law : Room := { frames := 10, cells := 51, slots := 10978, locals := 175 }
abbrev b_Law_cell1 : ByteArray := method_2_code
def y_Law_cell1 : MethodName := ⟨"PictureChangeLaw", "cell", "([II)I"⟩
def w_Law_cell1 : List Cond := .code y_Law_cell1 b_Law_cell1 2 (some .int) :: gt
theorem hdV_Law_cell1 : y_Law_cell1.cls = "PictureChangeLaw" ∧ y_Law_cell1.cls ≠ "java/lang/invoke/MethodHandle" ∧ y_Law_cell1.cls ≠ "java/lang/invoke/VarHandle" ∧ (parseMethodDescriptor y_Law_cell1.desc).map (fun d => d.parameters.length) = some 2 := by decide +kernel
abbrev rm_Law_cell1 : Room := { frames := 0, cells := 0, slots := 0, locals := 0 }
