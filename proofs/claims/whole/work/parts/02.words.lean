/-! the tables' good words (they stay true as the tables warm), and the words on nest mates -/
def gt : List Cond := lw_tbl.filter goodWord
def isNestW : Cond → Bool
  | .fieldLinkNest .. => true
  | .methodLinkNest .. => true
  | _ => false
def nw_tbl : List Cond := lw_tbl.filter isNestW
theorem nw_ot (w : Cond) (h : w ∈ nw_tbl) : w.onTables = true := by
  have h1 := (List.mem_filter.mp h).2
  cases w <;> first | rfl | (exact absurd h1 (by simp [isNestW]))
theorem nw_warm (w : Cond) (h : w ∈ nw_tbl) {s U : State} (hW : s.WarmedH U.vm) (hZ : va_Nw w s) : va_Nw w U := by
  have h1 := (List.mem_filter.mp h).2
  cases w <;> first | (exact va_Nw.warmF hW hZ) | (exact va_Nw.warmM hW hZ) | (exact absurd h1 (by simp [isNestW]))
theorem gt_good {w : Cond} (h : w ∈ gt) : (w.onTables && w.keeps) = true ∨ ∃ ty, w = .arrayClass ty := good_of_word (List.mem_filter.mp h).2
theorem gI {ws : List Cond} {c : Cond} (hc : c ∈ gt) (hw : ws = c :: gt) : GoodIn gt ws := fun w h => by
  rw [hw] at h
  rcases List.mem_cons.mp h with rfl | h
  · exact ⟨hc, gt_good hc⟩
  · exact ⟨h, gt_good h⟩
theorem gV {own C : String} {idx : Nat} {y : MethodName} {ws : List Cond} {c : Cond} (h1 : Cond.methodLink own idx y ∈ gt) (h2 : Cond.instanceMethod y ∈ gt) (h3 : Cond.selects C y y ∈ gt) (h4 : Cond.initialized C ∈ gt) (hc : c ∈ gt) (hw : ws = c :: gt) : GoodIn gt (wsV own idx C y ws) := fun w h => by
  unfold wsV at h
  rcases List.mem_append.mp h with h | h
  · have e : w = .methodLink own idx y ∨ w = .instanceMethod y ∨ w = .selects C y y ∨ w = .initialized C := by simpa using h
    rcases e with rfl | rfl | rfl | rfl
    · exact ⟨h1, gt_good h1⟩
    · exact ⟨h2, gt_good h2⟩
    · exact ⟨h3, gt_good h3⟩
    · exact ⟨h4, gt_good h4⟩
  · exact gI hc hw w h
theorem gS {own : String} {idx : Nat} {y : MethodName} {ws : List Cond} {c : Cond} (h1 : Cond.methodLink own idx y ∈ gt) (h2 : Cond.static y ∈ gt) (h4 : Cond.initialized own ∈ gt) (hc : c ∈ gt) (hw : ws = c :: gt) : GoodIn gt (wsS own idx y ws) := fun w h => by
  unfold wsS at h
  rcases List.mem_append.mp h with h | h
  · have e : w = .methodLink own idx y ∨ w = .static y ∨ w = .initialized own := by simpa using h
    rcases e with rfl | rfl | rfl
    · exact ⟨h1, gt_good h1⟩
    · exact ⟨h2, gt_good h2⟩
    · exact ⟨h4, gt_good h4⟩
  · exact gI hc hw w h
set_option maxRecDepth 20000 in
theorem k_1 : (Jvm.Cond.initialized "PictureChange") ∈ gt := List.mem_filter.mpr ⟨List.mem_append_right _ (List.mem_append_left _ (List.mem_of_getElem? (i := 1) (by decide +kernel))), rfl⟩
set_option maxRecDepth 20000 in
theorem k_2 : (Jvm.Cond.initialized "java/lang/Math") ∈ gt := List.mem_filter.mpr ⟨List.mem_append_right _ (List.mem_append_left _ (List.mem_of_getElem? (i := 2) (by decide +kernel))), rfl⟩
set_option maxRecDepth 20000 in
theorem k_3 : (Jvm.Cond.initialized "PictureChange$Shift") ∈ gt := List.mem_filter.mpr ⟨List.mem_append_right _ (List.mem_append_left _ (List.mem_of_getElem? (i := 3) (by decide +kernel))), rfl⟩
set_option maxRecDepth 20000 in
theorem k_4 : (Jvm.Cond.initialized "PictureChange$Charts") ∈ gt := List.mem_filter.mpr ⟨List.mem_append_right _ (List.mem_append_left _ (List.mem_of_getElem? (i := 4) (by decide +kernel))), rfl⟩
set_option maxRecDepth 20000 in
theorem k_5 : (Jvm.Cond.initialized "PictureChange$Fraction") ∈ gt := List.mem_filter.mpr ⟨List.mem_append_right _ (List.mem_append_left _ (List.mem_of_getElem? (i := 5) (by decide +kernel))), rfl⟩
set_option maxRecDepth 20000 in
theorem k_6 : (Jvm.Cond.initialized "PictureChange$Noise") ∈ gt := List.mem_filter.mpr ⟨List.mem_append_right _ (List.mem_append_left _ (List.mem_of_getElem? (i := 6) (by decide +kernel))), rfl⟩
set_option maxRecDepth 20000 in
theorem k_7 : (Jvm.Cond.initialized "PictureChange$Spots") ∈ gt := List.mem_filter.mpr ⟨List.mem_append_right _ (List.mem_append_left _ (List.mem_of_getElem? (i := 7) (by decide +kernel))), rfl⟩
set_option maxRecDepth 20000 in
theorem k_8 : (Jvm.Cond.initialized "PictureChange$Days") ∈ gt := List.mem_filter.mpr ⟨List.mem_append_right _ (List.mem_append_left _ (List.mem_of_getElem? (i := 8) (by decide +kernel))), rfl⟩
set_option maxRecDepth 20000 in
theorem k_9 : (Jvm.Cond.initialized "PictureChangeModel") ∈ gt := List.mem_filter.mpr ⟨List.mem_append_right _ (List.mem_append_left _ (List.mem_of_getElem? (i := 9) (by decide +kernel))), rfl⟩
set_option maxRecDepth 20000 in
theorem k_13 : (Jvm.Cond.initialized "java/lang/IndexOutOfBoundsException") ∈ gt := List.mem_filter.mpr ⟨List.mem_append_right _ (List.mem_append_left _ (List.mem_of_getElem? (i := 13) (by decide +kernel))), rfl⟩
set_option maxRecDepth 20000 in
theorem k_14 : (Jvm.Cond.initialized "java/lang/IllegalArgumentException") ∈ gt := List.mem_filter.mpr ⟨List.mem_append_right _ (List.mem_append_left _ (List.mem_of_getElem? (i := 14) (by decide +kernel))), rfl⟩
set_option maxRecDepth 20000 in
theorem k_15 : (Jvm.Cond.initialized "java/lang/IllegalStateException") ∈ gt := List.mem_filter.mpr ⟨List.mem_append_right _ (List.mem_append_left _ (List.mem_of_getElem? (i := 15) (by decide +kernel))), rfl⟩
set_option maxRecDepth 20000 in
theorem k_21 : (Jvm.Cond.methodLink "PictureChange" (1 : Nat) ({ cls := "java/lang/Object", name := "<init>", desc := "()V" } : Jvm.MethodName)) ∈ gt := List.mem_filter.mpr ⟨List.mem_append_right _ (List.mem_append_left _ (List.mem_of_getElem? (i := 21) (by decide +kernel))), rfl⟩
set_option maxRecDepth 20000 in
theorem k_22 : (Jvm.Cond.instanceMethod ({ cls := "java/lang/Object", name := "<init>", desc := "()V" } : Jvm.MethodName)) ∈ gt := List.mem_filter.mpr ⟨List.mem_append_right _ (List.mem_append_left _ (List.mem_of_getElem? (i := 22) (by decide +kernel))), rfl⟩
set_option maxRecDepth 20000 in
theorem k_23 : (Jvm.Cond.code ({ cls := "java/lang/Object", name := "<init>", desc := "()V" } : Jvm.MethodName) object_method_1_code (1 : Nat) (Option.none : Option Jvm.ClassFile.FieldType)) ∈ gt := List.mem_filter.mpr ⟨List.mem_append_right _ (List.mem_append_left _ (List.mem_of_getElem? (i := 23) rfl)), rfl⟩
set_option maxRecDepth 20000 in
theorem k_24 : (Jvm.Cond.methodLink "PictureChange" (9 : Nat) ({ cls := "PictureChange", name := "within", desc := "(III)I" } : Jvm.MethodName)) ∈ gt := List.mem_filter.mpr ⟨List.mem_append_right _ (List.mem_append_left _ (List.mem_of_getElem? (i := 24) (by decide +kernel))), rfl⟩
set_option maxRecDepth 20000 in
theorem k_25 : (Jvm.Cond.static ({ cls := "PictureChange", name := "within", desc := "(III)I" } : Jvm.MethodName)) ∈ gt := List.mem_filter.mpr ⟨List.mem_append_right _ (List.mem_append_left _ (List.mem_of_getElem? (i := 25) (by decide +kernel))), rfl⟩
set_option maxRecDepth 20000 in
theorem k_26 : (Jvm.Cond.code ({ cls := "PictureChange", name := "within", desc := "(III)I" } : Jvm.MethodName) prog_1_method_19_code (3 : Nat) (Option.some Jvm.ClassFile.FieldType.int)) ∈ gt := List.mem_filter.mpr ⟨List.mem_append_right _ (List.mem_append_left _ (List.mem_of_getElem? (i := 26) rfl)), rfl⟩
set_option maxRecDepth 20000 in
theorem k_27 : (Jvm.Cond.methodLink "PictureChange" (223 : Nat) ({ cls := "java/lang/Math", name := "min", desc := "(II)I" } : Jvm.MethodName)) ∈ gt := List.mem_filter.mpr ⟨List.mem_append_right _ (List.mem_append_left _ (List.mem_of_getElem? (i := 27) (by decide +kernel))), rfl⟩
set_option maxRecDepth 20000 in
theorem k_28 : (Jvm.Cond.static ({ cls := "java/lang/Math", name := "min", desc := "(II)I" } : Jvm.MethodName)) ∈ gt := List.mem_filter.mpr ⟨List.mem_append_right _ (List.mem_append_left _ (List.mem_of_getElem? (i := 28) (by decide +kernel))), rfl⟩
set_option maxRecDepth 20000 in
theorem k_29 : (Jvm.Cond.code ({ cls := "java/lang/Math", name := "min", desc := "(II)I" } : Jvm.MethodName) prog_14_method_69_code (2 : Nat) (Option.some Jvm.ClassFile.FieldType.int)) ∈ gt := List.mem_filter.mpr ⟨List.mem_append_right _ (List.mem_append_left _ (List.mem_of_getElem? (i := 29) rfl)), rfl⟩
set_option maxRecDepth 20000 in
theorem k_30 : (Jvm.Cond.methodLink "PictureChange" (228 : Nat) ({ cls := "java/lang/Math", name := "max", desc := "(II)I" } : Jvm.MethodName)) ∈ gt := List.mem_filter.mpr ⟨List.mem_append_right _ (List.mem_append_left _ (List.mem_of_getElem? (i := 30) (by decide +kernel))), rfl⟩
set_option maxRecDepth 20000 in
theorem k_31 : (Jvm.Cond.static ({ cls := "java/lang/Math", name := "max", desc := "(II)I" } : Jvm.MethodName)) ∈ gt := List.mem_filter.mpr ⟨List.mem_append_right _ (List.mem_append_left _ (List.mem_of_getElem? (i := 31) (by decide +kernel))), rfl⟩
set_option maxRecDepth 20000 in
theorem k_32 : (Jvm.Cond.code ({ cls := "java/lang/Math", name := "max", desc := "(II)I" } : Jvm.MethodName) prog_14_method_65_code (2 : Nat) (Option.some Jvm.ClassFile.FieldType.int)) ∈ gt := List.mem_filter.mpr ⟨List.mem_append_right _ (List.mem_append_left _ (List.mem_of_getElem? (i := 32) rfl)), rfl⟩
set_option maxRecDepth 20000 in
theorem k_33 : (Jvm.Cond.classLink "PictureChange" (27 : Nat) "PictureChange$Shift") ∈ gt := List.mem_filter.mpr ⟨List.mem_append_right _ (List.mem_append_left _ (List.mem_of_getElem? (i := 33) (by decide +kernel))), rfl⟩
set_option maxRecDepth 20000 in
theorem k_34 : (Jvm.Cond.instantiable "PictureChange$Shift" (4 : Nat)) ∈ gt := List.mem_filter.mpr ⟨List.mem_append_right _ (List.mem_append_left _ (List.mem_of_getElem? (i := 34) (by decide +kernel))), rfl⟩
set_option maxRecDepth 20000 in
theorem k_35 : (Jvm.Cond.methodLinkNest "PictureChange" (29 : Nat) ({ cls := "PictureChange$Shift", name := "<init>", desc := "()V" } : Jvm.MethodName) "PictureChange") ∈ nw_tbl := List.mem_filter.mpr ⟨List.mem_append_right _ (List.mem_append_left _ (List.mem_of_getElem? (i := 35) (by decide +kernel))), rfl⟩
set_option maxRecDepth 20000 in
theorem k_36 : (Jvm.Cond.instanceMethod ({ cls := "PictureChange$Shift", name := "<init>", desc := "()V" } : Jvm.MethodName)) ∈ gt := List.mem_filter.mpr ⟨List.mem_append_right _ (List.mem_append_left _ (List.mem_of_getElem? (i := 36) (by decide +kernel))), rfl⟩
set_option maxRecDepth 20000 in
theorem k_37 : (Jvm.Cond.code ({ cls := "PictureChange$Shift", name := "<init>", desc := "()V" } : Jvm.MethodName) prog_6_method_1_code (1 : Nat) (Option.none : Option Jvm.ClassFile.FieldType)) ∈ gt := List.mem_filter.mpr ⟨List.mem_append_right _ (List.mem_append_left _ (List.mem_of_getElem? (i := 37) rfl)), rfl⟩
set_option maxRecDepth 20000 in
theorem k_38 : (Jvm.Cond.methodLink "PictureChange$Shift" (1 : Nat) ({ cls := "java/lang/Object", name := "<init>", desc := "()V" } : Jvm.MethodName)) ∈ gt := List.mem_filter.mpr ⟨List.mem_append_right _ (List.mem_append_left _ (List.mem_of_getElem? (i := 38) (by decide +kernel))), rfl⟩
set_option maxRecDepth 20000 in
theorem k_39 : (Jvm.Cond.fieldLink "PictureChange$Shift" (7 : Nat) "PictureChange$Shift" "across" "I") ∈ gt := List.mem_filter.mpr ⟨List.mem_append_right _ (List.mem_append_left _ (List.mem_of_getElem? (i := 39) (by decide +kernel))), rfl⟩
set_option maxRecDepth 20000 in
theorem k_40 : (Jvm.Cond.fieldLinkNest "PictureChange" (116 : Nat) "PictureChange$Shift" "across" "I" "PictureChange") ∈ nw_tbl := List.mem_filter.mpr ⟨List.mem_append_right _ (List.mem_append_left _ (List.mem_of_getElem? (i := 40) (by decide +kernel))), rfl⟩
set_option maxRecDepth 20000 in
theorem k_41 : (Jvm.Cond.fieldLink "PictureChange$Shift" (13 : Nat) "PictureChange$Shift" "down" "I") ∈ gt := List.mem_filter.mpr ⟨List.mem_append_right _ (List.mem_append_left _ (List.mem_of_getElem? (i := 41) (by decide +kernel))), rfl⟩
set_option maxRecDepth 20000 in
theorem k_42 : (Jvm.Cond.fieldLinkNest "PictureChange" (119 : Nat) "PictureChange$Shift" "down" "I" "PictureChange") ∈ nw_tbl := List.mem_filter.mpr ⟨List.mem_append_right _ (List.mem_append_left _ (List.mem_of_getElem? (i := 42) (by decide +kernel))), rfl⟩
set_option maxRecDepth 20000 in
theorem k_43 : (Jvm.Cond.fieldLink "PictureChange$Shift" (16 : Nat) "PictureChange$Shift" "differences" "I") ∈ gt := List.mem_filter.mpr ⟨List.mem_append_right _ (List.mem_append_left _ (List.mem_of_getElem? (i := 43) (by decide +kernel))), rfl⟩
set_option maxRecDepth 20000 in
theorem k_44 : (Jvm.Cond.fieldLinkNest "PictureChange" (110 : Nat) "PictureChange$Shift" "differences" "I" "PictureChange") ∈ nw_tbl := List.mem_filter.mpr ⟨List.mem_append_right _ (List.mem_append_left _ (List.mem_of_getElem? (i := 44) (by decide +kernel))), rfl⟩
set_option maxRecDepth 20000 in
theorem k_45 : (Jvm.Cond.fieldLink "PictureChange$Shift" (19 : Nat) "PictureChange$Shift" "cells" "I") ∈ gt := List.mem_filter.mpr ⟨List.mem_append_right _ (List.mem_append_left _ (List.mem_of_getElem? (i := 45) (by decide +kernel))), rfl⟩
set_option maxRecDepth 20000 in
theorem k_46 : (Jvm.Cond.lays "PictureChange$Shift" "PictureChange$Shift" "across" "I") ∈ gt := List.mem_filter.mpr ⟨List.mem_append_right _ (List.mem_append_left _ (List.mem_of_getElem? (i := 46) (by decide +kernel))), rfl⟩
set_option maxRecDepth 20000 in
theorem k_48 : (Jvm.Cond.lays "PictureChange$Shift" "PictureChange$Shift" "down" "I") ∈ gt := List.mem_filter.mpr ⟨List.mem_append_right _ (List.mem_append_left _ (List.mem_of_getElem? (i := 48) (by decide +kernel))), rfl⟩
set_option maxRecDepth 20000 in
theorem k_50 : (Jvm.Cond.lays "PictureChange$Shift" "PictureChange$Shift" "differences" "I") ∈ gt := List.mem_filter.mpr ⟨List.mem_append_right _ (List.mem_append_left _ (List.mem_of_getElem? (i := 50) (by decide +kernel))), rfl⟩
set_option maxRecDepth 20000 in
theorem k_52 : (Jvm.Cond.lays "PictureChange$Shift" "PictureChange$Shift" "cells" "I") ∈ gt := List.mem_filter.mpr ⟨List.mem_append_right _ (List.mem_append_left _ (List.mem_of_getElem? (i := 52) (by decide +kernel))), rfl⟩
set_option maxRecDepth 20000 in
theorem k_55 : (Jvm.Cond.arrayClass Jvm.ClassFile.FieldType.int) ∈ gt := List.mem_filter.mpr ⟨List.mem_append_right _ (List.mem_append_left _ (List.mem_of_getElem? (i := 55) (by decide +kernel))), rfl⟩
set_option maxRecDepth 20000 in
theorem k_56 : (Jvm.Cond.classLink "PictureChange" (37 : Nat) "PictureChange$Charts") ∈ gt := List.mem_filter.mpr ⟨List.mem_append_right _ (List.mem_append_left _ (List.mem_of_getElem? (i := 56) (by decide +kernel))), rfl⟩
set_option maxRecDepth 20000 in
theorem k_57 : (Jvm.Cond.instantiable "PictureChange$Charts" (3 : Nat)) ∈ gt := List.mem_filter.mpr ⟨List.mem_append_right _ (List.mem_append_left _ (List.mem_of_getElem? (i := 57) (by decide +kernel))), rfl⟩
set_option maxRecDepth 20000 in
theorem k_58 : (Jvm.Cond.methodLinkNest "PictureChange" (39 : Nat) ({ cls := "PictureChange$Charts", name := "<init>", desc := "()V" } : Jvm.MethodName) "PictureChange") ∈ nw_tbl := List.mem_filter.mpr ⟨List.mem_append_right _ (List.mem_append_left _ (List.mem_of_getElem? (i := 58) (by decide +kernel))), rfl⟩
set_option maxRecDepth 20000 in
theorem k_59 : (Jvm.Cond.instanceMethod ({ cls := "PictureChange$Charts", name := "<init>", desc := "()V" } : Jvm.MethodName)) ∈ gt := List.mem_filter.mpr ⟨List.mem_append_right _ (List.mem_append_left _ (List.mem_of_getElem? (i := 59) (by decide +kernel))), rfl⟩
set_option maxRecDepth 20000 in
theorem k_60 : (Jvm.Cond.code ({ cls := "PictureChange$Charts", name := "<init>", desc := "()V" } : Jvm.MethodName) prog_2_method_1_code (1 : Nat) (Option.none : Option Jvm.ClassFile.FieldType)) ∈ gt := List.mem_filter.mpr ⟨List.mem_append_right _ (List.mem_append_left _ (List.mem_of_getElem? (i := 60) rfl)), rfl⟩
set_option maxRecDepth 20000 in
theorem k_61 : (Jvm.Cond.methodLink "PictureChange$Charts" (3 : Nat) ({ cls := "java/lang/Object", name := "<init>", desc := "()V" } : Jvm.MethodName)) ∈ gt := List.mem_filter.mpr ⟨List.mem_append_right _ (List.mem_append_left _ (List.mem_of_getElem? (i := 61) (by decide +kernel))), rfl⟩
set_option maxRecDepth 20000 in
theorem k_62 : (Jvm.Cond.fieldLink "PictureChange$Charts" (11 : Nat) "PictureChange$Charts" "xs" "[I") ∈ gt := List.mem_filter.mpr ⟨List.mem_append_right _ (List.mem_append_left _ (List.mem_of_getElem? (i := 62) (by decide +kernel))), rfl⟩
set_option maxRecDepth 20000 in
theorem k_63 : (Jvm.Cond.fieldLinkNest "PictureChange" (247 : Nat) "PictureChange$Charts" "xs" "[I" "PictureChange") ∈ nw_tbl := List.mem_filter.mpr ⟨List.mem_append_right _ (List.mem_append_left _ (List.mem_of_getElem? (i := 63) (by decide +kernel))), rfl⟩
set_option maxRecDepth 20000 in
theorem k_64 : (Jvm.Cond.fieldLink "PictureChange$Charts" (15 : Nat) "PictureChange$Charts" "ys" "[I") ∈ gt := List.mem_filter.mpr ⟨List.mem_append_right _ (List.mem_append_left _ (List.mem_of_getElem? (i := 64) (by decide +kernel))), rfl⟩
set_option maxRecDepth 20000 in
theorem k_65 : (Jvm.Cond.fieldLinkNest "PictureChange" (250 : Nat) "PictureChange$Charts" "ys" "[I" "PictureChange") ∈ nw_tbl := List.mem_filter.mpr ⟨List.mem_append_right _ (List.mem_append_left _ (List.mem_of_getElem? (i := 65) (by decide +kernel))), rfl⟩
set_option maxRecDepth 20000 in
theorem k_66 : (Jvm.Cond.fieldLink "PictureChange$Charts" (18 : Nat) "PictureChange$Charts" "held" "I") ∈ gt := List.mem_filter.mpr ⟨List.mem_append_right _ (List.mem_append_left _ (List.mem_of_getElem? (i := 66) (by decide +kernel))), rfl⟩
set_option maxRecDepth 20000 in
theorem k_67 : (Jvm.Cond.fieldLinkNest "PictureChange" (217 : Nat) "PictureChange$Charts" "held" "I" "PictureChange") ∈ nw_tbl := List.mem_filter.mpr ⟨List.mem_append_right _ (List.mem_append_left _ (List.mem_of_getElem? (i := 67) (by decide +kernel))), rfl⟩
set_option maxRecDepth 20000 in
theorem k_68 : (Jvm.Cond.laysFinal "PictureChange$Charts" "PictureChange$Charts" "xs" "[I") ∈ gt := List.mem_filter.mpr ⟨List.mem_append_right _ (List.mem_append_left _ (List.mem_of_getElem? (i := 68) (by decide +kernel))), rfl⟩
set_option maxRecDepth 20000 in
theorem k_70 : (Jvm.Cond.laysFinal "PictureChange$Charts" "PictureChange$Charts" "ys" "[I") ∈ gt := List.mem_filter.mpr ⟨List.mem_append_right _ (List.mem_append_left _ (List.mem_of_getElem? (i := 70) (by decide +kernel))), rfl⟩
set_option maxRecDepth 20000 in
theorem k_72 : (Jvm.Cond.lays "PictureChange$Charts" "PictureChange$Charts" "held" "I") ∈ gt := List.mem_filter.mpr ⟨List.mem_append_right _ (List.mem_append_left _ (List.mem_of_getElem? (i := 72) (by decide +kernel))), rfl⟩
set_option maxRecDepth 20000 in
theorem k_75 : (Jvm.Cond.classLink "PictureChange" (44 : Nat) "PictureChange$Fraction") ∈ gt := List.mem_filter.mpr ⟨List.mem_append_right _ (List.mem_append_left _ (List.mem_of_getElem? (i := 75) (by decide +kernel))), rfl⟩
set_option maxRecDepth 20000 in
theorem k_76 : (Jvm.Cond.instantiable "PictureChange$Fraction" (2 : Nat)) ∈ gt := List.mem_filter.mpr ⟨List.mem_append_right _ (List.mem_append_left _ (List.mem_of_getElem? (i := 76) (by decide +kernel))), rfl⟩
set_option maxRecDepth 20000 in
theorem k_77 : (Jvm.Cond.methodLinkNest "PictureChange" (46 : Nat) ({ cls := "PictureChange$Fraction", name := "<init>", desc := "()V" } : Jvm.MethodName) "PictureChange") ∈ nw_tbl := List.mem_filter.mpr ⟨List.mem_append_right _ (List.mem_append_left _ (List.mem_of_getElem? (i := 77) (by decide +kernel))), rfl⟩
set_option maxRecDepth 20000 in
theorem k_78 : (Jvm.Cond.instanceMethod ({ cls := "PictureChange$Fraction", name := "<init>", desc := "()V" } : Jvm.MethodName)) ∈ gt := List.mem_filter.mpr ⟨List.mem_append_right _ (List.mem_append_left _ (List.mem_of_getElem? (i := 78) (by decide +kernel))), rfl⟩
set_option maxRecDepth 20000 in
theorem k_79 : (Jvm.Cond.code ({ cls := "PictureChange$Fraction", name := "<init>", desc := "()V" } : Jvm.MethodName) prog_4_method_1_code (1 : Nat) (Option.none : Option Jvm.ClassFile.FieldType)) ∈ gt := List.mem_filter.mpr ⟨List.mem_append_right _ (List.mem_append_left _ (List.mem_of_getElem? (i := 79) rfl)), rfl⟩
set_option maxRecDepth 20000 in
theorem k_80 : (Jvm.Cond.methodLink "PictureChange$Fraction" (1 : Nat) ({ cls := "java/lang/Object", name := "<init>", desc := "()V" } : Jvm.MethodName)) ∈ gt := List.mem_filter.mpr ⟨List.mem_append_right _ (List.mem_append_left _ (List.mem_of_getElem? (i := 80) (by decide +kernel))), rfl⟩
set_option maxRecDepth 20000 in
theorem k_81 : (Jvm.Cond.fieldLink "PictureChange$Fraction" (7 : Nat) "PictureChange$Fraction" "above" "J") ∈ gt := List.mem_filter.mpr ⟨List.mem_append_right _ (List.mem_append_left _ (List.mem_of_getElem? (i := 81) (by decide +kernel))), rfl⟩
set_option maxRecDepth 20000 in
theorem k_82 : (Jvm.Cond.fieldLinkNest "PictureChange" (143 : Nat) "PictureChange$Fraction" "above" "J" "PictureChange") ∈ nw_tbl := List.mem_filter.mpr ⟨List.mem_append_right _ (List.mem_append_left _ (List.mem_of_getElem? (i := 82) (by decide +kernel))), rfl⟩
set_option maxRecDepth 20000 in
theorem k_83 : (Jvm.Cond.fieldLink "PictureChange$Fraction" (13 : Nat) "PictureChange$Fraction" "below" "J") ∈ gt := List.mem_filter.mpr ⟨List.mem_append_right _ (List.mem_append_left _ (List.mem_of_getElem? (i := 83) (by decide +kernel))), rfl⟩
set_option maxRecDepth 20000 in
theorem k_84 : (Jvm.Cond.fieldLinkNest "PictureChange" (147 : Nat) "PictureChange$Fraction" "below" "J" "PictureChange") ∈ nw_tbl := List.mem_filter.mpr ⟨List.mem_append_right _ (List.mem_append_left _ (List.mem_of_getElem? (i := 84) (by decide +kernel))), rfl⟩
set_option maxRecDepth 20000 in
theorem k_85 : (Jvm.Cond.lays "PictureChange$Fraction" "PictureChange$Fraction" "above" "J") ∈ gt := List.mem_filter.mpr ⟨List.mem_append_right _ (List.mem_append_left _ (List.mem_of_getElem? (i := 85) (by decide +kernel))), rfl⟩
set_option maxRecDepth 20000 in
theorem k_87 : (Jvm.Cond.lays "PictureChange$Fraction" "PictureChange$Fraction" "below" "J") ∈ gt := List.mem_filter.mpr ⟨List.mem_append_right _ (List.mem_append_left _ (List.mem_of_getElem? (i := 87) (by decide +kernel))), rfl⟩
set_option maxRecDepth 20000 in
theorem k_90 : (Jvm.Cond.classLink "PictureChange" (51 : Nat) "PictureChange$Noise") ∈ gt := List.mem_filter.mpr ⟨List.mem_append_right _ (List.mem_append_left _ (List.mem_of_getElem? (i := 90) (by decide +kernel))), rfl⟩
set_option maxRecDepth 20000 in
theorem k_91 : (Jvm.Cond.instantiable "PictureChange$Noise" (5 : Nat)) ∈ gt := List.mem_filter.mpr ⟨List.mem_append_right _ (List.mem_append_left _ (List.mem_of_getElem? (i := 91) (by decide +kernel))), rfl⟩
set_option maxRecDepth 20000 in
theorem k_92 : (Jvm.Cond.methodLink "PictureChange" (53 : Nat) ({ cls := "PictureChange$Noise", name := "<init>", desc := "(I)V" } : Jvm.MethodName)) ∈ gt := List.mem_filter.mpr ⟨List.mem_append_right _ (List.mem_append_left _ (List.mem_of_getElem? (i := 92) (by decide +kernel))), rfl⟩
set_option maxRecDepth 20000 in
theorem k_93 : (Jvm.Cond.instanceMethod ({ cls := "PictureChange$Noise", name := "<init>", desc := "(I)V" } : Jvm.MethodName)) ∈ gt := List.mem_filter.mpr ⟨List.mem_append_right _ (List.mem_append_left _ (List.mem_of_getElem? (i := 93) (by decide +kernel))), rfl⟩
set_option maxRecDepth 20000 in
theorem k_94 : (Jvm.Cond.code ({ cls := "PictureChange$Noise", name := "<init>", desc := "(I)V" } : Jvm.MethodName) prog_5_method_1_code (3 : Nat) (Option.none : Option Jvm.ClassFile.FieldType)) ∈ gt := List.mem_filter.mpr ⟨List.mem_append_right _ (List.mem_append_left _ (List.mem_of_getElem? (i := 94) rfl)), rfl⟩
set_option maxRecDepth 20000 in
theorem k_95 : (Jvm.Cond.methodLink "PictureChange$Noise" (3 : Nat) ({ cls := "java/lang/Object", name := "<init>", desc := "()V" } : Jvm.MethodName)) ∈ gt := List.mem_filter.mpr ⟨List.mem_append_right _ (List.mem_append_left _ (List.mem_of_getElem? (i := 95) (by decide +kernel))), rfl⟩
set_option maxRecDepth 20000 in
theorem k_96 : (Jvm.Cond.fieldLink "PictureChange$Noise" (15 : Nat) "PictureChange$Noise" "least" "[I") ∈ gt := List.mem_filter.mpr ⟨List.mem_append_right _ (List.mem_append_left _ (List.mem_of_getElem? (i := 96) (by decide +kernel))), rfl⟩
set_option maxRecDepth 20000 in
theorem k_97 : (Jvm.Cond.fieldLink "PictureChange$Noise" (19 : Nat) "PictureChange$Noise" "greatest" "[I") ∈ gt := List.mem_filter.mpr ⟨List.mem_append_right _ (List.mem_append_left _ (List.mem_of_getElem? (i := 97) (by decide +kernel))), rfl⟩
set_option maxRecDepth 20000 in
theorem k_98 : (Jvm.Cond.fieldLink "PictureChange$Noise" (11 : Nat) "PictureChange$Noise" "floor" "I") ∈ gt := List.mem_filter.mpr ⟨List.mem_append_right _ (List.mem_append_left _ (List.mem_of_getElem? (i := 98) (by decide +kernel))), rfl⟩
set_option maxRecDepth 20000 in
theorem k_99 : (Jvm.Cond.fieldLinkNest "PictureChange" (157 : Nat) "PictureChange$Noise" "floor" "I" "PictureChange") ∈ nw_tbl := List.mem_filter.mpr ⟨List.mem_append_right _ (List.mem_append_left _ (List.mem_of_getElem? (i := 99) (by decide +kernel))), rfl⟩
set_option maxRecDepth 20000 in
theorem k_100 : (Jvm.Cond.fieldLink "PictureChange$Noise" (31 : Nat) "PictureChange$Noise" "told" "I") ∈ gt := List.mem_filter.mpr ⟨List.mem_append_right _ (List.mem_append_left _ (List.mem_of_getElem? (i := 100) (by decide +kernel))), rfl⟩
set_option maxRecDepth 20000 in
theorem k_101 : (Jvm.Cond.fieldLinkNest "PictureChange" (220 : Nat) "PictureChange$Noise" "told" "I" "PictureChange") ∈ nw_tbl := List.mem_filter.mpr ⟨List.mem_append_right _ (List.mem_append_left _ (List.mem_of_getElem? (i := 101) (by decide +kernel))), rfl⟩
set_option maxRecDepth 20000 in
theorem k_102 : (Jvm.Cond.fieldLink "PictureChange$Noise" (38 : Nat) "PictureChange$Noise" "beyondFloor" "I") ∈ gt := List.mem_filter.mpr ⟨List.mem_append_right _ (List.mem_append_left _ (List.mem_of_getElem? (i := 102) (by decide +kernel))), rfl⟩
set_option maxRecDepth 20000 in
theorem k_103 : (Jvm.Cond.fieldLinkNest "PictureChange" (192 : Nat) "PictureChange$Noise" "beyondFloor" "I" "PictureChange") ∈ nw_tbl := List.mem_filter.mpr ⟨List.mem_append_right _ (List.mem_append_left _ (List.mem_of_getElem? (i := 103) (by decide +kernel))), rfl⟩
set_option maxRecDepth 20000 in
theorem k_104 : (Jvm.Cond.laysFinal "PictureChange$Noise" "PictureChange$Noise" "least" "[I") ∈ gt := List.mem_filter.mpr ⟨List.mem_append_right _ (List.mem_append_left _ (List.mem_of_getElem? (i := 104) (by decide +kernel))), rfl⟩
set_option maxRecDepth 20000 in
theorem k_106 : (Jvm.Cond.laysFinal "PictureChange$Noise" "PictureChange$Noise" "greatest" "[I") ∈ gt := List.mem_filter.mpr ⟨List.mem_append_right _ (List.mem_append_left _ (List.mem_of_getElem? (i := 106) (by decide +kernel))), rfl⟩
set_option maxRecDepth 20000 in
theorem k_108 : (Jvm.Cond.lays "PictureChange$Noise" "PictureChange$Noise" "floor" "I") ∈ gt := List.mem_filter.mpr ⟨List.mem_append_right _ (List.mem_append_left _ (List.mem_of_getElem? (i := 108) (by decide +kernel))), rfl⟩
set_option maxRecDepth 20000 in
theorem k_110 : (Jvm.Cond.lays "PictureChange$Noise" "PictureChange$Noise" "told" "I") ∈ gt := List.mem_filter.mpr ⟨List.mem_append_right _ (List.mem_append_left _ (List.mem_of_getElem? (i := 110) (by decide +kernel))), rfl⟩
set_option maxRecDepth 20000 in
theorem k_112 : (Jvm.Cond.lays "PictureChange$Noise" "PictureChange$Noise" "beyondFloor" "I") ∈ gt := List.mem_filter.mpr ⟨List.mem_append_right _ (List.mem_append_left _ (List.mem_of_getElem? (i := 112) (by decide +kernel))), rfl⟩
set_option maxRecDepth 20000 in
theorem k_115 : (Jvm.Cond.classLink "PictureChange" (60 : Nat) "PictureChange$Spots") ∈ gt := List.mem_filter.mpr ⟨List.mem_append_right _ (List.mem_append_left _ (List.mem_of_getElem? (i := 115) (by decide +kernel))), rfl⟩
set_option maxRecDepth 20000 in
theorem k_116 : (Jvm.Cond.instantiable "PictureChange$Spots" (10 : Nat)) ∈ gt := List.mem_filter.mpr ⟨List.mem_append_right _ (List.mem_append_left _ (List.mem_of_getElem? (i := 116) (by decide +kernel))), rfl⟩
set_option maxRecDepth 20000 in
theorem k_117 : (Jvm.Cond.methodLink "PictureChange" (62 : Nat) ({ cls := "PictureChange$Spots", name := "<init>", desc := "(II)V" } : Jvm.MethodName)) ∈ gt := List.mem_filter.mpr ⟨List.mem_append_right _ (List.mem_append_left _ (List.mem_of_getElem? (i := 117) (by decide +kernel))), rfl⟩
set_option maxRecDepth 20000 in
theorem k_118 : (Jvm.Cond.instanceMethod ({ cls := "PictureChange$Spots", name := "<init>", desc := "(II)V" } : Jvm.MethodName)) ∈ gt := List.mem_filter.mpr ⟨List.mem_append_right _ (List.mem_append_left _ (List.mem_of_getElem? (i := 118) (by decide +kernel))), rfl⟩
set_option maxRecDepth 20000 in
theorem k_119 : (Jvm.Cond.code ({ cls := "PictureChange$Spots", name := "<init>", desc := "(II)V" } : Jvm.MethodName) prog_7_method_1_code (5 : Nat) (Option.none : Option Jvm.ClassFile.FieldType)) ∈ gt := List.mem_filter.mpr ⟨List.mem_append_right _ (List.mem_append_left _ (List.mem_of_getElem? (i := 119) rfl)), rfl⟩
set_option maxRecDepth 20000 in
theorem k_120 : (Jvm.Cond.methodLink "PictureChange$Spots" (3 : Nat) ({ cls := "java/lang/Object", name := "<init>", desc := "()V" } : Jvm.MethodName)) ∈ gt := List.mem_filter.mpr ⟨List.mem_append_right _ (List.mem_append_left _ (List.mem_of_getElem? (i := 120) (by decide +kernel))), rfl⟩
set_option maxRecDepth 20000 in
theorem k_121 : (Jvm.Cond.fieldLink "PictureChange$Spots" (9 : Nat) "PictureChange$Spots" "width" "I") ∈ gt := List.mem_filter.mpr ⟨List.mem_append_right _ (List.mem_append_left _ (List.mem_of_getElem? (i := 121) (by decide +kernel))), rfl⟩
set_option maxRecDepth 20000 in
theorem k_122 : (Jvm.Cond.fieldLink "PictureChange$Spots" (15 : Nat) "PictureChange$Spots" "height" "I") ∈ gt := List.mem_filter.mpr ⟨List.mem_append_right _ (List.mem_append_left _ (List.mem_of_getElem? (i := 122) (by decide +kernel))), rfl⟩
set_option maxRecDepth 20000 in
theorem k_123 : (Jvm.Cond.fieldLink "PictureChange$Spots" (18 : Nat) "PictureChange$Spots" "spotOf" "[I") ∈ gt := List.mem_filter.mpr ⟨List.mem_append_right _ (List.mem_append_left _ (List.mem_of_getElem? (i := 123) (by decide +kernel))), rfl⟩
set_option maxRecDepth 20000 in
theorem k_124 : (Jvm.Cond.fieldLink "PictureChange$Spots" (22 : Nat) "PictureChange$Spots" "changes" "[I") ∈ gt := List.mem_filter.mpr ⟨List.mem_append_right _ (List.mem_append_left _ (List.mem_of_getElem? (i := 124) (by decide +kernel))), rfl⟩
set_option maxRecDepth 20000 in
theorem k_125 : (Jvm.Cond.fieldLink "PictureChange$Spots" (25 : Nat) "PictureChange$Spots" "joinedX" "[I") ∈ gt := List.mem_filter.mpr ⟨List.mem_append_right _ (List.mem_append_left _ (List.mem_of_getElem? (i := 125) (by decide +kernel))), rfl⟩
set_option maxRecDepth 20000 in
theorem k_126 : (Jvm.Cond.fieldLink "PictureChange$Spots" (28 : Nat) "PictureChange$Spots" "joinedY" "[I") ∈ gt := List.mem_filter.mpr ⟨List.mem_append_right _ (List.mem_append_left _ (List.mem_of_getElem? (i := 126) (by decide +kernel))), rfl⟩
set_option maxRecDepth 20000 in
theorem k_127 : (Jvm.Cond.fieldLink "PictureChange$Spots" (54 : Nat) "PictureChange$Spots" "joined" "I") ∈ gt := List.mem_filter.mpr ⟨List.mem_append_right _ (List.mem_append_left _ (List.mem_of_getElem? (i := 127) (by decide +kernel))), rfl⟩
set_option maxRecDepth 20000 in
theorem k_128 : (Jvm.Cond.fieldLink "PictureChange$Spots" (31 : Nat) "PictureChange$Spots" "facts" "[I") ∈ gt := List.mem_filter.mpr ⟨List.mem_append_right _ (List.mem_append_left _ (List.mem_of_getElem? (i := 128) (by decide +kernel))), rfl⟩
set_option maxRecDepth 20000 in
theorem k_129 : (Jvm.Cond.fieldLink "PictureChange$Spots" (34 : Nat) "PictureChange$Spots" "found" "I") ∈ gt := List.mem_filter.mpr ⟨List.mem_append_right _ (List.mem_append_left _ (List.mem_of_getElem? (i := 129) (by decide +kernel))), rfl⟩
set_option maxRecDepth 20000 in
theorem k_130 : (Jvm.Cond.fieldLinkNest "PictureChange" (172 : Nat) "PictureChange$Spots" "found" "I" "PictureChange") ∈ nw_tbl := List.mem_filter.mpr ⟨List.mem_append_right _ (List.mem_append_left _ (List.mem_of_getElem? (i := 130) (by decide +kernel))), rfl⟩
set_option maxRecDepth 20000 in
theorem k_131 : (Jvm.Cond.fieldLink "PictureChange$Spots" (37 : Nat) "PictureChange$Spots" "marked" "I") ∈ gt := List.mem_filter.mpr ⟨List.mem_append_right _ (List.mem_append_left _ (List.mem_of_getElem? (i := 131) (by decide +kernel))), rfl⟩
set_option maxRecDepth 20000 in
theorem k_132 : (Jvm.Cond.fieldLinkNest "PictureChange" (204 : Nat) "PictureChange$Spots" "marked" "I" "PictureChange") ∈ nw_tbl := List.mem_filter.mpr ⟨List.mem_append_right _ (List.mem_append_left _ (List.mem_of_getElem? (i := 132) (by decide +kernel))), rfl⟩
set_option maxRecDepth 20000 in
theorem k_133 : (Jvm.Cond.laysFinal "PictureChange$Spots" "PictureChange$Spots" "width" "I") ∈ gt := List.mem_filter.mpr ⟨List.mem_append_right _ (List.mem_append_left _ (List.mem_of_getElem? (i := 133) (by decide +kernel))), rfl⟩
set_option maxRecDepth 20000 in
theorem k_135 : (Jvm.Cond.laysFinal "PictureChange$Spots" "PictureChange$Spots" "height" "I") ∈ gt := List.mem_filter.mpr ⟨List.mem_append_right _ (List.mem_append_left _ (List.mem_of_getElem? (i := 135) (by decide +kernel))), rfl⟩
set_option maxRecDepth 20000 in
theorem k_137 : (Jvm.Cond.laysFinal "PictureChange$Spots" "PictureChange$Spots" "spotOf" "[I") ∈ gt := List.mem_filter.mpr ⟨List.mem_append_right _ (List.mem_append_left _ (List.mem_of_getElem? (i := 137) (by decide +kernel))), rfl⟩
set_option maxRecDepth 20000 in
theorem k_139 : (Jvm.Cond.laysFinal "PictureChange$Spots" "PictureChange$Spots" "changes" "[I") ∈ gt := List.mem_filter.mpr ⟨List.mem_append_right _ (List.mem_append_left _ (List.mem_of_getElem? (i := 139) (by decide +kernel))), rfl⟩
set_option maxRecDepth 20000 in
theorem k_141 : (Jvm.Cond.laysFinal "PictureChange$Spots" "PictureChange$Spots" "joinedX" "[I") ∈ gt := List.mem_filter.mpr ⟨List.mem_append_right _ (List.mem_append_left _ (List.mem_of_getElem? (i := 141) (by decide +kernel))), rfl⟩
set_option maxRecDepth 20000 in
theorem k_143 : (Jvm.Cond.laysFinal "PictureChange$Spots" "PictureChange$Spots" "joinedY" "[I") ∈ gt := List.mem_filter.mpr ⟨List.mem_append_right _ (List.mem_append_left _ (List.mem_of_getElem? (i := 143) (by decide +kernel))), rfl⟩
set_option maxRecDepth 20000 in
theorem k_145 : (Jvm.Cond.lays "PictureChange$Spots" "PictureChange$Spots" "joined" "I") ∈ gt := List.mem_filter.mpr ⟨List.mem_append_right _ (List.mem_append_left _ (List.mem_of_getElem? (i := 145) (by decide +kernel))), rfl⟩
set_option maxRecDepth 20000 in
theorem k_147 : (Jvm.Cond.laysFinal "PictureChange$Spots" "PictureChange$Spots" "facts" "[I") ∈ gt := List.mem_filter.mpr ⟨List.mem_append_right _ (List.mem_append_left _ (List.mem_of_getElem? (i := 147) (by decide +kernel))), rfl⟩
set_option maxRecDepth 20000 in
theorem k_149 : (Jvm.Cond.lays "PictureChange$Spots" "PictureChange$Spots" "found" "I") ∈ gt := List.mem_filter.mpr ⟨List.mem_append_right _ (List.mem_append_left _ (List.mem_of_getElem? (i := 149) (by decide +kernel))), rfl⟩
set_option maxRecDepth 20000 in
theorem k_151 : (Jvm.Cond.lays "PictureChange$Spots" "PictureChange$Spots" "marked" "I") ∈ gt := List.mem_filter.mpr ⟨List.mem_append_right _ (List.mem_append_left _ (List.mem_of_getElem? (i := 151) (by decide +kernel))), rfl⟩
set_option maxRecDepth 20000 in
theorem k_154 : (Jvm.Cond.classLink "PictureChange" (69 : Nat) "PictureChange$Days") ∈ gt := List.mem_filter.mpr ⟨List.mem_append_right _ (List.mem_append_left _ (List.mem_of_getElem? (i := 154) (by decide +kernel))), rfl⟩
set_option maxRecDepth 20000 in
theorem k_155 : (Jvm.Cond.instantiable "PictureChange$Days" (3 : Nat)) ∈ gt := List.mem_filter.mpr ⟨List.mem_append_right _ (List.mem_append_left _ (List.mem_of_getElem? (i := 155) (by decide +kernel))), rfl⟩
set_option maxRecDepth 20000 in
theorem k_156 : (Jvm.Cond.methodLinkNest "PictureChange" (71 : Nat) ({ cls := "PictureChange$Days", name := "<init>", desc := "()V" } : Jvm.MethodName) "PictureChange") ∈ nw_tbl := List.mem_filter.mpr ⟨List.mem_append_right _ (List.mem_append_left _ (List.mem_of_getElem? (i := 156) (by decide +kernel))), rfl⟩
set_option maxRecDepth 20000 in
theorem k_157 : (Jvm.Cond.instanceMethod ({ cls := "PictureChange$Days", name := "<init>", desc := "()V" } : Jvm.MethodName)) ∈ gt := List.mem_filter.mpr ⟨List.mem_append_right _ (List.mem_append_left _ (List.mem_of_getElem? (i := 157) (by decide +kernel))), rfl⟩
set_option maxRecDepth 20000 in
theorem k_158 : (Jvm.Cond.code ({ cls := "PictureChange$Days", name := "<init>", desc := "()V" } : Jvm.MethodName) prog_3_method_1_code (1 : Nat) (Option.none : Option Jvm.ClassFile.FieldType)) ∈ gt := List.mem_filter.mpr ⟨List.mem_append_right _ (List.mem_append_left _ (List.mem_of_getElem? (i := 158) rfl)), rfl⟩
set_option maxRecDepth 20000 in
theorem k_159 : (Jvm.Cond.methodLink "PictureChange$Days" (3 : Nat) ({ cls := "java/lang/Object", name := "<init>", desc := "()V" } : Jvm.MethodName)) ∈ gt := List.mem_filter.mpr ⟨List.mem_append_right _ (List.mem_append_left _ (List.mem_of_getElem? (i := 159) (by decide +kernel))), rfl⟩
set_option maxRecDepth 20000 in
theorem k_160 : (Jvm.Cond.fieldLink "PictureChange$Days" (11 : Nat) "PictureChange$Days" "days" "[I") ∈ gt := List.mem_filter.mpr ⟨List.mem_append_right _ (List.mem_append_left _ (List.mem_of_getElem? (i := 160) (by decide +kernel))), rfl⟩
set_option maxRecDepth 20000 in
theorem k_161 : (Jvm.Cond.fieldLink "PictureChange$Days" (15 : Nat) "PictureChange$Days" "marks" "[I") ∈ gt := List.mem_filter.mpr ⟨List.mem_append_right _ (List.mem_append_left _ (List.mem_of_getElem? (i := 161) (by decide +kernel))), rfl⟩
set_option maxRecDepth 20000 in
theorem k_162 : (Jvm.Cond.fieldLink "PictureChange$Days" (18 : Nat) "PictureChange$Days" "kept" "I") ∈ gt := List.mem_filter.mpr ⟨List.mem_append_right _ (List.mem_append_left _ (List.mem_of_getElem? (i := 162) (by decide +kernel))), rfl⟩
set_option maxRecDepth 20000 in
theorem k_163 : (Jvm.Cond.fieldLinkNest "PictureChange" (210 : Nat) "PictureChange$Days" "kept" "I" "PictureChange") ∈ nw_tbl := List.mem_filter.mpr ⟨List.mem_append_right _ (List.mem_append_left _ (List.mem_of_getElem? (i := 163) (by decide +kernel))), rfl⟩
set_option maxRecDepth 20000 in
theorem k_164 : (Jvm.Cond.laysFinal "PictureChange$Days" "PictureChange$Days" "days" "[I") ∈ gt := List.mem_filter.mpr ⟨List.mem_append_right _ (List.mem_append_left _ (List.mem_of_getElem? (i := 164) (by decide +kernel))), rfl⟩
set_option maxRecDepth 20000 in
theorem k_166 : (Jvm.Cond.laysFinal "PictureChange$Days" "PictureChange$Days" "marks" "[I") ∈ gt := List.mem_filter.mpr ⟨List.mem_append_right _ (List.mem_append_left _ (List.mem_of_getElem? (i := 166) (by decide +kernel))), rfl⟩
set_option maxRecDepth 20000 in
theorem k_168 : (Jvm.Cond.lays "PictureChange$Days" "PictureChange$Days" "kept" "I") ∈ gt := List.mem_filter.mpr ⟨List.mem_append_right _ (List.mem_append_left _ (List.mem_of_getElem? (i := 168) (by decide +kernel))), rfl⟩
set_option maxRecDepth 20000 in
theorem k_171 : (Jvm.Cond.fieldLink "PictureChange" (13 : Nat) "PictureChange" "width" "I") ∈ gt := List.mem_filter.mpr ⟨List.mem_append_right _ (List.mem_append_left _ (List.mem_of_getElem? (i := 171) (by decide +kernel))), rfl⟩
set_option maxRecDepth 20000 in
theorem k_172 : (Jvm.Cond.fieldLink "PictureChange" (17 : Nat) "PictureChange" "height" "I") ∈ gt := List.mem_filter.mpr ⟨List.mem_append_right _ (List.mem_append_left _ (List.mem_of_getElem? (i := 172) (by decide +kernel))), rfl⟩
set_option maxRecDepth 20000 in
theorem k_173 : (Jvm.Cond.fieldLink "PictureChange" (20 : Nat) "PictureChange" "formerValues" "[I") ∈ gt := List.mem_filter.mpr ⟨List.mem_append_right _ (List.mem_append_left _ (List.mem_of_getElem? (i := 173) (by decide +kernel))), rfl⟩
set_option maxRecDepth 20000 in
theorem k_174 : (Jvm.Cond.fieldLink "PictureChange" (24 : Nat) "PictureChange" "laterValues" "[I") ∈ gt := List.mem_filter.mpr ⟨List.mem_append_right _ (List.mem_append_left _ (List.mem_of_getElem? (i := 174) (by decide +kernel))), rfl⟩
set_option maxRecDepth 20000 in
theorem k_175 : (Jvm.Cond.fieldLink "PictureChange" (30 : Nat) "PictureChange" "registered" "LPictureChange$Shift;") ∈ gt := List.mem_filter.mpr ⟨List.mem_append_right _ (List.mem_append_left _ (List.mem_of_getElem? (i := 175) (by decide +kernel))), rfl⟩
set_option maxRecDepth 20000 in
theorem k_176 : (Jvm.Cond.fieldLink "PictureChange" (34 : Nat) "PictureChange" "tried" "LPictureChange$Shift;") ∈ gt := List.mem_filter.mpr ⟨List.mem_append_right _ (List.mem_append_left _ (List.mem_of_getElem? (i := 176) (by decide +kernel))), rfl⟩
set_option maxRecDepth 20000 in
theorem k_177 : (Jvm.Cond.fieldLink "PictureChange" (40 : Nat) "PictureChange" "charts" "LPictureChange$Charts;") ∈ gt := List.mem_filter.mpr ⟨List.mem_append_right _ (List.mem_append_left _ (List.mem_of_getElem? (i := 177) (by decide +kernel))), rfl⟩
set_option maxRecDepth 20000 in
theorem k_178 : (Jvm.Cond.fieldLink "PictureChange" (47 : Nat) "PictureChange" "light" "LPictureChange$Fraction;") ∈ gt := List.mem_filter.mpr ⟨List.mem_append_right _ (List.mem_append_left _ (List.mem_of_getElem? (i := 178) (by decide +kernel))), rfl⟩
set_option maxRecDepth 20000 in
theorem k_179 : (Jvm.Cond.fieldLink "PictureChange" (56 : Nat) "PictureChange" "noise" "LPictureChange$Noise;") ∈ gt := List.mem_filter.mpr ⟨List.mem_append_right _ (List.mem_append_left _ (List.mem_of_getElem? (i := 179) (by decide +kernel))), rfl⟩
set_option maxRecDepth 20000 in
theorem k_180 : (Jvm.Cond.fieldLink "PictureChange" (65 : Nat) "PictureChange" "spots" "LPictureChange$Spots;") ∈ gt := List.mem_filter.mpr ⟨List.mem_append_right _ (List.mem_append_left _ (List.mem_of_getElem? (i := 180) (by decide +kernel))), rfl⟩
set_option maxRecDepth 20000 in
theorem k_181 : (Jvm.Cond.fieldLink "PictureChange" (72 : Nat) "PictureChange" "days" "LPictureChange$Days;") ∈ gt := List.mem_filter.mpr ⟨List.mem_append_right _ (List.mem_append_left _ (List.mem_of_getElem? (i := 181) (by decide +kernel))), rfl⟩
set_option maxRecDepth 20000 in
theorem k_182 : (Jvm.Cond.fieldLink "PictureChange" (76 : Nat) "PictureChange" "slope" "LPictureChange$Fraction;") ∈ gt := List.mem_filter.mpr ⟨List.mem_append_right _ (List.mem_append_left _ (List.mem_of_getElem? (i := 182) (by decide +kernel))), rfl⟩
set_option maxRecDepth 20000 in
theorem k_183 : (Jvm.Cond.laysFinal "PictureChange" "PictureChange" "width" "I") ∈ gt := List.mem_filter.mpr ⟨List.mem_append_right _ (List.mem_append_left _ (List.mem_of_getElem? (i := 183) (by decide +kernel))), rfl⟩
set_option maxRecDepth 20000 in
theorem k_185 : (Jvm.Cond.laysFinal "PictureChange" "PictureChange" "height" "I") ∈ gt := List.mem_filter.mpr ⟨List.mem_append_right _ (List.mem_append_left _ (List.mem_of_getElem? (i := 185) (by decide +kernel))), rfl⟩
set_option maxRecDepth 20000 in
theorem k_187 : (Jvm.Cond.laysFinal "PictureChange" "PictureChange" "formerValues" "[I") ∈ gt := List.mem_filter.mpr ⟨List.mem_append_right _ (List.mem_append_left _ (List.mem_of_getElem? (i := 187) (by decide +kernel))), rfl⟩
set_option maxRecDepth 20000 in
theorem k_189 : (Jvm.Cond.laysFinal "PictureChange" "PictureChange" "laterValues" "[I") ∈ gt := List.mem_filter.mpr ⟨List.mem_append_right _ (List.mem_append_left _ (List.mem_of_getElem? (i := 189) (by decide +kernel))), rfl⟩
set_option maxRecDepth 20000 in
theorem k_191 : (Jvm.Cond.laysFinal "PictureChange" "PictureChange" "registered" "LPictureChange$Shift;") ∈ gt := List.mem_filter.mpr ⟨List.mem_append_right _ (List.mem_append_left _ (List.mem_of_getElem? (i := 191) (by decide +kernel))), rfl⟩
set_option maxRecDepth 20000 in
theorem k_193 : (Jvm.Cond.laysFinal "PictureChange" "PictureChange" "tried" "LPictureChange$Shift;") ∈ gt := List.mem_filter.mpr ⟨List.mem_append_right _ (List.mem_append_left _ (List.mem_of_getElem? (i := 193) (by decide +kernel))), rfl⟩
set_option maxRecDepth 20000 in
theorem k_195 : (Jvm.Cond.laysFinal "PictureChange" "PictureChange" "charts" "LPictureChange$Charts;") ∈ gt := List.mem_filter.mpr ⟨List.mem_append_right _ (List.mem_append_left _ (List.mem_of_getElem? (i := 195) (by decide +kernel))), rfl⟩
set_option maxRecDepth 20000 in
theorem k_197 : (Jvm.Cond.laysFinal "PictureChange" "PictureChange" "light" "LPictureChange$Fraction;") ∈ gt := List.mem_filter.mpr ⟨List.mem_append_right _ (List.mem_append_left _ (List.mem_of_getElem? (i := 197) (by decide +kernel))), rfl⟩
set_option maxRecDepth 20000 in
theorem k_199 : (Jvm.Cond.laysFinal "PictureChange" "PictureChange" "noise" "LPictureChange$Noise;") ∈ gt := List.mem_filter.mpr ⟨List.mem_append_right _ (List.mem_append_left _ (List.mem_of_getElem? (i := 199) (by decide +kernel))), rfl⟩
set_option maxRecDepth 20000 in
theorem k_201 : (Jvm.Cond.laysFinal "PictureChange" "PictureChange" "spots" "LPictureChange$Spots;") ∈ gt := List.mem_filter.mpr ⟨List.mem_append_right _ (List.mem_append_left _ (List.mem_of_getElem? (i := 201) (by decide +kernel))), rfl⟩
set_option maxRecDepth 20000 in
theorem k_203 : (Jvm.Cond.laysFinal "PictureChange" "PictureChange" "days" "LPictureChange$Days;") ∈ gt := List.mem_filter.mpr ⟨List.mem_append_right _ (List.mem_append_left _ (List.mem_of_getElem? (i := 203) (by decide +kernel))), rfl⟩
set_option maxRecDepth 20000 in
theorem k_205 : (Jvm.Cond.laysFinal "PictureChange" "PictureChange" "slope" "LPictureChange$Fraction;") ∈ gt := List.mem_filter.mpr ⟨List.mem_append_right _ (List.mem_append_left _ (List.mem_of_getElem? (i := 205) (by decide +kernel))), rfl⟩
set_option maxRecDepth 20000 in
theorem k_212 : (Jvm.Cond.methodLink "PictureChange" (140 : Nat) ({ cls := "PictureChange", name := "weighLight", desc := "()V" } : Jvm.MethodName)) ∈ gt := List.mem_filter.mpr ⟨List.mem_append_right _ (List.mem_append_left _ (List.mem_of_getElem? (i := 212) (by decide +kernel))), rfl⟩
set_option maxRecDepth 20000 in
theorem k_214 : (Jvm.Cond.instanceMethod ({ cls := "PictureChange", name := "weighLight", desc := "()V" } : Jvm.MethodName)) ∈ gt := List.mem_filter.mpr ⟨List.mem_append_right _ (List.mem_append_left _ (List.mem_of_getElem? (i := 214) (by decide +kernel))), rfl⟩
set_option maxRecDepth 20000 in
theorem k_215 : (Jvm.Cond.code ({ cls := "PictureChange", name := "weighLight", desc := "()V" } : Jvm.MethodName) prog_1_method_26_code (11 : Nat) (Option.none : Option Jvm.ClassFile.FieldType)) ∈ gt := List.mem_filter.mpr ⟨List.mem_append_right _ (List.mem_append_left _ (List.mem_of_getElem? (i := 215) rfl)), rfl⟩
set_option maxRecDepth 20000 in
theorem k_216 : (Jvm.Cond.methodLink "PictureChange" (231 : Nat) ({ cls := "PictureChange", name := "hasCell", desc := "(II)Z" } : Jvm.MethodName)) ∈ gt := List.mem_filter.mpr ⟨List.mem_append_right _ (List.mem_append_left _ (List.mem_of_getElem? (i := 216) (by decide +kernel))), rfl⟩
set_option maxRecDepth 20000 in
theorem k_218 : (Jvm.Cond.instanceMethod ({ cls := "PictureChange", name := "hasCell", desc := "(II)Z" } : Jvm.MethodName)) ∈ gt := List.mem_filter.mpr ⟨List.mem_append_right _ (List.mem_append_left _ (List.mem_of_getElem? (i := 218) (by decide +kernel))), rfl⟩
set_option maxRecDepth 20000 in
theorem k_219 : (Jvm.Cond.code ({ cls := "PictureChange", name := "hasCell", desc := "(II)Z" } : Jvm.MethodName) prog_1_method_20_code (3 : Nat) (Option.some Jvm.ClassFile.FieldType.boolean)) ∈ gt := List.mem_filter.mpr ⟨List.mem_append_right _ (List.mem_append_left _ (List.mem_of_getElem? (i := 219) rfl)), rfl⟩
set_option maxRecDepth 20000 in
theorem k_220 : (Jvm.Cond.methodLink "PictureChange" (85 : Nat) ({ cls := "PictureChange", name := "placeOf", desc := "(II)I" } : Jvm.MethodName)) ∈ gt := List.mem_filter.mpr ⟨List.mem_append_right _ (List.mem_append_left _ (List.mem_of_getElem? (i := 220) (by decide +kernel))), rfl⟩
set_option maxRecDepth 20000 in
theorem k_222 : (Jvm.Cond.instanceMethod ({ cls := "PictureChange", name := "placeOf", desc := "(II)I" } : Jvm.MethodName)) ∈ gt := List.mem_filter.mpr ⟨List.mem_append_right _ (List.mem_append_left _ (List.mem_of_getElem? (i := 222) (by decide +kernel))), rfl⟩
set_option maxRecDepth 20000 in
theorem k_223 : (Jvm.Cond.code ({ cls := "PictureChange", name := "placeOf", desc := "(II)I" } : Jvm.MethodName) prog_1_method_21_code (3 : Nat) (Option.some Jvm.ClassFile.FieldType.int)) ∈ gt := List.mem_filter.mpr ⟨List.mem_append_right _ (List.mem_append_left _ (List.mem_of_getElem? (i := 223) rfl)), rfl⟩
set_option maxRecDepth 20000 in
theorem k_224 : (Jvm.Cond.methodLink "PictureChange" (253 : Nat) ({ cls := "PictureChange$Fraction", name := "become", desc := "(JJ)V" } : Jvm.MethodName)) ∈ gt := List.mem_filter.mpr ⟨List.mem_append_right _ (List.mem_append_left _ (List.mem_of_getElem? (i := 224) (by decide +kernel))), rfl⟩
set_option maxRecDepth 20000 in
theorem k_225 : (Jvm.Cond.instanceMethod ({ cls := "PictureChange$Fraction", name := "become", desc := "(JJ)V" } : Jvm.MethodName)) ∈ gt := List.mem_filter.mpr ⟨List.mem_append_right _ (List.mem_append_left _ (List.mem_of_getElem? (i := 225) (by decide +kernel))), rfl⟩
set_option maxRecDepth 20000 in
theorem k_226 : (Jvm.Cond.selects "PictureChange$Fraction" ({ cls := "PictureChange$Fraction", name := "become", desc := "(JJ)V" } : Jvm.MethodName) ({ cls := "PictureChange$Fraction", name := "become", desc := "(JJ)V" } : Jvm.MethodName)) ∈ gt := List.mem_filter.mpr ⟨List.mem_append_right _ (List.mem_append_left _ (List.mem_of_getElem? (i := 226) (by decide +kernel))), rfl⟩
set_option maxRecDepth 20000 in
theorem k_227 : (Jvm.Cond.code ({ cls := "PictureChange$Fraction", name := "become", desc := "(JJ)V" } : Jvm.MethodName) prog_4_method_2_code (7 : Nat) (Option.none : Option Jvm.ClassFile.FieldType)) ∈ gt := List.mem_filter.mpr ⟨List.mem_append_right _ (List.mem_append_left _ (List.mem_of_getElem? (i := 227) rfl)), rfl⟩
set_option maxRecDepth 20000 in
theorem k_228 : (Jvm.Cond.methodLink "PictureChange$Fraction" (16 : Nat) ({ cls := "java/lang/Math", name := "abs", desc := "(J)J" } : Jvm.MethodName)) ∈ gt := List.mem_filter.mpr ⟨List.mem_append_right _ (List.mem_append_left _ (List.mem_of_getElem? (i := 228) (by decide +kernel))), rfl⟩
set_option maxRecDepth 20000 in
theorem k_229 : (Jvm.Cond.static ({ cls := "java/lang/Math", name := "abs", desc := "(J)J" } : Jvm.MethodName)) ∈ gt := List.mem_filter.mpr ⟨List.mem_append_right _ (List.mem_append_left _ (List.mem_of_getElem? (i := 229) (by decide +kernel))), rfl⟩
set_option maxRecDepth 20000 in
theorem k_230 : (Jvm.Cond.code ({ cls := "java/lang/Math", name := "abs", desc := "(J)J" } : Jvm.MethodName) prog_14_method_61_code (2 : Nat) (Option.some Jvm.ClassFile.FieldType.long)) ∈ gt := List.mem_filter.mpr ⟨List.mem_append_right _ (List.mem_append_left _ (List.mem_of_getElem? (i := 230) rfl)), rfl⟩
set_option maxRecDepth 20000 in
theorem k_231 : (Jvm.Cond.methodLink "PictureChange$Fraction" (22 : Nat) ({ cls := "PictureChange$Fraction", name := "commonOf", desc := "(JJ)J" } : Jvm.MethodName)) ∈ gt := List.mem_filter.mpr ⟨List.mem_append_right _ (List.mem_append_left _ (List.mem_of_getElem? (i := 231) (by decide +kernel))), rfl⟩
set_option maxRecDepth 20000 in
theorem k_232 : (Jvm.Cond.static ({ cls := "PictureChange$Fraction", name := "commonOf", desc := "(JJ)J" } : Jvm.MethodName)) ∈ gt := List.mem_filter.mpr ⟨List.mem_append_right _ (List.mem_append_left _ (List.mem_of_getElem? (i := 232) (by decide +kernel))), rfl⟩
set_option maxRecDepth 20000 in
theorem k_233 : (Jvm.Cond.code ({ cls := "PictureChange$Fraction", name := "commonOf", desc := "(JJ)J" } : Jvm.MethodName) prog_4_method_4_code (11 : Nat) (Option.some Jvm.ClassFile.FieldType.long)) ∈ gt := List.mem_filter.mpr ⟨List.mem_append_right _ (List.mem_append_left _ (List.mem_of_getElem? (i := 233) rfl)), rfl⟩
set_option maxRecDepth 20000 in
theorem k_234 : (Jvm.Cond.methodLink "PictureChange" (163 : Nat) ({ cls := "PictureChange$Spots", name := "clear", desc := "()V" } : Jvm.MethodName)) ∈ gt := List.mem_filter.mpr ⟨List.mem_append_right _ (List.mem_append_left _ (List.mem_of_getElem? (i := 234) (by decide +kernel))), rfl⟩
set_option maxRecDepth 20000 in
theorem k_235 : (Jvm.Cond.instanceMethod ({ cls := "PictureChange$Spots", name := "clear", desc := "()V" } : Jvm.MethodName)) ∈ gt := List.mem_filter.mpr ⟨List.mem_append_right _ (List.mem_append_left _ (List.mem_of_getElem? (i := 235) (by decide +kernel))), rfl⟩
set_option maxRecDepth 20000 in
theorem k_236 : (Jvm.Cond.selects "PictureChange$Spots" ({ cls := "PictureChange$Spots", name := "clear", desc := "()V" } : Jvm.MethodName) ({ cls := "PictureChange$Spots", name := "clear", desc := "()V" } : Jvm.MethodName)) ∈ gt := List.mem_filter.mpr ⟨List.mem_append_right _ (List.mem_append_left _ (List.mem_of_getElem? (i := 236) (by decide +kernel))), rfl⟩
set_option maxRecDepth 20000 in
theorem k_237 : (Jvm.Cond.code ({ cls := "PictureChange$Spots", name := "clear", desc := "()V" } : Jvm.MethodName) prog_7_method_2_code (2 : Nat) (Option.none : Option Jvm.ClassFile.FieldType)) ∈ gt := List.mem_filter.mpr ⟨List.mem_append_right _ (List.mem_append_left _ (List.mem_of_getElem? (i := 237) rfl)), rfl⟩
set_option maxRecDepth 20000 in
theorem k_238 : (Jvm.Cond.methodLink "PictureChange" (160 : Nat) ({ cls := "PictureChange", name := "changeAt", desc := "(II)I" } : Jvm.MethodName)) ∈ gt := List.mem_filter.mpr ⟨List.mem_append_right _ (List.mem_append_left _ (List.mem_of_getElem? (i := 238) (by decide +kernel))), rfl⟩
set_option maxRecDepth 20000 in
theorem k_240 : (Jvm.Cond.instanceMethod ({ cls := "PictureChange", name := "changeAt", desc := "(II)I" } : Jvm.MethodName)) ∈ gt := List.mem_filter.mpr ⟨List.mem_append_right _ (List.mem_append_right _ (List.mem_append_left _ (List.mem_of_getElem? (i := 0) (by decide +kernel)))), rfl⟩
set_option maxRecDepth 20000 in
theorem k_241 : (Jvm.Cond.code ({ cls := "PictureChange", name := "changeAt", desc := "(II)I" } : Jvm.MethodName) prog_1_method_27_code (6 : Nat) (Option.some Jvm.ClassFile.FieldType.int)) ∈ gt := List.mem_filter.mpr ⟨List.mem_append_right _ (List.mem_append_right _ (List.mem_append_left _ (List.mem_of_getElem? (i := 1) rfl))), rfl⟩
set_option maxRecDepth 20000 in
theorem k_242 : (Jvm.Cond.methodLink "PictureChange" (256 : Nat) ({ cls := "PictureChange$Fraction", name := "timesRounded", desc := "(I)I" } : Jvm.MethodName)) ∈ gt := List.mem_filter.mpr ⟨List.mem_append_right _ (List.mem_append_right _ (List.mem_append_left _ (List.mem_of_getElem? (i := 2) (by decide +kernel)))), rfl⟩
set_option maxRecDepth 20000 in
theorem k_243 : (Jvm.Cond.instanceMethod ({ cls := "PictureChange$Fraction", name := "timesRounded", desc := "(I)I" } : Jvm.MethodName)) ∈ gt := List.mem_filter.mpr ⟨List.mem_append_right _ (List.mem_append_right _ (List.mem_append_left _ (List.mem_of_getElem? (i := 3) (by decide +kernel)))), rfl⟩
set_option maxRecDepth 20000 in
theorem k_244 : (Jvm.Cond.selects "PictureChange$Fraction" ({ cls := "PictureChange$Fraction", name := "timesRounded", desc := "(I)I" } : Jvm.MethodName) ({ cls := "PictureChange$Fraction", name := "timesRounded", desc := "(I)I" } : Jvm.MethodName)) ∈ gt := List.mem_filter.mpr ⟨List.mem_append_right _ (List.mem_append_right _ (List.mem_append_left _ (List.mem_of_getElem? (i := 4) (by decide +kernel)))), rfl⟩
set_option maxRecDepth 20000 in
theorem k_245 : (Jvm.Cond.code ({ cls := "PictureChange$Fraction", name := "timesRounded", desc := "(I)I" } : Jvm.MethodName) prog_4_method_3_code (2 : Nat) (Option.some Jvm.ClassFile.FieldType.int)) ∈ gt := List.mem_filter.mpr ⟨List.mem_append_right _ (List.mem_append_right _ (List.mem_append_left _ (List.mem_of_getElem? (i := 5) rfl))), rfl⟩
set_option maxRecDepth 20000 in
theorem k_246 : (Jvm.Cond.constantLong "PictureChange$Fraction" (26 : Nat) (2 : Int64)) ∈ gt := List.mem_filter.mpr ⟨List.mem_append_right _ (List.mem_append_right _ (List.mem_append_left _ (List.mem_of_getElem? (i := 6) (by decide +kernel)))), rfl⟩
set_option maxRecDepth 20000 in
theorem k_247 : (Jvm.Cond.methodLink "PictureChange" (241 : Nat) ({ cls := "java/lang/Math", name := "abs", desc := "(I)I" } : Jvm.MethodName)) ∈ gt := List.mem_filter.mpr ⟨List.mem_append_right _ (List.mem_append_right _ (List.mem_append_left _ (List.mem_of_getElem? (i := 7) (by decide +kernel)))), rfl⟩
set_option maxRecDepth 20000 in
theorem k_248 : (Jvm.Cond.static ({ cls := "java/lang/Math", name := "abs", desc := "(I)I" } : Jvm.MethodName)) ∈ gt := List.mem_filter.mpr ⟨List.mem_append_right _ (List.mem_append_right _ (List.mem_append_left _ (List.mem_of_getElem? (i := 8) (by decide +kernel)))), rfl⟩
set_option maxRecDepth 20000 in
theorem k_249 : (Jvm.Cond.code ({ cls := "java/lang/Math", name := "abs", desc := "(I)I" } : Jvm.MethodName) prog_14_method_59_code (1 : Nat) (Option.some Jvm.ClassFile.FieldType.int)) ∈ gt := List.mem_filter.mpr ⟨List.mem_append_right _ (List.mem_append_right _ (List.mem_append_left _ (List.mem_of_getElem? (i := 9) rfl))), rfl⟩
set_option maxRecDepth 20000 in
theorem k_250 : (Jvm.Cond.methodLink "PictureChange" (154 : Nat) ({ cls := "PictureChange", name := "boundAt", desc := "(II)I" } : Jvm.MethodName)) ∈ gt := List.mem_filter.mpr ⟨List.mem_append_right _ (List.mem_append_right _ (List.mem_append_left _ (List.mem_of_getElem? (i := 10) (by decide +kernel)))), rfl⟩
set_option maxRecDepth 20000 in
theorem k_252 : (Jvm.Cond.instanceMethod ({ cls := "PictureChange", name := "boundAt", desc := "(II)I" } : Jvm.MethodName)) ∈ gt := List.mem_filter.mpr ⟨List.mem_append_right _ (List.mem_append_right _ (List.mem_append_left _ (List.mem_of_getElem? (i := 12) (by decide +kernel)))), rfl⟩
set_option maxRecDepth 20000 in
theorem k_253 : (Jvm.Cond.code ({ cls := "PictureChange", name := "boundAt", desc := "(II)I" } : Jvm.MethodName) prog_1_method_28_code (4 : Nat) (Option.some Jvm.ClassFile.FieldType.int)) ∈ gt := List.mem_filter.mpr ⟨List.mem_append_right _ (List.mem_append_right _ (List.mem_append_left _ (List.mem_of_getElem? (i := 13) rfl))), rfl⟩
set_option maxRecDepth 20000 in
theorem k_254 : (Jvm.Cond.methodLink "PictureChange" (259 : Nat) ({ cls := "PictureChange$Noise", name := "boundOf", desc := "(II)I" } : Jvm.MethodName)) ∈ gt := List.mem_filter.mpr ⟨List.mem_append_right _ (List.mem_append_right _ (List.mem_append_left _ (List.mem_of_getElem? (i := 14) (by decide +kernel)))), rfl⟩
set_option maxRecDepth 20000 in
theorem k_255 : (Jvm.Cond.instanceMethod ({ cls := "PictureChange$Noise", name := "boundOf", desc := "(II)I" } : Jvm.MethodName)) ∈ gt := List.mem_filter.mpr ⟨List.mem_append_right _ (List.mem_append_right _ (List.mem_append_left _ (List.mem_of_getElem? (i := 15) (by decide +kernel)))), rfl⟩
set_option maxRecDepth 20000 in
theorem k_256 : (Jvm.Cond.selects "PictureChange$Noise" ({ cls := "PictureChange$Noise", name := "boundOf", desc := "(II)I" } : Jvm.MethodName) ({ cls := "PictureChange$Noise", name := "boundOf", desc := "(II)I" } : Jvm.MethodName)) ∈ gt := List.mem_filter.mpr ⟨List.mem_append_right _ (List.mem_append_right _ (List.mem_append_left _ (List.mem_of_getElem? (i := 16) (by decide +kernel)))), rfl⟩
set_option maxRecDepth 20000 in
theorem k_257 : (Jvm.Cond.code ({ cls := "PictureChange$Noise", name := "boundOf", desc := "(II)I" } : Jvm.MethodName) prog_5_method_3_code (4 : Nat) (Option.some Jvm.ClassFile.FieldType.int)) ∈ gt := List.mem_filter.mpr ⟨List.mem_append_right _ (List.mem_append_right _ (List.mem_append_left _ (List.mem_of_getElem? (i := 17) rfl))), rfl⟩
set_option maxRecDepth 20000 in
theorem k_258 : (Jvm.Cond.methodLink "PictureChange$Noise" (34 : Nat) ({ cls := "java/lang/Math", name := "abs", desc := "(I)I" } : Jvm.MethodName)) ∈ gt := List.mem_filter.mpr ⟨List.mem_append_right _ (List.mem_append_right _ (List.mem_append_left _ (List.mem_of_getElem? (i := 18) (by decide +kernel)))), rfl⟩
set_option maxRecDepth 20000 in
theorem k_259 : (Jvm.Cond.methodLink "PictureChange$Noise" (28 : Nat) ({ cls := "java/lang/Math", name := "max", desc := "(II)I" } : Jvm.MethodName)) ∈ gt := List.mem_filter.mpr ⟨List.mem_append_right _ (List.mem_append_right _ (List.mem_append_left _ (List.mem_of_getElem? (i := 19) (by decide +kernel)))), rfl⟩
set_option maxRecDepth 20000 in
theorem k_260 : (Jvm.Cond.methodLink "PictureChange" (166 : Nat) ({ cls := "PictureChange$Spots", name := "mark", desc := "(III)V" } : Jvm.MethodName)) ∈ gt := List.mem_filter.mpr ⟨List.mem_append_right _ (List.mem_append_right _ (List.mem_append_left _ (List.mem_of_getElem? (i := 20) (by decide +kernel)))), rfl⟩
set_option maxRecDepth 20000 in
theorem k_261 : (Jvm.Cond.instanceMethod ({ cls := "PictureChange$Spots", name := "mark", desc := "(III)V" } : Jvm.MethodName)) ∈ gt := List.mem_filter.mpr ⟨List.mem_append_right _ (List.mem_append_right _ (List.mem_append_left _ (List.mem_of_getElem? (i := 21) (by decide +kernel)))), rfl⟩
set_option maxRecDepth 20000 in
theorem k_262 : (Jvm.Cond.selects "PictureChange$Spots" ({ cls := "PictureChange$Spots", name := "mark", desc := "(III)V" } : Jvm.MethodName) ({ cls := "PictureChange$Spots", name := "mark", desc := "(III)V" } : Jvm.MethodName)) ∈ gt := List.mem_filter.mpr ⟨List.mem_append_right _ (List.mem_append_right _ (List.mem_append_left _ (List.mem_of_getElem? (i := 22) (by decide +kernel)))), rfl⟩
set_option maxRecDepth 20000 in
theorem k_263 : (Jvm.Cond.code ({ cls := "PictureChange$Spots", name := "mark", desc := "(III)V" } : Jvm.MethodName) prog_7_method_3_code (4 : Nat) (Option.none : Option Jvm.ClassFile.FieldType)) ∈ gt := List.mem_filter.mpr ⟨List.mem_append_right _ (List.mem_append_right _ (List.mem_append_left _ (List.mem_of_getElem? (i := 23) rfl))), rfl⟩
set_option maxRecDepth 20000 in
theorem k_264 : (Jvm.Cond.methodLink "PictureChange" (169 : Nat) ({ cls := "PictureChange$Spots", name := "join", desc := "()V" } : Jvm.MethodName)) ∈ gt := List.mem_filter.mpr ⟨List.mem_append_right _ (List.mem_append_right _ (List.mem_append_left _ (List.mem_of_getElem? (i := 24) (by decide +kernel)))), rfl⟩
set_option maxRecDepth 20000 in
theorem k_265 : (Jvm.Cond.instanceMethod ({ cls := "PictureChange$Spots", name := "join", desc := "()V" } : Jvm.MethodName)) ∈ gt := List.mem_filter.mpr ⟨List.mem_append_right _ (List.mem_append_right _ (List.mem_append_left _ (List.mem_of_getElem? (i := 25) (by decide +kernel)))), rfl⟩
set_option maxRecDepth 20000 in
theorem k_266 : (Jvm.Cond.selects "PictureChange$Spots" ({ cls := "PictureChange$Spots", name := "join", desc := "()V" } : Jvm.MethodName) ({ cls := "PictureChange$Spots", name := "join", desc := "()V" } : Jvm.MethodName)) ∈ gt := List.mem_filter.mpr ⟨List.mem_append_right _ (List.mem_append_right _ (List.mem_append_left _ (List.mem_of_getElem? (i := 26) (by decide +kernel)))), rfl⟩
set_option maxRecDepth 20000 in
theorem k_267 : (Jvm.Cond.code ({ cls := "PictureChange$Spots", name := "join", desc := "()V" } : Jvm.MethodName) prog_7_method_4_code (3 : Nat) (Option.none : Option Jvm.ClassFile.FieldType)) ∈ gt := List.mem_filter.mpr ⟨List.mem_append_right _ (List.mem_append_right _ (List.mem_append_left _ (List.mem_of_getElem? (i := 27) rfl))), rfl⟩
set_option maxRecDepth 20000 in
theorem k_268 : (Jvm.Cond.methodLink "PictureChange$Spots" (40 : Nat) ({ cls := "PictureChange$Spots", name := "spotAt", desc := "(II)I" } : Jvm.MethodName)) ∈ gt := List.mem_filter.mpr ⟨List.mem_append_right _ (List.mem_append_right _ (List.mem_append_left _ (List.mem_of_getElem? (i := 28) (by decide +kernel)))), rfl⟩
set_option maxRecDepth 20000 in
theorem k_269 : (Jvm.Cond.instanceMethod ({ cls := "PictureChange$Spots", name := "spotAt", desc := "(II)I" } : Jvm.MethodName)) ∈ gt := List.mem_filter.mpr ⟨List.mem_append_right _ (List.mem_append_right _ (List.mem_append_left _ (List.mem_of_getElem? (i := 29) (by decide +kernel)))), rfl⟩
set_option maxRecDepth 20000 in
theorem k_270 : (Jvm.Cond.selects "PictureChange$Spots" ({ cls := "PictureChange$Spots", name := "spotAt", desc := "(II)I" } : Jvm.MethodName) ({ cls := "PictureChange$Spots", name := "spotAt", desc := "(II)I" } : Jvm.MethodName)) ∈ gt := List.mem_filter.mpr ⟨List.mem_append_right _ (List.mem_append_right _ (List.mem_append_left _ (List.mem_of_getElem? (i := 30) (by decide +kernel)))), rfl⟩
set_option maxRecDepth 20000 in
theorem k_271 : (Jvm.Cond.code ({ cls := "PictureChange$Spots", name := "spotAt", desc := "(II)I" } : Jvm.MethodName) prog_7_method_5_code (3 : Nat) (Option.some Jvm.ClassFile.FieldType.int)) ∈ gt := List.mem_filter.mpr ⟨List.mem_append_right _ (List.mem_append_right _ (List.mem_append_left _ (List.mem_of_getElem? (i := 31) rfl))), rfl⟩
set_option maxRecDepth 20000 in
theorem k_272 : (Jvm.Cond.methodLink "PictureChange$Spots" (44 : Nat) ({ cls := "PictureChange$Spots", name := "joinFrom", desc := "(II)V" } : Jvm.MethodName)) ∈ gt := List.mem_filter.mpr ⟨List.mem_append_right _ (List.mem_append_right _ (List.mem_append_left _ (List.mem_of_getElem? (i := 32) (by decide +kernel)))), rfl⟩
set_option maxRecDepth 20000 in
theorem k_274 : (Jvm.Cond.instanceMethod ({ cls := "PictureChange$Spots", name := "joinFrom", desc := "(II)V" } : Jvm.MethodName)) ∈ gt := List.mem_filter.mpr ⟨List.mem_append_right _ (List.mem_append_right _ (List.mem_append_left _ (List.mem_of_getElem? (i := 34) (by decide +kernel)))), rfl⟩
set_option maxRecDepth 20000 in
theorem k_275 : (Jvm.Cond.code ({ cls := "PictureChange$Spots", name := "joinFrom", desc := "(II)V" } : Jvm.MethodName) prog_7_method_8_code (4 : Nat) (Option.none : Option Jvm.ClassFile.FieldType)) ∈ gt := List.mem_filter.mpr ⟨List.mem_append_right _ (List.mem_append_right _ (List.mem_append_left _ (List.mem_of_getElem? (i := 35) rfl))), rfl⟩
set_option maxRecDepth 20000 in
theorem k_276 : (Jvm.Cond.methodLink "PictureChange$Spots" (57 : Nat) ({ cls := "PictureChange$Spots", name := "take", desc := "(II)V" } : Jvm.MethodName)) ∈ gt := List.mem_filter.mpr ⟨List.mem_append_right _ (List.mem_append_right _ (List.mem_append_left _ (List.mem_of_getElem? (i := 36) (by decide +kernel)))), rfl⟩
set_option maxRecDepth 20000 in
theorem k_278 : (Jvm.Cond.instanceMethod ({ cls := "PictureChange$Spots", name := "take", desc := "(II)V" } : Jvm.MethodName)) ∈ gt := List.mem_filter.mpr ⟨List.mem_append_right _ (List.mem_append_right _ (List.mem_append_left _ (List.mem_of_getElem? (i := 38) (by decide +kernel)))), rfl⟩
set_option maxRecDepth 20000 in
theorem k_279 : (Jvm.Cond.code ({ cls := "PictureChange$Spots", name := "take", desc := "(II)V" } : Jvm.MethodName) prog_7_method_9_code (3 : Nat) (Option.none : Option Jvm.ClassFile.FieldType)) ∈ gt := List.mem_filter.mpr ⟨List.mem_append_right _ (List.mem_append_right _ (List.mem_append_left _ (List.mem_of_getElem? (i := 39) rfl))), rfl⟩
set_option maxRecDepth 20000 in
theorem k_280 : (Jvm.Cond.methodLink "PictureChange$Spots" (48 : Nat) ({ cls := "PictureChange$Spots", name := "describe", desc := "()V" } : Jvm.MethodName)) ∈ gt := List.mem_filter.mpr ⟨List.mem_append_right _ (List.mem_append_right _ (List.mem_append_left _ (List.mem_of_getElem? (i := 40) (by decide +kernel)))), rfl⟩
set_option maxRecDepth 20000 in
theorem k_282 : (Jvm.Cond.instanceMethod ({ cls := "PictureChange$Spots", name := "describe", desc := "()V" } : Jvm.MethodName)) ∈ gt := List.mem_filter.mpr ⟨List.mem_append_right _ (List.mem_append_right _ (List.mem_append_left _ (List.mem_of_getElem? (i := 42) (by decide +kernel)))), rfl⟩
set_option maxRecDepth 20000 in
theorem k_283 : (Jvm.Cond.code ({ cls := "PictureChange$Spots", name := "describe", desc := "()V" } : Jvm.MethodName) prog_7_method_10_code (9 : Nat) (Option.none : Option Jvm.ClassFile.FieldType)) ∈ gt := List.mem_filter.mpr ⟨List.mem_append_right _ (List.mem_append_right _ (List.mem_append_left _ (List.mem_of_getElem? (i := 43) rfl))), rfl⟩
set_option maxRecDepth 20000 in
theorem k_284 : (Jvm.Cond.methodLink "PictureChange$Spots" (60 : Nat) ({ cls := "java/lang/Math", name := "min", desc := "(II)I" } : Jvm.MethodName)) ∈ gt := List.mem_filter.mpr ⟨List.mem_append_right _ (List.mem_append_right _ (List.mem_append_left _ (List.mem_of_getElem? (i := 44) (by decide +kernel)))), rfl⟩
set_option maxRecDepth 20000 in
theorem k_285 : (Jvm.Cond.methodLink "PictureChange$Spots" (65 : Nat) ({ cls := "java/lang/Math", name := "max", desc := "(II)I" } : Jvm.MethodName)) ∈ gt := List.mem_filter.mpr ⟨List.mem_append_right _ (List.mem_append_right _ (List.mem_append_left _ (List.mem_of_getElem? (i := 45) (by decide +kernel)))), rfl⟩
set_option maxRecDepth 20000 in
theorem k_286 : (Jvm.Cond.methodLink "PictureChange$Spots" (68 : Nat) ({ cls := "PictureChange$Spots", name := "isCrack", desc := "()Z" } : Jvm.MethodName)) ∈ gt := List.mem_filter.mpr ⟨List.mem_append_right _ (List.mem_append_right _ (List.mem_append_left _ (List.mem_of_getElem? (i := 46) (by decide +kernel)))), rfl⟩
set_option maxRecDepth 20000 in
theorem k_288 : (Jvm.Cond.instanceMethod ({ cls := "PictureChange$Spots", name := "isCrack", desc := "()Z" } : Jvm.MethodName)) ∈ gt := List.mem_filter.mpr ⟨List.mem_append_right _ (List.mem_append_right _ (List.mem_append_left _ (List.mem_of_getElem? (i := 48) (by decide +kernel)))), rfl⟩
set_option maxRecDepth 20000 in
theorem k_289 : (Jvm.Cond.code ({ cls := "PictureChange$Spots", name := "isCrack", desc := "()Z" } : Jvm.MethodName) prog_7_method_11_code (4 : Nat) (Option.some Jvm.ClassFile.FieldType.boolean)) ∈ gt := List.mem_filter.mpr ⟨List.mem_append_right _ (List.mem_append_right _ (List.mem_append_left _ (List.mem_of_getElem? (i := 49) rfl))), rfl⟩
set_option maxRecDepth 20000 in
theorem k_290 : (Jvm.Cond.methodLink "PictureChange$Spots" (72 : Nat) ({ cls := "PictureChange$Spots", name := "neighboursOf", desc := "(II)I" } : Jvm.MethodName)) ∈ gt := List.mem_filter.mpr ⟨List.mem_append_right _ (List.mem_append_right _ (List.mem_append_left _ (List.mem_of_getElem? (i := 50) (by decide +kernel)))), rfl⟩
set_option maxRecDepth 20000 in
theorem k_292 : (Jvm.Cond.instanceMethod ({ cls := "PictureChange$Spots", name := "neighboursOf", desc := "(II)I" } : Jvm.MethodName)) ∈ gt := List.mem_filter.mpr ⟨List.mem_append_right _ (List.mem_append_right _ (List.mem_append_left _ (List.mem_of_getElem? (i := 52) (by decide +kernel)))), rfl⟩
set_option maxRecDepth 20000 in
theorem k_293 : (Jvm.Cond.code ({ cls := "PictureChange$Spots", name := "neighboursOf", desc := "(II)I" } : Jvm.MethodName) prog_7_method_12_code (3 : Nat) (Option.some Jvm.ClassFile.FieldType.int)) ∈ gt := List.mem_filter.mpr ⟨List.mem_append_right _ (List.mem_append_right _ (List.mem_append_left _ (List.mem_of_getElem? (i := 53) rfl))), rfl⟩
set_option maxRecDepth 20000 in
theorem k_294 : (Jvm.Cond.methodLink "PictureChange$Spots" (75 : Nat) ({ cls := "PictureChange$Spots", name := "ownAt", desc := "(II)I" } : Jvm.MethodName)) ∈ gt := List.mem_filter.mpr ⟨List.mem_append_right _ (List.mem_append_right _ (List.mem_append_left _ (List.mem_of_getElem? (i := 54) (by decide +kernel)))), rfl⟩
set_option maxRecDepth 20000 in
theorem k_296 : (Jvm.Cond.instanceMethod ({ cls := "PictureChange$Spots", name := "ownAt", desc := "(II)I" } : Jvm.MethodName)) ∈ gt := List.mem_filter.mpr ⟨List.mem_append_right _ (List.mem_append_right _ (List.mem_append_left _ (List.mem_of_getElem? (i := 56) (by decide +kernel)))), rfl⟩
set_option maxRecDepth 20000 in
theorem k_297 : (Jvm.Cond.code ({ cls := "PictureChange$Spots", name := "ownAt", desc := "(II)I" } : Jvm.MethodName) prog_7_method_13_code (3 : Nat) (Option.some Jvm.ClassFile.FieldType.int)) ∈ gt := List.mem_filter.mpr ⟨List.mem_append_right _ (List.mem_append_right _ (List.mem_append_left _ (List.mem_of_getElem? (i := 57) rfl))), rfl⟩
set_option maxRecDepth 20000 in
theorem k_308 : (Jvm.Cond.classLink "PictureChangeLaw" (13 : Nat) "java/lang/IndexOutOfBoundsException") ∈ gt := List.mem_filter.mpr ⟨List.mem_append_right _ (List.mem_append_right _ (List.mem_append_left _ (List.mem_of_getElem? (i := 68) (by decide +kernel)))), rfl⟩
set_option maxRecDepth 20000 in
theorem k_309 : (Jvm.Cond.classLink "PictureChangeLaw" (15 : Nat) "java/lang/IllegalArgumentException") ∈ gt := List.mem_filter.mpr ⟨List.mem_append_right _ (List.mem_append_right _ (List.mem_append_left _ (List.mem_of_getElem? (i := 69) (by decide +kernel)))), rfl⟩
set_option maxRecDepth 20000 in
theorem k_310 : (Jvm.Cond.methodLink "PictureChangeLaw" (7 : Nat) ({ cls := "PictureChange", name := "cell", desc := "(ZIII)I" } : Jvm.MethodName)) ∈ gt := List.mem_filter.mpr ⟨List.mem_append_right _ (List.mem_append_right _ (List.mem_append_left _ (List.mem_of_getElem? (i := 70) (by decide +kernel)))), rfl⟩
set_option maxRecDepth 20000 in
theorem k_311 : (Jvm.Cond.instanceMethod ({ cls := "PictureChange", name := "cell", desc := "(ZIII)I" } : Jvm.MethodName)) ∈ gt := List.mem_filter.mpr ⟨List.mem_append_right _ (List.mem_append_right _ (List.mem_append_left _ (List.mem_of_getElem? (i := 71) (by decide +kernel)))), rfl⟩
set_option maxRecDepth 20000 in
theorem k_312 : (Jvm.Cond.selects "PictureChange" ({ cls := "PictureChange", name := "cell", desc := "(ZIII)I" } : Jvm.MethodName) ({ cls := "PictureChange", name := "cell", desc := "(ZIII)I" } : Jvm.MethodName)) ∈ gt := List.mem_filter.mpr ⟨List.mem_append_right _ (List.mem_append_right _ (List.mem_append_left _ (List.mem_of_getElem? (i := 72) (by decide +kernel)))), rfl⟩
set_option maxRecDepth 20000 in
theorem k_313 : (Jvm.Cond.code ({ cls := "PictureChange", name := "cell", desc := "(ZIII)I" } : Jvm.MethodName) prog_1_method_2_code (8 : Nat) (Option.some Jvm.ClassFile.FieldType.int)) ∈ gt := List.mem_filter.mpr ⟨List.mem_append_right _ (List.mem_append_right _ (List.mem_append_left _ (List.mem_of_getElem? (i := 73) rfl))), rfl⟩
set_option maxRecDepth 20000 in
theorem k_314 : (Jvm.Cond.methodLink "PictureChange" (79 : Nat) ({ cls := "PictureChange", name := "needCell", desc := "(II)V" } : Jvm.MethodName)) ∈ gt := List.mem_filter.mpr ⟨List.mem_append_right _ (List.mem_append_right _ (List.mem_append_left _ (List.mem_of_getElem? (i := 74) (by decide +kernel)))), rfl⟩
set_option maxRecDepth 20000 in
theorem k_316 : (Jvm.Cond.instanceMethod ({ cls := "PictureChange", name := "needCell", desc := "(II)V" } : Jvm.MethodName)) ∈ gt := List.mem_filter.mpr ⟨List.mem_append_right _ (List.mem_append_right _ (List.mem_append_left _ (List.mem_of_getElem? (i := 76) (by decide +kernel)))), rfl⟩
set_option maxRecDepth 20000 in
theorem k_317 : (Jvm.Cond.code ({ cls := "PictureChange", name := "needCell", desc := "(II)V" } : Jvm.MethodName) prog_1_method_22_code (3 : Nat) (Option.none : Option Jvm.ClassFile.FieldType)) ∈ gt := List.mem_filter.mpr ⟨List.mem_append_right _ (List.mem_append_right _ (List.mem_append_left _ (List.mem_of_getElem? (i := 77) rfl))), rfl⟩
set_option maxRecDepth 20000 in
theorem k_318 : (Jvm.Cond.classLink "PictureChange" (175 : Nat) "java/lang/IndexOutOfBoundsException") ∈ gt := List.mem_filter.mpr ⟨List.mem_append_right _ (List.mem_append_right _ (List.mem_append_left _ (List.mem_of_getElem? (i := 78) (by decide +kernel)))), rfl⟩
set_option maxRecDepth 20000 in
theorem k_386 : (Jvm.Cond.methodLink "PictureChange" (82 : Nat) ({ cls := "PictureChange", name := "needValue", desc := "(I)V" } : Jvm.MethodName)) ∈ gt := List.mem_filter.mpr ⟨List.mem_append_right _ (List.mem_append_right _ (List.mem_append_left _ (List.mem_of_getElem? (i := 146) (by decide +kernel)))), rfl⟩
set_option maxRecDepth 20000 in
theorem k_387 : (Jvm.Cond.static ({ cls := "PictureChange", name := "needValue", desc := "(I)V" } : Jvm.MethodName)) ∈ gt := List.mem_filter.mpr ⟨List.mem_append_right _ (List.mem_append_right _ (List.mem_append_left _ (List.mem_of_getElem? (i := 147) (by decide +kernel)))), rfl⟩
set_option maxRecDepth 20000 in
theorem k_388 : (Jvm.Cond.code ({ cls := "PictureChange", name := "needValue", desc := "(I)V" } : Jvm.MethodName) prog_1_method_23_code (1 : Nat) (Option.none : Option Jvm.ClassFile.FieldType)) ∈ gt := List.mem_filter.mpr ⟨List.mem_append_right _ (List.mem_append_right _ (List.mem_append_left _ (List.mem_of_getElem? (i := 148) rfl))), rfl⟩
set_option maxRecDepth 20000 in
theorem k_389 : (Jvm.Cond.classLink "PictureChange" (89 : Nat) "java/lang/IllegalArgumentException") ∈ gt := List.mem_filter.mpr ⟨List.mem_append_right _ (List.mem_append_right _ (List.mem_append_left _ (List.mem_of_getElem? (i := 149) (by decide +kernel)))), rfl⟩
set_option maxRecDepth 20000 in
theorem k_408 : (Jvm.Cond.methodLink "PictureChangeLaw" (17 : Nat) ({ cls := "PictureChange", name := "register", desc := "(I)I" } : Jvm.MethodName)) ∈ gt := List.mem_filter.mpr ⟨List.mem_append_right _ (List.mem_append_right _ (List.mem_append_left _ (List.mem_of_getElem? (i := 168) (by decide +kernel)))), rfl⟩
set_option maxRecDepth 20000 in
theorem k_409 : (Jvm.Cond.instanceMethod ({ cls := "PictureChange", name := "register", desc := "(I)I" } : Jvm.MethodName)) ∈ gt := List.mem_filter.mpr ⟨List.mem_append_right _ (List.mem_append_right _ (List.mem_append_left _ (List.mem_of_getElem? (i := 169) (by decide +kernel)))), rfl⟩
set_option maxRecDepth 20000 in
theorem k_410 : (Jvm.Cond.selects "PictureChange" ({ cls := "PictureChange", name := "register", desc := "(I)I" } : Jvm.MethodName) ({ cls := "PictureChange", name := "register", desc := "(I)I" } : Jvm.MethodName)) ∈ gt := List.mem_filter.mpr ⟨List.mem_append_right _ (List.mem_append_right _ (List.mem_append_left _ (List.mem_of_getElem? (i := 170) (by decide +kernel)))), rfl⟩
set_option maxRecDepth 20000 in
theorem k_411 : (Jvm.Cond.code ({ cls := "PictureChange", name := "register", desc := "(I)I" } : Jvm.MethodName) prog_1_method_3_code (4 : Nat) (Option.some Jvm.ClassFile.FieldType.int)) ∈ gt := List.mem_filter.mpr ⟨List.mem_append_right _ (List.mem_append_right _ (List.mem_append_left _ (List.mem_of_getElem? (i := 171) rfl))), rfl⟩
set_option maxRecDepth 20000 in
theorem k_413 : (Jvm.Cond.methodLink "PictureChange" (96 : Nat) ({ cls := "PictureChange$Shift", name := "moveTo", desc := "(II)V" } : Jvm.MethodName)) ∈ gt := List.mem_filter.mpr ⟨List.mem_append_right _ (List.mem_append_right _ (List.mem_append_left _ (List.mem_of_getElem? (i := 173) (by decide +kernel)))), rfl⟩
set_option maxRecDepth 20000 in
theorem k_414 : (Jvm.Cond.instanceMethod ({ cls := "PictureChange$Shift", name := "moveTo", desc := "(II)V" } : Jvm.MethodName)) ∈ gt := List.mem_filter.mpr ⟨List.mem_append_right _ (List.mem_append_right _ (List.mem_append_left _ (List.mem_of_getElem? (i := 174) (by decide +kernel)))), rfl⟩
set_option maxRecDepth 20000 in
theorem k_415 : (Jvm.Cond.selects "PictureChange$Shift" ({ cls := "PictureChange$Shift", name := "moveTo", desc := "(II)V" } : Jvm.MethodName) ({ cls := "PictureChange$Shift", name := "moveTo", desc := "(II)V" } : Jvm.MethodName)) ∈ gt := List.mem_filter.mpr ⟨List.mem_append_right _ (List.mem_append_right _ (List.mem_append_left _ (List.mem_of_getElem? (i := 175) (by decide +kernel)))), rfl⟩
set_option maxRecDepth 20000 in
theorem k_416 : (Jvm.Cond.code ({ cls := "PictureChange$Shift", name := "moveTo", desc := "(II)V" } : Jvm.MethodName) prog_6_method_2_code (3 : Nat) (Option.none : Option Jvm.ClassFile.FieldType)) ∈ gt := List.mem_filter.mpr ⟨List.mem_append_right _ (List.mem_append_right _ (List.mem_append_left _ (List.mem_of_getElem? (i := 176) rfl))), rfl⟩
set_option maxRecDepth 20000 in
theorem k_417 : (Jvm.Cond.methodLink "PictureChange" (99 : Nat) ({ cls := "PictureChange", name := "compareAt", desc := "(LPictureChange$Shift;)V" } : Jvm.MethodName)) ∈ gt := List.mem_filter.mpr ⟨List.mem_append_right _ (List.mem_append_right _ (List.mem_append_left _ (List.mem_of_getElem? (i := 177) (by decide +kernel)))), rfl⟩
set_option maxRecDepth 20000 in
theorem k_419 : (Jvm.Cond.instanceMethod ({ cls := "PictureChange", name := "compareAt", desc := "(LPictureChange$Shift;)V" } : Jvm.MethodName)) ∈ gt := List.mem_filter.mpr ⟨List.mem_append_right _ (List.mem_append_right _ (List.mem_append_left _ (List.mem_of_getElem? (i := 179) (by decide +kernel)))), rfl⟩
set_option maxRecDepth 20000 in
theorem k_420 : (Jvm.Cond.code ({ cls := "PictureChange", name := "compareAt", desc := "(LPictureChange$Shift;)V" } : Jvm.MethodName) prog_1_method_25_code (6 : Nat) (Option.none : Option Jvm.ClassFile.FieldType)) ∈ gt := List.mem_filter.mpr ⟨List.mem_append_right _ (List.mem_append_right _ (List.mem_append_left _ (List.mem_of_getElem? (i := 180) rfl))), rfl⟩
set_option maxRecDepth 20000 in
theorem k_421 : (Jvm.Cond.methodLink "PictureChange" (245 : Nat) ({ cls := "PictureChange$Shift", name := "add", desc := "(I)V" } : Jvm.MethodName)) ∈ gt := List.mem_filter.mpr ⟨List.mem_append_right _ (List.mem_append_right _ (List.mem_append_left _ (List.mem_of_getElem? (i := 181) (by decide +kernel)))), rfl⟩
set_option maxRecDepth 20000 in
theorem k_422 : (Jvm.Cond.instanceMethod ({ cls := "PictureChange$Shift", name := "add", desc := "(I)V" } : Jvm.MethodName)) ∈ gt := List.mem_filter.mpr ⟨List.mem_append_right _ (List.mem_append_right _ (List.mem_append_left _ (List.mem_of_getElem? (i := 182) (by decide +kernel)))), rfl⟩
set_option maxRecDepth 20000 in
theorem k_423 : (Jvm.Cond.selects "PictureChange$Shift" ({ cls := "PictureChange$Shift", name := "add", desc := "(I)V" } : Jvm.MethodName) ({ cls := "PictureChange$Shift", name := "add", desc := "(I)V" } : Jvm.MethodName)) ∈ gt := List.mem_filter.mpr ⟨List.mem_append_right _ (List.mem_append_right _ (List.mem_append_left _ (List.mem_of_getElem? (i := 183) (by decide +kernel)))), rfl⟩
set_option maxRecDepth 20000 in
theorem k_424 : (Jvm.Cond.code ({ cls := "PictureChange$Shift", name := "add", desc := "(I)V" } : Jvm.MethodName) prog_6_method_3_code (2 : Nat) (Option.none : Option Jvm.ClassFile.FieldType)) ∈ gt := List.mem_filter.mpr ⟨List.mem_append_right _ (List.mem_append_right _ (List.mem_append_left _ (List.mem_of_getElem? (i := 184) rfl))), rfl⟩
set_option maxRecDepth 20000 in
theorem k_425 : (Jvm.Cond.methodLink "PictureChange" (103 : Nat) ({ cls := "PictureChange$Shift", name := "isBetterThan", desc := "(LPictureChange$Shift;)Z" } : Jvm.MethodName)) ∈ gt := List.mem_filter.mpr ⟨List.mem_append_right _ (List.mem_append_right _ (List.mem_append_left _ (List.mem_of_getElem? (i := 185) (by decide +kernel)))), rfl⟩
set_option maxRecDepth 20000 in
theorem k_426 : (Jvm.Cond.instanceMethod ({ cls := "PictureChange$Shift", name := "isBetterThan", desc := "(LPictureChange$Shift;)Z" } : Jvm.MethodName)) ∈ gt := List.mem_filter.mpr ⟨List.mem_append_right _ (List.mem_append_right _ (List.mem_append_left _ (List.mem_of_getElem? (i := 186) (by decide +kernel)))), rfl⟩
set_option maxRecDepth 20000 in
theorem k_427 : (Jvm.Cond.selects "PictureChange$Shift" ({ cls := "PictureChange$Shift", name := "isBetterThan", desc := "(LPictureChange$Shift;)Z" } : Jvm.MethodName) ({ cls := "PictureChange$Shift", name := "isBetterThan", desc := "(LPictureChange$Shift;)Z" } : Jvm.MethodName)) ∈ gt := List.mem_filter.mpr ⟨List.mem_append_right _ (List.mem_append_right _ (List.mem_append_left _ (List.mem_of_getElem? (i := 187) (by decide +kernel)))), rfl⟩
set_option maxRecDepth 20000 in
theorem k_428 : (Jvm.Cond.code ({ cls := "PictureChange$Shift", name := "isBetterThan", desc := "(LPictureChange$Shift;)Z" } : Jvm.MethodName) prog_6_method_5_code (6 : Nat) (Option.some Jvm.ClassFile.FieldType.boolean)) ∈ gt := List.mem_filter.mpr ⟨List.mem_append_right _ (List.mem_append_right _ (List.mem_append_left _ (List.mem_of_getElem? (i := 188) rfl))), rfl⟩
set_option maxRecDepth 20000 in
theorem k_429 : (Jvm.Cond.methodLink "PictureChange$Shift" (22 : Nat) ({ cls := "PictureChange$Shift", name := "together", desc := "()I" } : Jvm.MethodName)) ∈ gt := List.mem_filter.mpr ⟨List.mem_append_right _ (List.mem_append_right _ (List.mem_append_left _ (List.mem_of_getElem? (i := 189) (by decide +kernel)))), rfl⟩
set_option maxRecDepth 20000 in
theorem k_431 : (Jvm.Cond.instanceMethod ({ cls := "PictureChange$Shift", name := "together", desc := "()I" } : Jvm.MethodName)) ∈ gt := List.mem_filter.mpr ⟨List.mem_append_right _ (List.mem_append_right _ (List.mem_append_left _ (List.mem_of_getElem? (i := 191) (by decide +kernel)))), rfl⟩
set_option maxRecDepth 20000 in
theorem k_432 : (Jvm.Cond.code ({ cls := "PictureChange$Shift", name := "together", desc := "()I" } : Jvm.MethodName) prog_6_method_6_code (1 : Nat) (Option.some Jvm.ClassFile.FieldType.int)) ∈ gt := List.mem_filter.mpr ⟨List.mem_append_right _ (List.mem_append_right _ (List.mem_append_left _ (List.mem_of_getElem? (i := 192) rfl))), rfl⟩
set_option maxRecDepth 20000 in
theorem k_433 : (Jvm.Cond.methodLink "PictureChange$Shift" (26 : Nat) ({ cls := "java/lang/Math", name := "abs", desc := "(I)I" } : Jvm.MethodName)) ∈ gt := List.mem_filter.mpr ⟨List.mem_append_right _ (List.mem_append_right _ (List.mem_append_left _ (List.mem_of_getElem? (i := 193) (by decide +kernel)))), rfl⟩
set_option maxRecDepth 20000 in
theorem k_434 : (Jvm.Cond.methodLink "PictureChange" (107 : Nat) ({ cls := "PictureChange$Shift", name := "become", desc := "(LPictureChange$Shift;)V" } : Jvm.MethodName)) ∈ gt := List.mem_filter.mpr ⟨List.mem_append_right _ (List.mem_append_right _ (List.mem_append_left _ (List.mem_of_getElem? (i := 194) (by decide +kernel)))), rfl⟩
set_option maxRecDepth 20000 in
theorem k_435 : (Jvm.Cond.instanceMethod ({ cls := "PictureChange$Shift", name := "become", desc := "(LPictureChange$Shift;)V" } : Jvm.MethodName)) ∈ gt := List.mem_filter.mpr ⟨List.mem_append_right _ (List.mem_append_right _ (List.mem_append_left _ (List.mem_of_getElem? (i := 195) (by decide +kernel)))), rfl⟩
set_option maxRecDepth 20000 in
theorem k_436 : (Jvm.Cond.selects "PictureChange$Shift" ({ cls := "PictureChange$Shift", name := "become", desc := "(LPictureChange$Shift;)V" } : Jvm.MethodName) ({ cls := "PictureChange$Shift", name := "become", desc := "(LPictureChange$Shift;)V" } : Jvm.MethodName)) ∈ gt := List.mem_filter.mpr ⟨List.mem_append_right _ (List.mem_append_right _ (List.mem_append_left _ (List.mem_of_getElem? (i := 196) (by decide +kernel)))), rfl⟩
set_option maxRecDepth 20000 in
theorem k_437 : (Jvm.Cond.code ({ cls := "PictureChange$Shift", name := "become", desc := "(LPictureChange$Shift;)V" } : Jvm.MethodName) prog_6_method_4_code (2 : Nat) (Option.none : Option Jvm.ClassFile.FieldType)) ∈ gt := List.mem_filter.mpr ⟨List.mem_append_right _ (List.mem_append_right _ (List.mem_append_left _ (List.mem_of_getElem? (i := 197) rfl))), rfl⟩
set_option maxRecDepth 20000 in
theorem k_441 : (Jvm.Cond.methodLink "PictureChangeLaw" (21 : Nat) ({ cls := "PictureChange", name := "shift", desc := "(I)I" } : Jvm.MethodName)) ∈ gt := List.mem_filter.mpr ⟨List.mem_append_right _ (List.mem_append_right _ (List.mem_append_left _ (List.mem_of_getElem? (i := 201) (by decide +kernel)))), rfl⟩
set_option maxRecDepth 20000 in
theorem k_442 : (Jvm.Cond.instanceMethod ({ cls := "PictureChange", name := "shift", desc := "(I)I" } : Jvm.MethodName)) ∈ gt := List.mem_filter.mpr ⟨List.mem_append_right _ (List.mem_append_right _ (List.mem_append_left _ (List.mem_of_getElem? (i := 202) (by decide +kernel)))), rfl⟩
set_option maxRecDepth 20000 in
theorem k_443 : (Jvm.Cond.selects "PictureChange" ({ cls := "PictureChange", name := "shift", desc := "(I)I" } : Jvm.MethodName) ({ cls := "PictureChange", name := "shift", desc := "(I)I" } : Jvm.MethodName)) ∈ gt := List.mem_filter.mpr ⟨List.mem_append_right _ (List.mem_append_right _ (List.mem_append_left _ (List.mem_of_getElem? (i := 203) (by decide +kernel)))), rfl⟩
set_option maxRecDepth 20000 in
theorem k_444 : (Jvm.Cond.code ({ cls := "PictureChange", name := "shift", desc := "(I)I" } : Jvm.MethodName) prog_1_method_4_code (2 : Nat) (Option.some Jvm.ClassFile.FieldType.int)) ∈ gt := List.mem_filter.mpr ⟨List.mem_append_right _ (List.mem_append_right _ (List.mem_append_left _ (List.mem_of_getElem? (i := 204) rfl))), rfl⟩
set_option maxRecDepth 20000 in
theorem k_445 : (Jvm.Cond.methodLink "PictureChange" (113 : Nat) ({ cls := "PictureChange", name := "needHalf", desc := "(I)V" } : Jvm.MethodName)) ∈ gt := List.mem_filter.mpr ⟨List.mem_append_right _ (List.mem_append_right _ (List.mem_append_left _ (List.mem_of_getElem? (i := 205) (by decide +kernel)))), rfl⟩
set_option maxRecDepth 20000 in
theorem k_446 : (Jvm.Cond.static ({ cls := "PictureChange", name := "needHalf", desc := "(I)V" } : Jvm.MethodName)) ∈ gt := List.mem_filter.mpr ⟨List.mem_append_right _ (List.mem_append_right _ (List.mem_append_left _ (List.mem_of_getElem? (i := 206) (by decide +kernel)))), rfl⟩
set_option maxRecDepth 20000 in
theorem k_447 : (Jvm.Cond.code ({ cls := "PictureChange", name := "needHalf", desc := "(I)V" } : Jvm.MethodName) prog_1_method_24_code (1 : Nat) (Option.none : Option Jvm.ClassFile.FieldType)) ∈ gt := List.mem_filter.mpr ⟨List.mem_append_right _ (List.mem_append_right _ (List.mem_append_left _ (List.mem_of_getElem? (i := 207) rfl))), rfl⟩
set_option maxRecDepth 20000 in
theorem k_452 : (Jvm.Cond.classLink "PictureChangeLaw" (28 : Nat) "java/lang/IllegalStateException") ∈ gt := List.mem_filter.mpr ⟨List.mem_append_right _ (List.mem_append_right _ (List.mem_append_left _ (List.mem_of_getElem? (i := 212) (by decide +kernel)))), rfl⟩
set_option maxRecDepth 20000 in
theorem k_453 : (Jvm.Cond.methodLink "PictureChangeLaw" (24 : Nat) ({ cls := "PictureChange", name := "chart", desc := "(IIZ)Z" } : Jvm.MethodName)) ∈ gt := List.mem_filter.mpr ⟨List.mem_append_right _ (List.mem_append_right _ (List.mem_append_left _ (List.mem_of_getElem? (i := 213) (by decide +kernel)))), rfl⟩
set_option maxRecDepth 20000 in
theorem k_454 : (Jvm.Cond.instanceMethod ({ cls := "PictureChange", name := "chart", desc := "(IIZ)Z" } : Jvm.MethodName)) ∈ gt := List.mem_filter.mpr ⟨List.mem_append_right _ (List.mem_append_right _ (List.mem_append_left _ (List.mem_of_getElem? (i := 214) (by decide +kernel)))), rfl⟩
set_option maxRecDepth 20000 in
theorem k_455 : (Jvm.Cond.selects "PictureChange" ({ cls := "PictureChange", name := "chart", desc := "(IIZ)Z" } : Jvm.MethodName) ({ cls := "PictureChange", name := "chart", desc := "(IIZ)Z" } : Jvm.MethodName)) ∈ gt := List.mem_filter.mpr ⟨List.mem_append_right _ (List.mem_append_right _ (List.mem_append_left _ (List.mem_of_getElem? (i := 215) (by decide +kernel)))), rfl⟩
set_option maxRecDepth 20000 in
theorem k_456 : (Jvm.Cond.code ({ cls := "PictureChange", name := "chart", desc := "(IIZ)Z" } : Jvm.MethodName) prog_1_method_5_code (6 : Nat) (Option.some Jvm.ClassFile.FieldType.boolean)) ∈ gt := List.mem_filter.mpr ⟨List.mem_append_right _ (List.mem_append_right _ (List.mem_append_left _ (List.mem_of_getElem? (i := 216) rfl))), rfl⟩
set_option maxRecDepth 20000 in
theorem k_457 : (Jvm.Cond.methodLink "PictureChange" (122 : Nat) ({ cls := "PictureChange$Charts", name := "find", desc := "(II)I" } : Jvm.MethodName)) ∈ gt := List.mem_filter.mpr ⟨List.mem_append_right _ (List.mem_append_right _ (List.mem_append_left _ (List.mem_of_getElem? (i := 217) (by decide +kernel)))), rfl⟩
set_option maxRecDepth 20000 in
theorem k_458 : (Jvm.Cond.instanceMethod ({ cls := "PictureChange$Charts", name := "find", desc := "(II)I" } : Jvm.MethodName)) ∈ gt := List.mem_filter.mpr ⟨List.mem_append_right _ (List.mem_append_right _ (List.mem_append_left _ (List.mem_of_getElem? (i := 218) (by decide +kernel)))), rfl⟩
set_option maxRecDepth 20000 in
theorem k_459 : (Jvm.Cond.selects "PictureChange$Charts" ({ cls := "PictureChange$Charts", name := "find", desc := "(II)I" } : Jvm.MethodName) ({ cls := "PictureChange$Charts", name := "find", desc := "(II)I" } : Jvm.MethodName)) ∈ gt := List.mem_filter.mpr ⟨List.mem_append_right _ (List.mem_append_right _ (List.mem_append_left _ (List.mem_of_getElem? (i := 219) (by decide +kernel)))), rfl⟩
set_option maxRecDepth 20000 in
theorem k_460 : (Jvm.Cond.code ({ cls := "PictureChange$Charts", name := "find", desc := "(II)I" } : Jvm.MethodName) prog_2_method_3_code (4 : Nat) (Option.some Jvm.ClassFile.FieldType.int)) ∈ gt := List.mem_filter.mpr ⟨List.mem_append_right _ (List.mem_append_right _ (List.mem_append_left _ (List.mem_of_getElem? (i := 220) rfl))), rfl⟩
set_option maxRecDepth 20000 in
theorem k_461 : (Jvm.Cond.methodLink "PictureChange" (125 : Nat) ({ cls := "PictureChange$Charts", name := "remove", desc := "(I)V" } : Jvm.MethodName)) ∈ gt := List.mem_filter.mpr ⟨List.mem_append_right _ (List.mem_append_right _ (List.mem_append_left _ (List.mem_of_getElem? (i := 221) (by decide +kernel)))), rfl⟩
set_option maxRecDepth 20000 in
theorem k_462 : (Jvm.Cond.instanceMethod ({ cls := "PictureChange$Charts", name := "remove", desc := "(I)V" } : Jvm.MethodName)) ∈ gt := List.mem_filter.mpr ⟨List.mem_append_right _ (List.mem_append_right _ (List.mem_append_left _ (List.mem_of_getElem? (i := 222) (by decide +kernel)))), rfl⟩
set_option maxRecDepth 20000 in
theorem k_463 : (Jvm.Cond.selects "PictureChange$Charts" ({ cls := "PictureChange$Charts", name := "remove", desc := "(I)V" } : Jvm.MethodName) ({ cls := "PictureChange$Charts", name := "remove", desc := "(I)V" } : Jvm.MethodName)) ∈ gt := List.mem_filter.mpr ⟨List.mem_append_right _ (List.mem_append_right _ (List.mem_append_left _ (List.mem_of_getElem? (i := 223) (by decide +kernel)))), rfl⟩
set_option maxRecDepth 20000 in
theorem k_464 : (Jvm.Cond.code ({ cls := "PictureChange$Charts", name := "remove", desc := "(I)V" } : Jvm.MethodName) prog_2_method_5_code (2 : Nat) (Option.none : Option Jvm.ClassFile.FieldType)) ∈ gt := List.mem_filter.mpr ⟨List.mem_append_right _ (List.mem_append_right _ (List.mem_append_left _ (List.mem_of_getElem? (i := 224) rfl))), rfl⟩
set_option maxRecDepth 20000 in
theorem k_465 : (Jvm.Cond.methodLink "PictureChange" (128 : Nat) ({ cls := "PictureChange$Charts", name := "isFull", desc := "()Z" } : Jvm.MethodName)) ∈ gt := List.mem_filter.mpr ⟨List.mem_append_right _ (List.mem_append_right _ (List.mem_append_left _ (List.mem_of_getElem? (i := 225) (by decide +kernel)))), rfl⟩
set_option maxRecDepth 20000 in
theorem k_466 : (Jvm.Cond.instanceMethod ({ cls := "PictureChange$Charts", name := "isFull", desc := "()Z" } : Jvm.MethodName)) ∈ gt := List.mem_filter.mpr ⟨List.mem_append_right _ (List.mem_append_right _ (List.mem_append_left _ (List.mem_of_getElem? (i := 226) (by decide +kernel)))), rfl⟩
set_option maxRecDepth 20000 in
theorem k_467 : (Jvm.Cond.selects "PictureChange$Charts" ({ cls := "PictureChange$Charts", name := "isFull", desc := "()Z" } : Jvm.MethodName) ({ cls := "PictureChange$Charts", name := "isFull", desc := "()Z" } : Jvm.MethodName)) ∈ gt := List.mem_filter.mpr ⟨List.mem_append_right _ (List.mem_append_right _ (List.mem_append_left _ (List.mem_of_getElem? (i := 227) (by decide +kernel)))), rfl⟩
set_option maxRecDepth 20000 in
theorem k_468 : (Jvm.Cond.code ({ cls := "PictureChange$Charts", name := "isFull", desc := "()Z" } : Jvm.MethodName) prog_2_method_2_code (1 : Nat) (Option.some Jvm.ClassFile.FieldType.boolean)) ∈ gt := List.mem_filter.mpr ⟨List.mem_append_right _ (List.mem_append_right _ (List.mem_append_left _ (List.mem_of_getElem? (i := 228) rfl))), rfl⟩
set_option maxRecDepth 20000 in
theorem k_469 : (Jvm.Cond.classLink "PictureChange" (132 : Nat) "java/lang/IllegalStateException") ∈ gt := List.mem_filter.mpr ⟨List.mem_append_right _ (List.mem_append_right _ (List.mem_append_left _ (List.mem_of_getElem? (i := 229) (by decide +kernel)))), rfl⟩
set_option maxRecDepth 20000 in
theorem k_485 : (Jvm.Cond.methodLink "PictureChange" (137 : Nat) ({ cls := "PictureChange$Charts", name := "add", desc := "(II)V" } : Jvm.MethodName)) ∈ gt := List.mem_filter.mpr ⟨List.mem_append_right _ (List.mem_append_right _ (List.mem_append_right _ (List.mem_append_left _ (List.mem_of_getElem? (i := 5) (by decide +kernel))))), rfl⟩
set_option maxRecDepth 20000 in
theorem k_486 : (Jvm.Cond.instanceMethod ({ cls := "PictureChange$Charts", name := "add", desc := "(II)V" } : Jvm.MethodName)) ∈ gt := List.mem_filter.mpr ⟨List.mem_append_right _ (List.mem_append_right _ (List.mem_append_right _ (List.mem_append_left _ (List.mem_of_getElem? (i := 6) (by decide +kernel))))), rfl⟩
set_option maxRecDepth 20000 in
theorem k_487 : (Jvm.Cond.selects "PictureChange$Charts" ({ cls := "PictureChange$Charts", name := "add", desc := "(II)V" } : Jvm.MethodName) ({ cls := "PictureChange$Charts", name := "add", desc := "(II)V" } : Jvm.MethodName)) ∈ gt := List.mem_filter.mpr ⟨List.mem_append_right _ (List.mem_append_right _ (List.mem_append_right _ (List.mem_append_left _ (List.mem_of_getElem? (i := 7) (by decide +kernel))))), rfl⟩
set_option maxRecDepth 20000 in
theorem k_488 : (Jvm.Cond.code ({ cls := "PictureChange$Charts", name := "add", desc := "(II)V" } : Jvm.MethodName) prog_2_method_4_code (3 : Nat) (Option.none : Option Jvm.ClassFile.FieldType)) ∈ gt := List.mem_filter.mpr ⟨List.mem_append_right _ (List.mem_append_right _ (List.mem_append_right _ (List.mem_append_left _ (List.mem_of_getElem? (i := 8) rfl)))), rfl⟩
set_option maxRecDepth 20000 in
theorem k_492 : (Jvm.Cond.methodLink "PictureChangeLaw" (30 : Nat) ({ cls := "PictureChange", name := "gain", desc := "(I)I" } : Jvm.MethodName)) ∈ gt := List.mem_filter.mpr ⟨List.mem_append_right _ (List.mem_append_right _ (List.mem_append_right _ (List.mem_append_left _ (List.mem_of_getElem? (i := 12) (by decide +kernel))))), rfl⟩
set_option maxRecDepth 20000 in
theorem k_493 : (Jvm.Cond.instanceMethod ({ cls := "PictureChange", name := "gain", desc := "(I)I" } : Jvm.MethodName)) ∈ gt := List.mem_filter.mpr ⟨List.mem_append_right _ (List.mem_append_right _ (List.mem_append_right _ (List.mem_append_left _ (List.mem_of_getElem? (i := 13) (by decide +kernel))))), rfl⟩
set_option maxRecDepth 20000 in
theorem k_494 : (Jvm.Cond.selects "PictureChange" ({ cls := "PictureChange", name := "gain", desc := "(I)I" } : Jvm.MethodName) ({ cls := "PictureChange", name := "gain", desc := "(I)I" } : Jvm.MethodName)) ∈ gt := List.mem_filter.mpr ⟨List.mem_append_right _ (List.mem_append_right _ (List.mem_append_right _ (List.mem_append_left _ (List.mem_of_getElem? (i := 14) (by decide +kernel))))), rfl⟩
set_option maxRecDepth 20000 in
theorem k_495 : (Jvm.Cond.code ({ cls := "PictureChange", name := "gain", desc := "(I)I" } : Jvm.MethodName) prog_1_method_6_code (2 : Nat) (Option.some Jvm.ClassFile.FieldType.int)) ∈ gt := List.mem_filter.mpr ⟨List.mem_append_right _ (List.mem_append_right _ (List.mem_append_right _ (List.mem_append_left _ (List.mem_of_getElem? (i := 15) rfl)))), rfl⟩
set_option maxRecDepth 20000 in
theorem k_499 : (Jvm.Cond.methodLink "PictureChangeLaw" (33 : Nat) ({ cls := "PictureChange", name := "repeat", desc := "(III)I" } : Jvm.MethodName)) ∈ gt := List.mem_filter.mpr ⟨List.mem_append_right _ (List.mem_append_right _ (List.mem_append_right _ (List.mem_append_left _ (List.mem_of_getElem? (i := 19) (by decide +kernel))))), rfl⟩
set_option maxRecDepth 20000 in
theorem k_500 : (Jvm.Cond.instanceMethod ({ cls := "PictureChange", name := "repeat", desc := "(III)I" } : Jvm.MethodName)) ∈ gt := List.mem_filter.mpr ⟨List.mem_append_right _ (List.mem_append_right _ (List.mem_append_right _ (List.mem_append_left _ (List.mem_of_getElem? (i := 20) (by decide +kernel))))), rfl⟩
set_option maxRecDepth 20000 in
theorem k_501 : (Jvm.Cond.selects "PictureChange" ({ cls := "PictureChange", name := "repeat", desc := "(III)I" } : Jvm.MethodName) ({ cls := "PictureChange", name := "repeat", desc := "(III)I" } : Jvm.MethodName)) ∈ gt := List.mem_filter.mpr ⟨List.mem_append_right _ (List.mem_append_right _ (List.mem_append_right _ (List.mem_append_left _ (List.mem_of_getElem? (i := 21) (by decide +kernel))))), rfl⟩
set_option maxRecDepth 20000 in
theorem k_502 : (Jvm.Cond.code ({ cls := "PictureChange", name := "repeat", desc := "(III)I" } : Jvm.MethodName) prog_1_method_7_code (5 : Nat) (Option.some Jvm.ClassFile.FieldType.int)) ∈ gt := List.mem_filter.mpr ⟨List.mem_append_right _ (List.mem_append_right _ (List.mem_append_right _ (List.mem_append_left _ (List.mem_of_getElem? (i := 22) rfl)))), rfl⟩
set_option maxRecDepth 20000 in
theorem k_503 : (Jvm.Cond.methodLink "PictureChange" (150 : Nat) ({ cls := "PictureChange$Noise", name := "tell", desc := "(III)V" } : Jvm.MethodName)) ∈ gt := List.mem_filter.mpr ⟨List.mem_append_right _ (List.mem_append_right _ (List.mem_append_right _ (List.mem_append_left _ (List.mem_of_getElem? (i := 23) (by decide +kernel))))), rfl⟩
set_option maxRecDepth 20000 in
theorem k_504 : (Jvm.Cond.instanceMethod ({ cls := "PictureChange$Noise", name := "tell", desc := "(III)V" } : Jvm.MethodName)) ∈ gt := List.mem_filter.mpr ⟨List.mem_append_right _ (List.mem_append_right _ (List.mem_append_right _ (List.mem_append_left _ (List.mem_of_getElem? (i := 24) (by decide +kernel))))), rfl⟩
set_option maxRecDepth 20000 in
theorem k_505 : (Jvm.Cond.selects "PictureChange$Noise" ({ cls := "PictureChange$Noise", name := "tell", desc := "(III)V" } : Jvm.MethodName) ({ cls := "PictureChange$Noise", name := "tell", desc := "(III)V" } : Jvm.MethodName)) ∈ gt := List.mem_filter.mpr ⟨List.mem_append_right _ (List.mem_append_right _ (List.mem_append_right _ (List.mem_append_left _ (List.mem_of_getElem? (i := 25) (by decide +kernel))))), rfl⟩
set_option maxRecDepth 20000 in
theorem k_506 : (Jvm.Cond.code ({ cls := "PictureChange$Noise", name := "tell", desc := "(III)V" } : Jvm.MethodName) prog_5_method_2_code (4 : Nat) (Option.none : Option Jvm.ClassFile.FieldType)) ∈ gt := List.mem_filter.mpr ⟨List.mem_append_right _ (List.mem_append_right _ (List.mem_append_right _ (List.mem_append_left _ (List.mem_of_getElem? (i := 26) rfl)))), rfl⟩
set_option maxRecDepth 20000 in
theorem k_507 : (Jvm.Cond.methodLink "PictureChange$Noise" (22 : Nat) ({ cls := "java/lang/Math", name := "min", desc := "(II)I" } : Jvm.MethodName)) ∈ gt := List.mem_filter.mpr ⟨List.mem_append_right _ (List.mem_append_right _ (List.mem_append_right _ (List.mem_append_left _ (List.mem_of_getElem? (i := 27) (by decide +kernel))))), rfl⟩
set_option maxRecDepth 20000 in
theorem k_511 : (Jvm.Cond.methodLink "PictureChangeLaw" (37 : Nat) ({ cls := "PictureChange", name := "floor", desc := "(I)I" } : Jvm.MethodName)) ∈ gt := List.mem_filter.mpr ⟨List.mem_append_right _ (List.mem_append_right _ (List.mem_append_right _ (List.mem_append_left _ (List.mem_of_getElem? (i := 31) (by decide +kernel))))), rfl⟩
set_option maxRecDepth 20000 in
theorem k_512 : (Jvm.Cond.instanceMethod ({ cls := "PictureChange", name := "floor", desc := "(I)I" } : Jvm.MethodName)) ∈ gt := List.mem_filter.mpr ⟨List.mem_append_right _ (List.mem_append_right _ (List.mem_append_right _ (List.mem_append_left _ (List.mem_of_getElem? (i := 32) (by decide +kernel))))), rfl⟩
set_option maxRecDepth 20000 in
theorem k_513 : (Jvm.Cond.selects "PictureChange" ({ cls := "PictureChange", name := "floor", desc := "(I)I" } : Jvm.MethodName) ({ cls := "PictureChange", name := "floor", desc := "(I)I" } : Jvm.MethodName)) ∈ gt := List.mem_filter.mpr ⟨List.mem_append_right _ (List.mem_append_right _ (List.mem_append_right _ (List.mem_append_left _ (List.mem_of_getElem? (i := 33) (by decide +kernel))))), rfl⟩
set_option maxRecDepth 20000 in
theorem k_514 : (Jvm.Cond.code ({ cls := "PictureChange", name := "floor", desc := "(I)I" } : Jvm.MethodName) prog_1_method_8_code (3 : Nat) (Option.some Jvm.ClassFile.FieldType.int)) ∈ gt := List.mem_filter.mpr ⟨List.mem_append_right _ (List.mem_append_right _ (List.mem_append_right _ (List.mem_append_left _ (List.mem_of_getElem? (i := 34) rfl)))), rfl⟩
set_option maxRecDepth 20000 in
theorem k_518 : (Jvm.Cond.methodLink "PictureChangeLaw" (40 : Nat) ({ cls := "PictureChange", name := "bound", desc := "(II)I" } : Jvm.MethodName)) ∈ gt := List.mem_filter.mpr ⟨List.mem_append_right _ (List.mem_append_right _ (List.mem_append_right _ (List.mem_append_left _ (List.mem_of_getElem? (i := 38) (by decide +kernel))))), rfl⟩
set_option maxRecDepth 20000 in
theorem k_519 : (Jvm.Cond.instanceMethod ({ cls := "PictureChange", name := "bound", desc := "(II)I" } : Jvm.MethodName)) ∈ gt := List.mem_filter.mpr ⟨List.mem_append_right _ (List.mem_append_right _ (List.mem_append_right _ (List.mem_append_left _ (List.mem_of_getElem? (i := 39) (by decide +kernel))))), rfl⟩
set_option maxRecDepth 20000 in
theorem k_520 : (Jvm.Cond.selects "PictureChange" ({ cls := "PictureChange", name := "bound", desc := "(II)I" } : Jvm.MethodName) ({ cls := "PictureChange", name := "bound", desc := "(II)I" } : Jvm.MethodName)) ∈ gt := List.mem_filter.mpr ⟨List.mem_append_right _ (List.mem_append_right _ (List.mem_append_right _ (List.mem_append_left _ (List.mem_of_getElem? (i := 40) (by decide +kernel))))), rfl⟩
set_option maxRecDepth 20000 in
theorem k_521 : (Jvm.Cond.code ({ cls := "PictureChange", name := "bound", desc := "(II)I" } : Jvm.MethodName) prog_1_method_9_code (3 : Nat) (Option.some Jvm.ClassFile.FieldType.int)) ∈ gt := List.mem_filter.mpr ⟨List.mem_append_right _ (List.mem_append_right _ (List.mem_append_right _ (List.mem_append_left _ (List.mem_of_getElem? (i := 41) rfl)))), rfl⟩
set_option maxRecDepth 20000 in
theorem k_525 : (Jvm.Cond.methodLink "PictureChangeLaw" (44 : Nat) ({ cls := "PictureChange", name := "change", desc := "(II)I" } : Jvm.MethodName)) ∈ gt := List.mem_filter.mpr ⟨List.mem_append_right _ (List.mem_append_right _ (List.mem_append_right _ (List.mem_append_left _ (List.mem_of_getElem? (i := 45) (by decide +kernel))))), rfl⟩
set_option maxRecDepth 20000 in
theorem k_526 : (Jvm.Cond.instanceMethod ({ cls := "PictureChange", name := "change", desc := "(II)I" } : Jvm.MethodName)) ∈ gt := List.mem_filter.mpr ⟨List.mem_append_right _ (List.mem_append_right _ (List.mem_append_right _ (List.mem_append_left _ (List.mem_of_getElem? (i := 46) (by decide +kernel))))), rfl⟩
set_option maxRecDepth 20000 in
theorem k_527 : (Jvm.Cond.selects "PictureChange" ({ cls := "PictureChange", name := "change", desc := "(II)I" } : Jvm.MethodName) ({ cls := "PictureChange", name := "change", desc := "(II)I" } : Jvm.MethodName)) ∈ gt := List.mem_filter.mpr ⟨List.mem_append_right _ (List.mem_append_right _ (List.mem_append_right _ (List.mem_append_left _ (List.mem_of_getElem? (i := 47) (by decide +kernel))))), rfl⟩
set_option maxRecDepth 20000 in
theorem k_528 : (Jvm.Cond.code ({ cls := "PictureChange", name := "change", desc := "(II)I" } : Jvm.MethodName) prog_1_method_10_code (3 : Nat) (Option.some Jvm.ClassFile.FieldType.int)) ∈ gt := List.mem_filter.mpr ⟨List.mem_append_right _ (List.mem_append_right _ (List.mem_append_right _ (List.mem_append_left _ (List.mem_of_getElem? (i := 48) rfl)))), rfl⟩
set_option maxRecDepth 20000 in
theorem k_532 : (Jvm.Cond.methodLink "PictureChangeLaw" (47 : Nat) ({ cls := "PictureChange", name := "spot", desc := "(II)I" } : Jvm.MethodName)) ∈ gt := List.mem_filter.mpr ⟨List.mem_append_right _ (List.mem_append_right _ (List.mem_append_right _ (List.mem_append_left _ (List.mem_of_getElem? (i := 52) (by decide +kernel))))), rfl⟩
set_option maxRecDepth 20000 in
theorem k_533 : (Jvm.Cond.instanceMethod ({ cls := "PictureChange", name := "spot", desc := "(II)I" } : Jvm.MethodName)) ∈ gt := List.mem_filter.mpr ⟨List.mem_append_right _ (List.mem_append_right _ (List.mem_append_right _ (List.mem_append_left _ (List.mem_of_getElem? (i := 53) (by decide +kernel))))), rfl⟩
set_option maxRecDepth 20000 in
theorem k_534 : (Jvm.Cond.selects "PictureChange" ({ cls := "PictureChange", name := "spot", desc := "(II)I" } : Jvm.MethodName) ({ cls := "PictureChange", name := "spot", desc := "(II)I" } : Jvm.MethodName)) ∈ gt := List.mem_filter.mpr ⟨List.mem_append_right _ (List.mem_append_right _ (List.mem_append_right _ (List.mem_append_left _ (List.mem_of_getElem? (i := 54) (by decide +kernel))))), rfl⟩
set_option maxRecDepth 20000 in
theorem k_535 : (Jvm.Cond.code ({ cls := "PictureChange", name := "spot", desc := "(II)I" } : Jvm.MethodName) prog_1_method_12_code (3 : Nat) (Option.some Jvm.ClassFile.FieldType.int)) ∈ gt := List.mem_filter.mpr ⟨List.mem_append_right _ (List.mem_append_right _ (List.mem_append_right _ (List.mem_append_left _ (List.mem_of_getElem? (i := 55) rfl)))), rfl⟩
set_option maxRecDepth 20000 in
theorem k_538 : (Jvm.Cond.methodLink "PictureChange" (182 : Nat) ({ cls := "PictureChange$Spots", name := "factOf", desc := "(II)I" } : Jvm.MethodName)) ∈ gt := List.mem_filter.mpr ⟨List.mem_append_right _ (List.mem_append_right _ (List.mem_append_right _ (List.mem_append_left _ (List.mem_of_getElem? (i := 58) (by decide +kernel))))), rfl⟩
set_option maxRecDepth 20000 in
theorem k_539 : (Jvm.Cond.instanceMethod ({ cls := "PictureChange$Spots", name := "factOf", desc := "(II)I" } : Jvm.MethodName)) ∈ gt := List.mem_filter.mpr ⟨List.mem_append_right _ (List.mem_append_right _ (List.mem_append_right _ (List.mem_append_left _ (List.mem_of_getElem? (i := 59) (by decide +kernel))))), rfl⟩
set_option maxRecDepth 20000 in
theorem k_540 : (Jvm.Cond.selects "PictureChange$Spots" ({ cls := "PictureChange$Spots", name := "factOf", desc := "(II)I" } : Jvm.MethodName) ({ cls := "PictureChange$Spots", name := "factOf", desc := "(II)I" } : Jvm.MethodName)) ∈ gt := List.mem_filter.mpr ⟨List.mem_append_right _ (List.mem_append_right _ (List.mem_append_right _ (List.mem_append_left _ (List.mem_of_getElem? (i := 60) (by decide +kernel))))), rfl⟩
set_option maxRecDepth 20000 in
theorem k_541 : (Jvm.Cond.code ({ cls := "PictureChange$Spots", name := "factOf", desc := "(II)I" } : Jvm.MethodName) prog_7_method_6_code (3 : Nat) (Option.some Jvm.ClassFile.FieldType.int)) ∈ gt := List.mem_filter.mpr ⟨List.mem_append_right _ (List.mem_append_right _ (List.mem_append_right _ (List.mem_append_left _ (List.mem_of_getElem? (i := 61) rfl)))), rfl⟩
set_option maxRecDepth 20000 in
theorem k_545 : (Jvm.Cond.methodLink "PictureChangeLaw" (50 : Nat) ({ cls := "PictureChange", name := "map", desc := "(II)I" } : Jvm.MethodName)) ∈ gt := List.mem_filter.mpr ⟨List.mem_append_right _ (List.mem_append_right _ (List.mem_append_right _ (List.mem_append_left _ (List.mem_of_getElem? (i := 65) (by decide +kernel))))), rfl⟩
set_option maxRecDepth 20000 in
theorem k_546 : (Jvm.Cond.instanceMethod ({ cls := "PictureChange", name := "map", desc := "(II)I" } : Jvm.MethodName)) ∈ gt := List.mem_filter.mpr ⟨List.mem_append_right _ (List.mem_append_right _ (List.mem_append_right _ (List.mem_append_left _ (List.mem_of_getElem? (i := 66) (by decide +kernel))))), rfl⟩
set_option maxRecDepth 20000 in
theorem k_547 : (Jvm.Cond.selects "PictureChange" ({ cls := "PictureChange", name := "map", desc := "(II)I" } : Jvm.MethodName) ({ cls := "PictureChange", name := "map", desc := "(II)I" } : Jvm.MethodName)) ∈ gt := List.mem_filter.mpr ⟨List.mem_append_right _ (List.mem_append_right _ (List.mem_append_right _ (List.mem_append_left _ (List.mem_of_getElem? (i := 67) (by decide +kernel))))), rfl⟩
set_option maxRecDepth 20000 in
theorem k_548 : (Jvm.Cond.code ({ cls := "PictureChange", name := "map", desc := "(II)I" } : Jvm.MethodName) prog_1_method_13_code (3 : Nat) (Option.some Jvm.ClassFile.FieldType.int)) ∈ gt := List.mem_filter.mpr ⟨List.mem_append_right _ (List.mem_append_right _ (List.mem_append_right _ (List.mem_append_left _ (List.mem_of_getElem? (i := 68) rfl)))), rfl⟩
set_option maxRecDepth 20000 in
theorem k_549 : (Jvm.Cond.methodLink "PictureChange" (185 : Nat) ({ cls := "PictureChange$Spots", name := "spotAt", desc := "(II)I" } : Jvm.MethodName)) ∈ gt := List.mem_filter.mpr ⟨List.mem_append_right _ (List.mem_append_right _ (List.mem_append_right _ (List.mem_append_left _ (List.mem_of_getElem? (i := 69) (by decide +kernel))))), rfl⟩
set_option maxRecDepth 20000 in
theorem k_553 : (Jvm.Cond.methodLink "PictureChangeLaw" (53 : Nat) ({ cls := "PictureChange", name := "alarm", desc := "(III)I" } : Jvm.MethodName)) ∈ gt := List.mem_filter.mpr ⟨List.mem_append_right _ (List.mem_append_right _ (List.mem_append_right _ (List.mem_append_left _ (List.mem_of_getElem? (i := 73) (by decide +kernel))))), rfl⟩
set_option maxRecDepth 20000 in
theorem k_554 : (Jvm.Cond.instanceMethod ({ cls := "PictureChange", name := "alarm", desc := "(III)I" } : Jvm.MethodName)) ∈ gt := List.mem_filter.mpr ⟨List.mem_append_right _ (List.mem_append_right _ (List.mem_append_right _ (List.mem_append_left _ (List.mem_of_getElem? (i := 74) (by decide +kernel))))), rfl⟩
set_option maxRecDepth 20000 in
theorem k_555 : (Jvm.Cond.selects "PictureChange" ({ cls := "PictureChange", name := "alarm", desc := "(III)I" } : Jvm.MethodName) ({ cls := "PictureChange", name := "alarm", desc := "(III)I" } : Jvm.MethodName)) ∈ gt := List.mem_filter.mpr ⟨List.mem_append_right _ (List.mem_append_right _ (List.mem_append_right _ (List.mem_append_left _ (List.mem_of_getElem? (i := 75) (by decide +kernel))))), rfl⟩
set_option maxRecDepth 20000 in
theorem k_556 : (Jvm.Cond.code ({ cls := "PictureChange", name := "alarm", desc := "(III)I" } : Jvm.MethodName) prog_1_method_14_code (5 : Nat) (Option.some Jvm.ClassFile.FieldType.int)) ∈ gt := List.mem_filter.mpr ⟨List.mem_append_right _ (List.mem_append_right _ (List.mem_append_right _ (List.mem_append_left _ (List.mem_of_getElem? (i := 76) rfl)))), rfl⟩
set_option maxRecDepth 20000 in
theorem k_557 : (Jvm.Cond.methodLink "PictureChange" (188 : Nat) ({ cls := "PictureChange$Spots", name := "isAlarming", desc := "(III)Z" } : Jvm.MethodName)) ∈ gt := List.mem_filter.mpr ⟨List.mem_append_right _ (List.mem_append_right _ (List.mem_append_right _ (List.mem_append_left _ (List.mem_of_getElem? (i := 77) (by decide +kernel))))), rfl⟩
set_option maxRecDepth 20000 in
theorem k_558 : (Jvm.Cond.instanceMethod ({ cls := "PictureChange$Spots", name := "isAlarming", desc := "(III)Z" } : Jvm.MethodName)) ∈ gt := List.mem_filter.mpr ⟨List.mem_append_right _ (List.mem_append_right _ (List.mem_append_right _ (List.mem_append_left _ (List.mem_of_getElem? (i := 78) (by decide +kernel))))), rfl⟩
set_option maxRecDepth 20000 in
theorem k_559 : (Jvm.Cond.selects "PictureChange$Spots" ({ cls := "PictureChange$Spots", name := "isAlarming", desc := "(III)Z" } : Jvm.MethodName) ({ cls := "PictureChange$Spots", name := "isAlarming", desc := "(III)Z" } : Jvm.MethodName)) ∈ gt := List.mem_filter.mpr ⟨List.mem_append_right _ (List.mem_append_right _ (List.mem_append_right _ (List.mem_append_left _ (List.mem_of_getElem? (i := 79) (by decide +kernel))))), rfl⟩
set_option maxRecDepth 20000 in
theorem k_560 : (Jvm.Cond.code ({ cls := "PictureChange$Spots", name := "isAlarming", desc := "(III)Z" } : Jvm.MethodName) prog_7_method_7_code (5 : Nat) (Option.some Jvm.ClassFile.FieldType.boolean)) ∈ gt := List.mem_filter.mpr ⟨List.mem_append_right _ (List.mem_append_right _ (List.mem_append_right _ (List.mem_append_left _ (List.mem_of_getElem? (i := 80) rfl)))), rfl⟩
set_option maxRecDepth 20000 in
theorem k_561 : (Jvm.Cond.methodLink "PictureChange$Spots" (51 : Nat) ({ cls := "PictureChange$Spots", name := "factOf", desc := "(II)I" } : Jvm.MethodName)) ∈ gt := List.mem_filter.mpr ⟨List.mem_append_right _ (List.mem_append_right _ (List.mem_append_right _ (List.mem_append_left _ (List.mem_of_getElem? (i := 81) (by decide +kernel))))), rfl⟩
set_option maxRecDepth 20000 in
theorem k_565 : (Jvm.Cond.methodLink "PictureChangeLaw" (56 : Nat) ({ cls := "PictureChange", name := "day", desc := "(I)I" } : Jvm.MethodName)) ∈ gt := List.mem_filter.mpr ⟨List.mem_append_right _ (List.mem_append_right _ (List.mem_append_right _ (List.mem_append_left _ (List.mem_of_getElem? (i := 85) (by decide +kernel))))), rfl⟩
set_option maxRecDepth 20000 in
theorem k_566 : (Jvm.Cond.instanceMethod ({ cls := "PictureChange", name := "day", desc := "(I)I" } : Jvm.MethodName)) ∈ gt := List.mem_filter.mpr ⟨List.mem_append_right _ (List.mem_append_right _ (List.mem_append_right _ (List.mem_append_left _ (List.mem_of_getElem? (i := 86) (by decide +kernel))))), rfl⟩
set_option maxRecDepth 20000 in
theorem k_567 : (Jvm.Cond.selects "PictureChange" ({ cls := "PictureChange", name := "day", desc := "(I)I" } : Jvm.MethodName) ({ cls := "PictureChange", name := "day", desc := "(I)I" } : Jvm.MethodName)) ∈ gt := List.mem_filter.mpr ⟨List.mem_append_right _ (List.mem_append_right _ (List.mem_append_right _ (List.mem_append_left _ (List.mem_of_getElem? (i := 87) (by decide +kernel))))), rfl⟩
set_option maxRecDepth 20000 in
theorem k_568 : (Jvm.Cond.code ({ cls := "PictureChange", name := "day", desc := "(I)I" } : Jvm.MethodName) prog_1_method_16_code (2 : Nat) (Option.some Jvm.ClassFile.FieldType.int)) ∈ gt := List.mem_filter.mpr ⟨List.mem_append_right _ (List.mem_append_right _ (List.mem_append_right _ (List.mem_append_left _ (List.mem_of_getElem? (i := 88) rfl)))), rfl⟩
set_option maxRecDepth 20000 in
theorem k_569 : (Jvm.Cond.methodLink "PictureChange" (195 : Nat) ({ cls := "PictureChange$Days", name := "canFollow", desc := "(I)Z" } : Jvm.MethodName)) ∈ gt := List.mem_filter.mpr ⟨List.mem_append_right _ (List.mem_append_right _ (List.mem_append_right _ (List.mem_append_left _ (List.mem_of_getElem? (i := 89) (by decide +kernel))))), rfl⟩
set_option maxRecDepth 20000 in
theorem k_570 : (Jvm.Cond.instanceMethod ({ cls := "PictureChange$Days", name := "canFollow", desc := "(I)Z" } : Jvm.MethodName)) ∈ gt := List.mem_filter.mpr ⟨List.mem_append_right _ (List.mem_append_right _ (List.mem_append_right _ (List.mem_append_left _ (List.mem_of_getElem? (i := 90) (by decide +kernel))))), rfl⟩
set_option maxRecDepth 20000 in
theorem k_571 : (Jvm.Cond.selects "PictureChange$Days" ({ cls := "PictureChange$Days", name := "canFollow", desc := "(I)Z" } : Jvm.MethodName) ({ cls := "PictureChange$Days", name := "canFollow", desc := "(I)Z" } : Jvm.MethodName)) ∈ gt := List.mem_filter.mpr ⟨List.mem_append_right _ (List.mem_append_right _ (List.mem_append_right _ (List.mem_append_left _ (List.mem_of_getElem? (i := 91) (by decide +kernel))))), rfl⟩
set_option maxRecDepth 20000 in
theorem k_572 : (Jvm.Cond.code ({ cls := "PictureChange$Days", name := "canFollow", desc := "(I)Z" } : Jvm.MethodName) prog_3_method_3_code (3 : Nat) (Option.some Jvm.ClassFile.FieldType.boolean)) ∈ gt := List.mem_filter.mpr ⟨List.mem_append_right _ (List.mem_append_right _ (List.mem_append_right _ (List.mem_append_left _ (List.mem_of_getElem? (i := 92) rfl)))), rfl⟩
set_option maxRecDepth 20000 in
theorem k_574 : (Jvm.Cond.methodLink "PictureChange" (201 : Nat) ({ cls := "PictureChange$Days", name := "isFull", desc := "()Z" } : Jvm.MethodName)) ∈ gt := List.mem_filter.mpr ⟨List.mem_append_right _ (List.mem_append_right _ (List.mem_append_right _ (List.mem_append_left _ (List.mem_of_getElem? (i := 94) (by decide +kernel))))), rfl⟩
set_option maxRecDepth 20000 in
theorem k_575 : (Jvm.Cond.instanceMethod ({ cls := "PictureChange$Days", name := "isFull", desc := "()Z" } : Jvm.MethodName)) ∈ gt := List.mem_filter.mpr ⟨List.mem_append_right _ (List.mem_append_right _ (List.mem_append_right _ (List.mem_append_left _ (List.mem_of_getElem? (i := 95) (by decide +kernel))))), rfl⟩
set_option maxRecDepth 20000 in
theorem k_576 : (Jvm.Cond.selects "PictureChange$Days" ({ cls := "PictureChange$Days", name := "isFull", desc := "()Z" } : Jvm.MethodName) ({ cls := "PictureChange$Days", name := "isFull", desc := "()Z" } : Jvm.MethodName)) ∈ gt := List.mem_filter.mpr ⟨List.mem_append_right _ (List.mem_append_right _ (List.mem_append_right _ (List.mem_append_left _ (List.mem_of_getElem? (i := 96) (by decide +kernel))))), rfl⟩
set_option maxRecDepth 20000 in
theorem k_577 : (Jvm.Cond.code ({ cls := "PictureChange$Days", name := "isFull", desc := "()Z" } : Jvm.MethodName) prog_3_method_2_code (1 : Nat) (Option.some Jvm.ClassFile.FieldType.boolean)) ∈ gt := List.mem_filter.mpr ⟨List.mem_append_right _ (List.mem_append_right _ (List.mem_append_right _ (List.mem_append_left _ (List.mem_of_getElem? (i := 97) rfl)))), rfl⟩
set_option maxRecDepth 20000 in
theorem k_579 : (Jvm.Cond.methodLink "PictureChange" (207 : Nat) ({ cls := "PictureChange$Days", name := "keep", desc := "(II)V" } : Jvm.MethodName)) ∈ gt := List.mem_filter.mpr ⟨List.mem_append_right _ (List.mem_append_right _ (List.mem_append_right _ (List.mem_append_left _ (List.mem_of_getElem? (i := 99) (by decide +kernel))))), rfl⟩
set_option maxRecDepth 20000 in
theorem k_580 : (Jvm.Cond.instanceMethod ({ cls := "PictureChange$Days", name := "keep", desc := "(II)V" } : Jvm.MethodName)) ∈ gt := List.mem_filter.mpr ⟨List.mem_append_right _ (List.mem_append_right _ (List.mem_append_right _ (List.mem_append_left _ (List.mem_of_getElem? (i := 100) (by decide +kernel))))), rfl⟩
set_option maxRecDepth 20000 in
theorem k_581 : (Jvm.Cond.selects "PictureChange$Days" ({ cls := "PictureChange$Days", name := "keep", desc := "(II)V" } : Jvm.MethodName) ({ cls := "PictureChange$Days", name := "keep", desc := "(II)V" } : Jvm.MethodName)) ∈ gt := List.mem_filter.mpr ⟨List.mem_append_right _ (List.mem_append_right _ (List.mem_append_right _ (List.mem_append_left _ (List.mem_of_getElem? (i := 101) (by decide +kernel))))), rfl⟩
set_option maxRecDepth 20000 in
theorem k_582 : (Jvm.Cond.code ({ cls := "PictureChange$Days", name := "keep", desc := "(II)V" } : Jvm.MethodName) prog_3_method_4_code (3 : Nat) (Option.none : Option Jvm.ClassFile.FieldType)) ∈ gt := List.mem_filter.mpr ⟨List.mem_append_right _ (List.mem_append_right _ (List.mem_append_right _ (List.mem_append_left _ (List.mem_of_getElem? (i := 102) rfl)))), rfl⟩
set_option maxRecDepth 20000 in
theorem k_586 : (Jvm.Cond.methodLink "PictureChangeLaw" (59 : Nat) ({ cls := "PictureChange", name := "growth", desc := "(I)J" } : Jvm.MethodName)) ∈ gt := List.mem_filter.mpr ⟨List.mem_append_right _ (List.mem_append_right _ (List.mem_append_right _ (List.mem_append_left _ (List.mem_of_getElem? (i := 106) (by decide +kernel))))), rfl⟩
set_option maxRecDepth 20000 in
theorem k_587 : (Jvm.Cond.instanceMethod ({ cls := "PictureChange", name := "growth", desc := "(I)J" } : Jvm.MethodName)) ∈ gt := List.mem_filter.mpr ⟨List.mem_append_right _ (List.mem_append_right _ (List.mem_append_right _ (List.mem_append_left _ (List.mem_of_getElem? (i := 107) (by decide +kernel))))), rfl⟩
set_option maxRecDepth 20000 in
theorem k_588 : (Jvm.Cond.selects "PictureChange" ({ cls := "PictureChange", name := "growth", desc := "(I)J" } : Jvm.MethodName) ({ cls := "PictureChange", name := "growth", desc := "(I)J" } : Jvm.MethodName)) ∈ gt := List.mem_filter.mpr ⟨List.mem_append_right _ (List.mem_append_right _ (List.mem_append_right _ (List.mem_append_left _ (List.mem_of_getElem? (i := 108) (by decide +kernel))))), rfl⟩
set_option maxRecDepth 20000 in
theorem k_589 : (Jvm.Cond.code ({ cls := "PictureChange", name := "growth", desc := "(I)J" } : Jvm.MethodName) prog_1_method_17_code (2 : Nat) (Option.some Jvm.ClassFile.FieldType.long)) ∈ gt := List.mem_filter.mpr ⟨List.mem_append_right _ (List.mem_append_right _ (List.mem_append_right _ (List.mem_append_left _ (List.mem_of_getElem? (i := 109) rfl)))), rfl⟩
set_option maxRecDepth 20000 in
theorem k_590 : (Jvm.Cond.methodLink "PictureChange" (213 : Nat) ({ cls := "PictureChange$Days", name := "fit", desc := "(LPictureChange$Fraction;)V" } : Jvm.MethodName)) ∈ gt := List.mem_filter.mpr ⟨List.mem_append_right _ (List.mem_append_right _ (List.mem_append_right _ (List.mem_append_left _ (List.mem_of_getElem? (i := 110) (by decide +kernel))))), rfl⟩
set_option maxRecDepth 20000 in
theorem k_591 : (Jvm.Cond.instanceMethod ({ cls := "PictureChange$Days", name := "fit", desc := "(LPictureChange$Fraction;)V" } : Jvm.MethodName)) ∈ gt := List.mem_filter.mpr ⟨List.mem_append_right _ (List.mem_append_right _ (List.mem_append_right _ (List.mem_append_left _ (List.mem_of_getElem? (i := 111) (by decide +kernel))))), rfl⟩
set_option maxRecDepth 20000 in
theorem k_592 : (Jvm.Cond.selects "PictureChange$Days" ({ cls := "PictureChange$Days", name := "fit", desc := "(LPictureChange$Fraction;)V" } : Jvm.MethodName) ({ cls := "PictureChange$Days", name := "fit", desc := "(LPictureChange$Fraction;)V" } : Jvm.MethodName)) ∈ gt := List.mem_filter.mpr ⟨List.mem_append_right _ (List.mem_append_right _ (List.mem_append_right _ (List.mem_append_left _ (List.mem_of_getElem? (i := 112) (by decide +kernel))))), rfl⟩
set_option maxRecDepth 20000 in
theorem k_593 : (Jvm.Cond.code ({ cls := "PictureChange$Days", name := "fit", desc := "(LPictureChange$Fraction;)V" } : Jvm.MethodName) prog_3_method_5_code (13 : Nat) (Option.none : Option Jvm.ClassFile.FieldType)) ∈ gt := List.mem_filter.mpr ⟨List.mem_append_right _ (List.mem_append_right _ (List.mem_append_right _ (List.mem_append_left _ (List.mem_of_getElem? (i := 113) rfl)))), rfl⟩
set_option maxRecDepth 20000 in
theorem k_594 : (Jvm.Cond.methodLink "PictureChange$Days" (22 : Nat) ({ cls := "PictureChange$Fraction", name := "become", desc := "(JJ)V" } : Jvm.MethodName)) ∈ gt := List.mem_filter.mpr ⟨List.mem_append_right _ (List.mem_append_right _ (List.mem_append_right _ (List.mem_append_left _ (List.mem_of_getElem? (i := 114) (by decide +kernel))))), rfl⟩
set_option maxRecDepth 20000 in
theorem k_598 : (Jvm.Cond.methodLink "PictureChangeLaw" (63 : Nat) ({ cls := "PictureChange", name := "count", desc := "(I)I" } : Jvm.MethodName)) ∈ gt := List.mem_filter.mpr ⟨List.mem_append_right _ (List.mem_append_right _ (List.mem_append_right _ (List.mem_append_left _ (List.mem_of_getElem? (i := 118) (by decide +kernel))))), rfl⟩
set_option maxRecDepth 20000 in
theorem k_599 : (Jvm.Cond.instanceMethod ({ cls := "PictureChange", name := "count", desc := "(I)I" } : Jvm.MethodName)) ∈ gt := List.mem_filter.mpr ⟨List.mem_append_right _ (List.mem_append_right _ (List.mem_append_right _ (List.mem_append_left _ (List.mem_of_getElem? (i := 119) (by decide +kernel))))), rfl⟩
set_option maxRecDepth 20000 in
theorem k_600 : (Jvm.Cond.selects "PictureChange" ({ cls := "PictureChange", name := "count", desc := "(I)I" } : Jvm.MethodName) ({ cls := "PictureChange", name := "count", desc := "(I)I" } : Jvm.MethodName)) ∈ gt := List.mem_filter.mpr ⟨List.mem_append_right _ (List.mem_append_right _ (List.mem_append_right _ (List.mem_append_left _ (List.mem_of_getElem? (i := 120) (by decide +kernel))))), rfl⟩
set_option maxRecDepth 20000 in
theorem k_601 : (Jvm.Cond.code ({ cls := "PictureChange", name := "count", desc := "(I)I" } : Jvm.MethodName) prog_1_method_18_code (2 : Nat) (Option.some Jvm.ClassFile.FieldType.int)) ∈ gt := List.mem_filter.mpr ⟨List.mem_append_right _ (List.mem_append_right _ (List.mem_append_right _ (List.mem_append_left _ (List.mem_of_getElem? (i := 121) rfl)))), rfl⟩
set_option maxRecDepth 20000 in
theorem k_607 : (Jvm.Cond.methodLink "PictureChangeModel" (1 : Nat) ({ cls := "java/lang/Object", name := "<init>", desc := "()V" } : Jvm.MethodName)) ∈ gt := List.mem_filter.mpr ⟨List.mem_append_right _ (List.mem_append_right _ (List.mem_append_right _ (List.mem_append_left _ (List.mem_of_getElem? (i := 127) (by decide +kernel))))), rfl⟩
set_option maxRecDepth 20000 in
theorem k_608 : (Jvm.Cond.fieldLink "PictureChangeModel" (48 : Nat) "PictureChangeModel" "thrown" "I") ∈ gt := List.mem_filter.mpr ⟨List.mem_append_right _ (List.mem_append_right _ (List.mem_append_right _ (List.mem_append_left _ (List.mem_of_getElem? (i := 128) (by decide +kernel))))), rfl⟩
set_option maxRecDepth 20000 in
theorem k_609 : (Jvm.Cond.fieldLink "PictureChangeModel" (42 : Nat) "PictureChangeModel" "width" "I") ∈ gt := List.mem_filter.mpr ⟨List.mem_append_right _ (List.mem_append_right _ (List.mem_append_right _ (List.mem_append_left _ (List.mem_of_getElem? (i := 129) (by decide +kernel))))), rfl⟩
set_option maxRecDepth 20000 in
theorem k_610 : (Jvm.Cond.fieldLink "PictureChangeModel" (45 : Nat) "PictureChangeModel" "height" "I") ∈ gt := List.mem_filter.mpr ⟨List.mem_append_right _ (List.mem_append_right _ (List.mem_append_right _ (List.mem_append_left _ (List.mem_of_getElem? (i := 130) (by decide +kernel))))), rfl⟩
set_option maxRecDepth 20000 in
theorem k_611 : (Jvm.Cond.fieldLink "PictureChangeModel" (7 : Nat) "PictureChangeModel" "former" "[I") ∈ gt := List.mem_filter.mpr ⟨List.mem_append_right _ (List.mem_append_right _ (List.mem_append_right _ (List.mem_append_left _ (List.mem_of_getElem? (i := 131) (by decide +kernel))))), rfl⟩
set_option maxRecDepth 20000 in
theorem k_612 : (Jvm.Cond.fieldLink "PictureChangeModel" (13 : Nat) "PictureChangeModel" "later" "[I") ∈ gt := List.mem_filter.mpr ⟨List.mem_append_right _ (List.mem_append_right _ (List.mem_append_right _ (List.mem_append_left _ (List.mem_of_getElem? (i := 132) (by decide +kernel))))), rfl⟩
set_option maxRecDepth 20000 in
theorem k_613 : (Jvm.Cond.fieldLink "PictureChangeModel" (16 : Nat) "PictureChangeModel" "charts" "[Z") ∈ gt := List.mem_filter.mpr ⟨List.mem_append_right _ (List.mem_append_right _ (List.mem_append_right _ (List.mem_append_left _ (List.mem_of_getElem? (i := 133) (by decide +kernel))))), rfl⟩
set_option maxRecDepth 20000 in
theorem k_614 : (Jvm.Cond.fieldLink "PictureChangeModel" (20 : Nat) "PictureChangeModel" "lows" "[I") ∈ gt := List.mem_filter.mpr ⟨List.mem_append_right _ (List.mem_append_right _ (List.mem_append_right _ (List.mem_append_left _ (List.mem_of_getElem? (i := 134) (by decide +kernel))))), rfl⟩
set_option maxRecDepth 20000 in
theorem k_615 : (Jvm.Cond.fieldLink "PictureChangeModel" (23 : Nat) "PictureChangeModel" "highs" "[I") ∈ gt := List.mem_filter.mpr ⟨List.mem_append_right _ (List.mem_append_right _ (List.mem_append_right _ (List.mem_append_left _ (List.mem_of_getElem? (i := 135) (by decide +kernel))))), rfl⟩
set_option maxRecDepth 20000 in
theorem k_616 : (Jvm.Cond.fieldLink "PictureChangeModel" (111 : Nat) "PictureChangeModel" "repeats" "I") ∈ gt := List.mem_filter.mpr ⟨List.mem_append_right _ (List.mem_append_right _ (List.mem_append_right _ (List.mem_append_left _ (List.mem_of_getElem? (i := 136) (by decide +kernel))))), rfl⟩
set_option maxRecDepth 20000 in
theorem k_617 : (Jvm.Cond.fieldLink "PictureChangeModel" (114 : Nat) "PictureChangeModel" "wide" "I") ∈ gt := List.mem_filter.mpr ⟨List.mem_append_right _ (List.mem_append_right _ (List.mem_append_right _ (List.mem_append_left _ (List.mem_of_getElem? (i := 137) (by decide +kernel))))), rfl⟩
set_option maxRecDepth 20000 in
theorem k_618 : (Jvm.Cond.fieldLink "PictureChangeModel" (26 : Nat) "PictureChangeModel" "floor" "I") ∈ gt := List.mem_filter.mpr ⟨List.mem_append_right _ (List.mem_append_right _ (List.mem_append_right _ (List.mem_append_left _ (List.mem_of_getElem? (i := 138) (by decide +kernel))))), rfl⟩
set_option maxRecDepth 20000 in
theorem k_619 : (Jvm.Cond.fieldLink "PictureChangeModel" (88 : Nat) "PictureChangeModel" "across" "I") ∈ gt := List.mem_filter.mpr ⟨List.mem_append_right _ (List.mem_append_right _ (List.mem_append_right _ (List.mem_append_left _ (List.mem_of_getElem? (i := 139) (by decide +kernel))))), rfl⟩
set_option maxRecDepth 20000 in
theorem k_620 : (Jvm.Cond.fieldLink "PictureChangeModel" (91 : Nat) "PictureChangeModel" "down" "I") ∈ gt := List.mem_filter.mpr ⟨List.mem_append_right _ (List.mem_append_right _ (List.mem_append_right _ (List.mem_append_left _ (List.mem_of_getElem? (i := 140) (by decide +kernel))))), rfl⟩
set_option maxRecDepth 20000 in
theorem k_621 : (Jvm.Cond.fieldLink "PictureChangeModel" (67 : Nat) "PictureChangeModel" "sum" "J") ∈ gt := List.mem_filter.mpr ⟨List.mem_append_right _ (List.mem_append_right _ (List.mem_append_right _ (List.mem_append_left _ (List.mem_of_getElem? (i := 141) (by decide +kernel))))), rfl⟩
set_option maxRecDepth 20000 in
theorem k_622 : (Jvm.Cond.fieldLink "PictureChangeModel" (71 : Nat) "PictureChangeModel" "many" "J") ∈ gt := List.mem_filter.mpr ⟨List.mem_append_right _ (List.mem_append_right _ (List.mem_append_right _ (List.mem_append_left _ (List.mem_of_getElem? (i := 142) (by decide +kernel))))), rfl⟩
set_option maxRecDepth 20000 in
theorem k_623 : (Jvm.Cond.fieldLink "PictureChangeModel" (98 : Nat) "PictureChangeModel" "above" "J") ∈ gt := List.mem_filter.mpr ⟨List.mem_append_right _ (List.mem_append_right _ (List.mem_append_right _ (List.mem_append_left _ (List.mem_of_getElem? (i := 143) (by decide +kernel))))), rfl⟩
set_option maxRecDepth 20000 in
theorem k_624 : (Jvm.Cond.fieldLink "PictureChangeModel" (101 : Nat) "PictureChangeModel" "below" "J") ∈ gt := List.mem_filter.mpr ⟨List.mem_append_right _ (List.mem_append_right _ (List.mem_append_right _ (List.mem_append_left _ (List.mem_of_getElem? (i := 144) (by decide +kernel))))), rfl⟩
set_option maxRecDepth 20000 in
theorem k_625 : (Jvm.Cond.fieldLink "PictureChangeModel" (30 : Nat) "PictureChangeModel" "firsts" "[I") ∈ gt := List.mem_filter.mpr ⟨List.mem_append_right _ (List.mem_append_right _ (List.mem_append_right _ (List.mem_append_left _ (List.mem_of_getElem? (i := 145) (by decide +kernel))))), rfl⟩
set_option maxRecDepth 20000 in
theorem k_626 : (Jvm.Cond.fieldLink "PictureChangeModel" (33 : Nat) "PictureChangeModel" "changes" "[I") ∈ gt := List.mem_filter.mpr ⟨List.mem_append_right _ (List.mem_append_right _ (List.mem_append_right _ (List.mem_append_left _ (List.mem_of_getElem? (i := 146) (by decide +kernel))))), rfl⟩
set_option maxRecDepth 20000 in
theorem k_627 : (Jvm.Cond.fieldLink "PictureChangeModel" (129 : Nat) "PictureChangeModel" "marked" "I") ∈ gt := List.mem_filter.mpr ⟨List.mem_append_right _ (List.mem_append_right _ (List.mem_append_right _ (List.mem_append_left _ (List.mem_of_getElem? (i := 147) (by decide +kernel))))), rfl⟩
set_option maxRecDepth 20000 in
theorem k_628 : (Jvm.Cond.fieldLink "PictureChangeModel" (135 : Nat) "PictureChangeModel" "spots" "I") ∈ gt := List.mem_filter.mpr ⟨List.mem_append_right _ (List.mem_append_right _ (List.mem_append_right _ (List.mem_append_left _ (List.mem_of_getElem? (i := 148) (by decide +kernel))))), rfl⟩
set_option maxRecDepth 20000 in
theorem k_629 : (Jvm.Cond.fieldLink "PictureChangeModel" (147 : Nat) "PictureChangeModel" "days" "I") ∈ gt := List.mem_filter.mpr ⟨List.mem_append_right _ (List.mem_append_right _ (List.mem_append_right _ (List.mem_append_left _ (List.mem_of_getElem? (i := 149) (by decide +kernel))))), rfl⟩
set_option maxRecDepth 20000 in
theorem k_630 : (Jvm.Cond.fieldLink "PictureChangeModel" (36 : Nat) "PictureChangeModel" "dates" "[I") ∈ gt := List.mem_filter.mpr ⟨List.mem_append_right _ (List.mem_append_right _ (List.mem_append_right _ (List.mem_append_left _ (List.mem_of_getElem? (i := 150) (by decide +kernel))))), rfl⟩
set_option maxRecDepth 20000 in
theorem k_631 : (Jvm.Cond.fieldLink "PictureChangeModel" (39 : Nat) "PictureChangeModel" "kept" "[I") ∈ gt := List.mem_filter.mpr ⟨List.mem_append_right _ (List.mem_append_right _ (List.mem_append_right _ (List.mem_append_left _ (List.mem_of_getElem? (i := 151) (by decide +kernel))))), rfl⟩
set_option maxRecDepth 20000 in
theorem k_632 : (Jvm.Cond.lays "PictureChangeModel" "PictureChangeModel" "thrown" "I") ∈ gt := List.mem_filter.mpr ⟨List.mem_append_right _ (List.mem_append_right _ (List.mem_append_right _ (List.mem_append_left _ (List.mem_of_getElem? (i := 152) (by decide +kernel))))), rfl⟩
set_option maxRecDepth 20000 in
theorem k_634 : (Jvm.Cond.laysFinal "PictureChangeModel" "PictureChangeModel" "width" "I") ∈ gt := List.mem_filter.mpr ⟨List.mem_append_right _ (List.mem_append_right _ (List.mem_append_right _ (List.mem_append_left _ (List.mem_of_getElem? (i := 154) (by decide +kernel))))), rfl⟩
set_option maxRecDepth 20000 in
theorem k_636 : (Jvm.Cond.laysFinal "PictureChangeModel" "PictureChangeModel" "height" "I") ∈ gt := List.mem_filter.mpr ⟨List.mem_append_right _ (List.mem_append_right _ (List.mem_append_right _ (List.mem_append_left _ (List.mem_of_getElem? (i := 156) (by decide +kernel))))), rfl⟩
set_option maxRecDepth 20000 in
theorem k_638 : (Jvm.Cond.laysFinal "PictureChangeModel" "PictureChangeModel" "former" "[I") ∈ gt := List.mem_filter.mpr ⟨List.mem_append_right _ (List.mem_append_right _ (List.mem_append_right _ (List.mem_append_left _ (List.mem_of_getElem? (i := 158) (by decide +kernel))))), rfl⟩
set_option maxRecDepth 20000 in
theorem k_640 : (Jvm.Cond.laysFinal "PictureChangeModel" "PictureChangeModel" "later" "[I") ∈ gt := List.mem_filter.mpr ⟨List.mem_append_right _ (List.mem_append_right _ (List.mem_append_right _ (List.mem_append_left _ (List.mem_of_getElem? (i := 160) (by decide +kernel))))), rfl⟩
set_option maxRecDepth 20000 in
theorem k_642 : (Jvm.Cond.laysFinal "PictureChangeModel" "PictureChangeModel" "charts" "[Z") ∈ gt := List.mem_filter.mpr ⟨List.mem_append_right _ (List.mem_append_right _ (List.mem_append_right _ (List.mem_append_left _ (List.mem_of_getElem? (i := 162) (by decide +kernel))))), rfl⟩
set_option maxRecDepth 20000 in
theorem k_644 : (Jvm.Cond.laysFinal "PictureChangeModel" "PictureChangeModel" "lows" "[I") ∈ gt := List.mem_filter.mpr ⟨List.mem_append_right _ (List.mem_append_right _ (List.mem_append_right _ (List.mem_append_left _ (List.mem_of_getElem? (i := 164) (by decide +kernel))))), rfl⟩
set_option maxRecDepth 20000 in
theorem k_646 : (Jvm.Cond.laysFinal "PictureChangeModel" "PictureChangeModel" "highs" "[I") ∈ gt := List.mem_filter.mpr ⟨List.mem_append_right _ (List.mem_append_right _ (List.mem_append_right _ (List.mem_append_left _ (List.mem_of_getElem? (i := 166) (by decide +kernel))))), rfl⟩
set_option maxRecDepth 20000 in
theorem k_648 : (Jvm.Cond.lays "PictureChangeModel" "PictureChangeModel" "repeats" "I") ∈ gt := List.mem_filter.mpr ⟨List.mem_append_right _ (List.mem_append_right _ (List.mem_append_right _ (List.mem_append_left _ (List.mem_of_getElem? (i := 168) (by decide +kernel))))), rfl⟩
set_option maxRecDepth 20000 in
theorem k_650 : (Jvm.Cond.lays "PictureChangeModel" "PictureChangeModel" "wide" "I") ∈ gt := List.mem_filter.mpr ⟨List.mem_append_right _ (List.mem_append_right _ (List.mem_append_right _ (List.mem_append_left _ (List.mem_of_getElem? (i := 170) (by decide +kernel))))), rfl⟩
set_option maxRecDepth 20000 in
theorem k_652 : (Jvm.Cond.lays "PictureChangeModel" "PictureChangeModel" "floor" "I") ∈ gt := List.mem_filter.mpr ⟨List.mem_append_right _ (List.mem_append_right _ (List.mem_append_right _ (List.mem_append_left _ (List.mem_of_getElem? (i := 172) (by decide +kernel))))), rfl⟩
set_option maxRecDepth 20000 in
theorem k_654 : (Jvm.Cond.lays "PictureChangeModel" "PictureChangeModel" "across" "I") ∈ gt := List.mem_filter.mpr ⟨List.mem_append_right _ (List.mem_append_right _ (List.mem_append_right _ (List.mem_append_left _ (List.mem_of_getElem? (i := 174) (by decide +kernel))))), rfl⟩
set_option maxRecDepth 20000 in
theorem k_656 : (Jvm.Cond.lays "PictureChangeModel" "PictureChangeModel" "down" "I") ∈ gt := List.mem_filter.mpr ⟨List.mem_append_right _ (List.mem_append_right _ (List.mem_append_right _ (List.mem_append_left _ (List.mem_of_getElem? (i := 176) (by decide +kernel))))), rfl⟩
set_option maxRecDepth 20000 in
theorem k_658 : (Jvm.Cond.lays "PictureChangeModel" "PictureChangeModel" "sum" "J") ∈ gt := List.mem_filter.mpr ⟨List.mem_append_right _ (List.mem_append_right _ (List.mem_append_right _ (List.mem_append_left _ (List.mem_of_getElem? (i := 178) (by decide +kernel))))), rfl⟩
set_option maxRecDepth 20000 in
theorem k_660 : (Jvm.Cond.lays "PictureChangeModel" "PictureChangeModel" "many" "J") ∈ gt := List.mem_filter.mpr ⟨List.mem_append_right _ (List.mem_append_right _ (List.mem_append_right _ (List.mem_append_left _ (List.mem_of_getElem? (i := 180) (by decide +kernel))))), rfl⟩
set_option maxRecDepth 20000 in
theorem k_662 : (Jvm.Cond.lays "PictureChangeModel" "PictureChangeModel" "above" "J") ∈ gt := List.mem_filter.mpr ⟨List.mem_append_right _ (List.mem_append_right _ (List.mem_append_right _ (List.mem_append_left _ (List.mem_of_getElem? (i := 182) (by decide +kernel))))), rfl⟩
set_option maxRecDepth 20000 in
theorem k_664 : (Jvm.Cond.lays "PictureChangeModel" "PictureChangeModel" "below" "J") ∈ gt := List.mem_filter.mpr ⟨List.mem_append_right _ (List.mem_append_right _ (List.mem_append_right _ (List.mem_append_left _ (List.mem_of_getElem? (i := 184) (by decide +kernel))))), rfl⟩
set_option maxRecDepth 20000 in
theorem k_666 : (Jvm.Cond.laysFinal "PictureChangeModel" "PictureChangeModel" "firsts" "[I") ∈ gt := List.mem_filter.mpr ⟨List.mem_append_right _ (List.mem_append_right _ (List.mem_append_right _ (List.mem_append_left _ (List.mem_of_getElem? (i := 186) (by decide +kernel))))), rfl⟩
set_option maxRecDepth 20000 in
theorem k_668 : (Jvm.Cond.laysFinal "PictureChangeModel" "PictureChangeModel" "changes" "[I") ∈ gt := List.mem_filter.mpr ⟨List.mem_append_right _ (List.mem_append_right _ (List.mem_append_right _ (List.mem_append_left _ (List.mem_of_getElem? (i := 188) (by decide +kernel))))), rfl⟩
set_option maxRecDepth 20000 in
theorem k_670 : (Jvm.Cond.lays "PictureChangeModel" "PictureChangeModel" "marked" "I") ∈ gt := List.mem_filter.mpr ⟨List.mem_append_right _ (List.mem_append_right _ (List.mem_append_right _ (List.mem_append_left _ (List.mem_of_getElem? (i := 190) (by decide +kernel))))), rfl⟩
set_option maxRecDepth 20000 in
theorem k_672 : (Jvm.Cond.lays "PictureChangeModel" "PictureChangeModel" "spots" "I") ∈ gt := List.mem_filter.mpr ⟨List.mem_append_right _ (List.mem_append_right _ (List.mem_append_right _ (List.mem_append_left _ (List.mem_of_getElem? (i := 192) (by decide +kernel))))), rfl⟩
set_option maxRecDepth 20000 in
theorem k_674 : (Jvm.Cond.lays "PictureChangeModel" "PictureChangeModel" "days" "I") ∈ gt := List.mem_filter.mpr ⟨List.mem_append_right _ (List.mem_append_right _ (List.mem_append_right _ (List.mem_append_left _ (List.mem_of_getElem? (i := 194) (by decide +kernel))))), rfl⟩
set_option maxRecDepth 20000 in
theorem k_676 : (Jvm.Cond.laysFinal "PictureChangeModel" "PictureChangeModel" "dates" "[I") ∈ gt := List.mem_filter.mpr ⟨List.mem_append_right _ (List.mem_append_right _ (List.mem_append_right _ (List.mem_append_left _ (List.mem_of_getElem? (i := 196) (by decide +kernel))))), rfl⟩
set_option maxRecDepth 20000 in
theorem k_678 : (Jvm.Cond.laysFinal "PictureChangeModel" "PictureChangeModel" "kept" "[I") ∈ gt := List.mem_filter.mpr ⟨List.mem_append_right _ (List.mem_append_right _ (List.mem_append_right _ (List.mem_append_left _ (List.mem_of_getElem? (i := 198) (by decide +kernel))))), rfl⟩
set_option maxRecDepth 20000 in
theorem k_681 : (Jvm.Cond.arrayClass Jvm.ClassFile.FieldType.boolean) ∈ gt := List.mem_filter.mpr ⟨List.mem_append_right _ (List.mem_append_right _ (List.mem_append_right _ (List.mem_append_left _ (List.mem_of_getElem? (i := 201) (by decide +kernel))))), rfl⟩
set_option maxRecDepth 20000 in
theorem k_690 : (Jvm.Cond.methodLink "PictureChangeModel" (55 : Nat) ({ cls := "PictureChangeModel", name := "isCell", desc := "(II)Z" } : Jvm.MethodName)) ∈ gt := List.mem_filter.mpr ⟨List.mem_append_right _ (List.mem_append_right _ (List.mem_append_right _ (List.mem_append_left _ (List.mem_of_getElem? (i := 210) (by decide +kernel))))), rfl⟩
set_option maxRecDepth 20000 in
theorem k_692 : (Jvm.Cond.instanceMethod ({ cls := "PictureChangeModel", name := "isCell", desc := "(II)Z" } : Jvm.MethodName)) ∈ gt := List.mem_filter.mpr ⟨List.mem_append_right _ (List.mem_append_right _ (List.mem_append_right _ (List.mem_append_left _ (List.mem_of_getElem? (i := 212) (by decide +kernel))))), rfl⟩
set_option maxRecDepth 20000 in
theorem k_693 : (Jvm.Cond.code ({ cls := "PictureChangeModel", name := "isCell", desc := "(II)Z" } : Jvm.MethodName) prog_9_method_5_code (3 : Nat) (Option.some Jvm.ClassFile.FieldType.boolean)) ∈ gt := List.mem_filter.mpr ⟨List.mem_append_right _ (List.mem_append_right _ (List.mem_append_right _ (List.mem_append_left _ (List.mem_of_getElem? (i := 213) rfl)))), rfl⟩
set_option maxRecDepth 20000 in
theorem k_694 : (Jvm.Cond.methodLink "PictureChangeModel" (51 : Nat) ({ cls := "PictureChangeModel", name := "within", desc := "(III)Z" } : Jvm.MethodName)) ∈ gt := List.mem_filter.mpr ⟨List.mem_append_right _ (List.mem_append_right _ (List.mem_append_right _ (List.mem_append_left _ (List.mem_of_getElem? (i := 214) (by decide +kernel))))), rfl⟩
set_option maxRecDepth 20000 in
theorem k_695 : (Jvm.Cond.static ({ cls := "PictureChangeModel", name := "within", desc := "(III)Z" } : Jvm.MethodName)) ∈ gt := List.mem_filter.mpr ⟨List.mem_append_right _ (List.mem_append_right _ (List.mem_append_right _ (List.mem_append_left _ (List.mem_of_getElem? (i := 215) (by decide +kernel))))), rfl⟩
set_option maxRecDepth 20000 in
theorem k_696 : (Jvm.Cond.code ({ cls := "PictureChangeModel", name := "within", desc := "(III)Z" } : Jvm.MethodName) prog_9_method_4_code (3 : Nat) (Option.some Jvm.ClassFile.FieldType.boolean)) ∈ gt := List.mem_filter.mpr ⟨List.mem_append_right _ (List.mem_append_right _ (List.mem_append_right _ (List.mem_append_left _ (List.mem_of_getElem? (i := 216) rfl)))), rfl⟩
set_option maxRecDepth 20000 in
theorem k_697 : (Jvm.Cond.methodLink "PictureChangeModel" (59 : Nat) ({ cls := "PictureChangeModel", name := "goes", desc := "(ZZZ)Z" } : Jvm.MethodName)) ∈ gt := List.mem_filter.mpr ⟨List.mem_append_right _ (List.mem_append_right _ (List.mem_append_right _ (List.mem_append_left _ (List.mem_of_getElem? (i := 217) (by decide +kernel))))), rfl⟩
set_option maxRecDepth 20000 in
theorem k_699 : (Jvm.Cond.instanceMethod ({ cls := "PictureChangeModel", name := "goes", desc := "(ZZZ)Z" } : Jvm.MethodName)) ∈ gt := List.mem_filter.mpr ⟨List.mem_append_right _ (List.mem_append_right _ (List.mem_append_right _ (List.mem_append_left _ (List.mem_of_getElem? (i := 219) (by decide +kernel))))), rfl⟩
set_option maxRecDepth 20000 in
theorem k_700 : (Jvm.Cond.code ({ cls := "PictureChangeModel", name := "goes", desc := "(ZZZ)Z" } : Jvm.MethodName) prog_9_method_3_code (4 : Nat) (Option.some Jvm.ClassFile.FieldType.boolean)) ∈ gt := List.mem_filter.mpr ⟨List.mem_append_right _ (List.mem_append_right _ (List.mem_append_right _ (List.mem_append_left _ (List.mem_of_getElem? (i := 220) rfl)))), rfl⟩
set_option maxRecDepth 20000 in
theorem k_705 : (Jvm.Cond.constantLong "PictureChangeModel" (82 : Nat) (-1 : Int64)) ∈ gt := List.mem_filter.mpr ⟨List.mem_append_right _ (List.mem_append_right _ (List.mem_append_right _ (List.mem_append_left _ (List.mem_of_getElem? (i := 225) (by decide +kernel))))), rfl⟩
set_option maxRecDepth 20000 in
theorem k_706 : (Jvm.Cond.methodLink "PictureChangeModel" (84 : Nat) ({ cls := "PictureChangeModel", name := "look", desc := "(II)V" } : Jvm.MethodName)) ∈ gt := List.mem_filter.mpr ⟨List.mem_append_right _ (List.mem_append_right _ (List.mem_append_right _ (List.mem_append_left _ (List.mem_of_getElem? (i := 226) (by decide +kernel))))), rfl⟩
set_option maxRecDepth 20000 in
theorem k_708 : (Jvm.Cond.instanceMethod ({ cls := "PictureChangeModel", name := "look", desc := "(II)V" } : Jvm.MethodName)) ∈ gt := List.mem_filter.mpr ⟨List.mem_append_right _ (List.mem_append_right _ (List.mem_append_right _ (List.mem_append_left _ (List.mem_of_getElem? (i := 228) (by decide +kernel))))), rfl⟩
set_option maxRecDepth 20000 in
theorem k_709 : (Jvm.Cond.code ({ cls := "PictureChangeModel", name := "look", desc := "(II)V" } : Jvm.MethodName) prog_9_method_10_code (5 : Nat) (Option.none : Option Jvm.ClassFile.FieldType)) ∈ gt := List.mem_filter.mpr ⟨List.mem_append_right _ (List.mem_append_right _ (List.mem_append_right _ (List.mem_append_left _ (List.mem_of_getElem? (i := 229) rfl)))), rfl⟩
set_option maxRecDepth 20000 in
theorem k_710 : (Jvm.Cond.methodLink "PictureChangeModel" (74 : Nat) ({ cls := "PictureChangeModel", name := "under", desc := "(III)I" } : Jvm.MethodName)) ∈ gt := List.mem_filter.mpr ⟨List.mem_append_right _ (List.mem_append_right _ (List.mem_append_right _ (List.mem_append_left _ (List.mem_of_getElem? (i := 230) (by decide +kernel))))), rfl⟩
set_option maxRecDepth 20000 in
theorem k_712 : (Jvm.Cond.instanceMethod ({ cls := "PictureChangeModel", name := "under", desc := "(III)I" } : Jvm.MethodName)) ∈ gt := List.mem_filter.mpr ⟨List.mem_append_right _ (List.mem_append_right _ (List.mem_append_right _ (List.mem_append_left _ (List.mem_of_getElem? (i := 232) (by decide +kernel))))), rfl⟩
set_option maxRecDepth 20000 in
theorem k_713 : (Jvm.Cond.code ({ cls := "PictureChangeModel", name := "under", desc := "(III)I" } : Jvm.MethodName) prog_9_method_9_code (4 : Nat) (Option.some Jvm.ClassFile.FieldType.int)) ∈ gt := List.mem_filter.mpr ⟨List.mem_append_right _ (List.mem_append_right _ (List.mem_append_right _ (List.mem_append_left _ (List.mem_of_getElem? (i := 233) rfl)))), rfl⟩
set_option maxRecDepth 20000 in
theorem k_714 : (Jvm.Cond.methodLink "PictureChangeModel" (63 : Nat) ({ cls := "PictureChangeModel", name := "isPlace", desc := "(I)Z" } : Jvm.MethodName)) ∈ gt := List.mem_filter.mpr ⟨List.mem_append_right _ (List.mem_append_right _ (List.mem_append_right _ (List.mem_append_left _ (List.mem_of_getElem? (i := 234) (by decide +kernel))))), rfl⟩
set_option maxRecDepth 20000 in
theorem k_716 : (Jvm.Cond.instanceMethod ({ cls := "PictureChangeModel", name := "isPlace", desc := "(I)Z" } : Jvm.MethodName)) ∈ gt := List.mem_filter.mpr ⟨List.mem_append_right _ (List.mem_append_right _ (List.mem_append_right _ (List.mem_append_left _ (List.mem_of_getElem? (i := 236) (by decide +kernel))))), rfl⟩
set_option maxRecDepth 20000 in
theorem k_717 : (Jvm.Cond.code ({ cls := "PictureChangeModel", name := "isPlace", desc := "(I)Z" } : Jvm.MethodName) prog_9_method_6_code (2 : Nat) (Option.some Jvm.ClassFile.FieldType.boolean)) ∈ gt := List.mem_filter.mpr ⟨List.mem_append_right _ (List.mem_append_right _ (List.mem_append_right _ (List.mem_append_left _ (List.mem_of_getElem? (i := 237) rfl)))), rfl⟩
set_option maxRecDepth 20000 in
theorem k_718 : (Jvm.Cond.methodLink "PictureChangeModel" (78 : Nat) ({ cls := "PictureChangeModel", name := "apart", desc := "(II)I" } : Jvm.MethodName)) ∈ gt := List.mem_filter.mpr ⟨List.mem_append_right _ (List.mem_append_right _ (List.mem_append_right _ (List.mem_append_left _ (List.mem_of_getElem? (i := 238) (by decide +kernel))))), rfl⟩
set_option maxRecDepth 20000 in
theorem k_719 : (Jvm.Cond.static ({ cls := "PictureChangeModel", name := "apart", desc := "(II)I" } : Jvm.MethodName)) ∈ gt := List.mem_filter.mpr ⟨List.mem_append_right _ (List.mem_append_right _ (List.mem_append_right _ (List.mem_append_left _ (List.mem_of_getElem? (i := 239) (by decide +kernel))))), rfl⟩
set_option maxRecDepth 20000 in
theorem k_720 : (Jvm.Cond.code ({ cls := "PictureChangeModel", name := "apart", desc := "(II)I" } : Jvm.MethodName) prog_9_method_7_code (2 : Nat) (Option.some Jvm.ClassFile.FieldType.int)) ∈ gt := List.mem_filter.mpr ⟨List.mem_append_right _ (List.mem_append_right _ (List.mem_append_right _ (List.mem_append_right _ (List.mem_of_getElem? (i := 0) rfl)))), rfl⟩
set_option maxRecDepth 20000 in
theorem k_729 : (Jvm.Cond.methodLink "PictureChangeModel" (94 : Nat) ({ cls := "PictureChangeModel", name := "chartsNow", desc := "()I" } : Jvm.MethodName)) ∈ gt := List.mem_filter.mpr ⟨List.mem_append_right _ (List.mem_append_right _ (List.mem_append_right _ (List.mem_append_right _ (List.mem_of_getElem? (i := 9) (by decide +kernel))))), rfl⟩
set_option maxRecDepth 20000 in
theorem k_731 : (Jvm.Cond.instanceMethod ({ cls := "PictureChangeModel", name := "chartsNow", desc := "()I" } : Jvm.MethodName)) ∈ gt := List.mem_filter.mpr ⟨List.mem_append_right _ (List.mem_append_right _ (List.mem_append_right _ (List.mem_append_right _ (List.mem_of_getElem? (i := 11) (by decide +kernel))))), rfl⟩
set_option maxRecDepth 20000 in
theorem k_732 : (Jvm.Cond.code ({ cls := "PictureChangeModel", name := "chartsNow", desc := "()I" } : Jvm.MethodName) prog_9_method_13_code (3 : Nat) (Option.some Jvm.ClassFile.FieldType.int)) ∈ gt := List.mem_filter.mpr ⟨List.mem_append_right _ (List.mem_append_right _ (List.mem_append_right _ (List.mem_append_right _ (List.mem_of_getElem? (i := 12) rfl)))), rfl⟩
set_option maxRecDepth 20000 in
theorem k_737 : (Jvm.Cond.methodLink "PictureChangeModel" (108 : Nat) ({ cls := "PictureChangeModel", name := "weigh", desc := "()V" } : Jvm.MethodName)) ∈ gt := List.mem_filter.mpr ⟨List.mem_append_right _ (List.mem_append_right _ (List.mem_append_right _ (List.mem_append_right _ (List.mem_of_getElem? (i := 17) (by decide +kernel))))), rfl⟩
set_option maxRecDepth 20000 in
theorem k_739 : (Jvm.Cond.instanceMethod ({ cls := "PictureChangeModel", name := "weigh", desc := "()V" } : Jvm.MethodName)) ∈ gt := List.mem_filter.mpr ⟨List.mem_append_right _ (List.mem_append_right _ (List.mem_append_right _ (List.mem_append_right _ (List.mem_of_getElem? (i := 19) (by decide +kernel))))), rfl⟩
set_option maxRecDepth 20000 in
theorem k_740 : (Jvm.Cond.code ({ cls := "PictureChangeModel", name := "weigh", desc := "()V" } : Jvm.MethodName) prog_9_method_15_code (3 : Nat) (Option.none : Option Jvm.ClassFile.FieldType)) ∈ gt := List.mem_filter.mpr ⟨List.mem_append_right _ (List.mem_append_right _ (List.mem_append_right _ (List.mem_append_right _ (List.mem_of_getElem? (i := 20) rfl)))), rfl⟩
set_option maxRecDepth 20000 in
theorem k_741 : (Jvm.Cond.methodLink "PictureChangeModel" (104 : Nat) ({ cls := "PictureChangeModel", name := "divisor", desc := "(JJ)J" } : Jvm.MethodName)) ∈ gt := List.mem_filter.mpr ⟨List.mem_append_right _ (List.mem_append_right _ (List.mem_append_right _ (List.mem_append_right _ (List.mem_of_getElem? (i := 21) (by decide +kernel))))), rfl⟩
set_option maxRecDepth 20000 in
theorem k_742 : (Jvm.Cond.static ({ cls := "PictureChangeModel", name := "divisor", desc := "(JJ)J" } : Jvm.MethodName)) ∈ gt := List.mem_filter.mpr ⟨List.mem_append_right _ (List.mem_append_right _ (List.mem_append_right _ (List.mem_append_right _ (List.mem_of_getElem? (i := 22) (by decide +kernel))))), rfl⟩
set_option maxRecDepth 20000 in
theorem k_743 : (Jvm.Cond.code ({ cls := "PictureChangeModel", name := "divisor", desc := "(JJ)J" } : Jvm.MethodName) prog_9_method_16_code (10 : Nat) (Option.some Jvm.ClassFile.FieldType.long)) ∈ gt := List.mem_filter.mpr ⟨List.mem_append_right _ (List.mem_append_right _ (List.mem_append_right _ (List.mem_append_right _ (List.mem_of_getElem? (i := 23) rfl)))), rfl⟩
set_option maxRecDepth 20000 in
theorem k_748 : (Jvm.Cond.methodLink "PictureChangeModel" (117 : Nat) ({ cls := "PictureChangeModel", name := "boundOf", desc := "(I)I" } : Jvm.MethodName)) ∈ gt := List.mem_filter.mpr ⟨List.mem_append_right _ (List.mem_append_right _ (List.mem_append_right _ (List.mem_append_right _ (List.mem_of_getElem? (i := 28) (by decide +kernel))))), rfl⟩
set_option maxRecDepth 20000 in
theorem k_750 : (Jvm.Cond.instanceMethod ({ cls := "PictureChangeModel", name := "boundOf", desc := "(I)I" } : Jvm.MethodName)) ∈ gt := List.mem_filter.mpr ⟨List.mem_append_right _ (List.mem_append_right _ (List.mem_append_right _ (List.mem_append_right _ (List.mem_of_getElem? (i := 30) (by decide +kernel))))), rfl⟩
set_option maxRecDepth 20000 in
theorem k_751 : (Jvm.Cond.code ({ cls := "PictureChangeModel", name := "boundOf", desc := "(I)I" } : Jvm.MethodName) prog_9_method_18_code (4 : Nat) (Option.some Jvm.ClassFile.FieldType.int)) ∈ gt := List.mem_filter.mpr ⟨List.mem_append_right _ (List.mem_append_right _ (List.mem_append_right _ (List.mem_append_right _ (List.mem_of_getElem? (i := 31) rfl)))), rfl⟩
set_option maxRecDepth 20000 in
theorem k_764 : (Jvm.Cond.methodLink "PictureChangeModel" (123 : Nat) ({ cls := "PictureChangeModel", name := "changeOf", desc := "(I)I" } : Jvm.MethodName)) ∈ gt := List.mem_filter.mpr ⟨List.mem_append_right _ (List.mem_append_right _ (List.mem_append_right _ (List.mem_append_right _ (List.mem_of_getElem? (i := 44) (by decide +kernel))))), rfl⟩
set_option maxRecDepth 20000 in
theorem k_766 : (Jvm.Cond.instanceMethod ({ cls := "PictureChangeModel", name := "changeOf", desc := "(I)I" } : Jvm.MethodName)) ∈ gt := List.mem_filter.mpr ⟨List.mem_append_right _ (List.mem_append_right _ (List.mem_append_right _ (List.mem_append_right _ (List.mem_of_getElem? (i := 46) (by decide +kernel))))), rfl⟩
set_option maxRecDepth 20000 in
theorem k_767 : (Jvm.Cond.code ({ cls := "PictureChangeModel", name := "changeOf", desc := "(I)I" } : Jvm.MethodName) prog_9_method_22_code (5 : Nat) (Option.some Jvm.ClassFile.FieldType.int)) ∈ gt := List.mem_filter.mpr ⟨List.mem_append_right _ (List.mem_append_right _ (List.mem_append_right _ (List.mem_append_right _ (List.mem_of_getElem? (i := 47) rfl)))), rfl⟩
set_option maxRecDepth 20000 in
theorem k_768 : (Jvm.Cond.constantLong "PictureChangeModel" (121 : Nat) (2 : Int64)) ∈ gt := List.mem_filter.mpr ⟨List.mem_append_right _ (List.mem_append_right _ (List.mem_append_right _ (List.mem_append_right _ (List.mem_of_getElem? (i := 48) (by decide +kernel))))), rfl⟩
set_option maxRecDepth 20000 in
theorem k_773 : (Jvm.Cond.methodLink "PictureChangeModel" (132 : Nat) ({ cls := "PictureChangeModel", name := "lowest", desc := "(I)I" } : Jvm.MethodName)) ∈ gt := List.mem_filter.mpr ⟨List.mem_append_right _ (List.mem_append_right _ (List.mem_append_right _ (List.mem_append_right _ (List.mem_of_getElem? (i := 53) (by decide +kernel))))), rfl⟩
set_option maxRecDepth 20000 in
theorem k_775 : (Jvm.Cond.instanceMethod ({ cls := "PictureChangeModel", name := "lowest", desc := "(I)I" } : Jvm.MethodName)) ∈ gt := List.mem_filter.mpr ⟨List.mem_append_right _ (List.mem_append_right _ (List.mem_append_right _ (List.mem_append_right _ (List.mem_of_getElem? (i := 55) (by decide +kernel))))), rfl⟩
set_option maxRecDepth 20000 in
theorem k_776 : (Jvm.Cond.code ({ cls := "PictureChangeModel", name := "lowest", desc := "(I)I" } : Jvm.MethodName) prog_9_method_24_code (5 : Nat) (Option.some Jvm.ClassFile.FieldType.int)) ∈ gt := List.mem_filter.mpr ⟨List.mem_append_right _ (List.mem_append_right _ (List.mem_append_right _ (List.mem_append_right _ (List.mem_of_getElem? (i := 56) rfl)))), rfl⟩
set_option maxRecDepth 20000 in
theorem k_777 : (Jvm.Cond.methodLink "PictureChangeModel" (126 : Nat) ({ cls := "PictureChangeModel", name := "neighbour", desc := "(II)I" } : Jvm.MethodName)) ∈ gt := List.mem_filter.mpr ⟨List.mem_append_right _ (List.mem_append_right _ (List.mem_append_right _ (List.mem_append_right _ (List.mem_of_getElem? (i := 57) (by decide +kernel))))), rfl⟩
set_option maxRecDepth 20000 in
theorem k_779 : (Jvm.Cond.instanceMethod ({ cls := "PictureChangeModel", name := "neighbour", desc := "(II)I" } : Jvm.MethodName)) ∈ gt := List.mem_filter.mpr ⟨List.mem_append_right _ (List.mem_append_right _ (List.mem_append_right _ (List.mem_append_right _ (List.mem_of_getElem? (i := 59) (by decide +kernel))))), rfl⟩
set_option maxRecDepth 20000 in
theorem k_780 : (Jvm.Cond.code ({ cls := "PictureChangeModel", name := "neighbour", desc := "(II)I" } : Jvm.MethodName) prog_9_method_25_code (5 : Nat) (Option.some Jvm.ClassFile.FieldType.int)) ∈ gt := List.mem_filter.mpr ⟨List.mem_append_right _ (List.mem_append_right _ (List.mem_append_right _ (List.mem_append_right _ (List.mem_of_getElem? (i := 60) rfl)))), rfl⟩
set_option maxRecDepth 20000 in
theorem k_785 : (Jvm.Cond.methodLink "PictureChangeModel" (144 : Nat) ({ cls := "PictureChangeModel", name := "numbers", desc := "(II)I" } : Jvm.MethodName)) ∈ gt := List.mem_filter.mpr ⟨List.mem_append_right _ (List.mem_append_right _ (List.mem_append_right _ (List.mem_append_right _ (List.mem_of_getElem? (i := 65) (by decide +kernel))))), rfl⟩
set_option maxRecDepth 20000 in
theorem k_787 : (Jvm.Cond.instanceMethod ({ cls := "PictureChangeModel", name := "numbers", desc := "(II)I" } : Jvm.MethodName)) ∈ gt := List.mem_filter.mpr ⟨List.mem_append_right _ (List.mem_append_right _ (List.mem_append_right _ (List.mem_append_right _ (List.mem_of_getElem? (i := 67) (by decide +kernel))))), rfl⟩
set_option maxRecDepth 20000 in
theorem k_788 : (Jvm.Cond.code ({ cls := "PictureChangeModel", name := "numbers", desc := "(II)I" } : Jvm.MethodName) prog_9_method_29_code (13 : Nat) (Option.some Jvm.ClassFile.FieldType.int)) ∈ gt := List.mem_filter.mpr ⟨List.mem_append_right _ (List.mem_append_right _ (List.mem_append_right _ (List.mem_append_right _ (List.mem_of_getElem? (i := 68) rfl)))), rfl⟩
set_option maxRecDepth 20000 in
theorem k_789 : (Jvm.Cond.methodLink "PictureChangeModel" (138 : Nat) ({ cls := "PictureChangeModel", name := "cellOf", desc := "(I)I" } : Jvm.MethodName)) ∈ gt := List.mem_filter.mpr ⟨List.mem_append_right _ (List.mem_append_right _ (List.mem_append_right _ (List.mem_append_right _ (List.mem_of_getElem? (i := 69) (by decide +kernel))))), rfl⟩
set_option maxRecDepth 20000 in
theorem k_791 : (Jvm.Cond.instanceMethod ({ cls := "PictureChangeModel", name := "cellOf", desc := "(I)I" } : Jvm.MethodName)) ∈ gt := List.mem_filter.mpr ⟨List.mem_append_right _ (List.mem_append_right _ (List.mem_append_right _ (List.mem_append_right _ (List.mem_of_getElem? (i := 71) (by decide +kernel))))), rfl⟩
set_option maxRecDepth 20000 in
theorem k_792 : (Jvm.Cond.code ({ cls := "PictureChangeModel", name := "cellOf", desc := "(I)I" } : Jvm.MethodName) prog_9_method_27_code (4 : Nat) (Option.some Jvm.ClassFile.FieldType.int)) ∈ gt := List.mem_filter.mpr ⟨List.mem_append_right _ (List.mem_append_right _ (List.mem_append_right _ (List.mem_append_right _ (List.mem_of_getElem? (i := 72) rfl)))), rfl⟩
set_option maxRecDepth 20000 in
theorem k_793 : (Jvm.Cond.methodLink "PictureChangeModel" (141 : Nat) ({ cls := "PictureChangeModel", name := "near", desc := "(I)I" } : Jvm.MethodName)) ∈ gt := List.mem_filter.mpr ⟨List.mem_append_right _ (List.mem_append_right _ (List.mem_append_right _ (List.mem_append_right _ (List.mem_of_getElem? (i := 73) (by decide +kernel))))), rfl⟩
set_option maxRecDepth 20000 in
theorem k_795 : (Jvm.Cond.instanceMethod ({ cls := "PictureChangeModel", name := "near", desc := "(I)I" } : Jvm.MethodName)) ∈ gt := List.mem_filter.mpr ⟨List.mem_append_right _ (List.mem_append_right _ (List.mem_append_right _ (List.mem_append_right _ (List.mem_of_getElem? (i := 75) (by decide +kernel))))), rfl⟩
set_option maxRecDepth 20000 in
theorem k_796 : (Jvm.Cond.code ({ cls := "PictureChangeModel", name := "near", desc := "(I)I" } : Jvm.MethodName) prog_9_method_28_code (5 : Nat) (Option.some Jvm.ClassFile.FieldType.int)) ∈ gt := List.mem_filter.mpr ⟨List.mem_append_right _ (List.mem_append_right _ (List.mem_append_right _ (List.mem_append_right _ (List.mem_of_getElem? (i := 76) rfl)))), rfl⟩
theorem kp_0 : Cond.selects "PictureChange" ⟨"PictureChange", "weighLight", "()V"⟩ ⟨"PictureChange", "weighLight", "()V"⟩ ∈ gt := List.mem_filter.mpr ⟨List.mem_append_left _ (List.mem_of_getElem? (i := 0) (by decide +kernel)), rfl⟩
theorem kp_1 : Cond.selects "PictureChange" ⟨"PictureChange", "hasCell", "(II)Z"⟩ ⟨"PictureChange", "hasCell", "(II)Z"⟩ ∈ gt := List.mem_filter.mpr ⟨List.mem_append_left _ (List.mem_of_getElem? (i := 1) (by decide +kernel)), rfl⟩
theorem kp_2 : Cond.selects "PictureChange" ⟨"PictureChange", "placeOf", "(II)I"⟩ ⟨"PictureChange", "placeOf", "(II)I"⟩ ∈ gt := List.mem_filter.mpr ⟨List.mem_append_left _ (List.mem_of_getElem? (i := 2) (by decide +kernel)), rfl⟩
theorem kp_3 : Cond.selects "PictureChange" ⟨"PictureChange", "changeAt", "(II)I"⟩ ⟨"PictureChange", "changeAt", "(II)I"⟩ ∈ gt := List.mem_filter.mpr ⟨List.mem_append_left _ (List.mem_of_getElem? (i := 3) (by decide +kernel)), rfl⟩
theorem kp_4 : Cond.selects "PictureChange" ⟨"PictureChange", "boundAt", "(II)I"⟩ ⟨"PictureChange", "boundAt", "(II)I"⟩ ∈ gt := List.mem_filter.mpr ⟨List.mem_append_left _ (List.mem_of_getElem? (i := 4) (by decide +kernel)), rfl⟩
theorem kp_5 : Cond.selects "PictureChange$Spots" ⟨"PictureChange$Spots", "joinFrom", "(II)V"⟩ ⟨"PictureChange$Spots", "joinFrom", "(II)V"⟩ ∈ gt := List.mem_filter.mpr ⟨List.mem_append_left _ (List.mem_of_getElem? (i := 5) (by decide +kernel)), rfl⟩
theorem kp_6 : Cond.selects "PictureChange$Spots" ⟨"PictureChange$Spots", "take", "(II)V"⟩ ⟨"PictureChange$Spots", "take", "(II)V"⟩ ∈ gt := List.mem_filter.mpr ⟨List.mem_append_left _ (List.mem_of_getElem? (i := 6) (by decide +kernel)), rfl⟩
theorem kp_7 : Cond.selects "PictureChange$Spots" ⟨"PictureChange$Spots", "describe", "()V"⟩ ⟨"PictureChange$Spots", "describe", "()V"⟩ ∈ gt := List.mem_filter.mpr ⟨List.mem_append_left _ (List.mem_of_getElem? (i := 7) (by decide +kernel)), rfl⟩
theorem kp_8 : Cond.selects "PictureChange$Spots" ⟨"PictureChange$Spots", "isCrack", "()Z"⟩ ⟨"PictureChange$Spots", "isCrack", "()Z"⟩ ∈ gt := List.mem_filter.mpr ⟨List.mem_append_left _ (List.mem_of_getElem? (i := 8) (by decide +kernel)), rfl⟩
theorem kp_9 : Cond.selects "PictureChange$Spots" ⟨"PictureChange$Spots", "neighboursOf", "(II)I"⟩ ⟨"PictureChange$Spots", "neighboursOf", "(II)I"⟩ ∈ gt := List.mem_filter.mpr ⟨List.mem_append_left _ (List.mem_of_getElem? (i := 9) (by decide +kernel)), rfl⟩
theorem kp_10 : Cond.selects "PictureChange$Spots" ⟨"PictureChange$Spots", "ownAt", "(II)I"⟩ ⟨"PictureChange$Spots", "ownAt", "(II)I"⟩ ∈ gt := List.mem_filter.mpr ⟨List.mem_append_left _ (List.mem_of_getElem? (i := 10) (by decide +kernel)), rfl⟩
theorem kp_11 : Cond.selects "PictureChange" ⟨"PictureChange", "needCell", "(II)V"⟩ ⟨"PictureChange", "needCell", "(II)V"⟩ ∈ gt := List.mem_filter.mpr ⟨List.mem_append_left _ (List.mem_of_getElem? (i := 11) (by decide +kernel)), rfl⟩
theorem kp_13 : Cond.selects "PictureChange" ⟨"PictureChange", "compareAt", "(LPictureChange$Shift;)V"⟩ ⟨"PictureChange", "compareAt", "(LPictureChange$Shift;)V"⟩ ∈ gt := List.mem_filter.mpr ⟨List.mem_append_left _ (List.mem_of_getElem? (i := 13) (by decide +kernel)), rfl⟩
theorem kp_14 : Cond.selects "PictureChange$Shift" ⟨"PictureChange$Shift", "together", "()I"⟩ ⟨"PictureChange$Shift", "together", "()I"⟩ ∈ gt := List.mem_filter.mpr ⟨List.mem_append_left _ (List.mem_of_getElem? (i := 14) (by decide +kernel)), rfl⟩
theorem kp_15 : Cond.selects "PictureChangeModel" ⟨"PictureChangeModel", "isCell", "(II)Z"⟩ ⟨"PictureChangeModel", "isCell", "(II)Z"⟩ ∈ gt := List.mem_filter.mpr ⟨List.mem_append_left _ (List.mem_of_getElem? (i := 15) (by decide +kernel)), rfl⟩
theorem kp_16 : Cond.selects "PictureChangeModel" ⟨"PictureChangeModel", "goes", "(ZZZ)Z"⟩ ⟨"PictureChangeModel", "goes", "(ZZZ)Z"⟩ ∈ gt := List.mem_filter.mpr ⟨List.mem_append_left _ (List.mem_of_getElem? (i := 16) (by decide +kernel)), rfl⟩
theorem kp_17 : Cond.selects "PictureChangeModel" ⟨"PictureChangeModel", "look", "(II)V"⟩ ⟨"PictureChangeModel", "look", "(II)V"⟩ ∈ gt := List.mem_filter.mpr ⟨List.mem_append_left _ (List.mem_of_getElem? (i := 17) (by decide +kernel)), rfl⟩
theorem kp_18 : Cond.selects "PictureChangeModel" ⟨"PictureChangeModel", "under", "(III)I"⟩ ⟨"PictureChangeModel", "under", "(III)I"⟩ ∈ gt := List.mem_filter.mpr ⟨List.mem_append_left _ (List.mem_of_getElem? (i := 18) (by decide +kernel)), rfl⟩
theorem kp_19 : Cond.selects "PictureChangeModel" ⟨"PictureChangeModel", "isPlace", "(I)Z"⟩ ⟨"PictureChangeModel", "isPlace", "(I)Z"⟩ ∈ gt := List.mem_filter.mpr ⟨List.mem_append_left _ (List.mem_of_getElem? (i := 19) (by decide +kernel)), rfl⟩
theorem kp_20 : Cond.selects "PictureChangeModel" ⟨"PictureChangeModel", "chartsNow", "()I"⟩ ⟨"PictureChangeModel", "chartsNow", "()I"⟩ ∈ gt := List.mem_filter.mpr ⟨List.mem_append_left _ (List.mem_of_getElem? (i := 20) (by decide +kernel)), rfl⟩
theorem kp_21 : Cond.selects "PictureChangeModel" ⟨"PictureChangeModel", "weigh", "()V"⟩ ⟨"PictureChangeModel", "weigh", "()V"⟩ ∈ gt := List.mem_filter.mpr ⟨List.mem_append_left _ (List.mem_of_getElem? (i := 21) (by decide +kernel)), rfl⟩
theorem kp_22 : Cond.selects "PictureChangeModel" ⟨"PictureChangeModel", "boundOf", "(I)I"⟩ ⟨"PictureChangeModel", "boundOf", "(I)I"⟩ ∈ gt := List.mem_filter.mpr ⟨List.mem_append_left _ (List.mem_of_getElem? (i := 22) (by decide +kernel)), rfl⟩
theorem kp_23 : Cond.selects "PictureChangeModel" ⟨"PictureChangeModel", "changeOf", "(I)I"⟩ ⟨"PictureChangeModel", "changeOf", "(I)I"⟩ ∈ gt := List.mem_filter.mpr ⟨List.mem_append_left _ (List.mem_of_getElem? (i := 23) (by decide +kernel)), rfl⟩
theorem kp_24 : Cond.selects "PictureChangeModel" ⟨"PictureChangeModel", "lowest", "(I)I"⟩ ⟨"PictureChangeModel", "lowest", "(I)I"⟩ ∈ gt := List.mem_filter.mpr ⟨List.mem_append_left _ (List.mem_of_getElem? (i := 24) (by decide +kernel)), rfl⟩
theorem kp_25 : Cond.selects "PictureChangeModel" ⟨"PictureChangeModel", "neighbour", "(II)I"⟩ ⟨"PictureChangeModel", "neighbour", "(II)I"⟩ ∈ gt := List.mem_filter.mpr ⟨List.mem_append_left _ (List.mem_of_getElem? (i := 25) (by decide +kernel)), rfl⟩
theorem kp_26 : Cond.selects "PictureChangeModel" ⟨"PictureChangeModel", "numbers", "(II)I"⟩ ⟨"PictureChangeModel", "numbers", "(II)I"⟩ ∈ gt := List.mem_filter.mpr ⟨List.mem_append_left _ (List.mem_of_getElem? (i := 26) (by decide +kernel)), rfl⟩
theorem kp_27 : Cond.selects "PictureChangeModel" ⟨"PictureChangeModel", "cellOf", "(I)I"⟩ ⟨"PictureChangeModel", "cellOf", "(I)I"⟩ ∈ gt := List.mem_filter.mpr ⟨List.mem_append_left _ (List.mem_of_getElem? (i := 27) (by decide +kernel)), rfl⟩
theorem kp_28 : Cond.selects "PictureChangeModel" ⟨"PictureChangeModel", "near", "(I)I"⟩ ⟨"PictureChangeModel", "near", "(I)I"⟩ ∈ gt := List.mem_filter.mpr ⟨List.mem_append_left _ (List.mem_of_getElem? (i := 28) (by decide +kernel)), rfl⟩
def R_Pic : String := "PictureChange"
def F_Pic : u_T := fun k => match k with
  | 0 => ("PictureChange", "width", "I", true)
  | 1 => ("PictureChange", "height", "I", true)
  | 2 => ("PictureChange", "formerValues", "[I", true)
  | 3 => ("PictureChange", "laterValues", "[I", true)
  | 4 => ("PictureChange", "registered", "LPictureChange$Shift;", true)
  | 5 => ("PictureChange", "tried", "LPictureChange$Shift;", true)
  | 6 => ("PictureChange", "charts", "LPictureChange$Charts;", true)
  | 7 => ("PictureChange", "light", "LPictureChange$Fraction;", true)
  | 8 => ("PictureChange", "noise", "LPictureChange$Noise;", true)
  | 9 => ("PictureChange", "spots", "LPictureChange$Spots;", true)
  | 10 => ("PictureChange", "days", "LPictureChange$Days;", true)
  | _ => ("PictureChange", "slope", "LPictureChange$Fraction;", true)
def t_Pic : Nat → FieldType := fun k => match k with
  | 0 => .int
  | 1 => .int
  | 2 => .array .int
  | 3 => .array .int
  | 4 => .object "PictureChange$Shift"
  | 5 => .object "PictureChange$Shift"
  | 6 => .object "PictureChange$Charts"
  | 7 => .object "PictureChange$Fraction"
  | 8 => .object "PictureChange$Noise"
  | 9 => .object "PictureChange$Spots"
  | 10 => .object "PictureChange$Days"
  | _ => .object "PictureChange$Fraction"
theorem n_Pic : ∀ a, a < 12 → ∀ b, b < 12 → a ≠ b → (F_Pic a).2.1 ≠ (F_Pic b).2.1 := by decide +kernel
theorem t_Pic_ok : ∀ k, k < 12 → parseFieldDescriptor (F_Pic k).2.2.1 = some (t_Pic k) := by decide +kernel
theorem i_Pic : ∀ w ∈ u_ws R_Pic F_Pic 12, w ∈ gt := by
  intro w hw
  obtain ⟨k, hk, rfl⟩ := List.mem_map.mp hw
  have hk := List.mem_range.mp hk
  match k, hk with
  | 0, _ => exact k_183
  | 1, _ => exact k_185
  | 2, _ => exact k_187
  | 3, _ => exact k_189
  | 4, _ => exact k_191
  | 5, _ => exact k_193
  | 6, _ => exact k_195
  | 7, _ => exact k_197
  | 8, _ => exact k_199
  | 9, _ => exact k_201
  | 10, _ => exact k_203
  | 11, _ => exact k_205
  | k + 12, hk => exact absurd hk (by omega)
theorem df_Pic : ∀ j, j < 12 → defaultValue (t_Pic j) = vp_V [.int 0, .int 0, .null, .null, .null, .null, .null, .null, .null, .null, .null, .null] j := by
  intro j hj
  match j, hj with
  | 0, _ => rfl
  | 1, _ => rfl
  | 2, _ => rfl
  | 3, _ => rfl
  | 4, _ => rfl
  | 5, _ => rfl
  | 6, _ => rfl
  | 7, _ => rfl
  | 8, _ => rfl
  | 9, _ => rfl
  | 10, _ => rfl
  | 11, _ => rfl
  | k + 12, hk => exact absurd hk (by omega)
def R_Charts : String := "PictureChange$Charts"
def F_Charts : u_T := fun k => match k with
  | 0 => ("PictureChange$Charts", "xs", "[I", true)
  | 1 => ("PictureChange$Charts", "ys", "[I", true)
  | _ => ("PictureChange$Charts", "held", "I", false)
def t_Charts : Nat → FieldType := fun k => match k with
  | 0 => .array .int
  | 1 => .array .int
  | _ => .int
theorem n_Charts : ∀ a, a < 3 → ∀ b, b < 3 → a ≠ b → (F_Charts a).2.1 ≠ (F_Charts b).2.1 := by decide +kernel
theorem t_Charts_ok : ∀ k, k < 3 → parseFieldDescriptor (F_Charts k).2.2.1 = some (t_Charts k) := by decide +kernel
theorem i_Charts : ∀ w ∈ u_ws R_Charts F_Charts 3, w ∈ gt := by
  intro w hw
  obtain ⟨k, hk, rfl⟩ := List.mem_map.mp hw
  have hk := List.mem_range.mp hk
  match k, hk with
  | 0, _ => exact k_68
  | 1, _ => exact k_70
  | 2, _ => exact k_72
  | k + 3, hk => exact absurd hk (by omega)
theorem df_Charts : ∀ j, j < 3 → defaultValue (t_Charts j) = vp_V [.null, .null, .int 0] j := by
  intro j hj
  match j, hj with
  | 0, _ => rfl
  | 1, _ => rfl
  | 2, _ => rfl
  | k + 3, hk => exact absurd hk (by omega)
def R_Days : String := "PictureChange$Days"
def F_Days : u_T := fun k => match k with
  | 0 => ("PictureChange$Days", "days", "[I", true)
  | 1 => ("PictureChange$Days", "marks", "[I", true)
  | _ => ("PictureChange$Days", "kept", "I", false)
def t_Days : Nat → FieldType := fun k => match k with
  | 0 => .array .int
  | 1 => .array .int
  | _ => .int
theorem n_Days : ∀ a, a < 3 → ∀ b, b < 3 → a ≠ b → (F_Days a).2.1 ≠ (F_Days b).2.1 := by decide +kernel
theorem t_Days_ok : ∀ k, k < 3 → parseFieldDescriptor (F_Days k).2.2.1 = some (t_Days k) := by decide +kernel
theorem i_Days : ∀ w ∈ u_ws R_Days F_Days 3, w ∈ gt := by
  intro w hw
  obtain ⟨k, hk, rfl⟩ := List.mem_map.mp hw
  have hk := List.mem_range.mp hk
  match k, hk with
  | 0, _ => exact k_164
  | 1, _ => exact k_166
  | 2, _ => exact k_168
  | k + 3, hk => exact absurd hk (by omega)
theorem df_Days : ∀ j, j < 3 → defaultValue (t_Days j) = vp_V [.null, .null, .int 0] j := by
  intro j hj
  match j, hj with
  | 0, _ => rfl
  | 1, _ => rfl
  | 2, _ => rfl
  | k + 3, hk => exact absurd hk (by omega)
def R_Fraction : String := "PictureChange$Fraction"
def F_Fraction : u_T := fun k => match k with
  | 0 => ("PictureChange$Fraction", "above", "J", false)
  | _ => ("PictureChange$Fraction", "below", "J", false)
def t_Fraction : Nat → FieldType := fun k => match k with
  | 0 => .long
  | _ => .long
theorem n_Fraction : ∀ a, a < 2 → ∀ b, b < 2 → a ≠ b → (F_Fraction a).2.1 ≠ (F_Fraction b).2.1 := by decide +kernel
theorem t_Fraction_ok : ∀ k, k < 2 → parseFieldDescriptor (F_Fraction k).2.2.1 = some (t_Fraction k) := by decide +kernel
theorem i_Fraction : ∀ w ∈ u_ws R_Fraction F_Fraction 2, w ∈ gt := by
  intro w hw
  obtain ⟨k, hk, rfl⟩ := List.mem_map.mp hw
  have hk := List.mem_range.mp hk
  match k, hk with
  | 0, _ => exact k_85
  | 1, _ => exact k_87
  | k + 2, hk => exact absurd hk (by omega)
theorem df_Fraction : ∀ j, j < 2 → defaultValue (t_Fraction j) = vp_V [.long 0, .long 0] j := by
  intro j hj
  match j, hj with
  | 0, _ => rfl
  | 1, _ => rfl
  | k + 2, hk => exact absurd hk (by omega)
def R_Noise : String := "PictureChange$Noise"
def F_Noise : u_T := fun k => match k with
  | 0 => ("PictureChange$Noise", "least", "[I", true)
  | 1 => ("PictureChange$Noise", "greatest", "[I", true)
  | 2 => ("PictureChange$Noise", "floor", "I", false)
  | 3 => ("PictureChange$Noise", "told", "I", false)
  | _ => ("PictureChange$Noise", "beyondFloor", "I", false)
def t_Noise : Nat → FieldType := fun k => match k with
  | 0 => .array .int
  | 1 => .array .int
  | 2 => .int
  | 3 => .int
  | _ => .int
theorem n_Noise : ∀ a, a < 5 → ∀ b, b < 5 → a ≠ b → (F_Noise a).2.1 ≠ (F_Noise b).2.1 := by decide +kernel
theorem t_Noise_ok : ∀ k, k < 5 → parseFieldDescriptor (F_Noise k).2.2.1 = some (t_Noise k) := by decide +kernel
theorem i_Noise : ∀ w ∈ u_ws R_Noise F_Noise 5, w ∈ gt := by
  intro w hw
  obtain ⟨k, hk, rfl⟩ := List.mem_map.mp hw
  have hk := List.mem_range.mp hk
  match k, hk with
  | 0, _ => exact k_104
  | 1, _ => exact k_106
  | 2, _ => exact k_108
  | 3, _ => exact k_110
  | 4, _ => exact k_112
  | k + 5, hk => exact absurd hk (by omega)
theorem df_Noise : ∀ j, j < 5 → defaultValue (t_Noise j) = vp_V [.null, .null, .int 0, .int 0, .int 0] j := by
  intro j hj
  match j, hj with
  | 0, _ => rfl
  | 1, _ => rfl
  | 2, _ => rfl
  | 3, _ => rfl
  | 4, _ => rfl
  | k + 5, hk => exact absurd hk (by omega)
def R_Shift : String := "PictureChange$Shift"
def F_Shift : u_T := fun k => match k with
  | 0 => ("PictureChange$Shift", "across", "I", false)
  | 1 => ("PictureChange$Shift", "down", "I", false)
  | 2 => ("PictureChange$Shift", "differences", "I", false)
  | _ => ("PictureChange$Shift", "cells", "I", false)
def t_Shift : Nat → FieldType := fun k => match k with
  | 0 => .int
  | 1 => .int
  | 2 => .int
  | _ => .int
theorem n_Shift : ∀ a, a < 4 → ∀ b, b < 4 → a ≠ b → (F_Shift a).2.1 ≠ (F_Shift b).2.1 := by decide +kernel
theorem t_Shift_ok : ∀ k, k < 4 → parseFieldDescriptor (F_Shift k).2.2.1 = some (t_Shift k) := by decide +kernel
theorem i_Shift : ∀ w ∈ u_ws R_Shift F_Shift 4, w ∈ gt := by
  intro w hw
  obtain ⟨k, hk, rfl⟩ := List.mem_map.mp hw
  have hk := List.mem_range.mp hk
  match k, hk with
  | 0, _ => exact k_46
  | 1, _ => exact k_48
  | 2, _ => exact k_50
  | 3, _ => exact k_52
  | k + 4, hk => exact absurd hk (by omega)
theorem df_Shift : ∀ j, j < 4 → defaultValue (t_Shift j) = vp_V [.int 0, .int 0, .int 0, .int 0] j := by
  intro j hj
  match j, hj with
  | 0, _ => rfl
  | 1, _ => rfl
  | 2, _ => rfl
  | 3, _ => rfl
  | k + 4, hk => exact absurd hk (by omega)
def R_Spots : String := "PictureChange$Spots"
def F_Spots : u_T := fun k => match k with
  | 0 => ("PictureChange$Spots", "width", "I", true)
  | 1 => ("PictureChange$Spots", "height", "I", true)
  | 2 => ("PictureChange$Spots", "spotOf", "[I", true)
  | 3 => ("PictureChange$Spots", "changes", "[I", true)
  | 4 => ("PictureChange$Spots", "joinedX", "[I", true)
  | 5 => ("PictureChange$Spots", "joinedY", "[I", true)
  | 6 => ("PictureChange$Spots", "joined", "I", false)
  | 7 => ("PictureChange$Spots", "facts", "[I", true)
  | 8 => ("PictureChange$Spots", "found", "I", false)
  | _ => ("PictureChange$Spots", "marked", "I", false)
def t_Spots : Nat → FieldType := fun k => match k with
  | 0 => .int
  | 1 => .int
  | 2 => .array .int
  | 3 => .array .int
  | 4 => .array .int
  | 5 => .array .int
  | 6 => .int
  | 7 => .array .int
  | 8 => .int
  | _ => .int
theorem n_Spots : ∀ a, a < 10 → ∀ b, b < 10 → a ≠ b → (F_Spots a).2.1 ≠ (F_Spots b).2.1 := by decide +kernel
theorem t_Spots_ok : ∀ k, k < 10 → parseFieldDescriptor (F_Spots k).2.2.1 = some (t_Spots k) := by decide +kernel
theorem i_Spots : ∀ w ∈ u_ws R_Spots F_Spots 10, w ∈ gt := by
  intro w hw
  obtain ⟨k, hk, rfl⟩ := List.mem_map.mp hw
  have hk := List.mem_range.mp hk
  match k, hk with
  | 0, _ => exact k_133
  | 1, _ => exact k_135
  | 2, _ => exact k_137
  | 3, _ => exact k_139
  | 4, _ => exact k_141
  | 5, _ => exact k_143
  | 6, _ => exact k_145
  | 7, _ => exact k_147
  | 8, _ => exact k_149
  | 9, _ => exact k_151
  | k + 10, hk => exact absurd hk (by omega)
theorem df_Spots : ∀ j, j < 10 → defaultValue (t_Spots j) = vp_V [.int 0, .int 0, .null, .null, .null, .null, .int 0, .null, .int 0, .int 0] j := by
  intro j hj
  match j, hj with
  | 0, _ => rfl
  | 1, _ => rfl
  | 2, _ => rfl
  | 3, _ => rfl
  | 4, _ => rfl
  | 5, _ => rfl
  | 6, _ => rfl
  | 7, _ => rfl
  | 8, _ => rfl
  | 9, _ => rfl
  | k + 10, hk => exact absurd hk (by omega)
def R_Mod : String := "PictureChangeModel"
def F_Mod : u_T := fun k => match k with
  | 0 => ("PictureChangeModel", "thrown", "I", false)
  | 1 => ("PictureChangeModel", "width", "I", true)
  | 2 => ("PictureChangeModel", "height", "I", true)
  | 3 => ("PictureChangeModel", "former", "[I", true)
  | 4 => ("PictureChangeModel", "later", "[I", true)
  | 5 => ("PictureChangeModel", "charts", "[Z", true)
  | 6 => ("PictureChangeModel", "lows", "[I", true)
  | 7 => ("PictureChangeModel", "highs", "[I", true)
  | 8 => ("PictureChangeModel", "repeats", "I", false)
  | 9 => ("PictureChangeModel", "wide", "I", false)
  | 10 => ("PictureChangeModel", "floor", "I", false)
  | 11 => ("PictureChangeModel", "across", "I", false)
  | 12 => ("PictureChangeModel", "down", "I", false)
  | 13 => ("PictureChangeModel", "sum", "J", false)
  | 14 => ("PictureChangeModel", "many", "J", false)
  | 15 => ("PictureChangeModel", "above", "J", false)
  | 16 => ("PictureChangeModel", "below", "J", false)
  | 17 => ("PictureChangeModel", "firsts", "[I", true)
  | 18 => ("PictureChangeModel", "changes", "[I", true)
  | 19 => ("PictureChangeModel", "marked", "I", false)
  | 20 => ("PictureChangeModel", "spots", "I", false)
  | 21 => ("PictureChangeModel", "days", "I", false)
  | 22 => ("PictureChangeModel", "dates", "[I", true)
  | _ => ("PictureChangeModel", "kept", "[I", true)
def t_Mod : Nat → FieldType := fun k => match k with
  | 0 => .int
  | 1 => .int
  | 2 => .int
  | 3 => .array .int
  | 4 => .array .int
  | 5 => .array .boolean
  | 6 => .array .int
  | 7 => .array .int
  | 8 => .int
  | 9 => .int
  | 10 => .int
  | 11 => .int
  | 12 => .int
  | 13 => .long
  | 14 => .long
  | 15 => .long
  | 16 => .long
  | 17 => .array .int
  | 18 => .array .int
  | 19 => .int
  | 20 => .int
  | 21 => .int
  | 22 => .array .int
  | _ => .array .int
theorem n_Mod : ∀ a, a < 24 → ∀ b, b < 24 → a ≠ b → (F_Mod a).2.1 ≠ (F_Mod b).2.1 := by decide +kernel
theorem t_Mod_ok : ∀ k, k < 24 → parseFieldDescriptor (F_Mod k).2.2.1 = some (t_Mod k) := by decide +kernel
theorem i_Mod : ∀ w ∈ u_ws R_Mod F_Mod 24, w ∈ gt := by
  intro w hw
  obtain ⟨k, hk, rfl⟩ := List.mem_map.mp hw
  have hk := List.mem_range.mp hk
  match k, hk with
  | 0, _ => exact k_632
  | 1, _ => exact k_634
  | 2, _ => exact k_636
  | 3, _ => exact k_638
  | 4, _ => exact k_640
  | 5, _ => exact k_642
  | 6, _ => exact k_644
  | 7, _ => exact k_646
  | 8, _ => exact k_648
  | 9, _ => exact k_650
  | 10, _ => exact k_652
  | 11, _ => exact k_654
  | 12, _ => exact k_656
  | 13, _ => exact k_658
  | 14, _ => exact k_660
  | 15, _ => exact k_662
  | 16, _ => exact k_664
  | 17, _ => exact k_666
  | 18, _ => exact k_668
  | 19, _ => exact k_670
  | 20, _ => exact k_672
  | 21, _ => exact k_674
  | 22, _ => exact k_676
  | 23, _ => exact k_678
  | k + 24, hk => exact absurd hk (by omega)
theorem df_Mod : ∀ j, j < 24 → defaultValue (t_Mod j) = vp_V [.int 0, .int 0, .int 0, .null, .null, .null, .null, .null, .int 0, .int 0, .int 0, .int 0, .int 0, .long 0, .long 0, .long 0, .long 0, .null, .null, .int 0, .int 0, .int 0, .null, .null] j := by
  intro j hj
  match j, hj with
  | 0, _ => rfl
  | 1, _ => rfl
  | 2, _ => rfl
  | 3, _ => rfl
  | 4, _ => rfl
  | 5, _ => rfl
  | 6, _ => rfl
  | 7, _ => rfl
  | 8, _ => rfl
  | 9, _ => rfl
  | 10, _ => rfl
  | 11, _ => rfl
  | 12, _ => rfl
  | 13, _ => rfl
  | 14, _ => rfl
  | 15, _ => rfl
  | 16, _ => rfl
  | 17, _ => rfl
  | 18, _ => rfl
  | 19, _ => rfl
  | 20, _ => rfl
  | 21, _ => rfl
  | 22, _ => rfl
  | 23, _ => rfl
  | k + 24, hk => exact absurd hk (by omega)
abbrev vwCl : List vw_C := [(R_Pic, F_Pic, 12), (R_Charts, F_Charts, 3), (R_Days, F_Days, 3), (R_Fraction, F_Fraction, 2), (R_Noise, F_Noise, 5), (R_Shift, F_Shift, 4), (R_Spots, F_Spots, 10), (R_Mod, F_Mod, 24)]
