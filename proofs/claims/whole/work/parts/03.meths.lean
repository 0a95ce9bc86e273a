abbrev b_Pic_within : ByteArray := prog_1_method_19_code
def y_Pic_within : MethodName := ⟨"PictureChange", "within", "(III)I"⟩
def w_Pic_within : List Cond := .code y_Pic_within b_Pic_within 3 (some .int) :: gt
theorem hdV_Pic_within : y_Pic_within.cls = "PictureChange" ∧ y_Pic_within.cls ≠ "java/lang/invoke/MethodHandle" ∧ y_Pic_within.cls ≠ "java/lang/invoke/VarHandle" ∧ (parseMethodDescriptor y_Pic_within.desc).map (fun d => d.parameters.length) = some 3 := by decide +kernel
abbrev rm_Pic_within : Room := { frames := 1, cells := 0, slots := 0, locals := 24 }
abbrev b_Shift_init : ByteArray := prog_6_method_1_code
def y_Shift_init : MethodName := ⟨"PictureChange$Shift", "<init>", "()V"⟩
def w_Shift_init : List Cond := .code y_Shift_init b_Shift_init 1 none :: gt
theorem hdV_Shift_init : y_Shift_init.cls = "PictureChange$Shift" ∧ y_Shift_init.cls ≠ "java/lang/invoke/MethodHandle" ∧ y_Shift_init.cls ≠ "java/lang/invoke/VarHandle" ∧ (parseMethodDescriptor y_Shift_init.desc).map (fun d => d.parameters.length) = some 0 := by decide +kernel
abbrev rm_Shift_init : Room := { frames := 1, cells := 0, slots := 0, locals := 12 }
abbrev b_Charts_init : ByteArray := prog_2_method_1_code
def y_Charts_init : MethodName := ⟨"PictureChange$Charts", "<init>", "()V"⟩
def w_Charts_init : List Cond := .code y_Charts_init b_Charts_init 1 none :: gt
theorem hdV_Charts_init : y_Charts_init.cls = "PictureChange$Charts" ∧ y_Charts_init.cls ≠ "java/lang/invoke/MethodHandle" ∧ y_Charts_init.cls ≠ "java/lang/invoke/VarHandle" ∧ (parseMethodDescriptor y_Charts_init.desc).map (fun d => d.parameters.length) = some 0 := by decide +kernel
abbrev rm_Charts_init : Room := { frames := 1, cells := 2, slots := 24, locals := 12 }
abbrev b_Fraction_init : ByteArray := prog_4_method_1_code
def y_Fraction_init : MethodName := ⟨"PictureChange$Fraction", "<init>", "()V"⟩
def w_Fraction_init : List Cond := .code y_Fraction_init b_Fraction_init 1 none :: gt
theorem hdV_Fraction_init : y_Fraction_init.cls = "PictureChange$Fraction" ∧ y_Fraction_init.cls ≠ "java/lang/invoke/MethodHandle" ∧ y_Fraction_init.cls ≠ "java/lang/invoke/VarHandle" ∧ (parseMethodDescriptor y_Fraction_init.desc).map (fun d => d.parameters.length) = some 0 := by decide +kernel
abbrev rm_Fraction_init : Room := { frames := 1, cells := 0, slots := 0, locals := 12 }
abbrev b_Noise_init : ByteArray := prog_5_method_1_code
def y_Noise_init : MethodName := ⟨"PictureChange$Noise", "<init>", "(I)V"⟩
def w_Noise_init : List Cond := .code y_Noise_init b_Noise_init 3 none :: gt
theorem hdV_Noise_init : y_Noise_init.cls = "PictureChange$Noise" ∧ y_Noise_init.cls ≠ "java/lang/invoke/MethodHandle" ∧ y_Noise_init.cls ≠ "java/lang/invoke/VarHandle" ∧ (parseMethodDescriptor y_Noise_init.desc).map (fun d => d.parameters.length) = some 1 := by decide +kernel
abbrev rm_Noise_init : Room := { frames := 1, cells := 2, slots := 1152, locals := 12 }
abbrev b_Spots_init : ByteArray := prog_7_method_1_code
def y_Spots_init : MethodName := ⟨"PictureChange$Spots", "<init>", "(II)V"⟩
def w_Spots_init : List Cond := .code y_Spots_init b_Spots_init 5 none :: gt
theorem hdV_Spots_init : y_Spots_init.cls = "PictureChange$Spots" ∧ y_Spots_init.cls ≠ "java/lang/invoke/MethodHandle" ∧ y_Spots_init.cls ≠ "java/lang/invoke/VarHandle" ∧ (parseMethodDescriptor y_Spots_init.desc).map (fun d => d.parameters.length) = some 2 := by decide +kernel
abbrev rm_Spots_init : Room := { frames := 1, cells := 5, slots := 4320, locals := 12 }
abbrev b_Days_init : ByteArray := prog_3_method_1_code
def y_Days_init : MethodName := ⟨"PictureChange$Days", "<init>", "()V"⟩
def w_Days_init : List Cond := .code y_Days_init b_Days_init 1 none :: gt
theorem hdV_Days_init : y_Days_init.cls = "PictureChange$Days" ∧ y_Days_init.cls ≠ "java/lang/invoke/MethodHandle" ∧ y_Days_init.cls ≠ "java/lang/invoke/VarHandle" ∧ (parseMethodDescriptor y_Days_init.desc).map (fun d => d.parameters.length) = some 0 := by decide +kernel
abbrev rm_Days_init : Room := { frames := 1, cells := 2, slots := 60, locals := 12 }
abbrev b_Pic_init : ByteArray := prog_1_method_1_code
def y_Pic_init : MethodName := ⟨"PictureChange", "<init>", "(II)V"⟩
def w_Pic_init : List Cond := .code y_Pic_init b_Pic_init 4 none :: gt
theorem hdV_Pic_init : y_Pic_init.cls = "PictureChange" ∧ y_Pic_init.cls ≠ "java/lang/invoke/MethodHandle" ∧ y_Pic_init.cls ≠ "java/lang/invoke/VarHandle" ∧ (parseMethodDescriptor y_Pic_init.desc).map (fun d => d.parameters.length) = some 2 := by decide +kernel
abbrev rm_Pic_init : Room := { frames := 2, cells := 21, slots := 6741, locals := 46 }
abbrev b_Pic_hasCell : ByteArray := prog_1_method_20_code
def y_Pic_hasCell : MethodName := ⟨"PictureChange", "hasCell", "(II)Z"⟩
def w_Pic_hasCell : List Cond := .code y_Pic_hasCell b_Pic_hasCell 3 (some .boolean) :: gt
theorem hdV_Pic_hasCell : y_Pic_hasCell.cls = "PictureChange" ∧ y_Pic_hasCell.cls ≠ "java/lang/invoke/MethodHandle" ∧ y_Pic_hasCell.cls ≠ "java/lang/invoke/VarHandle" ∧ (parseMethodDescriptor y_Pic_hasCell.desc).map (fun d => d.parameters.length) = some 2 := by decide +kernel
abbrev rm_Pic_hasCell : Room := { frames := 0, cells := 0, slots := 0, locals := 0 }
abbrev b_Pic_needCell : ByteArray := prog_1_method_22_code
def y_Pic_needCell : MethodName := ⟨"PictureChange", "needCell", "(II)V"⟩
def w_Pic_needCell : List Cond := .code y_Pic_needCell b_Pic_needCell 3 none :: gt
theorem hdV_Pic_needCell : y_Pic_needCell.cls = "PictureChange" ∧ y_Pic_needCell.cls ≠ "java/lang/invoke/MethodHandle" ∧ y_Pic_needCell.cls ≠ "java/lang/invoke/VarHandle" ∧ (parseMethodDescriptor y_Pic_needCell.desc).map (fun d => d.parameters.length) = some 2 := by decide +kernel
abbrev rm_Pic_needCell : Room := { frames := 7, cells := 1, slots := 6, locals := 100 }
abbrev b_Pic_needValue : ByteArray := prog_1_method_23_code
def y_Pic_needValue : MethodName := ⟨"PictureChange", "needValue", "(I)V"⟩
def w_Pic_needValue : List Cond := .code y_Pic_needValue b_Pic_needValue 1 none :: gt
theorem hdV_Pic_needValue : y_Pic_needValue.cls = "PictureChange" ∧ y_Pic_needValue.cls ≠ "java/lang/invoke/MethodHandle" ∧ y_Pic_needValue.cls ≠ "java/lang/invoke/VarHandle" ∧ (parseMethodDescriptor y_Pic_needValue.desc).map (fun d => d.parameters.length) = some 1 := by decide +kernel
abbrev rm_Pic_needValue : Room := { frames := 7, cells := 1, slots := 6, locals := 100 }
abbrev b_Pic_placeOf : ByteArray := prog_1_method_21_code
def y_Pic_placeOf : MethodName := ⟨"PictureChange", "placeOf", "(II)I"⟩
def w_Pic_placeOf : List Cond := .code y_Pic_placeOf b_Pic_placeOf 3 (some .int) :: gt
theorem hdV_Pic_placeOf : y_Pic_placeOf.cls = "PictureChange" ∧ y_Pic_placeOf.cls ≠ "java/lang/invoke/MethodHandle" ∧ y_Pic_placeOf.cls ≠ "java/lang/invoke/VarHandle" ∧ (parseMethodDescriptor y_Pic_placeOf.desc).map (fun d => d.parameters.length) = some 2 := by decide +kernel
abbrev rm_Pic_placeOf : Room := { frames := 0, cells := 0, slots := 0, locals := 0 }
abbrev b_Pic_cell : ByteArray := prog_1_method_2_code
def y_Pic_cell : MethodName := ⟨"PictureChange", "cell", "(ZIII)I"⟩
def w_Pic_cell : List Cond := .code y_Pic_cell b_Pic_cell 8 (some .int) :: gt
theorem hdV_Pic_cell : y_Pic_cell.cls = "PictureChange" ∧ y_Pic_cell.cls ≠ "java/lang/invoke/MethodHandle" ∧ y_Pic_cell.cls ≠ "java/lang/invoke/VarHandle" ∧ (parseMethodDescriptor y_Pic_cell.desc).map (fun d => d.parameters.length) = some 4 := by decide +kernel
abbrev rm_Pic_cell : Room := { frames := 8, cells := 2, slots := 12, locals := 122 }
abbrev b_Shift_moveTo : ByteArray := prog_6_method_2_code
def y_Shift_moveTo : MethodName := ⟨"PictureChange$Shift", "moveTo", "(II)V"⟩
def w_Shift_moveTo : List Cond := .code y_Shift_moveTo b_Shift_moveTo 3 none :: gt
theorem hdV_Shift_moveTo : y_Shift_moveTo.cls = "PictureChange$Shift" ∧ y_Shift_moveTo.cls ≠ "java/lang/invoke/MethodHandle" ∧ y_Shift_moveTo.cls ≠ "java/lang/invoke/VarHandle" ∧ (parseMethodDescriptor y_Shift_moveTo.desc).map (fun d => d.parameters.length) = some 2 := by decide +kernel
abbrev rm_Shift_moveTo : Room := { frames := 0, cells := 0, slots := 0, locals := 0 }
abbrev b_Shift_add : ByteArray := prog_6_method_3_code
def y_Shift_add : MethodName := ⟨"PictureChange$Shift", "add", "(I)V"⟩
def w_Shift_add : List Cond := .code y_Shift_add b_Shift_add 2 none :: gt
theorem hdV_Shift_add : y_Shift_add.cls = "PictureChange$Shift" ∧ y_Shift_add.cls ≠ "java/lang/invoke/MethodHandle" ∧ y_Shift_add.cls ≠ "java/lang/invoke/VarHandle" ∧ (parseMethodDescriptor y_Shift_add.desc).map (fun d => d.parameters.length) = some 1 := by decide +kernel
abbrev rm_Shift_add : Room := { frames := 0, cells := 0, slots := 0, locals := 0 }
abbrev b_Pic_compareAt : ByteArray := prog_1_method_25_code
def y_Pic_compareAt : MethodName := ⟨"PictureChange", "compareAt", "(LPictureChange$Shift;)V"⟩
def w_Pic_compareAt : List Cond := .code y_Pic_compareAt b_Pic_compareAt 6 none :: gt
theorem hdV_Pic_compareAt : y_Pic_compareAt.cls = "PictureChange" ∧ y_Pic_compareAt.cls ≠ "java/lang/invoke/MethodHandle" ∧ y_Pic_compareAt.cls ≠ "java/lang/invoke/VarHandle" ∧ (parseMethodDescriptor y_Pic_compareAt.desc).map (fun d => d.parameters.length) = some 1 := by decide +kernel
abbrev rm_Pic_compareAt : Room := { frames := 1, cells := 0, slots := 0, locals := 24 }
abbrev b_Shift_together : ByteArray := prog_6_method_6_code
def y_Shift_together : MethodName := ⟨"PictureChange$Shift", "together", "()I"⟩
def w_Shift_together : List Cond := .code y_Shift_together b_Shift_together 1 (some .int) :: gt
theorem hdV_Shift_together : y_Shift_together.cls = "PictureChange$Shift" ∧ y_Shift_together.cls ≠ "java/lang/invoke/MethodHandle" ∧ y_Shift_together.cls ≠ "java/lang/invoke/VarHandle" ∧ (parseMethodDescriptor y_Shift_together.desc).map (fun d => d.parameters.length) = some 0 := by decide +kernel
abbrev rm_Shift_together : Room := { frames := 1, cells := 0, slots := 0, locals := 24 }
abbrev b_Shift_isBetterThan : ByteArray := prog_6_method_5_code
def y_Shift_isBetterThan : MethodName := ⟨"PictureChange$Shift", "isBetterThan", "(LPictureChange$Shift;)Z"⟩
def w_Shift_isBetterThan : List Cond := .code y_Shift_isBetterThan b_Shift_isBetterThan 6 (some .boolean) :: gt
theorem hdV_Shift_isBetterThan : y_Shift_isBetterThan.cls = "PictureChange$Shift" ∧ y_Shift_isBetterThan.cls ≠ "java/lang/invoke/MethodHandle" ∧ y_Shift_isBetterThan.cls ≠ "java/lang/invoke/VarHandle" ∧ (parseMethodDescriptor y_Shift_isBetterThan.desc).map (fun d => d.parameters.length) = some 1 := by decide +kernel
abbrev rm_Shift_isBetterThan : Room := { frames := 2, cells := 0, slots := 0, locals := 44 }
abbrev b_Shift_become : ByteArray := prog_6_method_4_code
def y_Shift_become : MethodName := ⟨"PictureChange$Shift", "become", "(LPictureChange$Shift;)V"⟩
def w_Shift_become : List Cond := .code y_Shift_become b_Shift_become 2 none :: gt
theorem hdV_Shift_become : y_Shift_become.cls = "PictureChange$Shift" ∧ y_Shift_become.cls ≠ "java/lang/invoke/MethodHandle" ∧ y_Shift_become.cls ≠ "java/lang/invoke/VarHandle" ∧ (parseMethodDescriptor y_Shift_become.desc).map (fun d => d.parameters.length) = some 1 := by decide +kernel
abbrev rm_Shift_become : Room := { frames := 0, cells := 0, slots := 0, locals := 0 }
abbrev b_Pic_register : ByteArray := prog_1_method_3_code
def y_Pic_register : MethodName := ⟨"PictureChange", "register", "(I)I"⟩
def w_Pic_register : List Cond := .code y_Pic_register b_Pic_register 4 (some .int) :: gt
theorem hdV_Pic_register : y_Pic_register.cls = "PictureChange" ∧ y_Pic_register.cls ≠ "java/lang/invoke/MethodHandle" ∧ y_Pic_register.cls ≠ "java/lang/invoke/VarHandle" ∧ (parseMethodDescriptor y_Pic_register.desc).map (fun d => d.parameters.length) = some 1 := by decide +kernel
abbrev rm_Pic_register : Room := { frames := 7, cells := 1, slots := 6, locals := 100 }
abbrev b_Pic_needHalf : ByteArray := prog_1_method_24_code
def y_Pic_needHalf : MethodName := ⟨"PictureChange", "needHalf", "(I)V"⟩
def w_Pic_needHalf : List Cond := .code y_Pic_needHalf b_Pic_needHalf 1 none :: gt
theorem hdV_Pic_needHalf : y_Pic_needHalf.cls = "PictureChange" ∧ y_Pic_needHalf.cls ≠ "java/lang/invoke/MethodHandle" ∧ y_Pic_needHalf.cls ≠ "java/lang/invoke/VarHandle" ∧ (parseMethodDescriptor y_Pic_needHalf.desc).map (fun d => d.parameters.length) = some 1 := by decide +kernel
abbrev rm_Pic_needHalf : Room := { frames := 7, cells := 1, slots := 6, locals := 100 }
abbrev b_Pic_shift : ByteArray := prog_1_method_4_code
def y_Pic_shift : MethodName := ⟨"PictureChange", "shift", "(I)I"⟩
def w_Pic_shift : List Cond := .code y_Pic_shift b_Pic_shift 2 (some .int) :: gt
theorem hdV_Pic_shift : y_Pic_shift.cls = "PictureChange" ∧ y_Pic_shift.cls ≠ "java/lang/invoke/MethodHandle" ∧ y_Pic_shift.cls ≠ "java/lang/invoke/VarHandle" ∧ (parseMethodDescriptor y_Pic_shift.desc).map (fun d => d.parameters.length) = some 1 := by decide +kernel
abbrev rm_Pic_shift : Room := { frames := 8, cells := 1, slots := 6, locals := 120 }
abbrev b_Charts_find : ByteArray := prog_2_method_3_code
def y_Charts_find : MethodName := ⟨"PictureChange$Charts", "find", "(II)I"⟩
def w_Charts_find : List Cond := .code y_Charts_find b_Charts_find 4 (some .int) :: gt
theorem hdV_Charts_find : y_Charts_find.cls = "PictureChange$Charts" ∧ y_Charts_find.cls ≠ "java/lang/invoke/MethodHandle" ∧ y_Charts_find.cls ≠ "java/lang/invoke/VarHandle" ∧ (parseMethodDescriptor y_Charts_find.desc).map (fun d => d.parameters.length) = some 2 := by decide +kernel
abbrev rm_Charts_find : Room := { frames := 0, cells := 0, slots := 0, locals := 0 }
abbrev b_Charts_remove : ByteArray := prog_2_method_5_code
def y_Charts_remove : MethodName := ⟨"PictureChange$Charts", "remove", "(I)V"⟩
def w_Charts_remove : List Cond := .code y_Charts_remove b_Charts_remove 2 none :: gt
theorem hdV_Charts_remove : y_Charts_remove.cls = "PictureChange$Charts" ∧ y_Charts_remove.cls ≠ "java/lang/invoke/MethodHandle" ∧ y_Charts_remove.cls ≠ "java/lang/invoke/VarHandle" ∧ (parseMethodDescriptor y_Charts_remove.desc).map (fun d => d.parameters.length) = some 1 := by decide +kernel
abbrev rm_Charts_remove : Room := { frames := 0, cells := 0, slots := 0, locals := 0 }
abbrev b_Charts_isFull : ByteArray := prog_2_method_2_code
def y_Charts_isFull : MethodName := ⟨"PictureChange$Charts", "isFull", "()Z"⟩
def w_Charts_isFull : List Cond := .code y_Charts_isFull b_Charts_isFull 1 (some .boolean) :: gt
theorem hdV_Charts_isFull : y_Charts_isFull.cls = "PictureChange$Charts" ∧ y_Charts_isFull.cls ≠ "java/lang/invoke/MethodHandle" ∧ y_Charts_isFull.cls ≠ "java/lang/invoke/VarHandle" ∧ (parseMethodDescriptor y_Charts_isFull.desc).map (fun d => d.parameters.length) = some 0 := by decide +kernel
abbrev rm_Charts_isFull : Room := { frames := 0, cells := 0, slots := 0, locals := 0 }
abbrev b_Charts_add : ByteArray := prog_2_method_4_code
def y_Charts_add : MethodName := ⟨"PictureChange$Charts", "add", "(II)V"⟩
def w_Charts_add : List Cond := .code y_Charts_add b_Charts_add 3 none :: gt
theorem hdV_Charts_add : y_Charts_add.cls = "PictureChange$Charts" ∧ y_Charts_add.cls ≠ "java/lang/invoke/MethodHandle" ∧ y_Charts_add.cls ≠ "java/lang/invoke/VarHandle" ∧ (parseMethodDescriptor y_Charts_add.desc).map (fun d => d.parameters.length) = some 2 := by decide +kernel
abbrev rm_Charts_add : Room := { frames := 0, cells := 0, slots := 0, locals := 0 }
abbrev b_Pic_chart : ByteArray := prog_1_method_5_code
def y_Pic_chart : MethodName := ⟨"PictureChange", "chart", "(IIZ)Z"⟩
def w_Pic_chart : List Cond := .code y_Pic_chart b_Pic_chart 6 (some .boolean) :: gt
theorem hdV_Pic_chart : y_Pic_chart.cls = "PictureChange" ∧ y_Pic_chart.cls ≠ "java/lang/invoke/MethodHandle" ∧ y_Pic_chart.cls ≠ "java/lang/invoke/VarHandle" ∧ (parseMethodDescriptor y_Pic_chart.desc).map (fun d => d.parameters.length) = some 3 := by decide +kernel
abbrev rm_Pic_chart : Room := { frames := 8, cells := 2, slots := 12, locals := 122 }
abbrev b_Fraction_commonOf : ByteArray := prog_4_method_4_code
def y_Fraction_commonOf : MethodName := ⟨"PictureChange$Fraction", "commonOf", "(JJ)J"⟩
def w_Fraction_commonOf : List Cond := .code y_Fraction_commonOf b_Fraction_commonOf 11 (some .long) :: gt
theorem hdV_Fraction_commonOf : y_Fraction_commonOf.cls = "PictureChange$Fraction" ∧ y_Fraction_commonOf.cls ≠ "java/lang/invoke/MethodHandle" ∧ y_Fraction_commonOf.cls ≠ "java/lang/invoke/VarHandle" ∧ (parseMethodDescriptor y_Fraction_commonOf.desc).map (fun d => d.parameters.length) = some 2 := by decide +kernel
abbrev rm_Fraction_commonOf : Room := { frames := 0, cells := 0, slots := 0, locals := 0 }
abbrev b_Fraction_become : ByteArray := prog_4_method_2_code
def y_Fraction_become : MethodName := ⟨"PictureChange$Fraction", "become", "(JJ)V"⟩
def w_Fraction_become : List Cond := .code y_Fraction_become b_Fraction_become 7 none :: gt
theorem hdV_Fraction_become : y_Fraction_become.cls = "PictureChange$Fraction" ∧ y_Fraction_become.cls ≠ "java/lang/invoke/MethodHandle" ∧ y_Fraction_become.cls ≠ "java/lang/invoke/VarHandle" ∧ (parseMethodDescriptor y_Fraction_become.desc).map (fun d => d.parameters.length) = some 2 := by decide +kernel
abbrev rm_Fraction_become : Room := { frames := 1, cells := 0, slots := 0, locals := 30 }
abbrev b_Pic_weighLight : ByteArray := prog_1_method_26_code
def y_Pic_weighLight : MethodName := ⟨"PictureChange", "weighLight", "()V"⟩
def w_Pic_weighLight : List Cond := .code y_Pic_weighLight b_Pic_weighLight 11 none :: gt
theorem hdV_Pic_weighLight : y_Pic_weighLight.cls = "PictureChange" ∧ y_Pic_weighLight.cls ≠ "java/lang/invoke/MethodHandle" ∧ y_Pic_weighLight.cls ≠ "java/lang/invoke/VarHandle" ∧ (parseMethodDescriptor y_Pic_weighLight.desc).map (fun d => d.parameters.length) = some 0 := by decide +kernel
abbrev rm_Pic_weighLight : Room := { frames := 2, cells := 0, slots := 0, locals := 56 }
abbrev b_Pic_gain : ByteArray := prog_1_method_6_code
def y_Pic_gain : MethodName := ⟨"PictureChange", "gain", "(I)I"⟩
def w_Pic_gain : List Cond := .code y_Pic_gain b_Pic_gain 2 (some .int) :: gt
theorem hdV_Pic_gain : y_Pic_gain.cls = "PictureChange" ∧ y_Pic_gain.cls ≠ "java/lang/invoke/MethodHandle" ∧ y_Pic_gain.cls ≠ "java/lang/invoke/VarHandle" ∧ (parseMethodDescriptor y_Pic_gain.desc).map (fun d => d.parameters.length) = some 1 := by decide +kernel
abbrev rm_Pic_gain : Room := { frames := 8, cells := 1, slots := 6, locals := 120 }
abbrev b_Noise_tell : ByteArray := prog_5_method_2_code
def y_Noise_tell : MethodName := ⟨"PictureChange$Noise", "tell", "(III)V"⟩
def w_Noise_tell : List Cond := .code y_Noise_tell b_Noise_tell 4 none :: gt
theorem hdV_Noise_tell : y_Noise_tell.cls = "PictureChange$Noise" ∧ y_Noise_tell.cls ≠ "java/lang/invoke/MethodHandle" ∧ y_Noise_tell.cls ≠ "java/lang/invoke/VarHandle" ∧ (parseMethodDescriptor y_Noise_tell.desc).map (fun d => d.parameters.length) = some 3 := by decide +kernel
abbrev rm_Noise_tell : Room := { frames := 1, cells := 0, slots := 0, locals := 24 }
abbrev b_Noise_boundOf : ByteArray := prog_5_method_3_code
def y_Noise_boundOf : MethodName := ⟨"PictureChange$Noise", "boundOf", "(II)I"⟩
def w_Noise_boundOf : List Cond := .code y_Noise_boundOf b_Noise_boundOf 4 (some .int) :: gt
theorem hdV_Noise_boundOf : y_Noise_boundOf.cls = "PictureChange$Noise" ∧ y_Noise_boundOf.cls ≠ "java/lang/invoke/MethodHandle" ∧ y_Noise_boundOf.cls ≠ "java/lang/invoke/VarHandle" ∧ (parseMethodDescriptor y_Noise_boundOf.desc).map (fun d => d.parameters.length) = some 2 := by decide +kernel
abbrev rm_Noise_boundOf : Room := { frames := 1, cells := 0, slots := 0, locals := 24 }
abbrev b_Pic_boundAt : ByteArray := prog_1_method_28_code
def y_Pic_boundAt : MethodName := ⟨"PictureChange", "boundAt", "(II)I"⟩
def w_Pic_boundAt : List Cond := .code y_Pic_boundAt b_Pic_boundAt 4 (some .int) :: gt
theorem hdV_Pic_boundAt : y_Pic_boundAt.cls = "PictureChange" ∧ y_Pic_boundAt.cls ≠ "java/lang/invoke/MethodHandle" ∧ y_Pic_boundAt.cls ≠ "java/lang/invoke/VarHandle" ∧ (parseMethodDescriptor y_Pic_boundAt.desc).map (fun d => d.parameters.length) = some 2 := by decide +kernel
abbrev rm_Pic_boundAt : Room := { frames := 2, cells := 0, slots := 0, locals := 47 }
abbrev b_Pic_repeat : ByteArray := prog_1_method_7_code
def y_Pic_repeat : MethodName := ⟨"PictureChange", "repeat", "(III)I"⟩
def w_Pic_repeat : List Cond := .code y_Pic_repeat b_Pic_repeat 5 (some .int) :: gt
theorem hdV_Pic_repeat : y_Pic_repeat.cls = "PictureChange" ∧ y_Pic_repeat.cls ≠ "java/lang/invoke/MethodHandle" ∧ y_Pic_repeat.cls ≠ "java/lang/invoke/VarHandle" ∧ (parseMethodDescriptor y_Pic_repeat.desc).map (fun d => d.parameters.length) = some 3 := by decide +kernel
abbrev rm_Pic_repeat : Room := { frames := 8, cells := 2, slots := 12, locals := 122 }
abbrev b_Pic_floor : ByteArray := prog_1_method_8_code
def y_Pic_floor : MethodName := ⟨"PictureChange", "floor", "(I)I"⟩
def w_Pic_floor : List Cond := .code y_Pic_floor b_Pic_floor 3 (some .int) :: gt
theorem hdV_Pic_floor : y_Pic_floor.cls = "PictureChange" ∧ y_Pic_floor.cls ≠ "java/lang/invoke/MethodHandle" ∧ y_Pic_floor.cls ≠ "java/lang/invoke/VarHandle" ∧ (parseMethodDescriptor y_Pic_floor.desc).map (fun d => d.parameters.length) = some 1 := by decide +kernel
abbrev rm_Pic_floor : Room := { frames := 8, cells := 1, slots := 6, locals := 120 }
abbrev b_Pic_bound : ByteArray := prog_1_method_9_code
def y_Pic_bound : MethodName := ⟨"PictureChange", "bound", "(II)I"⟩
def w_Pic_bound : List Cond := .code y_Pic_bound b_Pic_bound 3 (some .int) :: gt
theorem hdV_Pic_bound : y_Pic_bound.cls = "PictureChange" ∧ y_Pic_bound.cls ≠ "java/lang/invoke/MethodHandle" ∧ y_Pic_bound.cls ≠ "java/lang/invoke/VarHandle" ∧ (parseMethodDescriptor y_Pic_bound.desc).map (fun d => d.parameters.length) = some 2 := by decide +kernel
abbrev rm_Pic_bound : Room := { frames := 8, cells := 1, slots := 6, locals := 122 }
abbrev b_Fraction_timesRounded : ByteArray := prog_4_method_3_code
def y_Fraction_timesRounded : MethodName := ⟨"PictureChange$Fraction", "timesRounded", "(I)I"⟩
def w_Fraction_timesRounded : List Cond := .code y_Fraction_timesRounded b_Fraction_timesRounded 2 (some .int) :: gt
theorem hdV_Fraction_timesRounded : y_Fraction_timesRounded.cls = "PictureChange$Fraction" ∧ y_Fraction_timesRounded.cls ≠ "java/lang/invoke/MethodHandle" ∧ y_Fraction_timesRounded.cls ≠ "java/lang/invoke/VarHandle" ∧ (parseMethodDescriptor y_Fraction_timesRounded.desc).map (fun d => d.parameters.length) = some 1 := by decide +kernel
abbrev rm_Fraction_timesRounded : Room := { frames := 0, cells := 0, slots := 0, locals := 0 }
abbrev b_Pic_changeAt : ByteArray := prog_1_method_27_code
def y_Pic_changeAt : MethodName := ⟨"PictureChange", "changeAt", "(II)I"⟩
def w_Pic_changeAt : List Cond := .code y_Pic_changeAt b_Pic_changeAt 6 (some .int) :: gt
theorem hdV_Pic_changeAt : y_Pic_changeAt.cls = "PictureChange" ∧ y_Pic_changeAt.cls ≠ "java/lang/invoke/MethodHandle" ∧ y_Pic_changeAt.cls ≠ "java/lang/invoke/VarHandle" ∧ (parseMethodDescriptor y_Pic_changeAt.desc).map (fun d => d.parameters.length) = some 2 := by decide +kernel
abbrev rm_Pic_changeAt : Room := { frames := 1, cells := 0, slots := 0, locals := 24 }
abbrev b_Pic_change : ByteArray := prog_1_method_10_code
def y_Pic_change : MethodName := ⟨"PictureChange", "change", "(II)I"⟩
def w_Pic_change : List Cond := .code y_Pic_change b_Pic_change 3 (some .int) :: gt
theorem hdV_Pic_change : y_Pic_change.cls = "PictureChange" ∧ y_Pic_change.cls ≠ "java/lang/invoke/MethodHandle" ∧ y_Pic_change.cls ≠ "java/lang/invoke/VarHandle" ∧ (parseMethodDescriptor y_Pic_change.desc).map (fun d => d.parameters.length) = some 2 := by decide +kernel
abbrev rm_Pic_change : Room := { frames := 8, cells := 1, slots := 6, locals := 122 }
abbrev b_Spots_clear : ByteArray := prog_7_method_2_code
def y_Spots_clear : MethodName := ⟨"PictureChange$Spots", "clear", "()V"⟩
def w_Spots_clear : List Cond := .code y_Spots_clear b_Spots_clear 2 none :: gt
theorem hdV_Spots_clear : y_Spots_clear.cls = "PictureChange$Spots" ∧ y_Spots_clear.cls ≠ "java/lang/invoke/MethodHandle" ∧ y_Spots_clear.cls ≠ "java/lang/invoke/VarHandle" ∧ (parseMethodDescriptor y_Spots_clear.desc).map (fun d => d.parameters.length) = some 0 := by decide +kernel
abbrev rm_Spots_clear : Room := { frames := 0, cells := 0, slots := 0, locals := 0 }
abbrev b_Spots_mark : ByteArray := prog_7_method_3_code
def y_Spots_mark : MethodName := ⟨"PictureChange$Spots", "mark", "(III)V"⟩
def w_Spots_mark : List Cond := .code y_Spots_mark b_Spots_mark 4 none :: gt
theorem hdV_Spots_mark : y_Spots_mark.cls = "PictureChange$Spots" ∧ y_Spots_mark.cls ≠ "java/lang/invoke/MethodHandle" ∧ y_Spots_mark.cls ≠ "java/lang/invoke/VarHandle" ∧ (parseMethodDescriptor y_Spots_mark.desc).map (fun d => d.parameters.length) = some 3 := by decide +kernel
abbrev rm_Spots_mark : Room := { frames := 0, cells := 0, slots := 0, locals := 0 }
abbrev b_Spots_spotAt : ByteArray := prog_7_method_5_code
def y_Spots_spotAt : MethodName := ⟨"PictureChange$Spots", "spotAt", "(II)I"⟩
def w_Spots_spotAt : List Cond := .code y_Spots_spotAt b_Spots_spotAt 3 (some .int) :: gt
theorem hdV_Spots_spotAt : y_Spots_spotAt.cls = "PictureChange$Spots" ∧ y_Spots_spotAt.cls ≠ "java/lang/invoke/MethodHandle" ∧ y_Spots_spotAt.cls ≠ "java/lang/invoke/VarHandle" ∧ (parseMethodDescriptor y_Spots_spotAt.desc).map (fun d => d.parameters.length) = some 2 := by decide +kernel
abbrev rm_Spots_spotAt : Room := { frames := 0, cells := 0, slots := 0, locals := 0 }
abbrev b_Spots_take : ByteArray := prog_7_method_9_code
def y_Spots_take : MethodName := ⟨"PictureChange$Spots", "take", "(II)V"⟩
def w_Spots_take : List Cond := .code y_Spots_take b_Spots_take 3 none :: gt
theorem hdV_Spots_take : y_Spots_take.cls = "PictureChange$Spots" ∧ y_Spots_take.cls ≠ "java/lang/invoke/MethodHandle" ∧ y_Spots_take.cls ≠ "java/lang/invoke/VarHandle" ∧ (parseMethodDescriptor y_Spots_take.desc).map (fun d => d.parameters.length) = some 2 := by decide +kernel
abbrev rm_Spots_take : Room := { frames := 1, cells := 0, slots := 0, locals := 22 }
abbrev b_Spots_joinFrom : ByteArray := prog_7_method_8_code
def y_Spots_joinFrom : MethodName := ⟨"PictureChange$Spots", "joinFrom", "(II)V"⟩
def w_Spots_joinFrom : List Cond := .code y_Spots_joinFrom b_Spots_joinFrom 4 none :: gt
theorem hdV_Spots_joinFrom : y_Spots_joinFrom.cls = "PictureChange$Spots" ∧ y_Spots_joinFrom.cls ≠ "java/lang/invoke/MethodHandle" ∧ y_Spots_joinFrom.cls ≠ "java/lang/invoke/VarHandle" ∧ (parseMethodDescriptor y_Spots_joinFrom.desc).map (fun d => d.parameters.length) = some 2 := by decide +kernel
abbrev rm_Spots_joinFrom : Room := { frames := 2, cells := 0, slots := 0, locals := 44 }
abbrev b_Spots_ownAt : ByteArray := prog_7_method_13_code
def y_Spots_ownAt : MethodName := ⟨"PictureChange$Spots", "ownAt", "(II)I"⟩
def w_Spots_ownAt : List Cond := .code y_Spots_ownAt b_Spots_ownAt 3 (some .int) :: gt
theorem hdV_Spots_ownAt : y_Spots_ownAt.cls = "PictureChange$Spots" ∧ y_Spots_ownAt.cls ≠ "java/lang/invoke/MethodHandle" ∧ y_Spots_ownAt.cls ≠ "java/lang/invoke/VarHandle" ∧ (parseMethodDescriptor y_Spots_ownAt.desc).map (fun d => d.parameters.length) = some 2 := by decide +kernel
abbrev rm_Spots_ownAt : Room := { frames := 1, cells := 0, slots := 0, locals := 22 }
abbrev b_Spots_neighboursOf : ByteArray := prog_7_method_12_code
def y_Spots_neighboursOf : MethodName := ⟨"PictureChange$Spots", "neighboursOf", "(II)I"⟩
def w_Spots_neighboursOf : List Cond := .code y_Spots_neighboursOf b_Spots_neighboursOf 3 (some .int) :: gt
theorem hdV_Spots_neighboursOf : y_Spots_neighboursOf.cls = "PictureChange$Spots" ∧ y_Spots_neighboursOf.cls ≠ "java/lang/invoke/MethodHandle" ∧ y_Spots_neighboursOf.cls ≠ "java/lang/invoke/VarHandle" ∧ (parseMethodDescriptor y_Spots_neighboursOf.desc).map (fun d => d.parameters.length) = some 2 := by decide +kernel
abbrev rm_Spots_neighboursOf : Room := { frames := 2, cells := 0, slots := 0, locals := 44 }
abbrev b_Spots_isCrack : ByteArray := prog_7_method_11_code
def y_Spots_isCrack : MethodName := ⟨"PictureChange$Spots", "isCrack", "()Z"⟩
def w_Spots_isCrack : List Cond := .code y_Spots_isCrack b_Spots_isCrack 4 (some .boolean) :: gt
theorem hdV_Spots_isCrack : y_Spots_isCrack.cls = "PictureChange$Spots" ∧ y_Spots_isCrack.cls ≠ "java/lang/invoke/MethodHandle" ∧ y_Spots_isCrack.cls ≠ "java/lang/invoke/VarHandle" ∧ (parseMethodDescriptor y_Spots_isCrack.desc).map (fun d => d.parameters.length) = some 0 := by decide +kernel
abbrev rm_Spots_isCrack : Room := { frames := 3, cells := 0, slots := 0, locals := 66 }
abbrev b_Spots_describe : ByteArray := prog_7_method_10_code
def y_Spots_describe : MethodName := ⟨"PictureChange$Spots", "describe", "()V"⟩
def w_Spots_describe : List Cond := .code y_Spots_describe b_Spots_describe 9 none :: gt
theorem hdV_Spots_describe : y_Spots_describe.cls = "PictureChange$Spots" ∧ y_Spots_describe.cls ≠ "java/lang/invoke/MethodHandle" ∧ y_Spots_describe.cls ≠ "java/lang/invoke/VarHandle" ∧ (parseMethodDescriptor y_Spots_describe.desc).map (fun d => d.parameters.length) = some 0 := by decide +kernel
abbrev rm_Spots_describe : Room := { frames := 4, cells := 0, slots := 0, locals := 89 }
abbrev b_Spots_join : ByteArray := prog_7_method_4_code
def y_Spots_join : MethodName := ⟨"PictureChange$Spots", "join", "()V"⟩
def w_Spots_join : List Cond := .code y_Spots_join b_Spots_join 3 none :: gt
theorem hdV_Spots_join : y_Spots_join.cls = "PictureChange$Spots" ∧ y_Spots_join.cls ≠ "java/lang/invoke/MethodHandle" ∧ y_Spots_join.cls ≠ "java/lang/invoke/VarHandle" ∧ (parseMethodDescriptor y_Spots_join.desc).map (fun d => d.parameters.length) = some 0 := by decide +kernel
abbrev rm_Spots_join : Room := { frames := 5, cells := 0, slots := 0, locals := 117 }
abbrev b_Pic_run : ByteArray := prog_1_method_11_code
def y_Pic_run : MethodName := ⟨"PictureChange", "run", "()I"⟩
def w_Pic_run : List Cond := .code y_Pic_run b_Pic_run 4 (some .int) :: gt
theorem hdV_Pic_run : y_Pic_run.cls = "PictureChange" ∧ y_Pic_run.cls ≠ "java/lang/invoke/MethodHandle" ∧ y_Pic_run.cls ≠ "java/lang/invoke/VarHandle" ∧ (parseMethodDescriptor y_Pic_run.desc).map (fun d => d.parameters.length) = some 0 := by decide +kernel
abbrev rm_Pic_run : Room := { frames := 6, cells := 0, slots := 0, locals := 139 }
abbrev b_Spots_factOf : ByteArray := prog_7_method_6_code
def y_Spots_factOf : MethodName := ⟨"PictureChange$Spots", "factOf", "(II)I"⟩
def w_Spots_factOf : List Cond := .code y_Spots_factOf b_Spots_factOf 3 (some .int) :: gt
theorem hdV_Spots_factOf : y_Spots_factOf.cls = "PictureChange$Spots" ∧ y_Spots_factOf.cls ≠ "java/lang/invoke/MethodHandle" ∧ y_Spots_factOf.cls ≠ "java/lang/invoke/VarHandle" ∧ (parseMethodDescriptor y_Spots_factOf.desc).map (fun d => d.parameters.length) = some 2 := by decide +kernel
abbrev rm_Spots_factOf : Room := { frames := 0, cells := 0, slots := 0, locals := 0 }
abbrev b_Pic_spot : ByteArray := prog_1_method_12_code
def y_Pic_spot : MethodName := ⟨"PictureChange", "spot", "(II)I"⟩
def w_Pic_spot : List Cond := .code y_Pic_spot b_Pic_spot 3 (some .int) :: gt
theorem hdV_Pic_spot : y_Pic_spot.cls = "PictureChange" ∧ y_Pic_spot.cls ≠ "java/lang/invoke/MethodHandle" ∧ y_Pic_spot.cls ≠ "java/lang/invoke/VarHandle" ∧ (parseMethodDescriptor y_Pic_spot.desc).map (fun d => d.parameters.length) = some 2 := by decide +kernel
abbrev rm_Pic_spot : Room := { frames := 7, cells := 1, slots := 6, locals := 100 }
abbrev b_Pic_map : ByteArray := prog_1_method_13_code
def y_Pic_map : MethodName := ⟨"PictureChange", "map", "(II)I"⟩
def w_Pic_map : List Cond := .code y_Pic_map b_Pic_map 3 (some .int) :: gt
theorem hdV_Pic_map : y_Pic_map.cls = "PictureChange" ∧ y_Pic_map.cls ≠ "java/lang/invoke/MethodHandle" ∧ y_Pic_map.cls ≠ "java/lang/invoke/VarHandle" ∧ (parseMethodDescriptor y_Pic_map.desc).map (fun d => d.parameters.length) = some 2 := by decide +kernel
abbrev rm_Pic_map : Room := { frames := 8, cells := 1, slots := 6, locals := 122 }
abbrev b_Spots_isAlarming : ByteArray := prog_7_method_7_code
def y_Spots_isAlarming : MethodName := ⟨"PictureChange$Spots", "isAlarming", "(III)Z"⟩
def w_Spots_isAlarming : List Cond := .code y_Spots_isAlarming b_Spots_isAlarming 5 (some .boolean) :: gt
theorem hdV_Spots_isAlarming : y_Spots_isAlarming.cls = "PictureChange$Spots" ∧ y_Spots_isAlarming.cls ≠ "java/lang/invoke/MethodHandle" ∧ y_Spots_isAlarming.cls ≠ "java/lang/invoke/VarHandle" ∧ (parseMethodDescriptor y_Spots_isAlarming.desc).map (fun d => d.parameters.length) = some 3 := by decide +kernel
abbrev rm_Spots_isAlarming : Room := { frames := 1, cells := 0, slots := 0, locals := 22 }
abbrev b_Pic_alarm : ByteArray := prog_1_method_14_code
def y_Pic_alarm : MethodName := ⟨"PictureChange", "alarm", "(III)I"⟩
def w_Pic_alarm : List Cond := .code y_Pic_alarm b_Pic_alarm 5 (some .int) :: gt
theorem hdV_Pic_alarm : y_Pic_alarm.cls = "PictureChange" ∧ y_Pic_alarm.cls ≠ "java/lang/invoke/MethodHandle" ∧ y_Pic_alarm.cls ≠ "java/lang/invoke/VarHandle" ∧ (parseMethodDescriptor y_Pic_alarm.desc).map (fun d => d.parameters.length) = some 3 := by decide +kernel
abbrev rm_Pic_alarm : Room := { frames := 7, cells := 1, slots := 6, locals := 100 }
abbrev b_Pic_falseOnes : ByteArray := prog_1_method_15_code
def y_Pic_falseOnes : MethodName := ⟨"PictureChange", "falseOnes", "()I"⟩
def w_Pic_falseOnes : List Cond := .code y_Pic_falseOnes b_Pic_falseOnes 1 (some .int) :: gt
theorem hdV_Pic_falseOnes : y_Pic_falseOnes.cls = "PictureChange" ∧ y_Pic_falseOnes.cls ≠ "java/lang/invoke/MethodHandle" ∧ y_Pic_falseOnes.cls ≠ "java/lang/invoke/VarHandle" ∧ (parseMethodDescriptor y_Pic_falseOnes.desc).map (fun d => d.parameters.length) = some 0 := by decide +kernel
abbrev rm_Pic_falseOnes : Room := { frames := 0, cells := 0, slots := 0, locals := 0 }
abbrev b_Days_canFollow : ByteArray := prog_3_method_3_code
def y_Days_canFollow : MethodName := ⟨"PictureChange$Days", "canFollow", "(I)Z"⟩
def w_Days_canFollow : List Cond := .code y_Days_canFollow b_Days_canFollow 3 (some .boolean) :: gt
theorem hdV_Days_canFollow : y_Days_canFollow.cls = "PictureChange$Days" ∧ y_Days_canFollow.cls ≠ "java/lang/invoke/MethodHandle" ∧ y_Days_canFollow.cls ≠ "java/lang/invoke/VarHandle" ∧ (parseMethodDescriptor y_Days_canFollow.desc).map (fun d => d.parameters.length) = some 1 := by decide +kernel
abbrev rm_Days_canFollow : Room := { frames := 0, cells := 0, slots := 0, locals := 0 }
abbrev b_Days_isFull : ByteArray := prog_3_method_2_code
def y_Days_isFull : MethodName := ⟨"PictureChange$Days", "isFull", "()Z"⟩
def w_Days_isFull : List Cond := .code y_Days_isFull b_Days_isFull 1 (some .boolean) :: gt
theorem hdV_Days_isFull : y_Days_isFull.cls = "PictureChange$Days" ∧ y_Days_isFull.cls ≠ "java/lang/invoke/MethodHandle" ∧ y_Days_isFull.cls ≠ "java/lang/invoke/VarHandle" ∧ (parseMethodDescriptor y_Days_isFull.desc).map (fun d => d.parameters.length) = some 0 := by decide +kernel
abbrev rm_Days_isFull : Room := { frames := 0, cells := 0, slots := 0, locals := 0 }
abbrev b_Days_keep : ByteArray := prog_3_method_4_code
def y_Days_keep : MethodName := ⟨"PictureChange$Days", "keep", "(II)V"⟩
def w_Days_keep : List Cond := .code y_Days_keep b_Days_keep 3 none :: gt
theorem hdV_Days_keep : y_Days_keep.cls = "PictureChange$Days" ∧ y_Days_keep.cls ≠ "java/lang/invoke/MethodHandle" ∧ y_Days_keep.cls ≠ "java/lang/invoke/VarHandle" ∧ (parseMethodDescriptor y_Days_keep.desc).map (fun d => d.parameters.length) = some 2 := by decide +kernel
abbrev rm_Days_keep : Room := { frames := 0, cells := 0, slots := 0, locals := 0 }
abbrev b_Pic_day : ByteArray := prog_1_method_16_code
def y_Pic_day : MethodName := ⟨"PictureChange", "day", "(I)I"⟩
def w_Pic_day : List Cond := .code y_Pic_day b_Pic_day 2 (some .int) :: gt
theorem hdV_Pic_day : y_Pic_day.cls = "PictureChange" ∧ y_Pic_day.cls ≠ "java/lang/invoke/MethodHandle" ∧ y_Pic_day.cls ≠ "java/lang/invoke/VarHandle" ∧ (parseMethodDescriptor y_Pic_day.desc).map (fun d => d.parameters.length) = some 1 := by decide +kernel
abbrev rm_Pic_day : Room := { frames := 7, cells := 1, slots := 6, locals := 100 }
abbrev b_Days_fit : ByteArray := prog_3_method_5_code
def y_Days_fit : MethodName := ⟨"PictureChange$Days", "fit", "(LPictureChange$Fraction;)V"⟩
def w_Days_fit : List Cond := .code y_Days_fit b_Days_fit 13 none :: gt
theorem hdV_Days_fit : y_Days_fit.cls = "PictureChange$Days" ∧ y_Days_fit.cls ≠ "java/lang/invoke/MethodHandle" ∧ y_Days_fit.cls ≠ "java/lang/invoke/VarHandle" ∧ (parseMethodDescriptor y_Days_fit.desc).map (fun d => d.parameters.length) = some 1 := by decide +kernel
abbrev rm_Days_fit : Room := { frames := 2, cells := 0, slots := 0, locals := 56 }
abbrev b_Pic_growth : ByteArray := prog_1_method_17_code
def y_Pic_growth : MethodName := ⟨"PictureChange", "growth", "(I)J"⟩
def w_Pic_growth : List Cond := .code y_Pic_growth b_Pic_growth 2 (some .long) :: gt
theorem hdV_Pic_growth : y_Pic_growth.cls = "PictureChange" ∧ y_Pic_growth.cls ≠ "java/lang/invoke/MethodHandle" ∧ y_Pic_growth.cls ≠ "java/lang/invoke/VarHandle" ∧ (parseMethodDescriptor y_Pic_growth.desc).map (fun d => d.parameters.length) = some 1 := by decide +kernel
abbrev rm_Pic_growth : Room := { frames := 8, cells := 1, slots := 6, locals := 120 }
abbrev b_Pic_count : ByteArray := prog_1_method_18_code
def y_Pic_count : MethodName := ⟨"PictureChange", "count", "(I)I"⟩
def w_Pic_count : List Cond := .code y_Pic_count b_Pic_count 2 (some .int) :: gt
theorem hdV_Pic_count : y_Pic_count.cls = "PictureChange" ∧ y_Pic_count.cls ≠ "java/lang/invoke/MethodHandle" ∧ y_Pic_count.cls ≠ "java/lang/invoke/VarHandle" ∧ (parseMethodDescriptor y_Pic_count.desc).map (fun d => d.parameters.length) = some 1 := by decide +kernel
abbrev rm_Pic_count : Room := { frames := 7, cells := 1, slots := 6, locals := 100 }
abbrev b_Law_cell0 : ByteArray := method_3_code
def y_Law_cell0 : MethodName := ⟨"PictureChangeLaw", "cell", "(LPictureChange;ZIII[J)I"⟩
def w_Law_cell0 : List Cond := .codeWith y_Law_cell0 b_Law_cell0 7 (some .int) [(0, 14, 17, 13), (0, 14, 21, 15)] :: gt
theorem hdV_Law_cell0 : y_Law_cell0.cls = "PictureChangeLaw" ∧ y_Law_cell0.cls ≠ "java/lang/invoke/MethodHandle" ∧ y_Law_cell0.cls ≠ "java/lang/invoke/VarHandle" ∧ (parseMethodDescriptor y_Law_cell0.desc).map (fun d => d.parameters.length) = some 6 := by decide +kernel
abbrev rm_Law_cell0 : Room := { frames := 9, cells := 2, slots := 12, locals := 149 }
abbrev b_Law_register : ByteArray := method_4_code
def y_Law_register : MethodName := ⟨"PictureChangeLaw", "register", "(LPictureChange;I[J)I"⟩
def w_Law_register : List Cond := .codeWith y_Law_register b_Law_register 4 (some .int) [(0, 9, 12, 15)] :: gt
theorem hdV_Law_register : y_Law_register.cls = "PictureChangeLaw" ∧ y_Law_register.cls ≠ "java/lang/invoke/MethodHandle" ∧ y_Law_register.cls ≠ "java/lang/invoke/VarHandle" ∧ (parseMethodDescriptor y_Law_register.desc).map (fun d => d.parameters.length) = some 3 := by decide +kernel
abbrev rm_Law_register : Room := { frames := 8, cells := 1, slots := 6, locals := 123 }
abbrev b_Law_shift : ByteArray := method_5_code
def y_Law_shift : MethodName := ⟨"PictureChangeLaw", "shift", "(LPictureChange;I[J)I"⟩
def w_Law_shift : List Cond := .codeWith y_Law_shift b_Law_shift 4 (some .int) [(0, 9, 12, 13)] :: gt
theorem hdV_Law_shift : y_Law_shift.cls = "PictureChangeLaw" ∧ y_Law_shift.cls ≠ "java/lang/invoke/MethodHandle" ∧ y_Law_shift.cls ≠ "java/lang/invoke/VarHandle" ∧ (parseMethodDescriptor y_Law_shift.desc).map (fun d => d.parameters.length) = some 3 := by decide +kernel
abbrev rm_Law_shift : Room := { frames := 9, cells := 1, slots := 6, locals := 141 }
abbrev b_Law_chart : ByteArray := method_6_code
def y_Law_chart : MethodName := ⟨"PictureChangeLaw", "chart", "(LPictureChange;IIZ[J)I"⟩
def w_Law_chart : List Cond := .codeWith y_Law_chart b_Law_chart 6 (some .int) [(0, 19, 22, 13), (0, 19, 26, 28)] :: gt
theorem hdV_Law_chart : y_Law_chart.cls = "PictureChangeLaw" ∧ y_Law_chart.cls ≠ "java/lang/invoke/MethodHandle" ∧ y_Law_chart.cls ≠ "java/lang/invoke/VarHandle" ∧ (parseMethodDescriptor y_Law_chart.desc).map (fun d => d.parameters.length) = some 5 := by decide +kernel
abbrev rm_Law_chart : Room := { frames := 9, cells := 2, slots := 12, locals := 147 }
abbrev b_Law_gain : ByteArray := method_7_code
def y_Law_gain : MethodName := ⟨"PictureChangeLaw", "gain", "(LPictureChange;I[J)I"⟩
def w_Law_gain : List Cond := .codeWith y_Law_gain b_Law_gain 4 (some .int) [(0, 9, 12, 13)] :: gt
theorem hdV_Law_gain : y_Law_gain.cls = "PictureChangeLaw" ∧ y_Law_gain.cls ≠ "java/lang/invoke/MethodHandle" ∧ y_Law_gain.cls ≠ "java/lang/invoke/VarHandle" ∧ (parseMethodDescriptor y_Law_gain.desc).map (fun d => d.parameters.length) = some 3 := by decide +kernel
abbrev rm_Law_gain : Room := { frames := 9, cells := 1, slots := 6, locals := 141 }
abbrev b_Law_repeat : ByteArray := method_8_code
def y_Law_repeat : MethodName := ⟨"PictureChangeLaw", "repeat", "(LPictureChange;III[J)I"⟩
def w_Law_repeat : List Cond := .codeWith y_Law_repeat b_Law_repeat 6 (some .int) [(0, 12, 15, 13), (0, 12, 19, 15)] :: gt
theorem hdV_Law_repeat : y_Law_repeat.cls = "PictureChangeLaw" ∧ y_Law_repeat.cls ≠ "java/lang/invoke/MethodHandle" ∧ y_Law_repeat.cls ≠ "java/lang/invoke/VarHandle" ∧ (parseMethodDescriptor y_Law_repeat.desc).map (fun d => d.parameters.length) = some 5 := by decide +kernel
abbrev rm_Law_repeat : Room := { frames := 9, cells := 2, slots := 12, locals := 146 }
abbrev b_Law_floor : ByteArray := method_9_code
def y_Law_floor : MethodName := ⟨"PictureChangeLaw", "floor", "(LPictureChange;I[J)I"⟩
def w_Law_floor : List Cond := .codeWith y_Law_floor b_Law_floor 4 (some .int) [(0, 9, 12, 15)] :: gt
theorem hdV_Law_floor : y_Law_floor.cls = "PictureChangeLaw" ∧ y_Law_floor.cls ≠ "java/lang/invoke/MethodHandle" ∧ y_Law_floor.cls ≠ "java/lang/invoke/VarHandle" ∧ (parseMethodDescriptor y_Law_floor.desc).map (fun d => d.parameters.length) = some 3 := by decide +kernel
abbrev rm_Law_floor : Room := { frames := 9, cells := 1, slots := 6, locals := 142 }
abbrev b_Law_bound : ByteArray := method_10_code
def y_Law_bound : MethodName := ⟨"PictureChangeLaw", "bound", "(LPictureChange;II[J)I"⟩
def w_Law_bound : List Cond := .codeWith y_Law_bound b_Law_bound 5 (some .int) [(0, 10, 13, 13)] :: gt
theorem hdV_Law_bound : y_Law_bound.cls = "PictureChangeLaw" ∧ y_Law_bound.cls ≠ "java/lang/invoke/MethodHandle" ∧ y_Law_bound.cls ≠ "java/lang/invoke/VarHandle" ∧ (parseMethodDescriptor y_Law_bound.desc).map (fun d => d.parameters.length) = some 4 := by decide +kernel
abbrev rm_Law_bound : Room := { frames := 9, cells := 1, slots := 6, locals := 144 }
abbrev b_Law_change : ByteArray := method_11_code
def y_Law_change : MethodName := ⟨"PictureChangeLaw", "change", "(LPictureChange;II[J)I"⟩
def w_Law_change : List Cond := .codeWith y_Law_change b_Law_change 5 (some .int) [(0, 10, 13, 13)] :: gt
theorem hdV_Law_change : y_Law_change.cls = "PictureChangeLaw" ∧ y_Law_change.cls ≠ "java/lang/invoke/MethodHandle" ∧ y_Law_change.cls ≠ "java/lang/invoke/VarHandle" ∧ (parseMethodDescriptor y_Law_change.desc).map (fun d => d.parameters.length) = some 4 := by decide +kernel
abbrev rm_Law_change : Room := { frames := 9, cells := 1, slots := 6, locals := 144 }
abbrev b_Law_spot : ByteArray := method_12_code
def y_Law_spot : MethodName := ⟨"PictureChangeLaw", "spot", "(LPictureChange;II[J)I"⟩
def w_Law_spot : List Cond := .codeWith y_Law_spot b_Law_spot 5 (some .int) [(0, 10, 13, 13)] :: gt
theorem hdV_Law_spot : y_Law_spot.cls = "PictureChangeLaw" ∧ y_Law_spot.cls ≠ "java/lang/invoke/MethodHandle" ∧ y_Law_spot.cls ≠ "java/lang/invoke/VarHandle" ∧ (parseMethodDescriptor y_Law_spot.desc).map (fun d => d.parameters.length) = some 4 := by decide +kernel
abbrev rm_Law_spot : Room := { frames := 8, cells := 1, slots := 6, locals := 122 }
abbrev b_Law_map : ByteArray := method_13_code
def y_Law_map : MethodName := ⟨"PictureChangeLaw", "map", "(LPictureChange;II[J)I"⟩
def w_Law_map : List Cond := .codeWith y_Law_map b_Law_map 5 (some .int) [(0, 10, 13, 13)] :: gt
theorem hdV_Law_map : y_Law_map.cls = "PictureChangeLaw" ∧ y_Law_map.cls ≠ "java/lang/invoke/MethodHandle" ∧ y_Law_map.cls ≠ "java/lang/invoke/VarHandle" ∧ (parseMethodDescriptor y_Law_map.desc).map (fun d => d.parameters.length) = some 4 := by decide +kernel
abbrev rm_Law_map : Room := { frames := 9, cells := 1, slots := 6, locals := 144 }
abbrev b_Law_alarm : ByteArray := method_14_code
def y_Law_alarm : MethodName := ⟨"PictureChangeLaw", "alarm", "(LPictureChange;III[J)I"⟩
def w_Law_alarm : List Cond := .codeWith y_Law_alarm b_Law_alarm 6 (some .int) [(0, 12, 15, 13)] :: gt
theorem hdV_Law_alarm : y_Law_alarm.cls = "PictureChangeLaw" ∧ y_Law_alarm.cls ≠ "java/lang/invoke/MethodHandle" ∧ y_Law_alarm.cls ≠ "java/lang/invoke/VarHandle" ∧ (parseMethodDescriptor y_Law_alarm.desc).map (fun d => d.parameters.length) = some 5 := by decide +kernel
abbrev rm_Law_alarm : Room := { frames := 8, cells := 1, slots := 6, locals := 124 }
abbrev b_Law_day : ByteArray := method_15_code
def y_Law_day : MethodName := ⟨"PictureChangeLaw", "day", "(LPictureChange;I[J)I"⟩
def w_Law_day : List Cond := .codeWith y_Law_day b_Law_day 4 (some .int) [(0, 9, 12, 15), (0, 9, 15, 28)] :: gt
theorem hdV_Law_day : y_Law_day.cls = "PictureChangeLaw" ∧ y_Law_day.cls ≠ "java/lang/invoke/MethodHandle" ∧ y_Law_day.cls ≠ "java/lang/invoke/VarHandle" ∧ (parseMethodDescriptor y_Law_day.desc).map (fun d => d.parameters.length) = some 3 := by decide +kernel
abbrev rm_Law_day : Room := { frames := 8, cells := 1, slots := 6, locals := 121 }
abbrev b_Law_growth : ByteArray := method_16_code
def y_Law_growth : MethodName := ⟨"PictureChangeLaw", "growth", "(LPictureChange;I[J)I"⟩
def w_Law_growth : List Cond := .codeWith y_Law_growth b_Law_growth 4 (some .int) [(0, 8, 11, 13)] :: gt
theorem hdV_Law_growth : y_Law_growth.cls = "PictureChangeLaw" ∧ y_Law_growth.cls ≠ "java/lang/invoke/MethodHandle" ∧ y_Law_growth.cls ≠ "java/lang/invoke/VarHandle" ∧ (parseMethodDescriptor y_Law_growth.desc).map (fun d => d.parameters.length) = some 3 := by decide +kernel
abbrev rm_Law_growth : Room := { frames := 9, cells := 1, slots := 6, locals := 141 }
abbrev b_Law_count : ByteArray := method_17_code
def y_Law_count : MethodName := ⟨"PictureChangeLaw", "count", "(LPictureChange;I[J)I"⟩
def w_Law_count : List Cond := .codeWith y_Law_count b_Law_count 4 (some .int) [(0, 9, 12, 13)] :: gt
theorem hdV_Law_count : y_Law_count.cls = "PictureChangeLaw" ∧ y_Law_count.cls ≠ "java/lang/invoke/MethodHandle" ∧ y_Law_count.cls ≠ "java/lang/invoke/VarHandle" ∧ (parseMethodDescriptor y_Law_count.desc).map (fun d => d.parameters.length) = some 3 := by decide +kernel
abbrev rm_Law_count : Room := { frames := 8, cells := 1, slots := 6, locals := 121 }
abbrev b_Mod_init : ByteArray := prog_9_method_1_code
def y_Mod_init : MethodName := ⟨"PictureChangeModel", "<init>", "(II)V"⟩
def w_Mod_init : List Cond := .code y_Mod_init b_Mod_init 4 none :: gt
theorem hdV_Mod_init : y_Mod_init.cls = "PictureChangeModel" ∧ y_Mod_init.cls ≠ "java/lang/invoke/MethodHandle" ∧ y_Mod_init.cls ≠ "java/lang/invoke/VarHandle" ∧ (parseMethodDescriptor y_Mod_init.desc).map (fun d => d.parameters.length) = some 2 := by decide +kernel
abbrev rm_Mod_init : Room := { frames := 1, cells := 9, slots := 4092, locals := 12 }
abbrev b_Mod_thrown : ByteArray := prog_9_method_2_code
def y_Mod_thrown : MethodName := ⟨"PictureChangeModel", "thrown", "()I"⟩
def w_Mod_thrown : List Cond := .code y_Mod_thrown b_Mod_thrown 1 (some .int) :: gt
theorem hdV_Mod_thrown : y_Mod_thrown.cls = "PictureChangeModel" ∧ y_Mod_thrown.cls ≠ "java/lang/invoke/MethodHandle" ∧ y_Mod_thrown.cls ≠ "java/lang/invoke/VarHandle" ∧ (parseMethodDescriptor y_Mod_thrown.desc).map (fun d => d.parameters.length) = some 0 := by decide +kernel
abbrev rm_Mod_thrown : Room := { frames := 0, cells := 0, slots := 0, locals := 0 }
abbrev b_Mod_goes : ByteArray := prog_9_method_3_code
def y_Mod_goes : MethodName := ⟨"PictureChangeModel", "goes", "(ZZZ)Z"⟩
def w_Mod_goes : List Cond := .code y_Mod_goes b_Mod_goes 4 (some .boolean) :: gt
theorem hdV_Mod_goes : y_Mod_goes.cls = "PictureChangeModel" ∧ y_Mod_goes.cls ≠ "java/lang/invoke/MethodHandle" ∧ y_Mod_goes.cls ≠ "java/lang/invoke/VarHandle" ∧ (parseMethodDescriptor y_Mod_goes.desc).map (fun d => d.parameters.length) = some 3 := by decide +kernel
abbrev rm_Mod_goes : Room := { frames := 0, cells := 0, slots := 0, locals := 0 }
abbrev b_Mod_within : ByteArray := prog_9_method_4_code
def y_Mod_within : MethodName := ⟨"PictureChangeModel", "within", "(III)Z"⟩
def w_Mod_within : List Cond := .code y_Mod_within b_Mod_within 3 (some .boolean) :: gt
theorem hdV_Mod_within : y_Mod_within.cls = "PictureChangeModel" ∧ y_Mod_within.cls ≠ "java/lang/invoke/MethodHandle" ∧ y_Mod_within.cls ≠ "java/lang/invoke/VarHandle" ∧ (parseMethodDescriptor y_Mod_within.desc).map (fun d => d.parameters.length) = some 3 := by decide +kernel
abbrev rm_Mod_within : Room := { frames := 0, cells := 0, slots := 0, locals := 0 }
abbrev b_Mod_isCell : ByteArray := prog_9_method_5_code
def y_Mod_isCell : MethodName := ⟨"PictureChangeModel", "isCell", "(II)Z"⟩
def w_Mod_isCell : List Cond := .code y_Mod_isCell b_Mod_isCell 3 (some .boolean) :: gt
theorem hdV_Mod_isCell : y_Mod_isCell.cls = "PictureChangeModel" ∧ y_Mod_isCell.cls ≠ "java/lang/invoke/MethodHandle" ∧ y_Mod_isCell.cls ≠ "java/lang/invoke/VarHandle" ∧ (parseMethodDescriptor y_Mod_isCell.desc).map (fun d => d.parameters.length) = some 2 := by decide +kernel
abbrev rm_Mod_isCell : Room := { frames := 1, cells := 0, slots := 0, locals := 22 }
abbrev b_Mod_isPlace : ByteArray := prog_9_method_6_code
def y_Mod_isPlace : MethodName := ⟨"PictureChangeModel", "isPlace", "(I)Z"⟩
def w_Mod_isPlace : List Cond := .code y_Mod_isPlace b_Mod_isPlace 2 (some .boolean) :: gt
theorem hdV_Mod_isPlace : y_Mod_isPlace.cls = "PictureChangeModel" ∧ y_Mod_isPlace.cls ≠ "java/lang/invoke/MethodHandle" ∧ y_Mod_isPlace.cls ≠ "java/lang/invoke/VarHandle" ∧ (parseMethodDescriptor y_Mod_isPlace.desc).map (fun d => d.parameters.length) = some 1 := by decide +kernel
abbrev rm_Mod_isPlace : Room := { frames := 2, cells := 0, slots := 0, locals := 44 }
abbrev b_Mod_apart : ByteArray := prog_9_method_7_code
def y_Mod_apart : MethodName := ⟨"PictureChangeModel", "apart", "(II)I"⟩
def w_Mod_apart : List Cond := .code y_Mod_apart b_Mod_apart 2 (some .int) :: gt
theorem hdV_Mod_apart : y_Mod_apart.cls = "PictureChangeModel" ∧ y_Mod_apart.cls ≠ "java/lang/invoke/MethodHandle" ∧ y_Mod_apart.cls ≠ "java/lang/invoke/VarHandle" ∧ (parseMethodDescriptor y_Mod_apart.desc).map (fun d => d.parameters.length) = some 2 := by decide +kernel
abbrev rm_Mod_apart : Room := { frames := 0, cells := 0, slots := 0, locals := 0 }
abbrev b_Mod_cell : ByteArray := prog_9_method_8_code
def y_Mod_cell : MethodName := ⟨"PictureChangeModel", "cell", "(ZIII)I"⟩
def w_Mod_cell : List Cond := .code y_Mod_cell b_Mod_cell 7 (some .int) :: gt
theorem hdV_Mod_cell : y_Mod_cell.cls = "PictureChangeModel" ∧ y_Mod_cell.cls ≠ "java/lang/invoke/MethodHandle" ∧ y_Mod_cell.cls ≠ "java/lang/invoke/VarHandle" ∧ (parseMethodDescriptor y_Mod_cell.desc).map (fun d => d.parameters.length) = some 4 := by decide +kernel
abbrev rm_Mod_cell : Room := { frames := 2, cells := 0, slots := 0, locals := 44 }
abbrev b_Mod_under : ByteArray := prog_9_method_9_code
def y_Mod_under : MethodName := ⟨"PictureChangeModel", "under", "(III)I"⟩
def w_Mod_under : List Cond := .code y_Mod_under b_Mod_under 4 (some .int) :: gt
theorem hdV_Mod_under : y_Mod_under.cls = "PictureChangeModel" ∧ y_Mod_under.cls ≠ "java/lang/invoke/MethodHandle" ∧ y_Mod_under.cls ≠ "java/lang/invoke/VarHandle" ∧ (parseMethodDescriptor y_Mod_under.desc).map (fun d => d.parameters.length) = some 3 := by decide +kernel
abbrev rm_Mod_under : Room := { frames := 3, cells := 0, slots := 0, locals := 65 }
abbrev b_Mod_look : ByteArray := prog_9_method_10_code
def y_Mod_look : MethodName := ⟨"PictureChangeModel", "look", "(II)V"⟩
def w_Mod_look : List Cond := .code y_Mod_look b_Mod_look 5 none :: gt
theorem hdV_Mod_look : y_Mod_look.cls = "PictureChangeModel" ∧ y_Mod_look.cls ≠ "java/lang/invoke/MethodHandle" ∧ y_Mod_look.cls ≠ "java/lang/invoke/VarHandle" ∧ (parseMethodDescriptor y_Mod_look.desc).map (fun d => d.parameters.length) = some 2 := by decide +kernel
abbrev rm_Mod_look : Room := { frames := 4, cells := 0, slots := 0, locals := 88 }
abbrev b_Mod_register : ByteArray := prog_9_method_11_code
def y_Mod_register : MethodName := ⟨"PictureChangeModel", "register", "(I)I"⟩
def w_Mod_register : List Cond := .code y_Mod_register b_Mod_register 11 (some .int) :: gt
theorem hdV_Mod_register : y_Mod_register.cls = "PictureChangeModel" ∧ y_Mod_register.cls ≠ "java/lang/invoke/MethodHandle" ∧ y_Mod_register.cls ≠ "java/lang/invoke/VarHandle" ∧ (parseMethodDescriptor y_Mod_register.desc).map (fun d => d.parameters.length) = some 1 := by decide +kernel
abbrev rm_Mod_register : Room := { frames := 5, cells := 0, slots := 0, locals := 112 }
abbrev b_Mod_shift : ByteArray := prog_9_method_12_code
def y_Mod_shift : MethodName := ⟨"PictureChangeModel", "shift", "(I)I"⟩
def w_Mod_shift : List Cond := .code y_Mod_shift b_Mod_shift 2 (some .int) :: gt
theorem hdV_Mod_shift : y_Mod_shift.cls = "PictureChangeModel" ∧ y_Mod_shift.cls ≠ "java/lang/invoke/MethodHandle" ∧ y_Mod_shift.cls ≠ "java/lang/invoke/VarHandle" ∧ (parseMethodDescriptor y_Mod_shift.desc).map (fun d => d.parameters.length) = some 1 := by decide +kernel
abbrev rm_Mod_shift : Room := { frames := 1, cells := 0, slots := 0, locals := 23 }
abbrev b_Mod_chartsNow : ByteArray := prog_9_method_13_code
def y_Mod_chartsNow : MethodName := ⟨"PictureChangeModel", "chartsNow", "()I"⟩
def w_Mod_chartsNow : List Cond := .code y_Mod_chartsNow b_Mod_chartsNow 3 (some .int) :: gt
theorem hdV_Mod_chartsNow : y_Mod_chartsNow.cls = "PictureChangeModel" ∧ y_Mod_chartsNow.cls ≠ "java/lang/invoke/MethodHandle" ∧ y_Mod_chartsNow.cls ≠ "java/lang/invoke/VarHandle" ∧ (parseMethodDescriptor y_Mod_chartsNow.desc).map (fun d => d.parameters.length) = some 0 := by decide +kernel
abbrev rm_Mod_chartsNow : Room := { frames := 0, cells := 0, slots := 0, locals := 0 }
abbrev b_Mod_chart : ByteArray := prog_9_method_14_code
def y_Mod_chart : MethodName := ⟨"PictureChangeModel", "chart", "(IIZ)Z"⟩
def w_Mod_chart : List Cond := .code y_Mod_chart b_Mod_chart 6 (some .boolean) :: gt
theorem hdV_Mod_chart : y_Mod_chart.cls = "PictureChangeModel" ∧ y_Mod_chart.cls ≠ "java/lang/invoke/MethodHandle" ∧ y_Mod_chart.cls ≠ "java/lang/invoke/VarHandle" ∧ (parseMethodDescriptor y_Mod_chart.desc).map (fun d => d.parameters.length) = some 3 := by decide +kernel
abbrev rm_Mod_chart : Room := { frames := 2, cells := 0, slots := 0, locals := 44 }
abbrev b_Mod_divisor : ByteArray := prog_9_method_16_code
def y_Mod_divisor : MethodName := ⟨"PictureChangeModel", "divisor", "(JJ)J"⟩
def w_Mod_divisor : List Cond := .code y_Mod_divisor b_Mod_divisor 10 (some .long) :: gt
theorem hdV_Mod_divisor : y_Mod_divisor.cls = "PictureChangeModel" ∧ y_Mod_divisor.cls ≠ "java/lang/invoke/MethodHandle" ∧ y_Mod_divisor.cls ≠ "java/lang/invoke/VarHandle" ∧ (parseMethodDescriptor y_Mod_divisor.desc).map (fun d => d.parameters.length) = some 2 := by decide +kernel
abbrev rm_Mod_divisor : Room := { frames := 0, cells := 0, slots := 0, locals := 0 }
abbrev b_Mod_weigh : ByteArray := prog_9_method_15_code
def y_Mod_weigh : MethodName := ⟨"PictureChangeModel", "weigh", "()V"⟩
def w_Mod_weigh : List Cond := .code y_Mod_weigh b_Mod_weigh 3 none :: gt
theorem hdV_Mod_weigh : y_Mod_weigh.cls = "PictureChangeModel" ∧ y_Mod_weigh.cls ≠ "java/lang/invoke/MethodHandle" ∧ y_Mod_weigh.cls ≠ "java/lang/invoke/VarHandle" ∧ (parseMethodDescriptor y_Mod_weigh.desc).map (fun d => d.parameters.length) = some 0 := by decide +kernel
abbrev rm_Mod_weigh : Room := { frames := 4, cells := 0, slots := 0, locals := 88 }
abbrev b_Mod_gain : ByteArray := prog_9_method_17_code
def y_Mod_gain : MethodName := ⟨"PictureChangeModel", "gain", "(I)I"⟩
def w_Mod_gain : List Cond := .code y_Mod_gain b_Mod_gain 2 (some .int) :: gt
theorem hdV_Mod_gain : y_Mod_gain.cls = "PictureChangeModel" ∧ y_Mod_gain.cls ≠ "java/lang/invoke/MethodHandle" ∧ y_Mod_gain.cls ≠ "java/lang/invoke/VarHandle" ∧ (parseMethodDescriptor y_Mod_gain.desc).map (fun d => d.parameters.length) = some 1 := by decide +kernel
abbrev rm_Mod_gain : Room := { frames := 5, cells := 0, slots := 0, locals := 110 }
abbrev b_Mod_boundOf : ByteArray := prog_9_method_18_code
def y_Mod_boundOf : MethodName := ⟨"PictureChangeModel", "boundOf", "(I)I"⟩
def w_Mod_boundOf : List Cond := .code y_Mod_boundOf b_Mod_boundOf 4 (some .int) :: gt
theorem hdV_Mod_boundOf : y_Mod_boundOf.cls = "PictureChangeModel" ∧ y_Mod_boundOf.cls ≠ "java/lang/invoke/MethodHandle" ∧ y_Mod_boundOf.cls ≠ "java/lang/invoke/VarHandle" ∧ (parseMethodDescriptor y_Mod_boundOf.desc).map (fun d => d.parameters.length) = some 1 := by decide +kernel
abbrev rm_Mod_boundOf : Room := { frames := 1, cells := 0, slots := 0, locals := 21 }
abbrev b_Mod_repeat : ByteArray := prog_9_method_19_code
def y_Mod_repeat : MethodName := ⟨"PictureChangeModel", "repeat", "(III)I"⟩
def w_Mod_repeat : List Cond := .code y_Mod_repeat b_Mod_repeat 5 (some .int) :: gt
theorem hdV_Mod_repeat : y_Mod_repeat.cls = "PictureChangeModel" ∧ y_Mod_repeat.cls ≠ "java/lang/invoke/MethodHandle" ∧ y_Mod_repeat.cls ≠ "java/lang/invoke/VarHandle" ∧ (parseMethodDescriptor y_Mod_repeat.desc).map (fun d => d.parameters.length) = some 3 := by decide +kernel
abbrev rm_Mod_repeat : Room := { frames := 2, cells := 0, slots := 0, locals := 44 }
abbrev b_Mod_floor : ByteArray := prog_9_method_20_code
def y_Mod_floor : MethodName := ⟨"PictureChangeModel", "floor", "(I)I"⟩
def w_Mod_floor : List Cond := .code y_Mod_floor b_Mod_floor 3 (some .int) :: gt
theorem hdV_Mod_floor : y_Mod_floor.cls = "PictureChangeModel" ∧ y_Mod_floor.cls ≠ "java/lang/invoke/MethodHandle" ∧ y_Mod_floor.cls ≠ "java/lang/invoke/VarHandle" ∧ (parseMethodDescriptor y_Mod_floor.desc).map (fun d => d.parameters.length) = some 1 := by decide +kernel
abbrev rm_Mod_floor : Room := { frames := 1, cells := 0, slots := 0, locals := 23 }
abbrev b_Mod_bound : ByteArray := prog_9_method_21_code
def y_Mod_bound : MethodName := ⟨"PictureChangeModel", "bound", "(II)I"⟩
def w_Mod_bound : List Cond := .code y_Mod_bound b_Mod_bound 3 (some .int) :: gt
theorem hdV_Mod_bound : y_Mod_bound.cls = "PictureChangeModel" ∧ y_Mod_bound.cls ≠ "java/lang/invoke/MethodHandle" ∧ y_Mod_bound.cls ≠ "java/lang/invoke/VarHandle" ∧ (parseMethodDescriptor y_Mod_bound.desc).map (fun d => d.parameters.length) = some 2 := by decide +kernel
abbrev rm_Mod_bound : Room := { frames := 2, cells := 0, slots := 0, locals := 44 }
abbrev b_Mod_changeOf : ByteArray := prog_9_method_22_code
def y_Mod_changeOf : MethodName := ⟨"PictureChangeModel", "changeOf", "(I)I"⟩
def w_Mod_changeOf : List Cond := .code y_Mod_changeOf b_Mod_changeOf 5 (some .int) :: gt
theorem hdV_Mod_changeOf : y_Mod_changeOf.cls = "PictureChangeModel" ∧ y_Mod_changeOf.cls ≠ "java/lang/invoke/MethodHandle" ∧ y_Mod_changeOf.cls ≠ "java/lang/invoke/VarHandle" ∧ (parseMethodDescriptor y_Mod_changeOf.desc).map (fun d => d.parameters.length) = some 1 := by decide +kernel
abbrev rm_Mod_changeOf : Room := { frames := 4, cells := 0, slots := 0, locals := 88 }
abbrev b_Mod_change : ByteArray := prog_9_method_23_code
def y_Mod_change : MethodName := ⟨"PictureChangeModel", "change", "(II)I"⟩
def w_Mod_change : List Cond := .code y_Mod_change b_Mod_change 3 (some .int) :: gt
theorem hdV_Mod_change : y_Mod_change.cls = "PictureChangeModel" ∧ y_Mod_change.cls ≠ "java/lang/invoke/MethodHandle" ∧ y_Mod_change.cls ≠ "java/lang/invoke/VarHandle" ∧ (parseMethodDescriptor y_Mod_change.desc).map (fun d => d.parameters.length) = some 2 := by decide +kernel
abbrev rm_Mod_change : Room := { frames := 5, cells := 0, slots := 0, locals := 112 }
abbrev b_Mod_neighbour : ByteArray := prog_9_method_25_code
def y_Mod_neighbour : MethodName := ⟨"PictureChangeModel", "neighbour", "(II)I"⟩
def w_Mod_neighbour : List Cond := .code y_Mod_neighbour b_Mod_neighbour 5 (some .int) :: gt
theorem hdV_Mod_neighbour : y_Mod_neighbour.cls = "PictureChangeModel" ∧ y_Mod_neighbour.cls ≠ "java/lang/invoke/MethodHandle" ∧ y_Mod_neighbour.cls ≠ "java/lang/invoke/VarHandle" ∧ (parseMethodDescriptor y_Mod_neighbour.desc).map (fun d => d.parameters.length) = some 2 := by decide +kernel
abbrev rm_Mod_neighbour : Room := { frames := 2, cells := 0, slots := 0, locals := 44 }
abbrev b_Mod_lowest : ByteArray := prog_9_method_24_code
def y_Mod_lowest : MethodName := ⟨"PictureChangeModel", "lowest", "(I)I"⟩
def w_Mod_lowest : List Cond := .code y_Mod_lowest b_Mod_lowest 5 (some .int) :: gt
theorem hdV_Mod_lowest : y_Mod_lowest.cls = "PictureChangeModel" ∧ y_Mod_lowest.cls ≠ "java/lang/invoke/MethodHandle" ∧ y_Mod_lowest.cls ≠ "java/lang/invoke/VarHandle" ∧ (parseMethodDescriptor y_Mod_lowest.desc).map (fun d => d.parameters.length) = some 1 := by decide +kernel
abbrev rm_Mod_lowest : Room := { frames := 3, cells := 0, slots := 0, locals := 68 }
abbrev b_Mod_run : ByteArray := prog_9_method_26_code
def y_Mod_run : MethodName := ⟨"PictureChangeModel", "run", "()I"⟩
def w_Mod_run : List Cond := .code y_Mod_run b_Mod_run 3 (some .int) :: gt
theorem hdV_Mod_run : y_Mod_run.cls = "PictureChangeModel" ∧ y_Mod_run.cls ≠ "java/lang/invoke/MethodHandle" ∧ y_Mod_run.cls ≠ "java/lang/invoke/VarHandle" ∧ (parseMethodDescriptor y_Mod_run.desc).map (fun d => d.parameters.length) = some 0 := by decide +kernel
abbrev rm_Mod_run : Room := { frames := 5, cells := 0, slots := 0, locals := 112 }
abbrev b_Mod_cellOf : ByteArray := prog_9_method_27_code
def y_Mod_cellOf : MethodName := ⟨"PictureChangeModel", "cellOf", "(I)I"⟩
def w_Mod_cellOf : List Cond := .code y_Mod_cellOf b_Mod_cellOf 4 (some .int) :: gt
theorem hdV_Mod_cellOf : y_Mod_cellOf.cls = "PictureChangeModel" ∧ y_Mod_cellOf.cls ≠ "java/lang/invoke/MethodHandle" ∧ y_Mod_cellOf.cls ≠ "java/lang/invoke/VarHandle" ∧ (parseMethodDescriptor y_Mod_cellOf.desc).map (fun d => d.parameters.length) = some 1 := by decide +kernel
abbrev rm_Mod_cellOf : Room := { frames := 0, cells := 0, slots := 0, locals := 0 }
abbrev b_Mod_near : ByteArray := prog_9_method_28_code
def y_Mod_near : MethodName := ⟨"PictureChangeModel", "near", "(I)I"⟩
def w_Mod_near : List Cond := .code y_Mod_near b_Mod_near 5 (some .int) :: gt
theorem hdV_Mod_near : y_Mod_near.cls = "PictureChangeModel" ∧ y_Mod_near.cls ≠ "java/lang/invoke/MethodHandle" ∧ y_Mod_near.cls ≠ "java/lang/invoke/VarHandle" ∧ (parseMethodDescriptor y_Mod_near.desc).map (fun d => d.parameters.length) = some 1 := by decide +kernel
abbrev rm_Mod_near : Room := { frames := 3, cells := 0, slots := 0, locals := 68 }
abbrev b_Mod_numbers : ByteArray := prog_9_method_29_code
def y_Mod_numbers : MethodName := ⟨"PictureChangeModel", "numbers", "(II)I"⟩
def w_Mod_numbers : List Cond := .code y_Mod_numbers b_Mod_numbers 13 (some .int) :: gt
theorem hdV_Mod_numbers : y_Mod_numbers.cls = "PictureChangeModel" ∧ y_Mod_numbers.cls ≠ "java/lang/invoke/MethodHandle" ∧ y_Mod_numbers.cls ≠ "java/lang/invoke/VarHandle" ∧ (parseMethodDescriptor y_Mod_numbers.desc).map (fun d => d.parameters.length) = some 2 := by decide +kernel
abbrev rm_Mod_numbers : Room := { frames := 4, cells := 0, slots := 0, locals := 92 }
abbrev b_Mod_spot : ByteArray := prog_9_method_30_code
def y_Mod_spot : MethodName := ⟨"PictureChangeModel", "spot", "(II)I"⟩
def w_Mod_spot : List Cond := .code y_Mod_spot b_Mod_spot 3 (some .int) :: gt
theorem hdV_Mod_spot : y_Mod_spot.cls = "PictureChangeModel" ∧ y_Mod_spot.cls ≠ "java/lang/invoke/MethodHandle" ∧ y_Mod_spot.cls ≠ "java/lang/invoke/VarHandle" ∧ (parseMethodDescriptor y_Mod_spot.desc).map (fun d => d.parameters.length) = some 2 := by decide +kernel
abbrev rm_Mod_spot : Room := { frames := 5, cells := 0, slots := 0, locals := 124 }
abbrev b_Mod_map : ByteArray := prog_9_method_31_code
def y_Mod_map : MethodName := ⟨"PictureChangeModel", "map", "(II)I"⟩
def w_Mod_map : List Cond := .code y_Mod_map b_Mod_map 6 (some .int) :: gt
theorem hdV_Mod_map : y_Mod_map.cls = "PictureChangeModel" ∧ y_Mod_map.cls ≠ "java/lang/invoke/MethodHandle" ∧ y_Mod_map.cls ≠ "java/lang/invoke/VarHandle" ∧ (parseMethodDescriptor y_Mod_map.desc).map (fun d => d.parameters.length) = some 2 := by decide +kernel
abbrev rm_Mod_map : Room := { frames := 2, cells := 0, slots := 0, locals := 44 }
abbrev b_Mod_alarm : ByteArray := prog_9_method_32_code
def y_Mod_alarm : MethodName := ⟨"PictureChangeModel", "alarm", "(III)I"⟩
def w_Mod_alarm : List Cond := .code y_Mod_alarm b_Mod_alarm 6 (some .int) :: gt
theorem hdV_Mod_alarm : y_Mod_alarm.cls = "PictureChangeModel" ∧ y_Mod_alarm.cls ≠ "java/lang/invoke/MethodHandle" ∧ y_Mod_alarm.cls ≠ "java/lang/invoke/VarHandle" ∧ (parseMethodDescriptor y_Mod_alarm.desc).map (fun d => d.parameters.length) = some 3 := by decide +kernel
abbrev rm_Mod_alarm : Room := { frames := 5, cells := 0, slots := 0, locals := 124 }
abbrev b_Mod_falseOnes : ByteArray := prog_9_method_33_code
def y_Mod_falseOnes : MethodName := ⟨"PictureChangeModel", "falseOnes", "()I"⟩
def w_Mod_falseOnes : List Cond := .code y_Mod_falseOnes b_Mod_falseOnes 1 (some .int) :: gt
theorem hdV_Mod_falseOnes : y_Mod_falseOnes.cls = "PictureChangeModel" ∧ y_Mod_falseOnes.cls ≠ "java/lang/invoke/MethodHandle" ∧ y_Mod_falseOnes.cls ≠ "java/lang/invoke/VarHandle" ∧ (parseMethodDescriptor y_Mod_falseOnes.desc).map (fun d => d.parameters.length) = some 0 := by decide +kernel
abbrev rm_Mod_falseOnes : Room := { frames := 0, cells := 0, slots := 0, locals := 0 }
abbrev b_Mod_day : ByteArray := prog_9_method_34_code
def y_Mod_day : MethodName := ⟨"PictureChangeModel", "day", "(I)I"⟩
def w_Mod_day : List Cond := .code y_Mod_day b_Mod_day 3 (some .int) :: gt
theorem hdV_Mod_day : y_Mod_day.cls = "PictureChangeModel" ∧ y_Mod_day.cls ≠ "java/lang/invoke/MethodHandle" ∧ y_Mod_day.cls ≠ "java/lang/invoke/VarHandle" ∧ (parseMethodDescriptor y_Mod_day.desc).map (fun d => d.parameters.length) = some 1 := by decide +kernel
abbrev rm_Mod_day : Room := { frames := 1, cells := 0, slots := 0, locals := 23 }
abbrev b_Mod_growth : ByteArray := prog_9_method_35_code
def y_Mod_growth : MethodName := ⟨"PictureChangeModel", "growth", "(I)J"⟩
def w_Mod_growth : List Cond := .code y_Mod_growth b_Mod_growth 10 (some .long) :: gt
theorem hdV_Mod_growth : y_Mod_growth.cls = "PictureChangeModel" ∧ y_Mod_growth.cls ≠ "java/lang/invoke/MethodHandle" ∧ y_Mod_growth.cls ≠ "java/lang/invoke/VarHandle" ∧ (parseMethodDescriptor y_Mod_growth.desc).map (fun d => d.parameters.length) = some 1 := by decide +kernel
abbrev rm_Mod_growth : Room := { frames := 1, cells := 0, slots := 0, locals := 29 }
abbrev b_Mod_count : ByteArray := prog_9_method_36_code
def y_Mod_count : MethodName := ⟨"PictureChangeModel", "count", "(I)I"⟩
def w_Mod_count : List Cond := .code y_Mod_count b_Mod_count 2 (some .int) :: gt
theorem hdV_Mod_count : y_Mod_count.cls = "PictureChangeModel" ∧ y_Mod_count.cls ≠ "java/lang/invoke/MethodHandle" ∧ y_Mod_count.cls ≠ "java/lang/invoke/VarHandle" ∧ (parseMethodDescriptor y_Mod_count.desc).map (fun d => d.parameters.length) = some 1 := by decide +kernel
abbrev rm_Mod_count : Room := { frames := 1, cells := 0, slots := 0, locals := 23 }
