abbrev b_Charts_init : ByteArray := prog_2_method_1_code
def y_Charts_init : MethodName := ⟨"PictureChange$Charts", "<init>", "()V"⟩
def w_Charts_init : List Cond := .code y_Charts_init b_Charts_init 1 none :: gt
theorem hdV_Charts_init : y_Charts_init.cls = "PictureChange$Charts" ∧ y_Charts_init.cls ≠ "java/lang/invoke/MethodHandle" ∧ y_Charts_init.cls ≠ "java/lang/invoke/VarHandle" ∧ (parseMethodDescriptor y_Charts_init.desc).map (fun d => d.parameters.length) = some 0 := by decide +kernel
abbrev rm_Charts_init : Room := { frames := 1, cells := 2, slots := 24, locals := 12 }
abbrev b_Charts_isFull : ByteArray := prog_2_method_2_code
def y_Charts_isFull : MethodName := ⟨"PictureChange$Charts", "isFull", "()Z"⟩
def w_Charts_isFull : List Cond := .code y_Charts_isFull b_Charts_isFull 1 (some .boolean) :: gt
theorem hdV_Charts_isFull : y_Charts_isFull.cls = "PictureChange$Charts" ∧ y_Charts_isFull.cls ≠ "java/lang/invoke/MethodHandle" ∧ y_Charts_isFull.cls ≠ "java/lang/invoke/VarHandle" ∧ (parseMethodDescriptor y_Charts_isFull.desc).map (fun d => d.parameters.length) = some 0 := by decide +kernel
abbrev rm_Charts_isFull : Room := { frames := 0, cells := 0, slots := 0, locals := 0 }
abbrev b_Charts_find : ByteArray := prog_2_method_3_code
def y_Charts_find : MethodName := ⟨"PictureChange$Charts", "find", "(II)I"⟩
def w_Charts_find : List Cond := .code y_Charts_find b_Charts_find 4 (some .int) :: gt
theorem hdV_Charts_find : y_Charts_find.cls = "PictureChange$Charts" ∧ y_Charts_find.cls ≠ "java/lang/invoke/MethodHandle" ∧ y_Charts_find.cls ≠ "java/lang/invoke/VarHandle" ∧ (parseMethodDescriptor y_Charts_find.desc).map (fun d => d.parameters.length) = some 2 := by decide +kernel
abbrev rm_Charts_find : Room := { frames := 0, cells := 0, slots := 0, locals := 0 }
abbrev b_Charts_add : ByteArray := prog_2_method_4_code
def y_Charts_add : MethodName := ⟨"PictureChange$Charts", "add", "(II)V"⟩
def w_Charts_add : List Cond := .code y_Charts_add b_Charts_add 3 none :: gt
theorem hdV_Charts_add : y_Charts_add.cls = "PictureChange$Charts" ∧ y_Charts_add.cls ≠ "java/lang/invoke/MethodHandle" ∧ y_Charts_add.cls ≠ "java/lang/invoke/VarHandle" ∧ (parseMethodDescriptor y_Charts_add.desc).map (fun d => d.parameters.length) = some 2 := by decide +kernel
abbrev rm_Charts_add : Room := { frames := 0, cells := 0, slots := 0, locals := 0 }
abbrev b_Charts_remove : ByteArray := prog_2_method_5_code
def y_Charts_remove : MethodName := ⟨"PictureChange$Charts", "remove", "(I)V"⟩
def w_Charts_remove : List Cond := .code y_Charts_remove b_Charts_remove 2 none :: gt
theorem hdV_Charts_remove : y_Charts_remove.cls = "PictureChange$Charts" ∧ y_Charts_remove.cls ≠ "java/lang/invoke/MethodHandle" ∧ y_Charts_remove.cls ≠ "java/lang/invoke/VarHandle" ∧ (parseMethodDescriptor y_Charts_remove.desc).map (fun d => d.parameters.length) = some 1 := by decide +kernel
abbrev rm_Charts_remove : Room := { frames := 0, cells := 0, slots := 0, locals := 0 }
abbrev b_Days_init : ByteArray := prog_3_method_1_code
def y_Days_init : MethodName := ⟨"PictureChange$Days", "<init>", "()V"⟩
def w_Days_init : List Cond := .code y_Days_init b_Days_init 1 none :: gt
theorem hdV_Days_init : y_Days_init.cls = "PictureChange$Days" ∧ y_Days_init.cls ≠ "java/lang/invoke/MethodHandle" ∧ y_Days_init.cls ≠ "java/lang/invoke/VarHandle" ∧ (parseMethodDescriptor y_Days_init.desc).map (fun d => d.parameters.length) = some 0 := by decide +kernel
abbrev rm_Days_init : Room := { frames := 1, cells := 2, slots := 60, locals := 12 }
abbrev b_Days_isFull : ByteArray := prog_3_method_2_code
def y_Days_isFull : MethodName := ⟨"PictureChange$Days", "isFull", "()Z"⟩
def w_Days_isFull : List Cond := .code y_Days_isFull b_Days_isFull 1 (some .boolean) :: gt
theorem hdV_Days_isFull : y_Days_isFull.cls = "PictureChange$Days" ∧ y_Days_isFull.cls ≠ "java/lang/invoke/MethodHandle" ∧ y_Days_isFull.cls ≠ "java/lang/invoke/VarHandle" ∧ (parseMethodDescriptor y_Days_isFull.desc).map (fun d => d.parameters.length) = some 0 := by decide +kernel
abbrev rm_Days_isFull : Room := { frames := 0, cells := 0, slots := 0, locals := 0 }
abbrev b_Days_canFollow : ByteArray := prog_3_method_3_code
def y_Days_canFollow : MethodName := ⟨"PictureChange$Days", "canFollow", "(I)Z"⟩
def w_Days_canFollow : List Cond := .code y_Days_canFollow b_Days_canFollow 3 (some .boolean) :: gt
theorem hdV_Days_canFollow : y_Days_canFollow.cls = "PictureChange$Days" ∧ y_Days_canFollow.cls ≠ "java/lang/invoke/MethodHandle" ∧ y_Days_canFollow.cls ≠ "java/lang/invoke/VarHandle" ∧ (parseMethodDescriptor y_Days_canFollow.desc).map (fun d => d.parameters.length) = some 1 := by decide +kernel
abbrev rm_Days_canFollow : Room := { frames := 0, cells := 0, slots := 0, locals := 0 }
abbrev b_Days_keep : ByteArray := prog_3_method_4_code
def y_Days_keep : MethodName := ⟨"PictureChange$Days", "keep", "(II)V"⟩
def w_Days_keep : List Cond := .code y_Days_keep b_Days_keep 3 none :: gt
theorem hdV_Days_keep : y_Days_keep.cls = "PictureChange$Days" ∧ y_Days_keep.cls ≠ "java/lang/invoke/MethodHandle" ∧ y_Days_keep.cls ≠ "java/lang/invoke/VarHandle" ∧ (parseMethodDescriptor y_Days_keep.desc).map (fun d => d.parameters.length) = some 2 := by decide +kernel
abbrev rm_Days_keep : Room := { frames := 0, cells := 0, slots := 0, locals := 0 }
abbrev b_Fraction_commonOf : ByteArray := prog_4_method_4_code
def y_Fraction_commonOf : MethodName := ⟨"PictureChange$Fraction", "commonOf", "(JJ)J"⟩
def w_Fraction_commonOf : List Cond := .code y_Fraction_commonOf b_Fraction_commonOf 11 (some .long) :: gt
theorem hdV_Fraction_commonOf : y_Fraction_commonOf.cls = "PictureChange$Fraction" ∧ y_Fraction_commonOf.cls ≠ "java/lang/invoke/MethodHandle" ∧ y_Fraction_commonOf.cls ≠ "java/lang/invoke/VarHandle" ∧ (parseMethodDescriptor y_Fraction_commonOf.desc).map (fun d => d.parameters.length) = some 2 := by decide +kernel
abbrev rm_Fraction_commonOf : Room := { frames := 0, cells := 0, slots := 0, locals := 0 }
abbrev b_Fraction_become : ByteArray := prog_4_method_2_code
def y_Fraction_become : MethodName := ⟨"PictureChange$Fraction", "become", "(JJ)V"⟩
def w_Fraction_become : List Cond := .code y_Fraction_become b_Fraction_become 7 none :: gt
theorem hdV_Fraction_become : y_Fraction_become.cls = "PictureChange$Fraction" ∧ y_Fraction_become.cls ≠ "java/lang/invoke/MethodHandle" ∧ y_Fraction_become.cls ≠ "java/lang/invoke/VarHandle" ∧ (parseMethodDescriptor y_Fraction_become.desc).map (fun d => d.parameters.length) = some 2 := by decide +kernel
abbrev rm_Fraction_become : Room := { frames := 1, cells := 0, slots := 0, locals := 30 }
abbrev b_Days_fit : ByteArray := prog_3_method_5_code
def y_Days_fit : MethodName := ⟨"PictureChange$Days", "fit", "(LPictureChange$Fraction;)V"⟩
def w_Days_fit : List Cond := .code y_Days_fit b_Days_fit 13 none :: gt
theorem hdV_Days_fit : y_Days_fit.cls = "PictureChange$Days" ∧ y_Days_fit.cls ≠ "java/lang/invoke/MethodHandle" ∧ y_Days_fit.cls ≠ "java/lang/invoke/VarHandle" ∧ (parseMethodDescriptor y_Days_fit.desc).map (fun d => d.parameters.length) = some 1 := by decide +kernel
abbrev rm_Days_fit : Room := { frames := 2, cells := 0, slots := 0, locals := 56 }
abbrev b_Fraction_init : ByteArray := prog_4_method_1_code
def y_Fraction_init : MethodName := ⟨"PictureChange$Fraction", "<init>", "()V"⟩
def w_Fraction_init : List Cond := .code y_Fraction_init b_Fraction_init 1 none :: gt
theorem hdV_Fraction_init : y_Fraction_init.cls = "PictureChange$Fraction" ∧ y_Fraction_init.cls ≠ "java/lang/invoke/MethodHandle" ∧ y_Fraction_init.cls ≠ "java/lang/invoke/VarHandle" ∧ (parseMethodDescriptor y_Fraction_init.desc).map (fun d => d.parameters.length) = some 0 := by decide +kernel
abbrev rm_Fraction_init : Room := { frames := 1, cells := 0, slots := 0, locals := 12 }
abbrev b_Fraction_timesRounded : ByteArray := prog_4_method_3_code
def y_Fraction_timesRounded : MethodName := ⟨"PictureChange$Fraction", "timesRounded", "(I)I"⟩
def w_Fraction_timesRounded : List Cond := .code y_Fraction_timesRounded b_Fraction_timesRounded 2 (some .int) :: gt
theorem hdV_Fraction_timesRounded : y_Fraction_timesRounded.cls = "PictureChange$Fraction" ∧ y_Fraction_timesRounded.cls ≠ "java/lang/invoke/MethodHandle" ∧ y_Fraction_timesRounded.cls ≠ "java/lang/invoke/VarHandle" ∧ (parseMethodDescriptor y_Fraction_timesRounded.desc).map (fun d => d.parameters.length) = some 1 := by decide +kernel
abbrev rm_Fraction_timesRounded : Room := { frames := 0, cells := 0, slots := 0, locals := 0 }
abbrev b_Noise_init : ByteArray := prog_5_method_1_code
def y_Noise_init : MethodName := ⟨"PictureChange$Noise", "<init>", "(I)V"⟩
def w_Noise_init : List Cond := .code y_Noise_init b_Noise_init 3 none :: gt
theorem hdV_Noise_init : y_Noise_init.cls = "PictureChange$Noise" ∧ y_Noise_init.cls ≠ "java/lang/invoke/MethodHandle" ∧ y_Noise_init.cls ≠ "java/lang/invoke/VarHandle" ∧ (parseMethodDescriptor y_Noise_init.desc).map (fun d => d.parameters.length) = some 1 := by decide +kernel
abbrev rm_Noise_init : Room := { frames := 1, cells := 2, slots := 1152, locals := 12 }
abbrev b_Noise_tell : ByteArray := prog_5_method_2_code
def y_Noise_tell : MethodName := ⟨"PictureChange$Noise", "tell", "(III)V"⟩
def w_Noise_tell : List Cond := .code y_Noise_tell b_Noise_tell 4 none :: gt
theorem hdV_Noise_tell : y_Noise_tell.cls = "PictureChange$Noise" ∧ y_Noise_tell.cls ≠ "java/lang/invoke/MethodHandle" ∧ y_Noise_tell.cls ≠ "java/lang/invoke/VarHandle" ∧ (parseMethodDescriptor y_Noise_tell.desc).map (fun d => d.parameters.length) = some 3 := by decide +kernel
abbrev rm_Noise_tell : Room := { frames := 1, cells := 0, slots := 0, locals := 24 }
abbrev b_Noise_boundOf : ByteArray := prog_5_method_3_code
def y_Noise_boundOf : MethodName := ⟨"PictureChange$Noise", "boundOf", "(II)I"⟩
def w_Noise_boundOf : List Cond := .code y_Noise_boundOf b_Noise_boundOf 4 (some .int) :: gt
theorem hdV_Noise_boundOf : y_Noise_boundOf.cls = "PictureChange$Noise" ∧ y_Noise_boundOf.cls ≠ "java/lang/invoke/MethodHandle" ∧ y_Noise_boundOf.cls ≠ "java/lang/invoke/VarHandle" ∧ (parseMethodDescriptor y_Noise_boundOf.desc).map (fun d => d.parameters.length) = some 2 := by decide +kernel
abbrev rm_Noise_boundOf : Room := { frames := 1, cells := 0, slots := 0, locals := 24 }
abbrev b_Shift_init : ByteArray := prog_6_method_1_code
def y_Shift_init : MethodName := ⟨"PictureChange$Shift", "<init>", "()V"⟩
def w_Shift_init : List Cond := .code y_Shift_init b_Shift_init 1 none :: gt
theorem hdV_Shift_init : y_Shift_init.cls = "PictureChange$Shift" ∧ y_Shift_init.cls ≠ "java/lang/invoke/MethodHandle" ∧ y_Shift_init.cls ≠ "java/lang/invoke/VarHandle" ∧ (parseMethodDescriptor y_Shift_init.desc).map (fun d => d.parameters.length) = some 0 := by decide +kernel
abbrev rm_Shift_init : Room := { frames := 1, cells := 0, slots := 0, locals := 12 }
abbrev b_Shift_moveTo : ByteArray := prog_6_method_2_code
def y_Shift_moveTo : MethodName := ⟨"PictureChange$Shift", "moveTo", "(II)V"⟩
def w_Shift_moveTo : List Cond := .code y_Shift_moveTo b_Shift_moveTo 3 none :: gt
theorem hdV_Shift_moveTo : y_Shift_moveTo.cls = "PictureChange$Shift" ∧ y_Shift_moveTo.cls ≠ "java/lang/invoke/MethodHandle" ∧ y_Shift_moveTo.cls ≠ "java/lang/invoke/VarHandle" ∧ (parseMethodDescriptor y_Shift_moveTo.desc).map (fun d => d.parameters.length) = some 2 := by decide +kernel
abbrev rm_Shift_moveTo : Room := { frames := 0, cells := 0, slots := 0, locals := 0 }
abbrev b_Shift_add : ByteArray := prog_6_method_3_code
def y_Shift_add : MethodName := ⟨"PictureChange$Shift", "add", "(I)V"⟩
def w_Shift_add : List Cond := .code y_Shift_add b_Shift_add 2 none :: gt
theorem hdV_Shift_add : y_Shift_add.cls = "PictureChange$Shift" ∧ y_Shift_add.cls ≠ "java/lang/invoke/MethodHandle" ∧ y_Shift_add.cls ≠ "java/lang/invoke/VarHandle" ∧ (parseMethodDescriptor y_Shift_add.desc).map (fun d => d.parameters.length) = some 1 := by decide +kernel
abbrev rm_Shift_add : Room := { frames := 0, cells := 0, slots := 0, locals := 0 }
abbrev b_Shift_become : ByteArray := prog_6_method_4_code
def y_Shift_become : MethodName := ⟨"PictureChange$Shift", "become", "(LPictureChange$Shift;)V"⟩
def w_Shift_become : List Cond := .code y_Shift_become b_Shift_become 2 none :: gt
theorem hdV_Shift_become : y_Shift_become.cls = "PictureChange$Shift" ∧ y_Shift_become.cls ≠ "java/lang/invoke/MethodHandle" ∧ y_Shift_become.cls ≠ "java/lang/invoke/VarHandle" ∧ (parseMethodDescriptor y_Shift_become.desc).map (fun d => d.parameters.length) = some 1 := by decide +kernel
abbrev rm_Shift_become : Room := { frames := 0, cells := 0, slots := 0, locals := 0 }
abbrev b_Shift_together : ByteArray := prog_6_method_6_code
def y_Shift_together : MethodName := ⟨"PictureChange$Shift", "together", "()I"⟩
def w_Shift_together : List Cond := .code y_Shift_together b_Shift_together 1 (some .int) :: gt
theorem hdV_Shift_together : y_Shift_together.cls = "PictureChange$Shift" ∧ y_Shift_together.cls ≠ "java/lang/invoke/MethodHandle" ∧ y_Shift_together.cls ≠ "java/lang/invoke/VarHandle" ∧ (parseMethodDescriptor y_Shift_together.desc).map (fun d => d.parameters.length) = some 0 := by decide +kernel
abbrev rm_Shift_together : Room := { frames := 1, cells := 0, slots := 0, locals := 24 }
abbrev b_Shift_isBetterThan : ByteArray := prog_6_method_5_code
def y_Shift_isBetterThan : MethodName := ⟨"PictureChange$Shift", "isBetterThan", "(LPictureChange$Shift;)Z"⟩
def w_Shift_isBetterThan : List Cond := .code y_Shift_isBetterThan b_Shift_isBetterThan 6 (some .boolean) :: gt
theorem hdV_Shift_isBetterThan : y_Shift_isBetterThan.cls = "PictureChange$Shift" ∧ y_Shift_isBetterThan.cls ≠ "java/lang/invoke/MethodHandle" ∧ y_Shift_isBetterThan.cls ≠ "java/lang/invoke/VarHandle" ∧ (parseMethodDescriptor y_Shift_isBetterThan.desc).map (fun d => d.parameters.length) = some 1 := by decide +kernel
abbrev rm_Shift_isBetterThan : Room := { frames := 2, cells := 0, slots := 0, locals := 44 }
abbrev b_Spots_init : ByteArray := prog_7_method_1_code
def y_Spots_init : MethodName := ⟨"PictureChange$Spots", "<init>", "(II)V"⟩
def w_Spots_init : List Cond := .code y_Spots_init b_Spots_init 5 none :: gt
theorem hdV_Spots_init : y_Spots_init.cls = "PictureChange$Spots" ∧ y_Spots_init.cls ≠ "java/lang/invoke/MethodHandle" ∧ y_Spots_init.cls ≠ "java/lang/invoke/VarHandle" ∧ (parseMethodDescriptor y_Spots_init.desc).map (fun d => d.parameters.length) = some 2 := by decide +kernel
abbrev rm_Spots_init : Room := { frames := 1, cells := 5, slots := 4320, locals := 12 }
abbrev b_Spots_clear : ByteArray := prog_7_method_2_code
def y_Spots_clear : MethodName := ⟨"PictureChange$Spots", "clear", "()V"⟩
def w_Spots_clear : List Cond := .code y_Spots_clear b_Spots_clear 2 none :: gt
theorem hdV_Spots_clear : y_Spots_clear.cls = "PictureChange$Spots" ∧ y_Spots_clear.cls ≠ "java/lang/invoke/MethodHandle" ∧ y_Spots_clear.cls ≠ "java/lang/invoke/VarHandle" ∧ (parseMethodDescriptor y_Spots_clear.desc).map (fun d => d.parameters.length) = some 0 := by decide +kernel
abbrev rm_Spots_clear : Room := { frames := 0, cells := 0, slots := 0, locals := 0 }
abbrev b_Spots_mark : ByteArray := prog_7_method_3_code
def y_Spots_mark : MethodName := ⟨"PictureChange$Spots", "mark", "(III)V"⟩
def w_Spots_mark : List Cond := .code y_Spots_mark b_Spots_mark 4 none :: gt
theorem hdV_Spots_mark : y_Spots_mark.cls = "PictureChange$Spots" ∧ y_Spots_mark.cls ≠ "java/lang/invoke/MethodHandle" ∧ y_Spots_mark.cls ≠ "java/lang/invoke/VarHandle" ∧ (parseMethodDescriptor y_Spots_mark.desc).map (fun d => d.parameters.length) = some 3 := by decide +kernel
abbrev rm_Spots_mark : Room := { frames := 0, cells := 0, slots := 0, locals := 0 }
abbrev b_Spots_spotAt : ByteArray := prog_7_method_5_code
def y_Spots_spotAt : MethodName := ⟨"PictureChange$Spots", "spotAt", "(II)I"⟩
def w_Spots_spotAt : List Cond := .code y_Spots_spotAt b_Spots_spotAt 3 (some .int) :: gt
theorem hdV_Spots_spotAt : y_Spots_spotAt.cls = "PictureChange$Spots" ∧ y_Spots_spotAt.cls ≠ "java/lang/invoke/MethodHandle" ∧ y_Spots_spotAt.cls ≠ "java/lang/invoke/VarHandle" ∧ (parseMethodDescriptor y_Spots_spotAt.desc).map (fun d => d.parameters.length) = some 2 := by decide +kernel
abbrev rm_Spots_spotAt : Room := { frames := 0, cells := 0, slots := 0, locals := 0 }
abbrev b_Spots_take : ByteArray := prog_7_method_9_code
def y_Spots_take : MethodName := ⟨"PictureChange$Spots", "take", "(II)V"⟩
def w_Spots_take : List Cond := .code y_Spots_take b_Spots_take 3 none :: gt
theorem hdV_Spots_take : y_Spots_take.cls = "PictureChange$Spots" ∧ y_Spots_take.cls ≠ "java/lang/invoke/MethodHandle" ∧ y_Spots_take.cls ≠ "java/lang/invoke/VarHandle" ∧ (parseMethodDescriptor y_Spots_take.desc).map (fun d => d.parameters.length) = some 2 := by decide +kernel
abbrev rm_Spots_take : Room := { frames := 1, cells := 0, slots := 0, locals := 22 }
abbrev b_Spots_joinFrom : ByteArray := prog_7_method_8_code
def y_Spots_joinFrom : MethodName := ⟨"PictureChange$Spots", "joinFrom", "(II)V"⟩
def w_Spots_joinFrom : List Cond := .code y_Spots_joinFrom b_Spots_joinFrom 4 none :: gt
theorem hdV_Spots_joinFrom : y_Spots_joinFrom.cls = "PictureChange$Spots" ∧ y_Spots_joinFrom.cls ≠ "java/lang/invoke/MethodHandle" ∧ y_Spots_joinFrom.cls ≠ "java/lang/invoke/VarHandle" ∧ (parseMethodDescriptor y_Spots_joinFrom.desc).map (fun d => d.parameters.length) = some 2 := by decide +kernel
abbrev rm_Spots_joinFrom : Room := { frames := 2, cells := 0, slots := 0, locals := 44 }
abbrev b_Spots_ownAt : ByteArray := prog_7_method_13_code
def y_Spots_ownAt : MethodName := ⟨"PictureChange$Spots", "ownAt", "(II)I"⟩
def w_Spots_ownAt : List Cond := .code y_Spots_ownAt b_Spots_ownAt 3 (some .int) :: gt
theorem hdV_Spots_ownAt : y_Spots_ownAt.cls = "PictureChange$Spots" ∧ y_Spots_ownAt.cls ≠ "java/lang/invoke/MethodHandle" ∧ y_Spots_ownAt.cls ≠ "java/lang/invoke/VarHandle" ∧ (parseMethodDescriptor y_Spots_ownAt.desc).map (fun d => d.parameters.length) = some 2 := by decide +kernel
abbrev rm_Spots_ownAt : Room := { frames := 1, cells := 0, slots := 0, locals := 22 }
abbrev b_Spots_neighboursOf : ByteArray := prog_7_method_12_code
def y_Spots_neighboursOf : MethodName := ⟨"PictureChange$Spots", "neighboursOf", "(II)I"⟩
def w_Spots_neighboursOf : List Cond := .code y_Spots_neighboursOf b_Spots_neighboursOf 3 (some .int) :: gt
theorem hdV_Spots_neighboursOf : y_Spots_neighboursOf.cls = "PictureChange$Spots" ∧ y_Spots_neighboursOf.cls ≠ "java/lang/invoke/MethodHandle" ∧ y_Spots_neighboursOf.cls ≠ "java/lang/invoke/VarHandle" ∧ (parseMethodDescriptor y_Spots_neighboursOf.desc).map (fun d => d.parameters.length) = some 2 := by decide +kernel
abbrev rm_Spots_neighboursOf : Room := { frames := 2, cells := 0, slots := 0, locals := 44 }
abbrev b_Spots_isCrack : ByteArray := prog_7_method_11_code
def y_Spots_isCrack : MethodName := ⟨"PictureChange$Spots", "isCrack", "()Z"⟩
def w_Spots_isCrack : List Cond := .code y_Spots_isCrack b_Spots_isCrack 4 (some .boolean) :: gt
theorem hdV_Spots_isCrack : y_Spots_isCrack.cls = "PictureChange$Spots" ∧ y_Spots_isCrack.cls ≠ "java/lang/invoke/MethodHandle" ∧ y_Spots_isCrack.cls ≠ "java/lang/invoke/VarHandle" ∧ (parseMethodDescriptor y_Spots_isCrack.desc).map (fun d => d.parameters.length) = some 0 := by decide +kernel
abbrev rm_Spots_isCrack : Room := { frames := 3, cells := 0, slots := 0, locals := 66 }
abbrev b_Spots_describe : ByteArray := prog_7_method_10_code
def y_Spots_describe : MethodName := ⟨"PictureChange$Spots", "describe", "()V"⟩
def w_Spots_describe : List Cond := .code y_Spots_describe b_Spots_describe 9 none :: gt
theorem hdV_Spots_describe : y_Spots_describe.cls = "PictureChange$Spots" ∧ y_Spots_describe.cls ≠ "java/lang/invoke/MethodHandle" ∧ y_Spots_describe.cls ≠ "java/lang/invoke/VarHandle" ∧ (parseMethodDescriptor y_Spots_describe.desc).map (fun d => d.parameters.length) = some 0 := by decide +kernel
abbrev rm_Spots_describe : Room := { frames := 4, cells := 0, slots := 0, locals := 89 }
abbrev b_Spots_join : ByteArray := prog_7_method_4_code
def y_Spots_join : MethodName := ⟨"PictureChange$Spots", "join", "()V"⟩
def w_Spots_join : List Cond := .code y_Spots_join b_Spots_join 3 none :: gt
theorem hdV_Spots_join : y_Spots_join.cls = "PictureChange$Spots" ∧ y_Spots_join.cls ≠ "java/lang/invoke/MethodHandle" ∧ y_Spots_join.cls ≠ "java/lang/invoke/VarHandle" ∧ (parseMethodDescriptor y_Spots_join.desc).map (fun d => d.parameters.length) = some 0 := by decide +kernel
abbrev rm_Spots_join : Room := { frames := 5, cells := 0, slots := 0, locals := 117 }
abbrev b_Spots_factOf : ByteArray := prog_7_method_6_code
def y_Spots_factOf : MethodName := ⟨"PictureChange$Spots", "factOf", "(II)I"⟩
def w_Spots_factOf : List Cond := .code y_Spots_factOf b_Spots_factOf 3 (some .int) :: gt
theorem hdV_Spots_factOf : y_Spots_factOf.cls = "PictureChange$Spots" ∧ y_Spots_factOf.cls ≠ "java/lang/invoke/MethodHandle" ∧ y_Spots_factOf.cls ≠ "java/lang/invoke/VarHandle" ∧ (parseMethodDescriptor y_Spots_factOf.desc).map (fun d => d.parameters.length) = some 2 := by decide +kernel
abbrev rm_Spots_factOf : Room := { frames := 0, cells := 0, slots := 0, locals := 0 }
abbrev b_Spots_isAlarming : ByteArray := prog_7_method_7_code
def y_Spots_isAlarming : MethodName := ⟨"PictureChange$Spots", "isAlarming", "(III)Z"⟩
def w_Spots_isAlarming : List Cond := .code y_Spots_isAlarming b_Spots_isAlarming 5 (some .boolean) :: gt
theorem hdV_Spots_isAlarming : y_Spots_isAlarming.cls = "PictureChange$Spots" ∧ y_Spots_isAlarming.cls ≠ "java/lang/invoke/MethodHandle" ∧ y_Spots_isAlarming.cls ≠ "java/lang/invoke/VarHandle" ∧ (parseMethodDescriptor y_Spots_isAlarming.desc).map (fun d => d.parameters.length) = some 3 := by decide +kernel
abbrev rm_Spots_isAlarming : Room := { frames := 1, cells := 0, slots := 0, locals := 22 }
