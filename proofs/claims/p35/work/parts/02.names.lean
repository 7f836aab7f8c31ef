/-! names, fields and code of the methods: out of the printed names -/
def RX0 : String := "BandCornets$Band"
def TX0 : u_T := fun k => match k with
  | 0 => ("BandCornets$Band", "pupilRoll", "[LBandCornets$Pupil;", true)
  | 1 => ("BandCornets$Band", "pupils", "I", false)
  | 2 => ("BandCornets$Band", "instrumentRoll", "[LBandCornets$Instrument;", true)
  | 3 => ("BandCornets$Band", "instruments", "I", false)
  | 4 => ("BandCornets$Band", "lent", "[I", true)
  | 5 => ("BandCornets$Band", "loans", "I", false)
  | 6 => ("BandCornets$Band", "settings", "[I", true)
  | 7 => ("BandCornets$Band", "day", "I", false)
  | 8 => ("BandCornets$Band", "marchedToday", "Z", false)
  | 9 => ("BandCornets$Band", "lessons", "I", false)
  | 10 => ("BandCornets$Band", "marches", "I", false)
  | 11 => ("BandCornets$Band", "shortParts", "I", false)
  | 12 => ("BandCornets$Band", "fund", "I", false)
  | 13 => ("BandCornets$Band", "earned", "I", false)
  | 14 => ("BandCornets$Band", "debtsPaid", "I", false)
  | 15 => ("BandCornets$Band", "feesPaid", "I", false)
  | _ => ("BandCornets$Band", "repairsPaid", "I", false)
def tyX0 : Nat → FieldType := fun k => match k with
  | 0 => .array (.object "BandCornets$Pupil")
  | 1 => .int
  | 2 => .array (.object "BandCornets$Instrument")
  | 3 => .int
  | 4 => .array .int
  | 5 => .int
  | 6 => .array .int
  | 7 => .int
  | 8 => .boolean
  | 9 => .int
  | 10 => .int
  | 11 => .int
  | 12 => .int
  | 13 => .int
  | 14 => .int
  | 15 => .int
  | _ => .int
theorem nmX0 : ∀ a, a < 17 → ∀ b, b < 17 → a ≠ b → (TX0 a).2.1 ≠ (TX0 b).2.1 := by decide +kernel
theorem tyX0_ok : ∀ k, k < 17 → parseFieldDescriptor (TX0 k).2.2.1 = some (tyX0 k) := by decide +kernel
abbrev cX0_init : ByteArray := prog_2_method_1_code
def yX0_init : MethodName := ⟨RX0, "<init>", "()V"⟩
abbrev cX0_copyFrom : ByteArray := prog_2_method_2_code
def yX0_copyFrom : MethodName := ⟨RX0, "copyFrom", "(LBandCornets$Band;)V"⟩
abbrev cX0_pupilAt : ByteArray := prog_2_method_3_code
def yX0_pupilAt : MethodName := ⟨RX0, "pupilAt", "(I)LBandCornets$Pupil;"⟩
abbrev cX0_instrumentAt : ByteArray := prog_2_method_4_code
def yX0_instrumentAt : MethodName := ⟨RX0, "instrumentAt", "(I)LBandCornets$Instrument;"⟩
abbrev cX0_hasRoomForPupil : ByteArray := prog_2_method_5_code
def yX0_hasRoomForPupil : MethodName := ⟨RX0, "hasRoomForPupil", "()Z"⟩
abbrev cX0_hasRoomForInstrument : ByteArray := prog_2_method_6_code
def yX0_hasRoomForInstrument : MethodName := ⟨RX0, "hasRoomForInstrument", "()Z"⟩
abbrev cX0_addPupil : ByteArray := prog_2_method_7_code
def yX0_addPupil : MethodName := ⟨RX0, "addPupil", "(I)I"⟩
abbrev cX0_addInstrument : ByteArray := prog_2_method_8_code
def yX0_addInstrument : MethodName := ⟨RX0, "addInstrument", "(I)I"⟩
abbrev cX0_isSetting : ByteArray := prog_2_method_9_code
def yX0_isSetting : MethodName := ⟨RX0, "isSetting", "(I)Z"⟩
abbrev cX0_highestOf : ByteArray := prog_2_method_10_code
def yX0_highestOf : MethodName := ⟨RX0, "highestOf", "(I)I"⟩
abbrev cX0_settingAt : ByteArray := prog_2_method_11_code
def yX0_settingAt : MethodName := ⟨RX0, "settingAt", "(I)I"⟩
abbrev cX0_changeSetting : ByteArray := prog_2_method_12_code
def yX0_changeSetting : MethodName := ⟨RX0, "changeSetting", "(II)V"⟩
abbrev cX0_whyNoLoan : ByteArray := prog_2_method_13_code
def yX0_whyNoLoan : MethodName := ⟨RX0, "whyNoLoan", "(LBandCornets$Instrument;LBandCornets$Pupil;)I"⟩
abbrev cX0_tryLend : ByteArray := prog_2_method_14_code
def yX0_tryLend : MethodName := ⟨RX0, "tryLend", "(II)Z"⟩
abbrev cX0_billFor : ByteArray := prog_2_method_15_code
def yX0_billFor : MethodName := ⟨RX0, "billFor", "(LBandCornets$Instrument;)I"⟩
abbrev cX0_tryBack : ByteArray := prog_2_method_16_code
def yX0_tryBack : MethodName := ⟨RX0, "tryBack", "(I)Z"⟩
abbrev cX0_dropLoan : ByteArray := prog_2_method_17_code
def yX0_dropLoan : MethodName := ⟨RX0, "dropLoan", "(I)V"⟩
abbrev cX0_loanAt : ByteArray := prog_2_method_18_code
def yX0_loanAt : MethodName := ⟨RX0, "loanAt", "(I)I"⟩
abbrev cX0_tryMend : ByteArray := prog_2_method_19_code
def yX0_tryMend : MethodName := ⟨RX0, "tryMend", "(I)Z"⟩
abbrev cX0_takePayment : ByteArray := prog_2_method_20_code
def yX0_takePayment : MethodName := ⟨RX0, "takePayment", "(LBandCornets$Pupil;I)I"⟩
abbrev cX0_isSunday : ByteArray := prog_2_method_21_code
def yX0_isSunday : MethodName := ⟨RX0, "isSunday", "()Z"⟩
abbrev cX0_passDay : ByteArray := prog_2_method_22_code
def yX0_passDay : MethodName := ⟨RX0, "passDay", "()V"⟩
abbrev cX0_heightOf : ByteArray := prog_2_method_23_code
def yX0_heightOf : MethodName := ⟨RX0, "heightOf", "(I)I"⟩
abbrev cX0_feeOf : ByteArray := prog_2_method_24_code
def yX0_feeOf : MethodName := ⟨RX0, "feeOf", "(I)I"⟩
abbrev cX0_breathOfLesson : ByteArray := prog_2_method_25_code
def yX0_breathOfLesson : MethodName := ⟨RX0, "breathOfLesson", "(LBandCornets$Pupil;)I"⟩
abbrev cX0_whyNoLesson : ByteArray := prog_2_method_26_code
def yX0_whyNoLesson : MethodName := ⟨RX0, "whyNoLesson", "(LBandCornets$Pupil;I)I"⟩
abbrev cX0_tryTeach : ByteArray := prog_2_method_27_code
def yX0_tryTeach : MethodName := ⟨RX0, "tryTeach", "(II)Z"⟩
abbrev cX0_mayMarch : ByteArray := prog_2_method_28_code
def yX0_mayMarch : MethodName := ⟨RX0, "mayMarch", "()Z"⟩
abbrev cX0_playPart : ByteArray := prog_2_method_29_code
def yX0_playPart : MethodName := ⟨RX0, "playPart", "(II)V"⟩
abbrev cX0_endMarch : ByteArray := prog_2_method_30_code
def yX0_endMarch : MethodName := ⟨RX0, "endMarch", "(II)V"⟩
abbrev cX0_debtsTogether : ByteArray := prog_2_method_31_code
def yX0_debtsTogether : MethodName := ⟨RX0, "debtsTogether", "()I"⟩
abbrev cX0_number : ByteArray := prog_2_method_32_code
def yX0_number : MethodName := ⟨RX0, "number", "(I)I"⟩
def RX1 : String := "BandCornets$Instrument"
def TX1 : u_T := fun k => match k with
  | 0 => ("BandCornets$Instrument", "kind", "I", false)
  | 1 => ("BandCornets$Instrument", "dents", "I", false)
  | 2 => ("BandCornets$Instrument", "holder", "I", false)
  | 3 => ("BandCornets$Instrument", "dentsWhenLent", "I", false)
  | _ => ("BandCornets$Instrument", "marches", "I", false)
def tyX1 : Nat → FieldType := fun k => match k with
  | 0 => .int
  | 1 => .int
  | 2 => .int
  | 3 => .int
  | _ => .int
theorem nmX1 : ∀ a, a < 5 → ∀ b, b < 5 → a ≠ b → (TX1 a).2.1 ≠ (TX1 b).2.1 := by decide +kernel
theorem tyX1_ok : ∀ k, k < 5 → parseFieldDescriptor (TX1 k).2.2.1 = some (tyX1 k) := by decide +kernel
abbrev cX1_init : ByteArray := prog_3_method_1_code
def yX1_init : MethodName := ⟨RX1, "<init>", "()V"⟩
abbrev cX1_come : ByteArray := prog_3_method_2_code
def yX1_come : MethodName := ⟨RX1, "come", "(I)V"⟩
abbrev cX1_copyFrom : ByteArray := prog_3_method_3_code
def yX1_copyFrom : MethodName := ⟨RX1, "copyFrom", "(LBandCornets$Instrument;)V"⟩
abbrev cX1_isLent : ByteArray := prog_3_method_4_code
def yX1_isLent : MethodName := ⟨RX1, "isLent", "()Z"⟩
abbrev cX1_isPlayable : ByteArray := prog_3_method_5_code
def yX1_isPlayable : MethodName := ⟨RX1, "isPlayable", "()Z"⟩
abbrev cX1_dentsSinceLent : ByteArray := prog_3_method_6_code
def yX1_dentsSinceLent : MethodName := ⟨RX1, "dentsSinceLent", "()I"⟩
abbrev cX1_priceOfRepair : ByteArray := prog_3_method_7_code
def yX1_priceOfRepair : MethodName := ⟨RX1, "priceOfRepair", "()I"⟩
abbrev cX1_addDents : ByteArray := prog_3_method_8_code
def yX1_addDents : MethodName := ⟨RX1, "addDents", "(I)V"⟩
abbrev cX1_playMarch : ByteArray := prog_3_method_9_code
def yX1_playMarch : MethodName := ⟨RX1, "playMarch", "()V"⟩
abbrev cX1_number : ByteArray := prog_3_method_10_code
def yX1_number : MethodName := ⟨RX1, "number", "(I)I"⟩
def RX2 : String := "BandCornets$Pupil"
def TX2 : u_T := fun k => match k with
  | 0 => ("BandCornets$Pupil", "lungs", "I", false)
  | 1 => ("BandCornets$Pupil", "breath", "I", false)
  | 2 => ("BandCornets$Pupil", "lips", "I", false)
  | 3 => ("BandCornets$Pupil", "debt", "I", false)
  | 4 => ("BandCornets$Pupil", "instrument", "I", false)
  | 5 => ("BandCornets$Pupil", "hadLesson", "Z", false)
  | _ => ("BandCornets$Pupil", "marches", "I", false)
def tyX2 : Nat → FieldType := fun k => match k with
  | 0 => .int
  | 1 => .int
  | 2 => .int
  | 3 => .int
  | 4 => .int
  | 5 => .boolean
  | _ => .int
theorem nmX2 : ∀ a, a < 7 → ∀ b, b < 7 → a ≠ b → (TX2 a).2.1 ≠ (TX2 b).2.1 := by decide +kernel
theorem tyX2_ok : ∀ k, k < 7 → parseFieldDescriptor (TX2 k).2.2.1 = some (tyX2 k) := by decide +kernel
abbrev cX2_init : ByteArray := prog_4_method_1_code
def yX2_init : MethodName := ⟨RX2, "<init>", "()V"⟩
abbrev cX2_come : ByteArray := prog_4_method_2_code
def yX2_come : MethodName := ⟨RX2, "come", "(I)V"⟩
abbrev cX2_copyFrom : ByteArray := prog_4_method_3_code
def yX2_copyFrom : MethodName := ⟨RX2, "copyFrom", "(LBandCornets$Pupil;)V"⟩
abbrev cX2_learn : ByteArray := prog_4_method_4_code
def yX2_learn : MethodName := ⟨RX2, "learn", "(II)V"⟩
abbrev cX2_number : ByteArray := prog_4_method_5_code
def yX2_number : MethodName := ⟨RX2, "number", "(I)I"⟩
def RX3 : String := "BandCornets$Text"
def TX3 : u_T := fun k => match k with
  | _ => ("BandCornets$Text", "signs", "Ljava/lang/StringBuilder;", true)
def tyX3 : Nat → FieldType := fun k => match k with
  | _ => .object "java/lang/StringBuilder"
theorem nmX3 : ∀ a, a < 1 → ∀ b, b < 1 → a ≠ b → (TX3 a).2.1 ≠ (TX3 b).2.1 := by decide +kernel
theorem tyX3_ok : ∀ k, k < 1 → parseFieldDescriptor (TX3 k).2.2.1 = some (tyX3 k) := by decide +kernel
abbrev cX3_init : ByteArray := prog_5_method_1_code
def yX3_init : MethodName := ⟨RX3, "<init>", "()V"⟩
def RX4 : String := "BandCornets"
def TX4 : u_T := fun k => match k with
  | 0 => ("BandCornets", "now", "LBandCornets$Band;", true)
  | 1 => ("BandCornets", "snapshot", "LBandCornets$Band;", true)
  | 2 => ("BandCornets", "hasSnapshot", "Z", false)
  | 3 => ("BandCornets", "saved", "[LBandCornets$Band;", true)
  | 4 => ("BandCornets", "savedCount", "I", false)
  | 5 => ("BandCornets", "buffer", "LBandCornets$Text;", true)
  | 6 => ("BandCornets", "lineUp", "[I", true)
  | _ => ("BandCornets", "lineUpText", "Ljava/lang/StringBuilder;", true)
def tyX4 : Nat → FieldType := fun k => match k with
  | 0 => .object "BandCornets$Band"
  | 1 => .object "BandCornets$Band"
  | 2 => .boolean
  | 3 => .array (.object "BandCornets$Band")
  | 4 => .int
  | 5 => .object "BandCornets$Text"
  | 6 => .array .int
  | _ => .object "java/lang/StringBuilder"
theorem nmX4 : ∀ a, a < 8 → ∀ b, b < 8 → a ≠ b → (TX4 a).2.1 ≠ (TX4 b).2.1 := by decide +kernel
theorem tyX4_ok : ∀ k, k < 8 → parseFieldDescriptor (TX4 k).2.2.1 = some (tyX4 k) := by decide +kernel
abbrev cX4_init : ByteArray := prog_1_method_1_code
def yX4_init : MethodName := ⟨RX4, "<init>", "()V"⟩
abbrev cX4_pupil : ByteArray := prog_1_method_2_code
def yX4_pupil : MethodName := ⟨RX4, "pupil", "(I)I"⟩
abbrev cX4_instrument : ByteArray := prog_1_method_3_code
def yX4_instrument : MethodName := ⟨RX4, "instrument", "(I)I"⟩
abbrev cX4_lend : ByteArray := prog_1_method_4_code
def yX4_lend : MethodName := ⟨RX4, "lend", "(II)I"⟩
abbrev cX4_back : ByteArray := prog_1_method_5_code
def yX4_back : MethodName := ⟨RX4, "back", "(I)I"⟩
abbrev cX4_dent : ByteArray := prog_1_method_6_code
def yX4_dent : MethodName := ⟨RX4, "dent", "(II)I"⟩
abbrev cX4_mend : ByteArray := prog_1_method_7_code
def yX4_mend : MethodName := ⟨RX4, "mend", "(I)I"⟩
abbrev cX4_pay : ByteArray := prog_1_method_8_code
def yX4_pay : MethodName := ⟨RX4, "pay", "(II)I"⟩
abbrev cX4_set : ByteArray := prog_1_method_9_code
def yX4_set : MethodName := ⟨RX4, "set", "(II)I"⟩
abbrev cX4_pass : ByteArray := prog_1_method_10_code
def yX4_pass : MethodName := ⟨RX4, "pass", "(I)I"⟩
abbrev cX4_teach : ByteArray := prog_1_method_11_code
def yX4_teach : MethodName := ⟨RX4, "teach", "(II)I"⟩
abbrev cX4_march : ByteArray := prog_1_method_12_code
def yX4_march : MethodName := ⟨RX4, "march", "(I)I"⟩
abbrev cX4_told : ByteArray := prog_1_method_17_code
def yX4_told : MethodName := ⟨RX4, "told", "(II)I"⟩
abbrev cX4_undo : ByteArray := prog_1_method_18_code
def yX4_undo : MethodName := ⟨RX4, "undo", "()I"⟩
abbrev cX4_keep : ByteArray := prog_1_method_19_code
def yX4_keep : MethodName := ⟨RX4, "keep", "()I"⟩
abbrev cX4_restore : ByteArray := prog_1_method_20_code
def yX4_restore : MethodName := ⟨RX4, "restore", "()I"⟩
abbrev cX4_pupilOf : ByteArray := prog_1_method_21_code
def yX4_pupilOf : MethodName := ⟨RX4, "pupilOf", "(II)I"⟩
abbrev cX4_instrumentOf : ByteArray := prog_1_method_22_code
def yX4_instrumentOf : MethodName := ⟨RX4, "instrumentOf", "(II)I"⟩
abbrev cX4_loan : ByteArray := prog_1_method_23_code
def yX4_loan : MethodName := ⟨RX4, "loan", "(I)I"⟩
abbrev cX4_part : ByteArray := prog_1_method_24_code
def yX4_part : MethodName := ⟨RX4, "part", "(III)I"⟩
abbrev cX4_count : ByteArray := prog_1_method_25_code
def yX4_count : MethodName := ⟨RX4, "count", "(I)I"⟩
abbrev cX4_noLoan : ByteArray := prog_1_method_26_code
def yX4_noLoan : MethodName := ⟨RX4, "noLoan", "(II)I"⟩
abbrev cX4_noLesson : ByteArray := prog_1_method_27_code
def yX4_noLesson : MethodName := ⟨RX4, "noLesson", "(II)I"⟩
abbrev cX4_shortOf : ByteArray := prog_1_method_28_code
def yX4_shortOf : MethodName := ⟨RX4, "shortOf", "(I)I"⟩
abbrev cX4_most : ByteArray := prog_1_method_29_code
def yX4_most : MethodName := ⟨RX4, "most", "(I)I"⟩
abbrev cX4_bestMarch : ByteArray := prog_1_method_30_code
def yX4_bestMarch : MethodName := ⟨RX4, "bestMarch", "()I"⟩
abbrev cX4_helps : ByteArray := prog_1_method_31_code
def yX4_helps : MethodName := ⟨RX4, "helps", "(II)I"⟩
abbrev cX4_played : ByteArray := prog_1_method_32_code
def yX4_played : MethodName := ⟨RX4, "played", "()D"⟩
abbrev cX4_isMarch : ByteArray := prog_1_method_34_code
def yX4_isMarch : MethodName := ⟨RX4, "isMarch", "(I)Z"⟩
abbrev cX4_isTeacher : ByteArray := prog_1_method_35_code
def yX4_isTeacher : MethodName := ⟨RX4, "isTeacher", "(I)Z"⟩
abbrev cX4_save : ByteArray := prog_1_method_36_code
def yX4_save : MethodName := ⟨RX4, "save", "()V"⟩
abbrev cX4_kindOfPart : ByteArray := prog_1_method_37_code
def yX4_kindOfPart : MethodName := ⟨RX4, "kindOfPart", "(II)I"⟩
abbrev cX4_breathOfPart : ByteArray := prog_1_method_38_code
def yX4_breathOfPart : MethodName := ⟨RX4, "breathOfPart", "(I)I"⟩
abbrev cX4_lipsOfPart : ByteArray := prog_1_method_39_code
def yX4_lipsOfPart : MethodName := ⟨RX4, "lipsOfPart", "(II)I"⟩
abbrev cX4_partNumber : ByteArray := prog_1_method_40_code
def yX4_partNumber : MethodName := ⟨RX4, "partNumber", "(III)I"⟩
abbrev cX4_couldPlay : ByteArray := prog_1_method_41_code
def yX4_couldPlay : MethodName := ⟨RX4, "couldPlay", "(LBandCornets$Pupil;II)Z"⟩
abbrev cX4_fillLineUp : ByteArray := prog_1_method_42_code
def yX4_fillLineUp : MethodName := ⟨RX4, "fillLineUp", "(I)I"⟩
abbrev cX4_bestFor : ByteArray := prog_1_method_43_code
def yX4_bestFor : MethodName := ⟨RX4, "bestFor", "(III)I"⟩
abbrev cX4_playerOf : ByteArray := prog_1_method_44_code
def yX4_playerOf : MethodName := ⟨RX4, "playerOf", "(I)I"⟩
abbrev cX4_penceFor : ByteArray := prog_1_method_45_code
def yX4_penceFor : MethodName := ⟨RX4, "penceFor", "(I)I"⟩
abbrev cX4_playMarch : ByteArray := prog_1_method_46_code
def yX4_playMarch : MethodName := ⟨RX4, "playMarch", "(I)I"⟩
abbrev cX4_mostParts : ByteArray := prog_1_method_47_code
def yX4_mostParts : MethodName := ⟨RX4, "mostParts", "(I)I"⟩
abbrev cX4_withPart : ByteArray := prog_1_method_48_code
def yX4_withPart : MethodName := ⟨RX4, "withPart", "(II)I"⟩
abbrev cX4_helper : ByteArray := prog_1_method_49_code
def yX4_helper : MethodName := ⟨RX4, "helper", "(II)I"⟩
abbrev cX4_nameOf : ByteArray := prog_1_method_50_code
def yX4_nameOf : MethodName := ⟨RX4, "nameOf", "(I)Ljava/lang/String;"⟩
abbrev cX4_tellLineUp : ByteArray := prog_1_method_51_code
def yX4_tellLineUp : MethodName := ⟨RX4, "tellLineUp", "(I)V"⟩
abbrev cX4_countNumber : ByteArray := prog_1_method_53_code
def yX4_countNumber : MethodName := ⟨RX4, "countNumber", "(I)I"⟩
def RX5 : String := "BandCornetsModel"
def TX5 : u_T := fun k => match k with
  | _ => ("", "", "", false)
def tyX5 : Nat → FieldType := fun k => match k with
  | _ => .int
theorem nmX5 : ∀ a, a < 0 → ∀ b, b < 0 → a ≠ b → (TX5 a).2.1 ≠ (TX5 b).2.1 := by decide +kernel
theorem tyX5_ok : ∀ k, k < 0 → parseFieldDescriptor (TX5 k).2.2.1 = some (tyX5 k) := by decide +kernel
def RJ5 : String := "java/lang/AbstractStringBuilder"
def TJ5 : u_T := fun k => match k with
  | _ => ("", "", "", false)
def tyJ5 : Nat → FieldType := fun k => match k with
  | _ => .int
theorem nmJ5 : ∀ a, a < 0 → ∀ b, b < 0 → a ≠ b → (TJ5 a).2.1 ≠ (TJ5 b).2.1 := by decide +kernel
theorem tyJ5_ok : ∀ k, k < 0 → parseFieldDescriptor (TJ5 k).2.2.1 = some (tyJ5 k) := by decide +kernel
abbrev cJ5_init_d00df : ByteArray := prog_8_method_2_code
def yJ5_init_d00df : MethodName := ⟨RJ5, "<init>", "(I)V"⟩
abbrev cJ5_length_8abf5 : ByteArray := prog_8_method_6_code
def yJ5_length_8abf5 : MethodName := ⟨RJ5, "length", "()I"⟩
abbrev cJ5_ensureCapacityInternal_d00df : ByteArray := prog_8_method_9_code
def yJ5_ensureCapacityInternal_d00df : MethodName := ⟨RJ5, "ensureCapacityInternal", "(I)V"⟩
abbrev cJ5_newCapacity_0f7a4 : ByteArray := prog_8_method_10_code
def yJ5_newCapacity_0f7a4 : MethodName := ⟨RJ5, "newCapacity", "(I)I"⟩
abbrev cJ5_inflate_da8c8 : ByteArray := prog_8_method_11_code
def yJ5_inflate_da8c8 : MethodName := ⟨RJ5, "inflate", "()V"⟩
abbrev cJ5_setLength_d00df : ByteArray := prog_8_method_13_code
def yJ5_setLength_d00df : MethodName := ⟨RJ5, "setLength", "(I)V"⟩
abbrev cJ5_charAt_5068e : ByteArray := prog_8_method_14_code
def yJ5_charAt_5068e : MethodName := ⟨RJ5, "charAt", "(I)C"⟩
abbrev cJ5_append_cf1ce : ByteArray := prog_8_method_22_code
def yJ5_append_cf1ce : MethodName := ⟨RJ5, "append", "(Ljava/lang/String;)Ljava/lang/AbstractStringBuilder;"⟩
abbrev cJ5_appendNull_278bc : ByteArray := prog_8_method_26_code
def yJ5_appendNull_278bc : MethodName := ⟨RJ5, "appendNull", "()Ljava/lang/AbstractStringBuilder;"⟩
abbrev cJ5_append_3fe6f : ByteArray := prog_8_method_31_code
def yJ5_append_3fe6f : MethodName := ⟨RJ5, "append", "(C)Ljava/lang/AbstractStringBuilder;"⟩
abbrev cJ5_append_c97b9 : ByteArray := prog_8_method_32_code
def yJ5_append_c97b9 : MethodName := ⟨RJ5, "append", "(I)Ljava/lang/AbstractStringBuilder;"⟩
abbrev cJ5_getValue_6d5f1 : ByteArray := prog_8_method_64_code
def yJ5_getValue_6d5f1 : MethodName := ⟨RJ5, "getValue", "()[B"⟩
abbrev cJ5_isLatin1_aae02 : ByteArray := prog_8_method_68_code
def yJ5_isLatin1_aae02 : MethodName := ⟨RJ5, "isLatin1", "()Z"⟩
abbrev cJ5_inflateIfNeededFor_a7421 : ByteArray := prog_8_method_71_code
def yJ5_inflateIfNeededFor_a7421 : MethodName := ⟨RJ5, "inflateIfNeededFor", "(Ljava/lang/String;)V"⟩
abbrev cJ5_putStringAt_47b60 : ByteArray := prog_8_method_73_code
def yJ5_putStringAt_47b60 : MethodName := ⟨RJ5, "putStringAt", "(ILjava/lang/String;)V"⟩
def RJx00060 : String := "java/lang/ArrayIndexOutOfBoundsException"
def TJx00060 : u_T := fun k => match k with
  | 0 => ("java/lang/Throwable", "cause", "Ljava/lang/Throwable;", false)
  | 1 => ("java/lang/Throwable", "stackTrace", "[Ljava/lang/StackTraceElement;", false)
  | 2 => ("java/lang/Throwable", "suppressedExceptions", "Ljava/util/List;", false)
  | 3 => ("java/lang/Throwable", "detailMessage", "Ljava/lang/String;", false)
  | 4 => ("java/lang/Throwable", "backtrace", "Ljava/lang/Object;", false)
  | _ => ("java/lang/Throwable", "depth", "I", false)
def tyJx00060 : Nat → FieldType := fun k => match k with
  | 0 => .object "java/lang/Throwable"
  | 1 => .array (.object "java/lang/StackTraceElement")
  | 2 => .object "java/util/List"
  | 3 => .object "java/lang/String"
  | 4 => .object "java/lang/Object"
  | _ => .int
theorem nmJx00060 : ∀ a, a < 6 → ∀ b, b < 6 → a ≠ b → (TJx00060 a).2.1 ≠ (TJx00060 b).2.1 := by decide +kernel
theorem tyJx00060_ok : ∀ k, k < 6 → parseFieldDescriptor (TJx00060 k).2.2.1 = some (tyJx00060 k) := by decide +kernel
abbrev cJx00060_init_d00df : ByteArray := prog_9_method_3_code
def yJx00060_init_d00df : MethodName := ⟨RJx00060, "<init>", "(I)V"⟩
def RJx8e188 : String := "java/lang/Cloneable"
def TJx8e188 : u_T := fun k => match k with
  | _ => ("", "", "", false)
def tyJx8e188 : Nat → FieldType := fun k => match k with
  | _ => .int
theorem nmJx8e188 : ∀ a, a < 0 → ∀ b, b < 0 → a ≠ b → (TJx8e188 a).2.1 ≠ (TJx8e188 b).2.1 := by decide +kernel
theorem tyJx8e188_ok : ∀ k, k < 0 → parseFieldDescriptor (TJx8e188 k).2.2.1 = some (tyJx8e188 k) := by decide +kernel
def RJ6 : String := "java/lang/Integer"
def TJ6 : u_T := fun k => match k with
  | _ => ("", "", "", false)
def tyJ6 : Nat → FieldType := fun k => match k with
  | _ => .int
theorem nmJ6 : ∀ a, a < 0 → ∀ b, b < 0 → a ≠ b → (TJ6 a).2.1 ≠ (TJ6 b).2.1 := by decide +kernel
theorem tyJ6_ok : ∀ k, k < 0 → parseFieldDescriptor (TJ6 k).2.2.1 = some (tyJ6 k) := by decide +kernel
abbrev cJ6_getChars_ba4f3 : ByteArray := prog_15_method_12_code
def yJ6_getChars_ba4f3 : MethodName := ⟨RJ6, "getChars", "(II[B)I"⟩
abbrev cJ6_stringSize_0f7a4 : ByteArray := prog_15_method_13_code
def yJ6_stringSize_0f7a4 : MethodName := ⟨RJ6, "stringSize", "(I)I"⟩
abbrev cJ6_bitCount_0f7a4 : ByteArray := prog_15_method_49_code
def yJ6_bitCount_0f7a4 : MethodName := ⟨RJ6, "bitCount", "(I)I"⟩
def RJ9 : String := "java/lang/Math"
def TJ9 : u_T := fun k => match k with
  | _ => ("", "", "", false)
def tyJ9 : Nat → FieldType := fun k => match k with
  | _ => .int
theorem nmJ9 : ∀ a, a < 0 → ∀ b, b < 0 → a ≠ b → (TJ9 a).2.1 ≠ (TJ9 b).2.1 := by decide +kernel
theorem tyJ9_ok : ∀ k, k < 0 → parseFieldDescriptor (TJ9 k).2.2.1 = some (tyJ9 k) := by decide +kernel
abbrev cJ9_max_7cf53 : ByteArray := prog_16_method_65_code
def yJ9_max_7cf53 : MethodName := ⟨RJ9, "max", "(II)I"⟩
abbrev cJ9_min_7cf53 : ByteArray := prog_16_method_69_code
def yJ9_min_7cf53 : MethodName := ⟨RJ9, "min", "(II)I"⟩
def RJ0 : String := "java/lang/String"
def TJ0 : u_T := fun k => match k with
  | 0 => ("java/lang/String", "value", "[B", true)
  | 1 => ("java/lang/String", "coder", "B", true)
  | 2 => ("java/lang/String", "hash", "I", false)
  | _ => ("java/lang/String", "hashIsZero", "Z", false)
def tyJ0 : Nat → FieldType := fun k => match k with
  | 0 => .array .byte
  | 1 => .byte
  | 2 => .int
  | _ => .boolean
theorem nmJ0 : ∀ a, a < 4 → ∀ b, b < 4 → a ≠ b → (TJ0 a).2.1 ≠ (TJ0 b).2.1 := by decide +kernel
theorem tyJ0_ok : ∀ k, k < 4 → parseFieldDescriptor (TJ0 k).2.2.1 = some (tyJ0 k) := by decide +kernel
abbrev cJ0_init_81219 : ByteArray := prog_18_method_53_code
def yJ0_init_81219 : MethodName := ⟨RJ0, "<init>", "(Ljava/lang/StringBuilder;)V"⟩
abbrev cJ0_length_8abf5 : ByteArray := prog_18_method_54_code
def yJ0_length_8abf5 : MethodName := ⟨RJ0, "length", "()I"⟩
abbrev cJ0_getBytes_840e7 : ByteArray := prog_18_method_147_code
def yJ0_getBytes_840e7 : MethodName := ⟨RJ0, "getBytes", "([BIB)V"⟩
abbrev cJ0_init_db425 : ByteArray := prog_18_method_150_code
def yJ0_init_db425 : MethodName := ⟨RJ0, "<init>", "(Ljava/lang/AbstractStringBuilder;Ljava/lang/Void;)V"⟩
abbrev cJ0_coder_7d493 : ByteArray := prog_18_method_152_code
def yJ0_coder_7d493 : MethodName := ⟨RJ0, "coder", "()B"⟩
abbrev cJ0_checkIndex_df160 : ByteArray := prog_18_method_155_code
def yJ0_checkIndex_df160 : MethodName := ⟨RJ0, "checkIndex", "(II)V"⟩
abbrev cJ0_checkBoundsOffCount_cabcc : ByteArray := prog_18_method_157_code
def yJ0_checkBoundsOffCount_cabcc : MethodName := ⟨RJ0, "checkBoundsOffCount", "(III)I"⟩
abbrev cJ0_checkBoundsBeginEnd_23922 : ByteArray := prog_18_method_158_code
def yJ0_checkBoundsBeginEnd_23922 : MethodName := ⟨RJ0, "checkBoundsBeginEnd", "(III)V"⟩
def RJ4 : String := "java/lang/StringBuilder"
def TJ4 : u_T := fun k => match k with
  | 0 => ("java/lang/AbstractStringBuilder", "value", "[B", false)
  | 1 => ("java/lang/AbstractStringBuilder", "coder", "B", false)
  | 2 => ("java/lang/AbstractStringBuilder", "maybeLatin1", "Z", false)
  | _ => ("java/lang/AbstractStringBuilder", "count", "I", false)
def tyJ4 : Nat → FieldType := fun k => match k with
  | 0 => .array .byte
  | 1 => .byte
  | 2 => .boolean
  | _ => .int
theorem nmJ4 : ∀ a, a < 4 → ∀ b, b < 4 → a ≠ b → (TJ4 a).2.1 ≠ (TJ4 b).2.1 := by decide +kernel
theorem tyJ4_ok : ∀ k, k < 4 → parseFieldDescriptor (TJ4 k).2.2.1 = some (tyJ4 k) := by decide +kernel
abbrev cJ4_init_da8c8 : ByteArray := prog_19_method_1_code
def yJ4_init_da8c8 : MethodName := ⟨RJ4, "<init>", "()V"⟩
abbrev cJ4_append_15ec4 : ByteArray := prog_19_method_7_code
def yJ4_append_15ec4 : MethodName := ⟨RJ4, "append", "(Ljava/lang/String;)Ljava/lang/StringBuilder;"⟩
abbrev cJ4_append_cf468 : ByteArray := prog_19_method_14_code
def yJ4_append_cf468 : MethodName := ⟨RJ4, "append", "(C)Ljava/lang/StringBuilder;"⟩
abbrev cJ4_append_bf812 : ByteArray := prog_19_method_15_code
def yJ4_append_bf812 : MethodName := ⟨RJ4, "append", "(I)Ljava/lang/StringBuilder;"⟩
abbrev cJ4_toString_0e30d : ByteArray := prog_19_method_42_code
def yJ4_toString_0e30d : MethodName := ⟨RJ4, "toString", "()Ljava/lang/String;"⟩
abbrev cJ4_charAt_5068e : ByteArray := prog_19_method_88_code
def yJ4_charAt_5068e : MethodName := ⟨RJ4, "charAt", "(I)C"⟩
abbrev cJ4_setLength_d00df : ByteArray := prog_19_method_89_code
def yJ4_setLength_d00df : MethodName := ⟨RJ4, "setLength", "(I)V"⟩
abbrev cJ4_length_8abf5 : ByteArray := prog_19_method_93_code
def yJ4_length_8abf5 : MethodName := ⟨RJ4, "length", "()I"⟩
def RJx7c733 : String := "java/lang/StringIndexOutOfBoundsException"
def TJx7c733 : u_T := fun k => match k with
  | 0 => ("java/lang/Throwable", "backtrace", "Ljava/lang/Object;", false)
  | 1 => ("java/lang/Throwable", "detailMessage", "Ljava/lang/String;", false)
  | 2 => ("java/lang/Throwable", "cause", "Ljava/lang/Throwable;", false)
  | 3 => ("java/lang/Throwable", "stackTrace", "[Ljava/lang/StackTraceElement;", false)
  | 4 => ("java/lang/Throwable", "depth", "I", false)
  | _ => ("java/lang/Throwable", "suppressedExceptions", "Ljava/util/List;", false)
def tyJx7c733 : Nat → FieldType := fun k => match k with
  | 0 => .object "java/lang/Object"
  | 1 => .object "java/lang/String"
  | 2 => .object "java/lang/Throwable"
  | 3 => .array (.object "java/lang/StackTraceElement")
  | 4 => .int
  | _ => .object "java/util/List"
theorem nmJx7c733 : ∀ a, a < 6 → ∀ b, b < 6 → a ≠ b → (TJx7c733 a).2.1 ≠ (TJx7c733 b).2.1 := by decide +kernel
theorem tyJx7c733_ok : ∀ k, k < 6 → parseFieldDescriptor (TJx7c733 k).2.2.1 = some (tyJx7c733 k) := by decide +kernel
abbrev cJx7c733_init_d00df : ByteArray := prog_20_method_3_code
def yJx7c733_init_d00df : MethodName := ⟨RJx7c733, "<init>", "(I)V"⟩
def RJ1 : String := "java/lang/StringLatin1"
def TJ1 : u_T := fun k => match k with
  | _ => ("", "", "", false)
def tyJ1 : Nat → FieldType := fun k => match k with
  | _ => .int
theorem nmJ1 : ∀ a, a < 0 → ∀ b, b < 0 → a ≠ b → (TJ1 a).2.1 ≠ (TJ1 b).2.1 := by decide +kernel
theorem tyJ1_ok : ∀ k, k < 0 → parseFieldDescriptor (TJ1 k).2.2.1 = some (tyJ1 k) := by decide +kernel
abbrev cJ1_canEncode_fc78d : ByteArray := prog_21_method_3_code
def yJ1_canEncode_fc78d : MethodName := ⟨RJ1, "canEncode", "(C)Z"⟩
abbrev cJ1_fillNull_b72d1 : ByteArray := prog_21_method_48_code
def yJ1_fillNull_b72d1 : MethodName := ⟨RJ1, "fillNull", "([BII)V"⟩
abbrev cJ1_inflate_0e8fd : ByteArray := prog_21_method_50_code
def yJ1_inflate_0e8fd : MethodName := ⟨RJ1, "inflate", "([BI[BII)V"⟩
def RJ2 : String := "java/lang/StringUTF16"
def TJ2 : u_T := fun k => match k with
  | _ => ("", "", "", false)
def tyJ2 : Nat → FieldType := fun k => match k with
  | _ => .int
theorem nmJ2 : ∀ a, a < 0 → ∀ b, b < 0 → a ≠ b → (TJ2 a).2.1 ≠ (TJ2 b).2.1 := by decide +kernel
theorem tyJ2_ok : ∀ k, k < 0 → parseFieldDescriptor (TJ2 k).2.2.1 = some (tyJ2 k) := by decide +kernel
abbrev cJ2_newBytesFor_77867 : ByteArray := prog_22_method_2_code
def yJ2_newBytesFor_77867 : MethodName := ⟨RJ2, "newBytesFor", "(I)[B"⟩
abbrev cJ2_newBytesLength_0f7a4 : ByteArray := prog_22_method_3_code
def yJ2_newBytesLength_0f7a4 : MethodName := ⟨RJ2, "newBytesLength", "(I)I"⟩
abbrev cJ2_putChar_b72d1 : ByteArray := prog_22_method_4_code
def yJ2_putChar_b72d1 : MethodName := ⟨RJ2, "putChar", "([BII)V"⟩
abbrev cJ2_getChar_3b067 : ByteArray := prog_22_method_5_code
def yJ2_getChar_3b067 : MethodName := ⟨RJ2, "getChar", "([BI)C"⟩
abbrev cJ2_length_9d52b : ByteArray := prog_22_method_6_code
def yJ2_length_9d52b : MethodName := ⟨RJ2, "length", "([B)I"⟩
abbrev cJ2_coderFromArrayLen_85cad : ByteArray := prog_22_method_15_code
def yJ2_coderFromArrayLen_85cad : MethodName := ⟨RJ2, "coderFromArrayLen", "([BI)B"⟩
abbrev cJ2_compress_39247 : ByteArray := prog_22_method_17_code
def yJ2_compress_39247 : MethodName := ⟨RJ2, "compress", "([BII)[B"⟩
abbrev cJ2_compress_5af95 : ByteArray := prog_22_method_22_code
def yJ2_compress_5af95 : MethodName := ⟨RJ2, "compress", "([BI[BII)I"⟩
abbrev cJ2_fillNull_b72d1 : ByteArray := prog_22_method_70_code
def yJ2_fillNull_b72d1 : MethodName := ⟨RJ2, "fillNull", "([BII)V"⟩
abbrev cJ2_putCharSB_b72d1 : ByteArray := prog_22_method_71_code
def yJ2_putCharSB_b72d1 : MethodName := ⟨RJ2, "putCharSB", "([BII)V"⟩
abbrev cJ2_getChars_46870 : ByteArray := prog_22_method_77_code
def yJ2_getChars_46870 : MethodName := ⟨RJ2, "getChars", "(III[B)I"⟩
abbrev cJ2_putCharsAt_cd4e5 : ByteArray := prog_22_method_81_code
def yJ2_putCharsAt_cd4e5 : MethodName := ⟨RJ2, "putCharsAt", "([BICCCC)I"⟩
abbrev cJ2_inflate_0e8fd : ByteArray := prog_22_method_86_code
def yJ2_inflate_0e8fd : MethodName := ⟨RJ2, "inflate", "([BI[BII)V"⟩
abbrev cJ2_getChars_ba4f3 : ByteArray := prog_22_method_89_code
def yJ2_getChars_ba4f3 : MethodName := ⟨RJ2, "getChars", "(II[B)I"⟩
abbrev cJ2_checkIndex_2214a : ByteArray := prog_22_method_91_code
def yJ2_checkIndex_2214a : MethodName := ⟨RJ2, "checkIndex", "(I[B)V"⟩
abbrev cJ2_checkBoundsBeginEnd_d044e : ByteArray := prog_22_method_93_code
def yJ2_checkBoundsBeginEnd_d044e : MethodName := ⟨RJ2, "checkBoundsBeginEnd", "(II[B)V"⟩
abbrev cJ2_checkBoundsOffCount_d044e : ByteArray := prog_22_method_94_code
def yJ2_checkBoundsOffCount_d044e : MethodName := ⟨RJ2, "checkBoundsOffCount", "(II[B)V"⟩
def RJ10 : String := "java/lang/System"
def TJ10 : u_T := fun k => match k with
  | _ => ("", "", "", false)
def tyJ10 : Nat → FieldType := fun k => match k with
  | _ => .int
theorem nmJ10 : ∀ a, a < 0 → ∀ b, b < 0 → a ≠ b → (TJ10 a).2.1 ≠ (TJ10 b).2.1 := by decide +kernel
theorem tyJ10_ok : ∀ k, k < 0 → parseFieldDescriptor (TJ10 k).2.2.1 = some (tyJ10 k) := by decide +kernel
def RJ7 : String := "java/util/Arrays"
def TJ7 : u_T := fun k => match k with
  | _ => ("", "", "", false)
def tyJ7 : Nat → FieldType := fun k => match k with
  | _ => .int
theorem nmJ7 : ∀ a, a < 0 → ∀ b, b < 0 → a ≠ b → (TJ7 a).2.1 ≠ (TJ7 b).2.1 := by decide +kernel
theorem tyJ7_ok : ∀ k, k < 0 → parseFieldDescriptor (TJ7 k).2.2.1 = some (tyJ7 k) := by decide +kernel
abbrev cJ7_rangeCheck_23922 : ByteArray := prog_25_method_30_code
def yJ7_rangeCheck_23922 : MethodName := ⟨RJ7, "rangeCheck", "(III)V"⟩
abbrev cJ7_fill_eb02e : ByteArray := prog_25_method_110_code
def yJ7_fill_eb02e : MethodName := ⟨RJ7, "fill", "([BIIB)V"⟩
abbrev cJ7_copyOf_9075b : ByteArray := prog_25_method_121_code
def yJ7_copyOf_9075b : MethodName := ⟨RJ7, "copyOf", "([BI)[B"⟩
abbrev cJ7_checkLength_df160 : ByteArray := prog_25_method_131_code
def yJ7_checkLength_df160 : MethodName := ⟨RJ7, "checkLength", "(II)V"⟩
abbrev cJ7_copyOfRange_39247 : ByteArray := prog_25_method_132_code
def yJ7_copyOfRange_39247 : MethodName := ⟨RJ7, "copyOfRange", "([BII)[B"⟩
abbrev cJ7_copyOfRangeByte_39247 : ByteArray := prog_25_method_133_code
def yJ7_copyOfRangeByte_39247 : MethodName := ⟨RJ7, "copyOfRangeByte", "([BII)[B"⟩
def RJ8 : String := "jdk/internal/util/ArraysSupport"
def TJ8 : u_T := fun k => match k with
  | _ => ("", "", "", false)
def tyJ8 : Nat → FieldType := fun k => match k with
  | _ => .int
theorem nmJ8 : ∀ a, a < 0 → ∀ b, b < 0 → a ≠ b → (TJ8 a).2.1 ≠ (TJ8 b).2.1 := by decide +kernel
theorem tyJ8_ok : ∀ k, k < 0 → parseFieldDescriptor (TJ8 k).2.2.1 = some (tyJ8 k) := by decide +kernel
abbrev cJ8_newLength_cabcc : ByteArray := prog_26_method_27_code
def yJ8_newLength_cabcc : MethodName := ⟨RJ8, "newLength", "(III)I"⟩
abbrev cJ8_hugeLength_7cf53 : ByteArray := prog_26_method_28_code
def yJ8_hugeLength_7cf53 : MethodName := ⟨RJ8, "hugeLength", "(II)I"⟩
def RJ3 : String := "jdk/internal/util/Preconditions"
def TJ3 : u_T := fun k => match k with
  | _ => ("", "", "", false)
def tyJ3 : Nat → FieldType := fun k => match k with
  | _ => .int
theorem nmJ3 : ∀ a, a < 0 → ∀ b, b < 0 → a ≠ b → (TJ3 a).2.1 ≠ (TJ3 b).2.1 := by decide +kernel
theorem tyJ3_ok : ∀ k, k < 0 → parseFieldDescriptor (TJ3 k).2.2.1 = some (tyJ3 k) := by decide +kernel
abbrev cJ3_checkIndex_8e157 : ByteArray := prog_27_method_11_code
def yJ3_checkIndex_8e157 : MethodName := ⟨RJ3, "checkIndex", "(IILjava/util/function/BiFunction;)I"⟩
abbrev cJ3_checkFromToIndex_8c36e : ByteArray := prog_27_method_12_code
def yJ3_checkFromToIndex_8c36e : MethodName := ⟨RJ3, "checkFromToIndex", "(IIILjava/util/function/BiFunction;)I"⟩
abbrev cJ3_checkFromIndexSize_8c36e : ByteArray := prog_27_method_13_code
def yJ3_checkFromIndexSize_8c36e : MethodName := ⟨RJ3, "checkFromIndexSize", "(IIILjava/util/function/BiFunction;)I"⟩
def RL : String := "BandCornetsLaw"
abbrev cL_cell : ByteArray := method_2_code
def yL_cell : MethodName := ⟨RL, "cell", "([II)I"⟩
abbrev cL_low : ByteArray := method_3_code
def yL_low : MethodName := ⟨RL, "low", "(II)I"⟩
abbrev cL_tryLend : ByteArray := method_4_code
def yL_tryLend : MethodName := ⟨RL, "tryLend", "(LBandCornets;II)I"⟩
abbrev cL_tryTeach : ByteArray := method_5_code
def yL_tryTeach : MethodName := ⟨RL, "tryTeach", "(LBandCornets;II)I"⟩
abbrev cL_tryMarch : ByteArray := method_6_code
def yL_tryMarch : MethodName := ⟨RL, "tryMarch", "(LBandCornets;I)I"⟩
abbrev cL_tryBack : ByteArray := method_7_code
def yL_tryBack : MethodName := ⟨RL, "tryBack", "(LBandCornets;I)I"⟩
abbrev cL_tryMend : ByteArray := method_8_code
def yL_tryMend : MethodName := ⟨RL, "tryMend", "(LBandCornets;I)I"⟩
abbrev cL_isMarch : ByteArray := method_9_code
def yL_isMarch : MethodName := ⟨RL, "isMarch", "(LBandCornets;I)Z"⟩
abbrev cL_isText : ByteArray := method_10_code
def yL_isText : MethodName := ⟨RL, "isText", "(LBandCornets;I)Z"⟩
abbrev cL_areTools : ByteArray := method_11_code
def yL_areTools : MethodName := ⟨RL, "areTools", "(LBandCornets;)Z"⟩
abbrev cL_holds : ByteArray := method_12_code
def yL_holds : MethodName := ⟨RL, "holds", "(LBandCornets;)Z"⟩
abbrev cL_teaches : ByteArray := method_13_code
def yL_teaches : MethodName := ⟨RL, "teaches", "(LBandCornets;II)Z"⟩
abbrev cL_helpsSo : ByteArray := method_14_code
def yL_helpsSo : MethodName := ⟨RL, "helpsSo", "(LBandCornets;II)Z"⟩
abbrev cL_act : ByteArray := method_15_code
def yL_act : MethodName := ⟨RL, "act", "(LBandCornets;II)Z"⟩
abbrev cL_law : ByteArray := code
def yL_law : MethodName := ⟨RL, "law", "([I)Z"⟩
