/-! ===== methods and fields, printed ===== -/
abbrev mX9_init : Mm := (yX9_init, cX9_init, 4, (Option.none : Option Jvm.ClassFile.FieldType), RX9)
theorem pn_X9_init : plainName (my mX9_init).cls = true := by decide +kernel
theorem ok_X9_init : zMok mX9_init 1 := ⟨rfl, ⟨by decide +kernel, by decide +kernel, by decide +kernel⟩, ini_X9, co_X9_init⟩
abbrev mJ9_min_7cf53 : Mm := (yJ9_min_7cf53, cJ9_min_7cf53, 2, (Option.some .int), RJ9)
theorem ok_J9_min_7cf53 : zMokS mJ9_min_7cf53 2 := ⟨⟨rfl, ⟨by decide +kernel, by decide +kernel, by decide +kernel⟩, ini_J9, co_J9_min_7cf53⟩, stc_J9_min_7cf53⟩
abbrev mJ9_max_7cf53 : Mm := (yJ9_max_7cf53, cJ9_max_7cf53, 2, (Option.some .int), RJ9)
theorem ok_J9_max_7cf53 : zMokS mJ9_max_7cf53 2 := ⟨⟨rfl, ⟨by decide +kernel, by decide +kernel, by decide +kernel⟩, ini_J9, co_J9_max_7cf53⟩, stc_J9_max_7cf53⟩
abbrev mX0_init : Mm := (yX0_init, cX0_init, 1, (Option.none : Option Jvm.ClassFile.FieldType), RX0)
theorem pn_X0_init : plainName (my mX0_init).cls = true := by decide +kernel
theorem ok_X0_init : zMok mX0_init 0 := ⟨rfl, ⟨by decide +kernel, by decide +kernel, by decide +kernel⟩, ini_X0, co_X0_init⟩
abbrev mX8_init : Mm := (yX8_init, cX8_init, 1, (Option.none : Option Jvm.ClassFile.FieldType), RX8)
theorem pn_X8_init : plainName (my mX8_init).cls = true := by decide +kernel
theorem ok_X8_init : zMok mX8_init 0 := ⟨rfl, ⟨by decide +kernel, by decide +kernel, by decide +kernel⟩, ini_X8, co_X8_init⟩
abbrev mX3_zeros : Mm := (yX3_zeros, cX3_zeros, 3, (Option.some (.array (.object "FractionRows$Fraction"))), RX3)
theorem pn_X3_zeros : plainName (my mX3_zeros).cls = true := by decide +kernel
theorem ok_X3_zeros : zMokS mX3_zeros 1 := ⟨⟨rfl, ⟨by decide +kernel, by decide +kernel, by decide +kernel⟩, ini_X3, co_X3_zeros⟩, stc_X3_zeros⟩
abbrev mX3_init : Mm := (yX3_init, cX3_init, 1, (Option.none : Option Jvm.ClassFile.FieldType), RX3)
theorem pn_X3_init : plainName (my mX3_init).cls = true := by decide +kernel
theorem ok_X3_init : zMok mX3_init 0 := ⟨rfl, ⟨by decide +kernel, by decide +kernel, by decide +kernel⟩, ini_X3, co_X3_init⟩
abbrev mX8_setBits : Mm := (yX8_setBits, cX8_setBits, 4, (Option.none : Option Jvm.ClassFile.FieldType), RX8)
theorem pn_X8_setBits : plainName (my mX8_setBits).cls = true := by decide +kernel
theorem ok_X8_setBits : zMokV mX8_setBits 1 7 := ⟨⟨rfl, ⟨by decide +kernel, by decide +kernel, by decide +kernel⟩, ini_X8, co_X8_setBits⟩, im_X8_setBits, se_X8_setBits, _, _, rfl⟩
abbrev mX2_init : Mm := (yX2_init, cX2_init, 3, (Option.none : Option Jvm.ClassFile.FieldType), RX2)
theorem pn_X2_init : plainName (my mX2_init).cls = true := by decide +kernel
theorem ok_X2_init : zMok mX2_init 2 := ⟨rfl, ⟨by decide +kernel, by decide +kernel, by decide +kernel⟩, ini_X2, co_X2_init⟩
abbrev mX1_init : Mm := (yX1_init, cX1_init, 3, (Option.none : Option Jvm.ClassFile.FieldType), RX1)
theorem pn_X1_init : plainName (my mX1_init).cls = true := by decide +kernel
theorem ok_X1_init : zMok mX1_init 2 := ⟨rfl, ⟨by decide +kernel, by decide +kernel, by decide +kernel⟩, ini_X1, co_X1_init⟩
abbrev mX6_init : Mm := (yX6_init, cX6_init, 3, (Option.none : Option Jvm.ClassFile.FieldType), RX6)
theorem pn_X6_init : plainName (my mX6_init).cls = true := by decide +kernel
theorem ok_X6_init : zMok mX6_init 2 := ⟨rfl, ⟨by decide +kernel, by decide +kernel, by decide +kernel⟩, ini_X6, co_X6_init⟩
abbrev mX4_init : Mm := (yX4_init, cX4_init, 2, (Option.none : Option Jvm.ClassFile.FieldType), RX4)
theorem pn_X4_init : plainName (my mX4_init).cls = true := by decide +kernel
theorem ok_X4_init : zMok mX4_init 1 := ⟨rfl, ⟨by decide +kernel, by decide +kernel, by decide +kernel⟩, ini_X4, co_X4_init⟩
abbrev mX7_init : Mm := (yX7_init, cX7_init, 2, (Option.none : Option Jvm.ClassFile.FieldType), RX7)
theorem pn_X7_init : plainName (my mX7_init).cls = true := by decide +kernel
theorem ok_X7_init : zMok mX7_init 1 := ⟨rfl, ⟨by decide +kernel, by decide +kernel, by decide +kernel⟩, ini_X7, co_X7_init⟩
abbrev mX9_value : Mm := (yX9_value, cX9_value, 5, (Option.some .int), RX9)
theorem pn_X9_value : plainName (my mX9_value).cls = true := by decide +kernel
theorem ok_X9_value : zMokV mX9_value 2 8 := ⟨⟨rfl, ⟨by decide +kernel, by decide +kernel, by decide +kernel⟩, ini_X9, co_X9_value⟩, im_X9_value, se_X9_value, _, _, rfl⟩
abbrev mX9_isFull : Mm := (yX9_isFull, cX9_isFull, 1, (Option.some .boolean), RX9)
theorem pn_X9_isFull : plainName (my mX9_isFull).cls = true := by decide +kernel
theorem ok_X9_isFull : zMokV mX9_isFull 0 8 := ⟨⟨rfl, ⟨by decide +kernel, by decide +kernel, by decide +kernel⟩, ini_X9, co_X9_isFull⟩, im_X9_isFull, se_X9_isFull, _, _, rfl⟩
abbrev mX0_setRatio : Mm := (yX0_setRatio, cX0_setRatio, 6, (Option.none : Option Jvm.ClassFile.FieldType), RX0)
theorem pn_X0_setRatio : plainName (my mX0_setRatio).cls = true := by decide +kernel
theorem ok_X0_setRatio : zMokV mX0_setRatio 3 0 := ⟨⟨rfl, ⟨by decide +kernel, by decide +kernel, by decide +kernel⟩, ini_X0, co_X0_setRatio⟩, im_X0_setRatio, se_X0_setRatio, _, _, rfl⟩
abbrev mJ9_abs_067f4 : Mm := (yJ9_abs_067f4, cJ9_abs_067f4, 2, (Option.some .long), RJ9)
theorem ok_J9_abs_067f4 : zMokS mJ9_abs_067f4 1 := ⟨⟨rfl, ⟨by decide +kernel, by decide +kernel, by decide +kernel⟩, ini_J9, co_J9_abs_067f4⟩, stc_J9_abs_067f4⟩
abbrev mX0_findCommon : Mm := (yX0_findCommon, cX0_findCommon, 7, (Option.none : Option Jvm.ClassFile.FieldType), RX0)
theorem pn_X0_findCommon : plainName (my mX0_findCommon).cls = true := by decide +kernel
theorem ok_X0_findCommon : zMokV mX0_findCommon 2 0 := ⟨⟨rfl, ⟨by decide +kernel, by decide +kernel, by decide +kernel⟩, ini_X0, co_X0_findCommon⟩, im_X0_findCommon, se_X0_findCommon, _, _, rfl⟩
abbrev mX8_isOne : Mm := (yX8_isOne, cX8_isOne, 1, (Option.some .boolean), RX8)
theorem pn_X8_isOne : plainName (my mX8_isOne).cls = true := by decide +kernel
theorem ok_X8_isOne : zMokV mX8_isOne 0 7 := ⟨⟨rfl, ⟨by decide +kernel, by decide +kernel, by decide +kernel⟩, ini_X8, co_X8_isOne⟩, im_X8_isOne, se_X8_isOne, _, _, rfl⟩
abbrev mX8_copy : Mm := (yX8_copy, cX8_copy, 2, (Option.none : Option Jvm.ClassFile.FieldType), RX8)
theorem pn_X8_copy : plainName (my mX8_copy).cls = true := by decide +kernel
theorem ok_X8_copy : zMokV mX8_copy 1 7 := ⟨⟨rfl, ⟨by decide +kernel, by decide +kernel, by decide +kernel⟩, ini_X8, co_X8_copy⟩, im_X8_copy, se_X8_copy, _, _, rfl⟩
abbrev mX8_isZero : Mm := (yX8_isZero, cX8_isZero, 1, (Option.some .boolean), RX8)
theorem pn_X8_isZero : plainName (my mX8_isZero).cls = true := by decide +kernel
theorem ok_X8_isZero : zMokV mX8_isZero 0 7 := ⟨⟨rfl, ⟨by decide +kernel, by decide +kernel, by decide +kernel⟩, ini_X8, co_X8_isZero⟩, im_X8_isZero, se_X8_isZero, _, _, rfl⟩
abbrev mX8_fitsLong : Mm := (yX8_fitsLong, cX8_fitsLong, 1, (Option.some .boolean), RX8)
theorem pn_X8_fitsLong : plainName (my mX8_fitsLong).cls = true := by decide +kernel
theorem ok_X8_fitsLong : zMokV mX8_fitsLong 0 7 := ⟨⟨rfl, ⟨by decide +kernel, by decide +kernel, by decide +kernel⟩, ini_X8, co_X8_fitsLong⟩, im_X8_fitsLong, se_X8_fitsLong, _, _, rfl⟩
abbrev mX8_toLong : Mm := (yX8_toLong, cX8_toLong, 1, (Option.some .long), RX8)
theorem pn_X8_toLong : plainName (my mX8_toLong).cls = true := by decide +kernel
theorem ok_X8_toLong : zMokV mX8_toLong 0 7 := ⟨⟨rfl, ⟨by decide +kernel, by decide +kernel, by decide +kernel⟩, ini_X8, co_X8_toLong⟩, im_X8_toLong, se_X8_toLong, _, _, rfl⟩
abbrev mX0_commonOf : Mm := (yX0_commonOf, cX0_commonOf, 11, (Option.some .long), RX0)
theorem pn_X0_commonOf : plainName (my mX0_commonOf).cls = true := by decide +kernel
theorem ok_X0_commonOf : zMokS mX0_commonOf 2 := ⟨⟨rfl, ⟨by decide +kernel, by decide +kernel, by decide +kernel⟩, ini_X0, co_X0_commonOf⟩, stc_X0_commonOf⟩
abbrev mX0_divide : Mm := (yX0_divide, cX0_divide, 11, (Option.none : Option Jvm.ClassFile.FieldType), RX0)
theorem pn_X0_divide : plainName (my mX0_divide).cls = true := by decide +kernel
theorem ok_X0_divide : zMokV mX0_divide 3 0 := ⟨⟨rfl, ⟨by decide +kernel, by decide +kernel, by decide +kernel⟩, ini_X0, co_X0_divide⟩, im_X0_divide, se_X0_divide, _, _, rfl⟩
abbrev mX8_against : Mm := (yX8_against, cX8_against, 3, (Option.some .int), RX8)
theorem pn_X8_against : plainName (my mX8_against).cls = true := by decide +kernel
theorem ok_X8_against : zMokV mX8_against 1 7 := ⟨⟨rfl, ⟨by decide +kernel, by decide +kernel, by decide +kernel⟩, ini_X8, co_X8_against⟩, im_X8_against, se_X8_against, _, _, rfl⟩
abbrev mJ6_numberOfLeadingZeros_0f7a4 : Mm := (yJ6_numberOfLeadingZeros_0f7a4, cJ6_numberOfLeadingZeros_0f7a4, 2, (Option.some .int), RJ6)
theorem pn_J6_numberOfLeadingZeros_0f7a4 : plainName (my mJ6_numberOfLeadingZeros_0f7a4).cls = true := by decide +kernel
theorem ok_J6_numberOfLeadingZeros_0f7a4 : zMokS mJ6_numberOfLeadingZeros_0f7a4 1 := ⟨⟨rfl, ⟨by decide +kernel, by decide +kernel, by decide +kernel⟩, ini_J6, co_J6_numberOfLeadingZeros_0f7a4⟩, stc_J6_numberOfLeadingZeros_0f7a4⟩
abbrev mX8_shiftLeft : Mm := (yX8_shiftLeft, cX8_shiftLeft, 5, (Option.none : Option Jvm.ClassFile.FieldType), RX8)
theorem pn_X8_shiftLeft : plainName (my mX8_shiftLeft).cls = true := by decide +kernel
theorem ok_X8_shiftLeft : zMokV mX8_shiftLeft 1 7 := ⟨⟨rfl, ⟨by decide +kernel, by decide +kernel, by decide +kernel⟩, ini_X8, co_X8_shiftLeft⟩, im_X8_shiftLeft, se_X8_shiftLeft, _, _, rfl⟩
abbrev mX0_guessLimb : Mm := (yX0_guessLimb, cX0_guessLimb, 12, (Option.some .long), RX0)
theorem pn_X0_guessLimb : plainName (my mX0_guessLimb).cls = true := by decide +kernel
theorem ok_X0_guessLimb : zMokV mX0_guessLimb 2 0 := ⟨⟨rfl, ⟨by decide +kernel, by decide +kernel, by decide +kernel⟩, ini_X0, co_X0_guessLimb⟩, im_X0_guessLimb, se_X0_guessLimb, _, _, rfl⟩
abbrev mX8_takeTimes : Mm := (yX8_takeTimes, cX8_takeTimes, 12, (Option.some .boolean), RX8)
theorem pn_X8_takeTimes : plainName (my mX8_takeTimes).cls = true := by decide +kernel
theorem ok_X8_takeTimes : zMokV mX8_takeTimes 3 7 := ⟨⟨rfl, ⟨by decide +kernel, by decide +kernel, by decide +kernel⟩, ini_X8, co_X8_takeTimes⟩, im_X8_takeTimes, se_X8_takeTimes, _, _, rfl⟩
abbrev mX8_giveBack : Mm := (yX8_giveBack, cX8_giveBack, 6, (Option.some .boolean), RX8)
theorem pn_X8_giveBack : plainName (my mX8_giveBack).cls = true := by decide +kernel
theorem ok_X8_giveBack : zMokV mX8_giveBack 2 7 := ⟨⟨rfl, ⟨by decide +kernel, by decide +kernel, by decide +kernel⟩, ini_X8, co_X8_giveBack⟩, im_X8_giveBack, se_X8_giveBack, _, _, rfl⟩
abbrev mX8_trim : Mm := (yX8_trim, cX8_trim, 1, (Option.none : Option Jvm.ClassFile.FieldType), RX8)
theorem pn_X8_trim : plainName (my mX8_trim).cls = true := by decide +kernel
theorem ok_X8_trim : zMokV mX8_trim 0 7 := ⟨⟨rfl, ⟨by decide +kernel, by decide +kernel, by decide +kernel⟩, ini_X8, co_X8_trim⟩, im_X8_trim, se_X8_trim, _, _, rfl⟩
abbrev mX8_shiftRight : Mm := (yX8_shiftRight, cX8_shiftRight, 7, (Option.none : Option Jvm.ClassFile.FieldType), RX8)
theorem pn_X8_shiftRight : plainName (my mX8_shiftRight).cls = true := by decide +kernel
theorem ok_X8_shiftRight : zMokV mX8_shiftRight 1 7 := ⟨⟨rfl, ⟨by decide +kernel, by decide +kernel, by decide +kernel⟩, ini_X8, co_X8_shiftRight⟩, im_X8_shiftRight, se_X8_shiftRight, _, _, rfl⟩
abbrev mX0_cut : Mm := (yX0_cut, cX0_cut, 3, (Option.none : Option Jvm.ClassFile.FieldType), RX0)
theorem pn_X0_cut : plainName (my mX0_cut).cls = true := by decide +kernel
theorem ok_X0_cut : zMokV mX0_cut 2 0 := ⟨⟨rfl, ⟨by decide +kernel, by decide +kernel, by decide +kernel⟩, ini_X0, co_X0_cut⟩, im_X0_cut, se_X0_cut, _, _, rfl⟩
abbrev mX9_keep : Mm := (yX9_keep, cX9_keep, 2, (Option.some .int), RX9)
theorem pn_X9_keep : plainName (my mX9_keep).cls = true := by decide +kernel
theorem ok_X9_keep : zMokV mX9_keep 1 8 := ⟨⟨rfl, ⟨by decide +kernel, by decide +kernel, by decide +kernel⟩, ini_X9, co_X9_keep⟩, im_X9_keep, se_X9_keep, _, _, rfl⟩
abbrev mX9_grew : Mm := (yX9_grew, cX9_grew, 1, (Option.some .int), RX9)
theorem pn_X9_grew : plainName (my mX9_grew).cls = true := by decide +kernel
theorem ok_X9_grew : zMokV mX9_grew 0 8 := ⟨⟨rfl, ⟨by decide +kernel, by decide +kernel, by decide +kernel⟩, ini_X9, co_X9_grew⟩, im_X9_grew, se_X9_grew, _, _, rfl⟩
abbrev mX9_act : Mm := (yX9_act, cX9_act, 5, (Option.some .int), RX9)
theorem pn_X9_act : plainName (my mX9_act).cls = true := by decide +kernel
theorem ok_X9_act : zMokV mX9_act 3 8 := ⟨⟨rfl, ⟨by decide +kernel, by decide +kernel, by decide +kernel⟩, ini_X9, co_X9_act⟩, im_X9_act, se_X9_act, _, _, rfl⟩
abbrev mX9_isNumber : Mm := (yX9_isNumber, cX9_isNumber, 2, (Option.some .boolean), RX9)
theorem pn_X9_isNumber : plainName (my mX9_isNumber).cls = true := by decide +kernel
theorem ok_X9_isNumber : zMokV mX9_isNumber 1 8 := ⟨⟨rfl, ⟨by decide +kernel, by decide +kernel, by decide +kernel⟩, ini_X9, co_X9_isNumber⟩, im_X9_isNumber, se_X9_isNumber, _, _, rfl⟩
abbrev mX3_isZero : Mm := (yX3_isZero, cX3_isZero, 1, (Option.some .boolean), RX3)
theorem pn_X3_isZero : plainName (my mX3_isZero).cls = true := by decide +kernel
theorem ok_X3_isZero : zMokV mX3_isZero 0 3 := ⟨⟨rfl, ⟨by decide +kernel, by decide +kernel, by decide +kernel⟩, ini_X3, co_X3_isZero⟩, im_X3_isZero, se_X3_isZero, _, _, rfl⟩
abbrev mX0_add : Mm := (yX0_add, cX0_add, 6, (Option.some .boolean), RX0)
theorem pn_X0_add : plainName (my mX0_add).cls = true := by decide +kernel
theorem ok_X0_add : zMokV mX0_add 4 0 := ⟨⟨rfl, ⟨by decide +kernel, by decide +kernel, by decide +kernel⟩, ini_X0, co_X0_add⟩, im_X0_add, se_X0_add, _, _, rfl⟩
abbrev mX8_setProduct : Mm := (yX8_setProduct, cX8_setProduct, 9, (Option.none : Option Jvm.ClassFile.FieldType), RX8)
theorem pn_X8_setProduct : plainName (my mX8_setProduct).cls = true := by decide +kernel
theorem ok_X8_setProduct : zMokV mX8_setProduct 2 7 := ⟨⟨rfl, ⟨by decide +kernel, by decide +kernel, by decide +kernel⟩, ini_X8, co_X8_setProduct⟩, im_X8_setProduct, se_X8_setProduct, _, _, rfl⟩
abbrev mX0_joinUppers : Mm := (yX0_joinUppers, cX0_joinUppers, 3, (Option.some .boolean), RX0)
theorem pn_X0_joinUppers : plainName (my mX0_joinUppers).cls = true := by decide +kernel
theorem ok_X0_joinUppers : zMokV mX0_joinUppers 2 0 := ⟨⟨rfl, ⟨by decide +kernel, by decide +kernel, by decide +kernel⟩, ini_X0, co_X0_joinUppers⟩, im_X0_joinUppers, se_X0_joinUppers, _, _, rfl⟩
abbrev mX8_increase : Mm := (yX8_increase, cX8_increase, 6, (Option.none : Option Jvm.ClassFile.FieldType), RX8)
theorem pn_X8_increase : plainName (my mX8_increase).cls = true := by decide +kernel
theorem ok_X8_increase : zMokV mX8_increase 1 7 := ⟨⟨rfl, ⟨by decide +kernel, by decide +kernel, by decide +kernel⟩, ini_X8, co_X8_increase⟩, im_X8_increase, se_X8_increase, _, _, rfl⟩
abbrev mX8_append : Mm := (yX8_append, cX8_append, 2, (Option.none : Option Jvm.ClassFile.FieldType), RX8)
theorem pn_X8_append : plainName (my mX8_append).cls = true := by decide +kernel
theorem ok_X8_append : zMokV mX8_append 1 7 := ⟨⟨rfl, ⟨by decide +kernel, by decide +kernel, by decide +kernel⟩, ini_X8, co_X8_append⟩, im_X8_append, se_X8_append, _, _, rfl⟩
abbrev mX8_decrease : Mm := (yX8_decrease, cX8_decrease, 5, (Option.none : Option Jvm.ClassFile.FieldType), RX8)
theorem pn_X8_decrease : plainName (my mX8_decrease).cls = true := by decide +kernel
theorem ok_X8_decrease : zMokV mX8_decrease 1 7 := ⟨⟨rfl, ⟨by decide +kernel, by decide +kernel, by decide +kernel⟩, ini_X8, co_X8_decrease⟩, im_X8_decrease, se_X8_decrease, _, _, rfl⟩
abbrev mX0_setWide : Mm := (yX0_setWide, cX0_setWide, 5, (Option.some .boolean), RX0)
theorem pn_X0_setWide : plainName (my mX0_setWide).cls = true := by decide +kernel
theorem ok_X0_setWide : zMokV mX0_setWide 4 0 := ⟨⟨rfl, ⟨by decide +kernel, by decide +kernel, by decide +kernel⟩, ini_X0, co_X0_setWide⟩, im_X0_setWide, se_X0_setWide, _, _, rfl⟩
abbrev mX8_isWide : Mm := (yX8_isWide, cX8_isWide, 1, (Option.some .boolean), RX8)
theorem pn_X8_isWide : plainName (my mX8_isWide).cls = true := by decide +kernel
theorem ok_X8_isWide : zMokV mX8_isWide 0 7 := ⟨⟨rfl, ⟨by decide +kernel, by decide +kernel, by decide +kernel⟩, ini_X8, co_X8_isWide⟩, im_X8_isWide, se_X8_isWide, _, _, rfl⟩
abbrev mX3_set : Mm := (yX3_set, cX3_set, 4, (Option.none : Option Jvm.ClassFile.FieldType), RX3)
theorem pn_X3_set : plainName (my mX3_set).cls = true := by decide +kernel
theorem ok_X3_set : zMokV mX3_set 3 3 := ⟨⟨rfl, ⟨by decide +kernel, by decide +kernel, by decide +kernel⟩, ini_X3, co_X3_set⟩, im_X3_set, se_X3_set, _, _, rfl⟩
abbrev mX0_multiply : Mm := (yX0_multiply, cX0_multiply, 7, (Option.some .boolean), RX0)
theorem pn_X0_multiply : plainName (my mX0_multiply).cls = true := by decide +kernel
theorem ok_X0_multiply : zMokV mX0_multiply 4 0 := ⟨⟨rfl, ⟨by decide +kernel, by decide +kernel, by decide +kernel⟩, ini_X0, co_X0_multiply⟩, im_X0_multiply, se_X0_multiply, _, _, rfl⟩
abbrev mX9_drop : Mm := (yX9_drop, cX9_drop, 1, (Option.some .int), RX9)
theorem pn_X9_drop : plainName (my mX9_drop).cls = true := by decide +kernel
theorem ok_X9_drop : zMokV mX9_drop 0 8 := ⟨⟨rfl, ⟨by decide +kernel, by decide +kernel, by decide +kernel⟩, ini_X9, co_X9_drop⟩, im_X9_drop, se_X9_drop, _, _, rfl⟩
abbrev mX9_compare : Mm := (yX9_compare, cX9_compare, 3, (Option.some .int), RX9)
theorem pn_X9_compare : plainName (my mX9_compare).cls = true := by decide +kernel
theorem ok_X9_compare : zMokV mX9_compare 2 8 := ⟨⟨rfl, ⟨by decide +kernel, by decide +kernel, by decide +kernel⟩, ini_X9, co_X9_compare⟩, im_X9_compare, se_X9_compare, _, _, rfl⟩
abbrev mX0_order : Mm := (yX0_order, cX0_order, 3, (Option.some .int), RX0)
theorem pn_X0_order : plainName (my mX0_order).cls = true := by decide +kernel
theorem ok_X0_order : zMokV mX0_order 2 0 := ⟨⟨rfl, ⟨by decide +kernel, by decide +kernel, by decide +kernel⟩, ini_X0, co_X0_order⟩, im_X0_order, se_X0_order, _, _, rfl⟩
abbrev mX9_about : Mm := (yX9_about, cX9_about, 4, (Option.some .int), RX9)
theorem pn_X9_about : plainName (my mX9_about).cls = true := by decide +kernel
theorem ok_X9_about : zMokV mX9_about 2 8 := ⟨⟨rfl, ⟨by decide +kernel, by decide +kernel, by decide +kernel⟩, ini_X9, co_X9_about⟩, im_X9_about, se_X9_about, _, _, rfl⟩
abbrev mX3_size : Mm := (yX3_size, cX3_size, 1, (Option.some .int), RX3)
theorem pn_X3_size : plainName (my mX3_size).cls = true := by decide +kernel
theorem ok_X3_size : zMokV mX3_size 0 3 := ⟨⟨rfl, ⟨by decide +kernel, by decide +kernel, by decide +kernel⟩, ini_X3, co_X3_size⟩, im_X3_size, se_X3_size, _, _, rfl⟩
abbrev mX8_bits : Mm := (yX8_bits, cX8_bits, 1, (Option.some .int), RX8)
theorem pn_X8_bits : plainName (my mX8_bits).cls = true := by decide +kernel
theorem ok_X8_bits : zMokV mX8_bits 0 7 := ⟨⟨rfl, ⟨by decide +kernel, by decide +kernel, by decide +kernel⟩, ini_X8, co_X8_bits⟩, im_X8_bits, se_X8_bits, _, _, rfl⟩
abbrev mX9_entry : Mm := (yX9_entry, cX9_entry, 7, (Option.some .int), RX9)
theorem pn_X9_entry : plainName (my mX9_entry).cls = true := by decide +kernel
theorem ok_X9_entry : zMokV mX9_entry 4 8 := ⟨⟨rfl, ⟨by decide +kernel, by decide +kernel, by decide +kernel⟩, ini_X9, co_X9_entry⟩, im_X9_entry, se_X9_entry, _, _, rfl⟩
abbrev mX9_isEntry : Mm := (yX9_isEntry, cX9_isEntry, 3, (Option.some .boolean), RX9)
theorem pn_X9_isEntry : plainName (my mX9_isEntry).cls = true := by decide +kernel
theorem ok_X9_isEntry : zMokV mX9_isEntry 2 8 := ⟨⟨rfl, ⟨by decide +kernel, by decide +kernel, by decide +kernel⟩, ini_X9, co_X9_isEntry⟩, im_X9_isEntry, se_X9_isEntry, _, _, rfl⟩
abbrev mX9_entryAt : Mm := (yX9_entryAt, cX9_entryAt, 3, (Option.some (.object "FractionRows$Fraction")), RX9)
theorem pn_X9_entryAt : plainName (my mX9_entryAt).cls = true := by decide +kernel
theorem ok_X9_entryAt : zMokV mX9_entryAt 2 8 := ⟨⟨rfl, ⟨by decide +kernel, by decide +kernel, by decide +kernel⟩, ini_X9, co_X9_entryAt⟩, im_X9_entryAt, se_X9_entryAt, _, _, rfl⟩
abbrev mX9_put : Mm := (yX9_put, cX9_put, 4, (Option.some .int), RX9)
theorem pn_X9_put : plainName (my mX9_put).cls = true := by decide +kernel
theorem ok_X9_put : zMokV mX9_put 3 8 := ⟨⟨rfl, ⟨by decide +kernel, by decide +kernel, by decide +kernel⟩, ini_X9, co_X9_put⟩, im_X9_put, se_X9_put, _, _, rfl⟩
abbrev mX3_copy : Mm := (yX3_copy, cX3_copy, 2, (Option.none : Option Jvm.ClassFile.FieldType), RX3)
theorem pn_X3_copy : plainName (my mX3_copy).cls = true := by decide +kernel
theorem ok_X3_copy : zMokV mX3_copy 1 3 := ⟨⟨rfl, ⟨by decide +kernel, by decide +kernel, by decide +kernel⟩, ini_X3, co_X3_copy⟩, im_X3_copy, se_X3_copy, _, _, rfl⟩
abbrev mX9_take : Mm := (yX9_take, cX9_take, 3, (Option.some .int), RX9)
theorem pn_X9_take : plainName (my mX9_take).cls = true := by decide +kernel
theorem ok_X9_take : zMokV mX9_take 2 8 := ⟨⟨rfl, ⟨by decide +kernel, by decide +kernel, by decide +kernel⟩, ini_X9, co_X9_take⟩, im_X9_take, se_X9_take, _, _, rfl⟩
abbrev mX9_keepCopy : Mm := (yX9_keepCopy, cX9_keepCopy, 2, (Option.some .int), RX9)
theorem pn_X9_keepCopy : plainName (my mX9_keepCopy).cls = true := by decide +kernel
theorem ok_X9_keepCopy : zMokV mX9_keepCopy 1 8 := ⟨⟨rfl, ⟨by decide +kernel, by decide +kernel, by decide +kernel⟩, ini_X9, co_X9_keepCopy⟩, im_X9_keepCopy, se_X9_keepCopy, _, _, rfl⟩
abbrev mX9_solve : Mm := (yX9_solve, cX9_solve, 2, (Option.some .int), RX9)
theorem pn_X9_solve : plainName (my mX9_solve).cls = true := by decide +kernel
theorem ok_X9_solve : zMokV mX9_solve 1 8 := ⟨⟨rfl, ⟨by decide +kernel, by decide +kernel, by decide +kernel⟩, ini_X9, co_X9_solve⟩, im_X9_solve, se_X9_solve, _, _, rfl⟩
abbrev mX6_forget : Mm := (yX6_forget, cX6_forget, 1, (Option.none : Option Jvm.ClassFile.FieldType), RX6)
theorem pn_X6_forget : plainName (my mX6_forget).cls = true := by decide +kernel
theorem ok_X6_forget : zMokV mX6_forget 0 5 := ⟨⟨rfl, ⟨by decide +kernel, by decide +kernel, by decide +kernel⟩, ini_X6, co_X6_forget⟩, im_X6_forget, se_X6_forget, _, _, rfl⟩
abbrev mX2_run : Mm := (yX2_run, cX2_run, 7, (Option.some .boolean), RX2)
theorem pn_X2_run : plainName (my mX2_run).cls = true := by decide +kernel
theorem ok_X2_run : zMokV mX2_run 3 2 := ⟨⟨rfl, ⟨by decide +kernel, by decide +kernel, by decide +kernel⟩, ini_X2, co_X2_run⟩, im_X2_run, se_X2_run, _, _, rfl⟩
abbrev mX2_begin : Mm := (yX2_begin, cX2_begin, 3, (Option.none : Option Jvm.ClassFile.FieldType), RX2)
theorem pn_X2_begin : plainName (my mX2_begin).cls = true := by decide +kernel
theorem ok_X2_begin : zMokV mX2_begin 1 2 := ⟨⟨rfl, ⟨by decide +kernel, by decide +kernel, by decide +kernel⟩, ini_X2, co_X2_begin⟩, im_X2_begin, se_X2_begin, _, _, rfl⟩
abbrev mX2_choose : Mm := (yX2_choose, cX2_choose, 5, (Option.some .int), RX2)
theorem pn_X2_choose : plainName (my mX2_choose).cls = true := by decide +kernel
theorem ok_X2_choose : zMokV mX2_choose 2 2 := ⟨⟨rfl, ⟨by decide +kernel, by decide +kernel, by decide +kernel⟩, ini_X2, co_X2_choose⟩, im_X2_choose, se_X2_choose, _, _, rfl⟩
abbrev mX2_at : Mm := (yX2_at, cX2_at, 3, (Option.some (.object "FractionRows$Fraction")), RX2)
theorem pn_X2_at : plainName (my mX2_at).cls = true := by decide +kernel
theorem ok_X2_at : zMokV mX2_at 2 2 := ⟨⟨rfl, ⟨by decide +kernel, by decide +kernel, by decide +kernel⟩, ini_X2, co_X2_at⟩, im_X2_at, se_X2_at, _, _, rfl⟩
abbrev mX2_bring : Mm := (yX2_bring, cX2_bring, 4, (Option.none : Option Jvm.ClassFile.FieldType), RX2)
theorem pn_X2_bring : plainName (my mX2_bring).cls = true := by decide +kernel
theorem ok_X2_bring : zMokV mX2_bring 2 2 := ⟨⟨rfl, ⟨by decide +kernel, by decide +kernel, by decide +kernel⟩, ini_X2, co_X2_bring⟩, im_X2_bring, se_X2_bring, _, _, rfl⟩
abbrev mX2_clearColumn : Mm := (yX2_clearColumn, cX2_clearColumn, 7, (Option.some .boolean), RX2)
theorem pn_X2_clearColumn : plainName (my mX2_clearColumn).cls = true := by decide +kernel
theorem ok_X2_clearColumn : zMokV mX2_clearColumn 3 2 := ⟨⟨rfl, ⟨by decide +kernel, by decide +kernel, by decide +kernel⟩, ini_X2, co_X2_clearColumn⟩, im_X2_clearColumn, se_X2_clearColumn, _, _, rfl⟩
abbrev mX3_setZero : Mm := (yX3_setZero, cX3_setZero, 1, (Option.none : Option Jvm.ClassFile.FieldType), RX3)
theorem pn_X3_setZero : plainName (my mX3_setZero).cls = true := by decide +kernel
theorem ok_X3_setZero : zMokV mX3_setZero 0 3 := ⟨⟨rfl, ⟨by decide +kernel, by decide +kernel, by decide +kernel⟩, ini_X3, co_X3_setZero⟩, im_X3_setZero, se_X3_setZero, _, _, rfl⟩
abbrev mX6_fill : Mm := (yX6_fill, cX6_fill, 3, (Option.some .boolean), RX6)
theorem pn_X6_fill : plainName (my mX6_fill).cls = true := by decide +kernel
theorem ok_X6_fill : zMokV mX6_fill 1 5 := ⟨⟨rfl, ⟨by decide +kernel, by decide +kernel, by decide +kernel⟩, ini_X6, co_X6_fill⟩, im_X6_fill, se_X6_fill, _, _, rfl⟩
abbrev mX2_pivotAt : Mm := (yX2_pivotAt, cX2_pivotAt, 2, (Option.some (.object "FractionRows$Fraction")), RX2)
theorem pn_X2_pivotAt : plainName (my mX2_pivotAt).cls = true := by decide +kernel
theorem ok_X2_pivotAt : zMokV mX2_pivotAt 1 2 := ⟨⟨rfl, ⟨by decide +kernel, by decide +kernel, by decide +kernel⟩, ini_X2, co_X2_pivotAt⟩, im_X2_pivotAt, se_X2_pivotAt, _, _, rfl⟩
abbrev mX2_hasAnswers : Mm := (yX2_hasAnswers, cX2_hasAnswers, 2, (Option.some .boolean), RX2)
theorem pn_X2_hasAnswers : plainName (my mX2_hasAnswers).cls = true := by decide +kernel
theorem ok_X2_hasAnswers : zMokV mX2_hasAnswers 0 2 := ⟨⟨rfl, ⟨by decide +kernel, by decide +kernel, by decide +kernel⟩, ini_X2, co_X2_hasAnswers⟩, im_X2_hasAnswers, se_X2_hasAnswers, _, _, rfl⟩
abbrev mX2_findUnknowns : Mm := (yX2_findUnknowns, cX2_findUnknowns, 6, (Option.some .boolean), RX2)
theorem pn_X2_findUnknowns : plainName (my mX2_findUnknowns).cls = true := by decide +kernel
theorem ok_X2_findUnknowns : zMokV mX2_findUnknowns 1 2 := ⟨⟨rfl, ⟨by decide +kernel, by decide +kernel, by decide +kernel⟩, ini_X2, co_X2_findUnknowns⟩, im_X2_findUnknowns, se_X2_findUnknowns, _, _, rfl⟩
abbrev mX9_answers : Mm := (yX9_answers, cX9_answers, 1, (Option.some .int), RX9)
theorem pn_X9_answers : plainName (my mX9_answers).cls = true := by decide +kernel
theorem ok_X9_answers : zMokV mX9_answers 0 8 := ⟨⟨rfl, ⟨by decide +kernel, by decide +kernel, by decide +kernel⟩, ini_X9, co_X9_answers⟩, im_X9_answers, se_X9_answers, _, _, rfl⟩
abbrev mX9_unknown : Mm := (yX9_unknown, cX9_unknown, 2, (Option.some .int), RX9)
theorem pn_X9_unknown : plainName (my mX9_unknown).cls = true := by decide +kernel
theorem ok_X9_unknown : zMokV mX9_unknown 1 8 := ⟨⟨rfl, ⟨by decide +kernel, by decide +kernel, by decide +kernel⟩, ini_X9, co_X9_unknown⟩, im_X9_unknown, se_X9_unknown, _, _, rfl⟩
abbrev mX6_tellsUnknowns : Mm := (yX6_tellsUnknowns, cX6_tellsUnknowns, 1, (Option.some .boolean), RX6)
theorem pn_X6_tellsUnknowns : plainName (my mX6_tellsUnknowns).cls = true := by decide +kernel
theorem ok_X6_tellsUnknowns : zMokV mX6_tellsUnknowns 0 5 := ⟨⟨rfl, ⟨by decide +kernel, by decide +kernel, by decide +kernel⟩, ini_X6, co_X6_tellsUnknowns⟩, im_X6_tellsUnknowns, se_X6_tellsUnknowns, _, _, rfl⟩
abbrev mX9_pivot : Mm := (yX9_pivot, cX9_pivot, 3, (Option.some .int), RX9)
theorem pn_X9_pivot : plainName (my mX9_pivot).cls = true := by decide +kernel
theorem ok_X9_pivot : zMokV mX9_pivot 2 8 := ⟨⟨rfl, ⟨by decide +kernel, by decide +kernel, by decide +kernel⟩, ini_X9, co_X9_pivot⟩, im_X9_pivot, se_X9_pivot, _, _, rfl⟩
abbrev mX9_holds : Mm := (yX9_holds, cX9_holds, 2, (Option.some .int), RX9)
theorem pn_X9_holds : plainName (my mX9_holds).cls = true := by decide +kernel
theorem ok_X9_holds : zMokV mX9_holds 1 8 := ⟨⟨rfl, ⟨by decide +kernel, by decide +kernel, by decide +kernel⟩, ini_X9, co_X9_holds⟩, im_X9_holds, se_X9_holds, _, _, rfl⟩
abbrev mX6_addUp : Mm := (yX6_addUp, cX6_addUp, 5, (Option.some .boolean), RX6)
theorem pn_X6_addUp : plainName (my mX6_addUp).cls = true := by decide +kernel
theorem ok_X6_addUp : zMokV mX6_addUp 2 5 := ⟨⟨rfl, ⟨by decide +kernel, by decide +kernel, by decide +kernel⟩, ini_X6, co_X6_addUp⟩, im_X6_addUp, se_X6_addUp, _, _, rfl⟩
abbrev mX9_determinant : Mm := (yX9_determinant, cX9_determinant, 3, (Option.some .int), RX9)
theorem pn_X9_determinant : plainName (my mX9_determinant).cls = true := by decide +kernel
theorem ok_X9_determinant : zMokV mX9_determinant 1 8 := ⟨⟨rfl, ⟨by decide +kernel, by decide +kernel, by decide +kernel⟩, ini_X9, co_X9_determinant⟩, im_X9_determinant, se_X9_determinant, _, _, rfl⟩
abbrev mX1_addOrders : Mm := (yX1_addOrders, cX1_addOrders, 4, (Option.some .boolean), RX1)
theorem pn_X1_addOrders : plainName (my mX1_addOrders).cls = true := by decide +kernel
theorem ok_X1_addOrders : zMokV mX1_addOrders 2 1 := ⟨⟨rfl, ⟨by decide +kernel, by decide +kernel, by decide +kernel⟩, ini_X1, co_X1_addOrders⟩, im_X1_addOrders, se_X1_addOrders, _, _, rfl⟩
abbrev mX1_meetsZero : Mm := (yX1_meetsZero, cX1_meetsZero, 3, (Option.some .boolean), RX1)
theorem pn_X1_meetsZero : plainName (my mX1_meetsZero).cls = true := by decide +kernel
theorem ok_X1_meetsZero : zMokV mX1_meetsZero 1 1 := ⟨⟨rfl, ⟨by decide +kernel, by decide +kernel, by decide +kernel⟩, ini_X1, co_X1_meetsZero⟩, im_X1_meetsZero, se_X1_meetsZero, _, _, rfl⟩
abbrev mX1_inRow : Mm := (yX1_inRow, cX1_inRow, 3, (Option.some (.object "FractionRows$Fraction")), RX1)
theorem pn_X1_inRow : plainName (my mX1_inRow).cls = true := by decide +kernel
theorem ok_X1_inRow : zMokV mX1_inRow 2 1 := ⟨⟨rfl, ⟨by decide +kernel, by decide +kernel, by decide +kernel⟩, ini_X1, co_X1_inRow⟩, im_X1_inRow, se_X1_inRow, _, _, rfl⟩
abbrev mX1_addOrder : Mm := (yX1_addOrder, cX1_addOrder, 4, (Option.some .boolean), RX1)
theorem pn_X1_addOrder : plainName (my mX1_addOrder).cls = true := by decide +kernel
theorem ok_X1_addOrder : zMokV mX1_addOrder 2 1 := ⟨⟨rfl, ⟨by decide +kernel, by decide +kernel, by decide +kernel⟩, ini_X1, co_X1_addOrder⟩, im_X1_addOrder, se_X1_addOrder, _, _, rfl⟩
abbrev mX1_fallsOddly : Mm := (yX1_fallsOddly, cX1_fallsOddly, 4, (Option.some .boolean), RX1)
theorem pn_X1_fallsOddly : plainName (my mX1_fallsOddly).cls = true := by decide +kernel
theorem ok_X1_fallsOddly : zMokV mX1_fallsOddly 0 1 := ⟨⟨rfl, ⟨by decide +kernel, by decide +kernel, by decide +kernel⟩, ini_X1, co_X1_fallsOddly⟩, im_X1_fallsOddly, se_X1_fallsOddly, _, _, rfl⟩
abbrev mX1_goOn : Mm := (yX1_goOn, cX1_goOn, 5, (Option.some .boolean), RX1)
theorem pn_X1_goOn : plainName (my mX1_goOn).cls = true := by decide +kernel
theorem ok_X1_goOn : zMokV mX1_goOn 0 1 := ⟨⟨rfl, ⟨by decide +kernel, by decide +kernel, by decide +kernel⟩, ini_X1, co_X1_goOn⟩, im_X1_goOn, se_X1_goOn, _, _, rfl⟩
abbrev mX1_swap : Mm := (yX1_swap, cX1_swap, 4, (Option.none : Option Jvm.ClassFile.FieldType), RX1)
theorem pn_X1_swap : plainName (my mX1_swap).cls = true := by decide +kernel
theorem ok_X1_swap : zMokV mX1_swap 2 1 := ⟨⟨rfl, ⟨by decide +kernel, by decide +kernel, by decide +kernel⟩, ini_X1, co_X1_swap⟩, im_X1_swap, se_X1_swap, _, _, rfl⟩
abbrev mX1_multiplyPivots : Mm := (yX1_multiplyPivots, cX1_multiplyPivots, 4, (Option.some .boolean), RX1)
theorem pn_X1_multiplyPivots : plainName (my mX1_multiplyPivots).cls = true := by decide +kernel
theorem ok_X1_multiplyPivots : zMokV mX1_multiplyPivots 2 1 := ⟨⟨rfl, ⟨by decide +kernel, by decide +kernel, by decide +kernel⟩, ini_X1, co_X1_multiplyPivots⟩, im_X1_multiplyPivots, se_X1_multiplyPivots, _, _, rfl⟩
abbrev mX3_negate : Mm := (yX3_negate, cX3_negate, 1, (Option.none : Option Jvm.ClassFile.FieldType), RX3)
theorem pn_X3_negate : plainName (my mX3_negate).cls = true := by decide +kernel
theorem ok_X3_negate : zMokV mX3_negate 0 3 := ⟨⟨rfl, ⟨by decide +kernel, by decide +kernel, by decide +kernel⟩, ini_X3, co_X3_negate⟩, im_X3_negate, se_X3_negate, _, _, rfl⟩
abbrev mX9_rest : Mm := (yX9_rest, cX9_rest, 6, (Option.some .int), RX9)
theorem pn_X9_rest : plainName (my mX9_rest).cls = true := by decide +kernel
theorem ok_X9_rest : zMokV mX9_rest 2 8 := ⟨⟨rfl, ⟨by decide +kernel, by decide +kernel, by decide +kernel⟩, ini_X9, co_X9_rest⟩, im_X9_rest, se_X9_rest, _, _, rfl⟩
abbrev mX5_isPrime : Mm := (yX5_isPrime, cX5_isPrime, 2, (Option.some .boolean), RX5)
theorem pn_X5_isPrime : plainName (my mX5_isPrime).cls = true := by decide +kernel
theorem ok_X5_isPrime : zMokS mX5_isPrime 1 := ⟨⟨rfl, ⟨by decide +kernel, by decide +kernel, by decide +kernel⟩, ini_X5, co_X5_isPrime⟩, stc_X5_isPrime⟩
abbrev mX5_passes : Mm := (yX5_passes, cX5_passes, 6, (Option.some .boolean), RX5)
theorem pn_X5_passes : plainName (my mX5_passes).cls = true := by decide +kernel
theorem ok_X5_passes : zMokS mX5_passes 2 := ⟨⟨rfl, ⟨by decide +kernel, by decide +kernel, by decide +kernel⟩, ini_X5, co_X5_passes⟩, stc_X5_passes⟩
abbrev mJ6_numberOfTrailingZeros_0f7a4 : Mm := (yJ6_numberOfTrailingZeros_0f7a4, cJ6_numberOfTrailingZeros_0f7a4, 2, (Option.some .int), RJ6)
theorem pn_J6_numberOfTrailingZeros_0f7a4 : plainName (my mJ6_numberOfTrailingZeros_0f7a4).cls = true := by decide +kernel
theorem ok_J6_numberOfTrailingZeros_0f7a4 : zMokS mJ6_numberOfTrailingZeros_0f7a4 1 := ⟨⟨rfl, ⟨by decide +kernel, by decide +kernel, by decide +kernel⟩, ini_J6, co_J6_numberOfTrailingZeros_0f7a4⟩, stc_J6_numberOfTrailingZeros_0f7a4⟩
abbrev mX5_power : Mm := (yX5_power, cX5_power, 9, (Option.some .long), RX5)
theorem pn_X5_power : plainName (my mX5_power).cls = true := by decide +kernel
theorem ok_X5_power : zMokS mX5_power 3 := ⟨⟨rfl, ⟨by decide +kernel, by decide +kernel, by decide +kernel⟩, ini_X5, co_X5_power⟩, stc_X5_power⟩
abbrev mX8_restBy : Mm := (yX8_restBy, cX8_restBy, 5, (Option.some .int), RX8)
theorem pn_X8_restBy : plainName (my mX8_restBy).cls = true := by decide +kernel
theorem ok_X8_restBy : zMokV mX8_restBy 1 7 := ⟨⟨rfl, ⟨by decide +kernel, by decide +kernel, by decide +kernel⟩, ini_X8, co_X8_restBy⟩, im_X8_restBy, se_X8_restBy, _, _, rfl⟩
abbrev mX5_inverse : Mm := (yX5_inverse, cX5_inverse, 2, (Option.some .long), RX5)
theorem pn_X5_inverse : plainName (my mX5_inverse).cls = true := by decide +kernel
theorem ok_X5_inverse : zMokS mX5_inverse 2 := ⟨⟨rfl, ⟨by decide +kernel, by decide +kernel, by decide +kernel⟩, ini_X5, co_X5_inverse⟩, stc_X5_inverse⟩
abbrev mX9_meet : Mm := (yX9_meet, cX9_meet, 3, (Option.some .int), RX9)
theorem pn_X9_meet : plainName (my mX9_meet).cls = true := by decide +kernel
theorem ok_X9_meet : zMokV mX9_meet 2 8 := ⟨⟨rfl, ⟨by decide +kernel, by decide +kernel, by decide +kernel⟩, ini_X9, co_X9_meet⟩, im_X9_meet, se_X9_meet, _, _, rfl⟩
abbrev mX4_has : Mm := (yX4_has, cX4_has, 2, (Option.some .boolean), RX4)
theorem pn_X4_has : plainName (my mX4_has).cls = true := by decide +kernel
theorem ok_X4_has : zMokV mX4_has 1 4 := ⟨⟨rfl, ⟨by decide +kernel, by decide +kernel, by decide +kernel⟩, ini_X4, co_X4_has⟩, im_X4_has, se_X4_has, _, _, rfl⟩
abbrev mX4_join : Mm := (yX4_join, cX4_join, 5, (Option.some .boolean), RX4)
theorem pn_X4_join : plainName (my mX4_join).cls = true := by decide +kernel
theorem ok_X4_join : zMokV mX4_join 2 4 := ⟨⟨rfl, ⟨by decide +kernel, by decide +kernel, by decide +kernel⟩, ini_X4, co_X4_join⟩, im_X4_join, se_X4_join, _, _, rfl⟩
abbrev mX8_scale : Mm := (yX8_scale, cX8_scale, 5, (Option.none : Option Jvm.ClassFile.FieldType), RX8)
theorem pn_X8_scale : plainName (my mX8_scale).cls = true := by decide +kernel
theorem ok_X8_scale : zMokV mX8_scale 1 7 := ⟨⟨rfl, ⟨by decide +kernel, by decide +kernel, by decide +kernel⟩, ini_X8, co_X8_scale⟩, im_X8_scale, se_X8_scale, _, _, rfl⟩
abbrev mX9_joined : Mm := (yX9_joined, cX9_joined, 2, (Option.some .int), RX9)
theorem pn_X9_joined : plainName (my mX9_joined).cls = true := by decide +kernel
theorem ok_X9_joined : zMokV mX9_joined 1 8 := ⟨⟨rfl, ⟨by decide +kernel, by decide +kernel, by decide +kernel⟩, ini_X9, co_X9_joined⟩, im_X9_joined, se_X9_joined, _, _, rfl⟩
abbrev mX3_setWhole : Mm := (yX3_setWhole, cX3_setWhole, 2, (Option.none : Option Jvm.ClassFile.FieldType), RX3)
theorem pn_X3_setWhole : plainName (my mX3_setWhole).cls = true := by decide +kernel
theorem ok_X3_setWhole : zMokV mX3_setWhole 1 3 := ⟨⟨rfl, ⟨by decide +kernel, by decide +kernel, by decide +kernel⟩, ini_X3, co_X3_setWhole⟩, im_X3_setWhole, se_X3_setWhole, _, _, rfl⟩
abbrev mX9_recover : Mm := (yX9_recover, cX9_recover, 1, (Option.some .int), RX9)
theorem pn_X9_recover : plainName (my mX9_recover).cls = true := by decide +kernel
theorem ok_X9_recover : zMokV mX9_recover 0 8 := ⟨⟨rfl, ⟨by decide +kernel, by decide +kernel, by decide +kernel⟩, ini_X9, co_X9_recover⟩, im_X9_recover, se_X9_recover, _, _, rfl⟩
abbrev mX4_tell : Mm := (yX4_tell, cX4_tell, 9, (Option.some .boolean), RX4)
theorem pn_X4_tell : plainName (my mX4_tell).cls = true := by decide +kernel
theorem ok_X4_tell : zMokV mX4_tell 1 4 := ⟨⟨rfl, ⟨by decide +kernel, by decide +kernel, by decide +kernel⟩, ini_X4, co_X4_tell⟩, im_X4_tell, se_X4_tell, _, _, rfl⟩
abbrev mX4_isLow : Mm := (yX4_isLow, cX4_isLow, 2, (Option.some .boolean), RX4)
theorem pn_X4_isLow : plainName (my mX4_isLow).cls = true := by decide +kernel
theorem ok_X4_isLow : zMokV mX4_isLow 1 4 := ⟨⟨rfl, ⟨by decide +kernel, by decide +kernel, by decide +kernel⟩, ini_X4, co_X4_isLow⟩, im_X4_isLow, se_X4_isLow, _, _, rfl⟩
abbrev mX0_haveNothingCommon : Mm := (yX0_haveNothingCommon, cX0_haveNothingCommon, 3, (Option.some .boolean), RX0)
theorem pn_X0_haveNothingCommon : plainName (my mX0_haveNothingCommon).cls = true := by decide +kernel
theorem ok_X0_haveNothingCommon : zMokV mX0_haveNothingCommon 2 0 := ⟨⟨rfl, ⟨by decide +kernel, by decide +kernel, by decide +kernel⟩, ini_X0, co_X0_haveNothingCommon⟩, im_X0_haveNothingCommon, se_X0_haveNothingCommon, _, _, rfl⟩
abbrev mX9_part : Mm := (yX9_part, cX9_part, 2, (Option.some .int), RX9)
theorem pn_X9_part : plainName (my mX9_part).cls = true := by decide +kernel
theorem ok_X9_part : zMokV mX9_part 0 8 := ⟨⟨rfl, ⟨by decide +kernel, by decide +kernel, by decide +kernel⟩, ini_X9, co_X9_part⟩, im_X9_part, se_X9_part, _, _, rfl⟩
abbrev mX4_forget : Mm := (yX4_forget, cX4_forget, 1, (Option.none : Option Jvm.ClassFile.FieldType), RX4)
theorem pn_X4_forget : plainName (my mX4_forget).cls = true := by decide +kernel
theorem ok_X4_forget : zMokV mX4_forget 0 4 := ⟨⟨rfl, ⟨by decide +kernel, by decide +kernel, by decide +kernel⟩, ini_X4, co_X4_forget⟩, im_X4_forget, se_X4_forget, _, _, rfl⟩
abbrev mX9_decimals : Mm := (yX9_decimals, cX9_decimals, 4, (Option.some .int), RX9)
theorem pn_X9_decimals : plainName (my mX9_decimals).cls = true := by decide +kernel
theorem ok_X9_decimals : zMokV mX9_decimals 3 8 := ⟨⟨rfl, ⟨by decide +kernel, by decide +kernel, by decide +kernel⟩, ini_X9, co_X9_decimals⟩, im_X9_decimals, se_X9_decimals, _, _, rfl⟩
abbrev mX7_write : Mm := (yX7_write, cX7_write, 6, (Option.none : Option Jvm.ClassFile.FieldType), RX7)
theorem pn_X7_write : plainName (my mX7_write).cls = true := by decide +kernel
theorem ok_X7_write : zMokV mX7_write 3 6 := ⟨⟨rfl, ⟨by decide +kernel, by decide +kernel, by decide +kernel⟩, ini_X7, co_X7_write⟩, im_X7_write, se_X7_write, _, _, rfl⟩
abbrev mX7_append : Mm := (yX7_append, cX7_append, 2, (Option.none : Option Jvm.ClassFile.FieldType), RX7)
theorem pn_X7_append : plainName (my mX7_append).cls = true := by decide +kernel
theorem ok_X7_append : zMokV mX7_append 1 6 := ⟨⟨rfl, ⟨by decide +kernel, by decide +kernel, by decide +kernel⟩, ini_X7, co_X7_append⟩, im_X7_append, se_X7_append, _, _, rfl⟩
abbrev mX8_shrinkBy : Mm := (yX8_shrinkBy, cX8_shrinkBy, 5, (Option.some .int), RX8)
theorem pn_X8_shrinkBy : plainName (my mX8_shrinkBy).cls = true := by decide +kernel
theorem ok_X8_shrinkBy : zMokV mX8_shrinkBy 1 7 := ⟨⟨rfl, ⟨by decide +kernel, by decide +kernel, by decide +kernel⟩, ini_X8, co_X8_shrinkBy⟩, im_X8_shrinkBy, se_X8_shrinkBy, _, _, rfl⟩
abbrev mX9_sign : Mm := (yX9_sign, cX9_sign, 2, (Option.some .int), RX9)
theorem pn_X9_sign : plainName (my mX9_sign).cls = true := by decide +kernel
theorem ok_X9_sign : zMokV mX9_sign 1 8 := ⟨⟨rfl, ⟨by decide +kernel, by decide +kernel, by decide +kernel⟩, ini_X9, co_X9_sign⟩, im_X9_sign, se_X9_sign, _, _, rfl⟩
abbrev mX9_count : Mm := (yX9_count, cX9_count, 2, (Option.some .int), RX9)
theorem pn_X9_count : plainName (my mX9_count).cls = true := by decide +kernel
theorem ok_X9_count : zMokV mX9_count 1 8 := ⟨⟨rfl, ⟨by decide +kernel, by decide +kernel, by decide +kernel⟩, ini_X9, co_X9_count⟩, im_X9_count, se_X9_count, _, _, rfl⟩
abbrev mX9_clear : Mm := (yX9_clear, cX9_clear, 3, (Option.some .int), RX9)
theorem pn_X9_clear : plainName (my mX9_clear).cls = true := by decide +kernel
theorem ok_X9_clear : zMokV mX9_clear 0 8 := ⟨⟨rfl, ⟨by decide +kernel, by decide +kernel, by decide +kernel⟩, ini_X9, co_X9_clear⟩, im_X9_clear, se_X9_clear, _, _, rfl⟩
abbrev mL_cell : Mm := (yL_cell, cL_cell, 2, (Option.some .int), RL)
theorem pn_L_cell : plainName (my mL_cell).cls = true := by decide +kernel
theorem ok_L_cell : zMokS mL_cell 2 := ⟨⟨rfl, ⟨by decide +kernel, by decide +kernel, by decide +kernel⟩, ini_L, co_L_cell⟩, stc_L_cell⟩
abbrev mX9_quotient : Mm := (yX9_quotient, cX9_quotient, 3, (Option.some .int), RX9)
theorem pn_X9_quotient : plainName (my mX9_quotient).cls = true := by decide +kernel
theorem ok_X9_quotient : zMokV mX9_quotient 2 8 := ⟨⟨rfl, ⟨by decide +kernel, by decide +kernel, by decide +kernel⟩, ini_X9, co_X9_quotient⟩, im_X9_quotient, se_X9_quotient, _, _, rfl⟩
abbrev mX9_limb : Mm := (yX9_limb, cX9_limb, 5, (Option.some .int), RX9)
theorem pn_X9_limb : plainName (my mX9_limb).cls = true := by decide +kernel
theorem ok_X9_limb : zMokV mX9_limb 3 8 := ⟨⟨rfl, ⟨by decide +kernel, by decide +kernel, by decide +kernel⟩, ini_X9, co_X9_limb⟩, im_X9_limb, se_X9_limb, _, _, rfl⟩
abbrev mX10_init : Mm := (yX10_init, cX10_init, 3, (Option.none : Option Jvm.ClassFile.FieldType), RX10)
theorem pn_X10_init : plainName (my mX10_init).cls = true := by decide +kernel
theorem ok_X10_init : zMok mX10_init 1 := ⟨rfl, ⟨by decide +kernel, by decide +kernel, by decide +kernel⟩, ini_X10, co_X10_init⟩
abbrev mX10_nothing : Mm := (yX10_nothing, cX10_nothing, 2, (Option.none : Option Jvm.ClassFile.FieldType), RX10)
theorem pn_X10_nothing : plainName (my mX10_nothing).cls = true := by decide +kernel
theorem ok_X10_nothing : zMokV mX10_nothing 1 9 := ⟨⟨rfl, ⟨by decide +kernel, by decide +kernel, by decide +kernel⟩, ini_X10, co_X10_nothing⟩, im_X10_nothing, se_X10_nothing, _, _, rfl⟩
abbrev mX10_wipe : Mm := (yX10_wipe, cX10_wipe, 3, (Option.none : Option Jvm.ClassFile.FieldType), RX10)
theorem pn_X10_wipe : plainName (my mX10_wipe).cls = true := by decide +kernel
theorem ok_X10_wipe : zMokV mX10_wipe 1 9 := ⟨⟨rfl, ⟨by decide +kernel, by decide +kernel, by decide +kernel⟩, ini_X10, co_X10_wipe⟩, im_X10_wipe, se_X10_wipe, _, _, rfl⟩
abbrev mX10_thrown : Mm := (yX10_thrown, cX10_thrown, 1, (Option.some .int), RX10)
theorem pn_X10_thrown : plainName (my mX10_thrown).cls = true := by decide +kernel
theorem ok_X10_thrown : zMokV mX10_thrown 0 9 := ⟨⟨rfl, ⟨by decide +kernel, by decide +kernel, by decide +kernel⟩, ini_X10, co_X10_thrown⟩, im_X10_thrown, se_X10_thrown, _, _, rfl⟩
abbrev mX10_value : Mm := (yX10_value, cX10_value, 5, (Option.some .int), RX10)
theorem pn_X10_value : plainName (my mX10_value).cls = true := by decide +kernel
theorem ok_X10_value : zMokV mX10_value 2 9 := ⟨⟨rfl, ⟨by decide +kernel, by decide +kernel, by decide +kernel⟩, ini_X10, co_X10_value⟩, im_X10_value, se_X10_value, _, _, rfl⟩
abbrev mX10_setFraction : Mm := (yX10_setFraction, cX10_setFraction, 7, (Option.none : Option Jvm.ClassFile.FieldType), RX10)
theorem pn_X10_setFraction : plainName (my mX10_setFraction).cls = true := by decide +kernel
theorem ok_X10_setFraction : zMokV mX10_setFraction 3 9 := ⟨⟨rfl, ⟨by decide +kernel, by decide +kernel, by decide +kernel⟩, ini_X10, co_X10_setFraction⟩, im_X10_setFraction, se_X10_setFraction, _, _, rfl⟩
abbrev mX10_setLong : Mm := (yX10_setLong, cX10_setLong, 6, (Option.none : Option Jvm.ClassFile.FieldType), RX10)
theorem pn_X10_setLong : plainName (my mX10_setLong).cls = true := by decide +kernel
theorem ok_X10_setLong : zMokV mX10_setLong 2 9 := ⟨⟨rfl, ⟨by decide +kernel, by decide +kernel, by decide +kernel⟩, ini_X10, co_X10_setLong⟩, im_X10_setLong, se_X10_setLong, _, _, rfl⟩
abbrev mX10_lowest : Mm := (yX10_lowest, cX10_lowest, 2, (Option.some .boolean), RX10)
theorem pn_X10_lowest : plainName (my mX10_lowest).cls = true := by decide +kernel
theorem ok_X10_lowest : zMokV mX10_lowest 1 9 := ⟨⟨rfl, ⟨by decide +kernel, by decide +kernel, by decide +kernel⟩, ini_X10, co_X10_lowest⟩, im_X10_lowest, se_X10_lowest, _, _, rfl⟩
abbrev mX10_isZero : Mm := (yX10_isZero, cX10_isZero, 2, (Option.some .boolean), RX10)
theorem pn_X10_isZero : plainName (my mX10_isZero).cls = true := by decide +kernel
theorem ok_X10_isZero : zMokV mX10_isZero 1 9 := ⟨⟨rfl, ⟨by decide +kernel, by decide +kernel, by decide +kernel⟩, ini_X10, co_X10_isZero⟩, im_X10_isZero, se_X10_isZero, _, _, rfl⟩
abbrev mX10_topOf : Mm := (yX10_topOf, cX10_topOf, 3, (Option.some .int), RX10)
theorem pn_X10_topOf : plainName (my mX10_topOf).cls = true := by decide +kernel
theorem ok_X10_topOf : zMokV mX10_topOf 1 9 := ⟨⟨rfl, ⟨by decide +kernel, by decide +kernel, by decide +kernel⟩, ini_X10, co_X10_topOf⟩, im_X10_topOf, se_X10_topOf, _, _, rfl⟩
abbrev mX10_isOne : Mm := (yX10_isOne, cX10_isOne, 2, (Option.some .boolean), RX10)
theorem pn_X10_isOne : plainName (my mX10_isOne).cls = true := by decide +kernel
theorem ok_X10_isOne : zMokV mX10_isOne 1 9 := ⟨⟨rfl, ⟨by decide +kernel, by decide +kernel, by decide +kernel⟩, ini_X10, co_X10_isOne⟩, im_X10_isOne, se_X10_isOne, _, _, rfl⟩
abbrev mX10_divisor : Mm := (yX10_divisor, cX10_divisor, 10, (Option.none : Option Jvm.ClassFile.FieldType), RX10)
theorem pn_X10_divisor : plainName (my mX10_divisor).cls = true := by decide +kernel
theorem ok_X10_divisor : zMokV mX10_divisor 2 9 := ⟨⟨rfl, ⟨by decide +kernel, by decide +kernel, by decide +kernel⟩, ini_X10, co_X10_divisor⟩, im_X10_divisor, se_X10_divisor, _, _, rfl⟩
abbrev mX10_carryOver : Mm := (yX10_carryOver, cX10_carryOver, 4, (Option.none : Option Jvm.ClassFile.FieldType), RX10)
theorem pn_X10_carryOver : plainName (my mX10_carryOver).cls = true := by decide +kernel
theorem ok_X10_carryOver : zMokV mX10_carryOver 2 9 := ⟨⟨rfl, ⟨by decide +kernel, by decide +kernel, by decide +kernel⟩, ini_X10, co_X10_carryOver⟩, im_X10_carryOver, se_X10_carryOver, _, _, rfl⟩
abbrev mX10_halved : Mm := (yX10_halved, cX10_halved, 8, (Option.some .int), RX10)
theorem pn_X10_halved : plainName (my mX10_halved).cls = true := by decide +kernel
theorem ok_X10_halved : zMokV mX10_halved 1 9 := ⟨⟨rfl, ⟨by decide +kernel, by decide +kernel, by decide +kernel⟩, ini_X10, co_X10_halved⟩, im_X10_halved, se_X10_halved, _, _, rfl⟩
abbrev mX10_orderOf : Mm := (yX10_orderOf, cX10_orderOf, 6, (Option.some .int), RX10)
theorem pn_X10_orderOf : plainName (my mX10_orderOf).cls = true := by decide +kernel
theorem ok_X10_orderOf : zMokV mX10_orderOf 2 9 := ⟨⟨rfl, ⟨by decide +kernel, by decide +kernel, by decide +kernel⟩, ini_X10, co_X10_orderOf⟩, im_X10_orderOf, se_X10_orderOf, _, _, rfl⟩
abbrev mX10_minus : Mm := (yX10_minus, cX10_minus, 7, (Option.none : Option Jvm.ClassFile.FieldType), RX10)
theorem pn_X10_minus : plainName (my mX10_minus).cls = true := by decide +kernel
theorem ok_X10_minus : zMokV mX10_minus 2 9 := ⟨⟨rfl, ⟨by decide +kernel, by decide +kernel, by decide +kernel⟩, ini_X10, co_X10_minus⟩, im_X10_minus, se_X10_minus, _, _, rfl⟩
abbrev mX10_twice : Mm := (yX10_twice, cX10_twice, 7, (Option.none : Option Jvm.ClassFile.FieldType), RX10)
theorem pn_X10_twice : plainName (my mX10_twice).cls = true := by decide +kernel
theorem ok_X10_twice : zMokV mX10_twice 2 9 := ⟨⟨rfl, ⟨by decide +kernel, by decide +kernel, by decide +kernel⟩, ini_X10, co_X10_twice⟩, im_X10_twice, se_X10_twice, _, _, rfl⟩
abbrev mX10_divide : Mm := (yX10_divide, cX10_divide, 6, (Option.none : Option Jvm.ClassFile.FieldType), RX10)
theorem pn_X10_divide : plainName (my mX10_divide).cls = true := by decide +kernel
theorem ok_X10_divide : zMokV mX10_divide 4 9 := ⟨⟨rfl, ⟨by decide +kernel, by decide +kernel, by decide +kernel⟩, ini_X10, co_X10_divide⟩, im_X10_divide, se_X10_divide, _, _, rfl⟩
abbrev mX10_bitsOf : Mm := (yX10_bitsOf, cX10_bitsOf, 5, (Option.some .int), RX10)
theorem pn_X10_bitsOf : plainName (my mX10_bitsOf).cls = true := by decide +kernel
theorem ok_X10_bitsOf : zMokV mX10_bitsOf 1 9 := ⟨⟨rfl, ⟨by decide +kernel, by decide +kernel, by decide +kernel⟩, ini_X10, co_X10_bitsOf⟩, im_X10_bitsOf, se_X10_bitsOf, _, _, rfl⟩
abbrev mX10_bitAt : Mm := (yX10_bitAt, cX10_bitAt, 3, (Option.some .int), RX10)
theorem pn_X10_bitAt : plainName (my mX10_bitAt).cls = true := by decide +kernel
theorem ok_X10_bitAt : zMokV mX10_bitAt 2 9 := ⟨⟨rfl, ⟨by decide +kernel, by decide +kernel, by decide +kernel⟩, ini_X10, co_X10_bitAt⟩, im_X10_bitAt, se_X10_bitAt, _, _, rfl⟩
abbrev mX10_kept : Mm := (yX10_kept, cX10_kept, 1, (Option.some .int), RX10)
theorem pn_X10_kept : plainName (my mX10_kept).cls = true := by decide +kernel
theorem ok_X10_kept : zMokV mX10_kept 0 9 := ⟨⟨rfl, ⟨by decide +kernel, by decide +kernel, by decide +kernel⟩, ini_X10, co_X10_kept⟩, im_X10_kept, se_X10_kept, _, _, rfl⟩
abbrev mX10_act : Mm := (yX10_act, cX10_act, 5, (Option.some .int), RX10)
theorem pn_X10_act : plainName (my mX10_act).cls = true := by decide +kernel
theorem ok_X10_act : zMokV mX10_act 3 9 := ⟨⟨rfl, ⟨by decide +kernel, by decide +kernel, by decide +kernel⟩, ini_X10, co_X10_act⟩, im_X10_act, se_X10_act, _, _, rfl⟩
abbrev mX10_isIn : Mm := (yX10_isIn, cX10_isIn, 3, (Option.some .boolean), RX10)
theorem pn_X10_isIn : plainName (my mX10_isIn).cls = true := by decide +kernel
theorem ok_X10_isIn : zMokS mX10_isIn 3 := ⟨⟨rfl, ⟨by decide +kernel, by decide +kernel, by decide +kernel⟩, ini_X10, co_X10_isIn⟩, stc_X10_isIn⟩
abbrev mX10_isNumber : Mm := (yX10_isNumber, cX10_isNumber, 2, (Option.some .boolean), RX10)
theorem pn_X10_isNumber : plainName (my mX10_isNumber).cls = true := by decide +kernel
theorem ok_X10_isNumber : zMokV mX10_isNumber 1 9 := ⟨⟨rfl, ⟨by decide +kernel, by decide +kernel, by decide +kernel⟩, ini_X10, co_X10_isNumber⟩, im_X10_isNumber, se_X10_isNumber, _, _, rfl⟩
abbrev mX10_total : Mm := (yX10_total, cX10_total, 7, (Option.some .boolean), RX10)
theorem pn_X10_total : plainName (my mX10_total).cls = true := by decide +kernel
theorem ok_X10_total : zMokV mX10_total 4 9 := ⟨⟨rfl, ⟨by decide +kernel, by decide +kernel, by decide +kernel⟩, ini_X10, co_X10_total⟩, im_X10_total, se_X10_total, _, _, rfl⟩
abbrev mX10_times : Mm := (yX10_times, cX10_times, 14, (Option.none : Option Jvm.ClassFile.FieldType), RX10)
theorem pn_X10_times : plainName (my mX10_times).cls = true := by decide +kernel
theorem ok_X10_times : zMokV mX10_times 3 9 := ⟨⟨rfl, ⟨by decide +kernel, by decide +kernel, by decide +kernel⟩, ini_X10, co_X10_times⟩, im_X10_times, se_X10_times, _, _, rfl⟩
abbrev mX10_plus : Mm := (yX10_plus, cX10_plus, 7, (Option.none : Option Jvm.ClassFile.FieldType), RX10)
theorem pn_X10_plus : plainName (my mX10_plus).cls = true := by decide +kernel
theorem ok_X10_plus : zMokV mX10_plus 3 9 := ⟨⟨rfl, ⟨by decide +kernel, by decide +kernel, by decide +kernel⟩, ini_X10, co_X10_plus⟩, im_X10_plus, se_X10_plus, _, _, rfl⟩
abbrev mX10_product : Mm := (yX10_product, cX10_product, 5, (Option.some .boolean), RX10)
theorem pn_X10_product : plainName (my mX10_product).cls = true := by decide +kernel
theorem ok_X10_product : zMokV mX10_product 3 9 := ⟨⟨rfl, ⟨by decide +kernel, by decide +kernel, by decide +kernel⟩, ini_X10, co_X10_product⟩, im_X10_product, se_X10_product, _, _, rfl⟩
abbrev mX10_ratio : Mm := (yX10_ratio, cX10_ratio, 5, (Option.some .boolean), RX10)
theorem pn_X10_ratio : plainName (my mX10_ratio).cls = true := by decide +kernel
theorem ok_X10_ratio : zMokV mX10_ratio 3 9 := ⟨⟨rfl, ⟨by decide +kernel, by decide +kernel, by decide +kernel⟩, ini_X10, co_X10_ratio⟩, im_X10_ratio, se_X10_ratio, _, _, rfl⟩
abbrev mX10_asNumber : Mm := (yX10_asNumber, cX10_asNumber, 2, (Option.some .int), RX10)
theorem pn_X10_asNumber : plainName (my mX10_asNumber).cls = true := by decide +kernel
theorem ok_X10_asNumber : zMokV mX10_asNumber 1 9 := ⟨⟨rfl, ⟨by decide +kernel, by decide +kernel, by decide +kernel⟩, ini_X10, co_X10_asNumber⟩, im_X10_asNumber, se_X10_asNumber, _, _, rfl⟩
abbrev mX10_same : Mm := (yX10_same, cX10_same, 3, (Option.none : Option Jvm.ClassFile.FieldType), RX10)
theorem pn_X10_same : plainName (my mX10_same).cls = true := by decide +kernel
theorem ok_X10_same : zMokV mX10_same 2 9 := ⟨⟨rfl, ⟨by decide +kernel, by decide +kernel, by decide +kernel⟩, ini_X10, co_X10_same⟩, im_X10_same, se_X10_same, _, _, rfl⟩
abbrev mX10_grew : Mm := (yX10_grew, cX10_grew, 1, (Option.some .int), RX10)
theorem pn_X10_grew : plainName (my mX10_grew).cls = true := by decide +kernel
theorem ok_X10_grew : zMokV mX10_grew 0 9 := ⟨⟨rfl, ⟨by decide +kernel, by decide +kernel, by decide +kernel⟩, ini_X10, co_X10_grew⟩, im_X10_grew, se_X10_grew, _, _, rfl⟩
abbrev mX10_quotient : Mm := (yX10_quotient, cX10_quotient, 3, (Option.some .int), RX10)
theorem pn_X10_quotient : plainName (my mX10_quotient).cls = true := by decide +kernel
theorem ok_X10_quotient : zMokV mX10_quotient 2 9 := ⟨⟨rfl, ⟨by decide +kernel, by decide +kernel, by decide +kernel⟩, ini_X10, co_X10_quotient⟩, im_X10_quotient, se_X10_quotient, _, _, rfl⟩
abbrev mX10_drop : Mm := (yX10_drop, cX10_drop, 1, (Option.some .int), RX10)
theorem pn_X10_drop : plainName (my mX10_drop).cls = true := by decide +kernel
theorem ok_X10_drop : zMokV mX10_drop 0 9 := ⟨⟨rfl, ⟨by decide +kernel, by decide +kernel, by decide +kernel⟩, ini_X10, co_X10_drop⟩, im_X10_drop, se_X10_drop, _, _, rfl⟩
abbrev mX10_compare : Mm := (yX10_compare, cX10_compare, 3, (Option.some .int), RX10)
theorem pn_X10_compare : plainName (my mX10_compare).cls = true := by decide +kernel
theorem ok_X10_compare : zMokV mX10_compare 2 9 := ⟨⟨rfl, ⟨by decide +kernel, by decide +kernel, by decide +kernel⟩, ini_X10, co_X10_compare⟩, im_X10_compare, se_X10_compare, _, _, rfl⟩
abbrev mX10_about : Mm := (yX10_about, cX10_about, 3, (Option.some .int), RX10)
theorem pn_X10_about : plainName (my mX10_about).cls = true := by decide +kernel
theorem ok_X10_about : zMokV mX10_about 2 9 := ⟨⟨rfl, ⟨by decide +kernel, by decide +kernel, by decide +kernel⟩, ini_X10, co_X10_about⟩, im_X10_about, se_X10_about, _, _, rfl⟩
abbrev mX10_sizeOf : Mm := (yX10_sizeOf, cX10_sizeOf, 2, (Option.some .int), RX10)
theorem pn_X10_sizeOf : plainName (my mX10_sizeOf).cls = true := by decide +kernel
theorem ok_X10_sizeOf : zMokV mX10_sizeOf 1 9 := ⟨⟨rfl, ⟨by decide +kernel, by decide +kernel, by decide +kernel⟩, ini_X10, co_X10_sizeOf⟩, im_X10_sizeOf, se_X10_sizeOf, _, _, rfl⟩
abbrev mX10_limb : Mm := (yX10_limb, cX10_limb, 6, (Option.some .int), RX10)
theorem pn_X10_limb : plainName (my mX10_limb).cls = true := by decide +kernel
theorem ok_X10_limb : zMokV mX10_limb 3 9 := ⟨⟨rfl, ⟨by decide +kernel, by decide +kernel, by decide +kernel⟩, ini_X10, co_X10_limb⟩, im_X10_limb, se_X10_limb, _, _, rfl⟩
abbrev mX10_entry : Mm := (yX10_entry, cX10_entry, 7, (Option.some .int), RX10)
theorem pn_X10_entry : plainName (my mX10_entry).cls = true := by decide +kernel
theorem ok_X10_entry : zMokV mX10_entry 4 9 := ⟨⟨rfl, ⟨by decide +kernel, by decide +kernel, by decide +kernel⟩, ini_X10, co_X10_entry⟩, im_X10_entry, se_X10_entry, _, _, rfl⟩
abbrev mX10_isEntry : Mm := (yX10_isEntry, cX10_isEntry, 3, (Option.some .boolean), RX10)
theorem pn_X10_isEntry : plainName (my mX10_isEntry).cls = true := by decide +kernel
theorem ok_X10_isEntry : zMokV mX10_isEntry 2 9 := ⟨⟨rfl, ⟨by decide +kernel, by decide +kernel, by decide +kernel⟩, ini_X10, co_X10_isEntry⟩, im_X10_isEntry, se_X10_isEntry, _, _, rfl⟩
abbrev mX10_put : Mm := (yX10_put, cX10_put, 4, (Option.some .int), RX10)
theorem pn_X10_put : plainName (my mX10_put).cls = true := by decide +kernel
theorem ok_X10_put : zMokV mX10_put 3 9 := ⟨⟨rfl, ⟨by decide +kernel, by decide +kernel, by decide +kernel⟩, ini_X10, co_X10_put⟩, im_X10_put, se_X10_put, _, _, rfl⟩
abbrev mX10_take : Mm := (yX10_take, cX10_take, 3, (Option.some .int), RX10)
theorem pn_X10_take : plainName (my mX10_take).cls = true := by decide +kernel
theorem ok_X10_take : zMokV mX10_take 2 9 := ⟨⟨rfl, ⟨by decide +kernel, by decide +kernel, by decide +kernel⟩, ini_X10, co_X10_take⟩, im_X10_take, se_X10_take, _, _, rfl⟩
abbrev mX10_solve : Mm := (yX10_solve, cX10_solve, 4, (Option.some .int), RX10)
theorem pn_X10_solve : plainName (my mX10_solve).cls = true := by decide +kernel
theorem ok_X10_solve : zMokV mX10_solve 1 9 := ⟨⟨rfl, ⟨by decide +kernel, by decide +kernel, by decide +kernel⟩, ini_X10, co_X10_solve⟩, im_X10_solve, se_X10_solve, _, _, rfl⟩
abbrev mX10_eliminated : Mm := (yX10_eliminated, cX10_eliminated, 6, (Option.some .int), RX10)
theorem pn_X10_eliminated : plainName (my mX10_eliminated).cls = true := by decide +kernel
theorem ok_X10_eliminated : zMokV mX10_eliminated 2 9 := ⟨⟨rfl, ⟨by decide +kernel, by decide +kernel, by decide +kernel⟩, ini_X10, co_X10_eliminated⟩, im_X10_eliminated, se_X10_eliminated, _, _, rfl⟩
abbrev mX10_taken : Mm := (yX10_taken, cX10_taken, 6, (Option.some .int), RX10)
theorem pn_X10_taken : plainName (my mX10_taken).cls = true := by decide +kernel
theorem ok_X10_taken : zMokV mX10_taken 3 9 := ⟨⟨rfl, ⟨by decide +kernel, by decide +kernel, by decide +kernel⟩, ini_X10, co_X10_taken⟩, im_X10_taken, se_X10_taken, _, _, rfl⟩
abbrev mX10_exchange : Mm := (yX10_exchange, cX10_exchange, 4, (Option.none : Option Jvm.ClassFile.FieldType), RX10)
theorem pn_X10_exchange : plainName (my mX10_exchange).cls = true := by decide +kernel
theorem ok_X10_exchange : zMokV mX10_exchange 2 9 := ⟨⟨rfl, ⟨by decide +kernel, by decide +kernel, by decide +kernel⟩, ini_X10, co_X10_exchange⟩, im_X10_exchange, se_X10_exchange, _, _, rfl⟩
abbrev mX10_cleared : Mm := (yX10_cleared, cX10_cleared, 6, (Option.some .boolean), RX10)
theorem pn_X10_cleared : plainName (my mX10_cleared).cls = true := by decide +kernel
theorem ok_X10_cleared : zMokV mX10_cleared 3 9 := ⟨⟨rfl, ⟨by decide +kernel, by decide +kernel, by decide +kernel⟩, ini_X10, co_X10_cleared⟩, im_X10_cleared, se_X10_cleared, _, _, rfl⟩
abbrev mX10_answered : Mm := (yX10_answered, cX10_answered, 5, (Option.some .boolean), RX10)
theorem pn_X10_answered : plainName (my mX10_answered).cls = true := by decide +kernel
theorem ok_X10_answered : zMokV mX10_answered 1 9 := ⟨⟨rfl, ⟨by decide +kernel, by decide +kernel, by decide +kernel⟩, ini_X10, co_X10_answered⟩, im_X10_answered, se_X10_answered, _, _, rfl⟩
abbrev mX10_answers : Mm := (yX10_answers, cX10_answers, 1, (Option.some .int), RX10)
theorem pn_X10_answers : plainName (my mX10_answers).cls = true := by decide +kernel
theorem ok_X10_answers : zMokV mX10_answers 0 9 := ⟨⟨rfl, ⟨by decide +kernel, by decide +kernel, by decide +kernel⟩, ini_X10, co_X10_answers⟩, im_X10_answers, se_X10_answers, _, _, rfl⟩
abbrev mX10_unknown : Mm := (yX10_unknown, cX10_unknown, 2, (Option.some .int), RX10)
theorem pn_X10_unknown : plainName (my mX10_unknown).cls = true := by decide +kernel
theorem ok_X10_unknown : zMokV mX10_unknown 1 9 := ⟨⟨rfl, ⟨by decide +kernel, by decide +kernel, by decide +kernel⟩, ini_X10, co_X10_unknown⟩, im_X10_unknown, se_X10_unknown, _, _, rfl⟩
abbrev mX10_pivot : Mm := (yX10_pivot, cX10_pivot, 3, (Option.some .int), RX10)
theorem pn_X10_pivot : plainName (my mX10_pivot).cls = true := by decide +kernel
theorem ok_X10_pivot : zMokV mX10_pivot 2 9 := ⟨⟨rfl, ⟨by decide +kernel, by decide +kernel, by decide +kernel⟩, ini_X10, co_X10_pivot⟩, im_X10_pivot, se_X10_pivot, _, _, rfl⟩
abbrev mX10_holds : Mm := (yX10_holds, cX10_holds, 3, (Option.some .int), RX10)
theorem pn_X10_holds : plainName (my mX10_holds).cls = true := by decide +kernel
theorem ok_X10_holds : zMokV mX10_holds 1 9 := ⟨⟨rfl, ⟨by decide +kernel, by decide +kernel, by decide +kernel⟩, ini_X10, co_X10_holds⟩, im_X10_holds, se_X10_holds, _, _, rfl⟩
abbrev mX10_determinant : Mm := (yX10_determinant, cX10_determinant, 3, (Option.some .int), RX10)
theorem pn_X10_determinant : plainName (my mX10_determinant).cls = true := by decide +kernel
theorem ok_X10_determinant : zMokV mX10_determinant 1 9 := ⟨⟨rfl, ⟨by decide +kernel, by decide +kernel, by decide +kernel⟩, ini_X10, co_X10_determinant⟩, im_X10_determinant, se_X10_determinant, _, _, rfl⟩
abbrev mX10_byOrders : Mm := (yX10_byOrders, cX10_byOrders, 4, (Option.some .boolean), RX10)
theorem pn_X10_byOrders : plainName (my mX10_byOrders).cls = true := by decide +kernel
theorem ok_X10_byOrders : zMokV mX10_byOrders 0 9 := ⟨⟨rfl, ⟨by decide +kernel, by decide +kernel, by decide +kernel⟩, ini_X10, co_X10_byOrders⟩, im_X10_byOrders, se_X10_byOrders, _, _, rfl⟩
abbrev mX10_added : Mm := (yX10_added, cX10_added, 4, (Option.some .boolean), RX10)
theorem pn_X10_added : plainName (my mX10_added).cls = true := by decide +kernel
theorem ok_X10_added : zMokV mX10_added 0 9 := ⟨⟨rfl, ⟨by decide +kernel, by decide +kernel, by decide +kernel⟩, ini_X10, co_X10_added⟩, im_X10_added, se_X10_added, _, _, rfl⟩
abbrev mX10_isNext : Mm := (yX10_isNext, cX10_isNext, 6, (Option.some .boolean), RX10)
theorem pn_X10_isNext : plainName (my mX10_isNext).cls = true := by decide +kernel
theorem ok_X10_isNext : zMokV mX10_isNext 0 9 := ⟨⟨rfl, ⟨by decide +kernel, by decide +kernel, by decide +kernel⟩, ini_X10, co_X10_isNext⟩, im_X10_isNext, se_X10_isNext, _, _, rfl⟩
abbrev mX10_byPivots : Mm := (yX10_byPivots, cX10_byPivots, 4, (Option.some .boolean), RX10)
theorem pn_X10_byPivots : plainName (my mX10_byPivots).cls = true := by decide +kernel
theorem ok_X10_byPivots : zMokV mX10_byPivots 1 9 := ⟨⟨rfl, ⟨by decide +kernel, by decide +kernel, by decide +kernel⟩, ini_X10, co_X10_byPivots⟩, im_X10_byPivots, se_X10_byPivots, _, _, rfl⟩
abbrev mX10_rest : Mm := (yX10_rest, cX10_rest, 6, (Option.some .int), RX10)
theorem pn_X10_rest : plainName (my mX10_rest).cls = true := by decide +kernel
theorem ok_X10_rest : zMokV mX10_rest 2 9 := ⟨⟨rfl, ⟨by decide +kernel, by decide +kernel, by decide +kernel⟩, ini_X10, co_X10_rest⟩, im_X10_rest, se_X10_rest, _, _, rfl⟩
abbrev mX10_isPrime : Mm := (yX10_isPrime, cX10_isPrime, 3, (Option.some .boolean), RX10)
theorem pn_X10_isPrime : plainName (my mX10_isPrime).cls = true := by decide +kernel
theorem ok_X10_isPrime : zMokS mX10_isPrime 1 := ⟨⟨rfl, ⟨by decide +kernel, by decide +kernel, by decide +kernel⟩, ini_X10, co_X10_isPrime⟩, stc_X10_isPrime⟩
abbrev mX10_restBy : Mm := (yX10_restBy, cX10_restBy, 6, (Option.some .int), RX10)
theorem pn_X10_restBy : plainName (my mX10_restBy).cls = true := by decide +kernel
theorem ok_X10_restBy : zMokV mX10_restBy 2 9 := ⟨⟨rfl, ⟨by decide +kernel, by decide +kernel, by decide +kernel⟩, ini_X10, co_X10_restBy⟩, im_X10_restBy, se_X10_restBy, _, _, rfl⟩
abbrev mX10_inverse : Mm := (yX10_inverse, cX10_inverse, 7, (Option.some .int), RX10)
theorem pn_X10_inverse : plainName (my mX10_inverse).cls = true := by decide +kernel
theorem ok_X10_inverse : zMokS mX10_inverse 2 := ⟨⟨rfl, ⟨by decide +kernel, by decide +kernel, by decide +kernel⟩, ini_X10, co_X10_inverse⟩, stc_X10_inverse⟩
abbrev mX10_meet : Mm := (yX10_meet, cX10_meet, 6, (Option.some .int), RX10)
theorem pn_X10_meet : plainName (my mX10_meet).cls = true := by decide +kernel
theorem ok_X10_meet : zMokV mX10_meet 2 9 := ⟨⟨rfl, ⟨by decide +kernel, by decide +kernel, by decide +kernel⟩, ini_X10, co_X10_meet⟩, im_X10_meet, se_X10_meet, _, _, rfl⟩
abbrev mX10_joined : Mm := (yX10_joined, cX10_joined, 2, (Option.some .int), RX10)
theorem pn_X10_joined : plainName (my mX10_joined).cls = true := by decide +kernel
theorem ok_X10_joined : zMokV mX10_joined 1 9 := ⟨⟨rfl, ⟨by decide +kernel, by decide +kernel, by decide +kernel⟩, ini_X10, co_X10_joined⟩, im_X10_joined, se_X10_joined, _, _, rfl⟩
abbrev mX10_recover : Mm := (yX10_recover, cX10_recover, 2, (Option.some .int), RX10)
theorem pn_X10_recover : plainName (my mX10_recover).cls = true := by decide +kernel
theorem ok_X10_recover : zMokV mX10_recover 0 9 := ⟨⟨rfl, ⟨by decide +kernel, by decide +kernel, by decide +kernel⟩, ini_X10, co_X10_recover⟩, im_X10_recover, se_X10_recover, _, _, rfl⟩
abbrev mX10_isSmall : Mm := (yX10_isSmall, cX10_isSmall, 2, (Option.some .boolean), RX10)
theorem pn_X10_isSmall : plainName (my mX10_isSmall).cls = true := by decide +kernel
theorem ok_X10_isSmall : zMokV mX10_isSmall 1 9 := ⟨⟨rfl, ⟨by decide +kernel, by decide +kernel, by decide +kernel⟩, ini_X10, co_X10_isSmall⟩, im_X10_isSmall, se_X10_isSmall, _, _, rfl⟩
abbrev mX10_part : Mm := (yX10_part, cX10_part, 2, (Option.some .int), RX10)
theorem pn_X10_part : plainName (my mX10_part).cls = true := by decide +kernel
theorem ok_X10_part : zMokV mX10_part 0 9 := ⟨⟨rfl, ⟨by decide +kernel, by decide +kernel, by decide +kernel⟩, ini_X10, co_X10_part⟩, im_X10_part, se_X10_part, _, _, rfl⟩
abbrev mX10_decimals : Mm := (yX10_decimals, cX10_decimals, 6, (Option.some .int), RX10)
theorem pn_X10_decimals : plainName (my mX10_decimals).cls = true := by decide +kernel
theorem ok_X10_decimals : zMokV mX10_decimals 3 9 := ⟨⟨rfl, ⟨by decide +kernel, by decide +kernel, by decide +kernel⟩, ini_X10, co_X10_decimals⟩, im_X10_decimals, se_X10_decimals, _, _, rfl⟩
abbrev mX10_tenfold : Mm := (yX10_tenfold, cX10_tenfold, 6, (Option.none : Option Jvm.ClassFile.FieldType), RX10)
theorem pn_X10_tenfold : plainName (my mX10_tenfold).cls = true := by decide +kernel
theorem ok_X10_tenfold : zMokV mX10_tenfold 1 9 := ⟨⟨rfl, ⟨by decide +kernel, by decide +kernel, by decide +kernel⟩, ini_X10, co_X10_tenfold⟩, im_X10_tenfold, se_X10_tenfold, _, _, rfl⟩
abbrev mX10_say : Mm := (yX10_say, cX10_say, 2, (Option.none : Option Jvm.ClassFile.FieldType), RX10)
theorem pn_X10_say : plainName (my mX10_say).cls = true := by decide +kernel
theorem ok_X10_say : zMokV mX10_say 1 9 := ⟨⟨rfl, ⟨by decide +kernel, by decide +kernel, by decide +kernel⟩, ini_X10, co_X10_say⟩, im_X10_say, se_X10_say, _, _, rfl⟩
abbrev mX10_tenth : Mm := (yX10_tenth, cX10_tenth, 7, (Option.some .int), RX10)
theorem pn_X10_tenth : plainName (my mX10_tenth).cls = true := by decide +kernel
theorem ok_X10_tenth : zMokV mX10_tenth 1 9 := ⟨⟨rfl, ⟨by decide +kernel, by decide +kernel, by decide +kernel⟩, ini_X10, co_X10_tenth⟩, im_X10_tenth, se_X10_tenth, _, _, rfl⟩
abbrev mX10_sign : Mm := (yX10_sign, cX10_sign, 2, (Option.some .int), RX10)
theorem pn_X10_sign : plainName (my mX10_sign).cls = true := by decide +kernel
theorem ok_X10_sign : zMokV mX10_sign 1 9 := ⟨⟨rfl, ⟨by decide +kernel, by decide +kernel, by decide +kernel⟩, ini_X10, co_X10_sign⟩, im_X10_sign, se_X10_sign, _, _, rfl⟩
abbrev mX10_count : Mm := (yX10_count, cX10_count, 2, (Option.some .int), RX10)
theorem pn_X10_count : plainName (my mX10_count).cls = true := by decide +kernel
theorem ok_X10_count : zMokV mX10_count 1 9 := ⟨⟨rfl, ⟨by decide +kernel, by decide +kernel, by decide +kernel⟩, ini_X10, co_X10_count⟩, im_X10_count, se_X10_count, _, _, rfl⟩
abbrev mX10_clear : Mm := (yX10_clear, cX10_clear, 3, (Option.some .int), RX10)
theorem pn_X10_clear : plainName (my mX10_clear).cls = true := by decide +kernel
theorem ok_X10_clear : zMokV mX10_clear 0 9 := ⟨⟨rfl, ⟨by decide +kernel, by decide +kernel, by decide +kernel⟩, ini_X10, co_X10_clear⟩, im_X10_clear, se_X10_clear, _, _, rfl⟩
theorem gr_X8_9 : zGR RX8 9 7 0 := ⟨Or.inl ⟨_, _, _, rfl, by decide, by decide, fl_X8_9, rfl, rfl⟩, by decide +kernel⟩
theorem gr_X0_68 : zGR RX0 68 7 0 := ⟨Or.inl ⟨_, _, _, rfl, by decide, by decide, fl_X0_68, rfl, rfl⟩, by decide +kernel⟩
theorem gr_X9_150 : zGR RX9 150 7 0 := ⟨Or.inl ⟨_, _, _, rfl, by decide, by decide, fl_X9_150, rfl, rfl⟩, by decide +kernel⟩
theorem gi_X8_19 : zGI RX8 19 7 1 := ⟨Or.inl ⟨_, _, _, rfl, by decide, by decide, fl_X8_19, rfl, rfl⟩, by decide +kernel⟩
theorem pi_X8_19 : zPI RX8 19 7 1 := ⟨⟨_, _, _, rfl, by decide, by decide, fl_X8_19, rfl, rfl⟩, by decide +kernel, fun q h => by cases h; rfl⟩
theorem zf_7_1 (x : Int32) : zFit 7 1 x := Or.inl (by decide +kernel)
theorem gi_X0_72 : zGI RX0 72 7 1 := ⟨Or.inl ⟨_, _, _, rfl, by decide, by decide, fl_X0_72, rfl, rfl⟩, by decide +kernel⟩
theorem pi_X0_72 : zPI RX0 72 7 1 := ⟨⟨_, _, _, rfl, by decide, by decide, fl_X0_72, rfl, rfl⟩, by decide +kernel, fun q h => by cases h; rfl⟩
theorem gi_X9_129 : zGI RX9 129 7 1 := ⟨Or.inl ⟨_, _, _, rfl, by decide, by decide, fl_X9_129, rfl, rfl⟩, by decide +kernel⟩
theorem pi_X9_129 : zPI RX9 129 7 1 := ⟨⟨_, _, _, rfl, by decide, by decide, fl_X9_129, rfl, rfl⟩, by decide +kernel, fun q h => by cases h; rfl⟩
theorem gr_X0_10 : zGR RX0 10 0 0 := ⟨Or.inl ⟨_, _, _, rfl, by decide, by decide, fl_X0_10, rfl, rfl⟩, by decide +kernel⟩
theorem gr_X0_16 : zGR RX0 16 0 1 := ⟨Or.inl ⟨_, _, _, rfl, by decide, by decide, fl_X0_16, rfl, rfl⟩, by decide +kernel⟩
theorem gr_X0_19 : zGR RX0 19 0 2 := ⟨Or.inl ⟨_, _, _, rfl, by decide, by decide, fl_X0_19, rfl, rfl⟩, by decide +kernel⟩
theorem gr_X0_22 : zGR RX0 22 0 3 := ⟨Or.inl ⟨_, _, _, rfl, by decide, by decide, fl_X0_22, rfl, rfl⟩, by decide +kernel⟩
theorem gr_X0_25 : zGR RX0 25 0 4 := ⟨Or.inl ⟨_, _, _, rfl, by decide, by decide, fl_X0_25, rfl, rfl⟩, by decide +kernel⟩
theorem gr_X0_28 : zGR RX0 28 0 5 := ⟨Or.inl ⟨_, _, _, rfl, by decide, by decide, fl_X0_28, rfl, rfl⟩, by decide +kernel⟩
theorem gr_X0_31 : zGR RX0 31 0 6 := ⟨Or.inl ⟨_, _, _, rfl, by decide, by decide, fl_X0_31, rfl, rfl⟩, by decide +kernel⟩
theorem gr_X0_34 : zGR RX0 34 0 7 := ⟨Or.inl ⟨_, _, _, rfl, by decide, by decide, fl_X0_34, rfl, rfl⟩, by decide +kernel⟩
theorem gr_X0_37 : zGR RX0 37 0 8 := ⟨Or.inl ⟨_, _, _, rfl, by decide, by decide, fl_X0_37, rfl, rfl⟩, by decide +kernel⟩
theorem gr_X0_40 : zGR RX0 40 0 9 := ⟨Or.inl ⟨_, _, _, rfl, by decide, by decide, fl_X0_40, rfl, rfl⟩, by decide +kernel⟩
theorem gr_X0_43 : zGR RX0 43 0 10 := ⟨Or.inl ⟨_, _, _, rfl, by decide, by decide, fl_X0_43, rfl, rfl⟩, by decide +kernel⟩
theorem gr_X0_46 : zGR RX0 46 0 11 := ⟨Or.inl ⟨_, _, _, rfl, by decide, by decide, fl_X0_46, rfl, rfl⟩, by decide +kernel⟩
theorem gr_X3_10 : zGR RX3 10 3 0 := ⟨Or.inl ⟨_, _, _, rfl, by decide, by decide, fl_X3_10, rfl, rfl⟩, by decide +kernel⟩
theorem gr_X7_34 : zGR RX7 34 3 0 := ⟨Or.inl ⟨_, _, _, rfl, by decide, by decide, fl_X7_34, rfl, rfl⟩, by decide +kernel⟩
theorem gr_X9_125 : zGR RX9 125 3 0 := ⟨Or.inl ⟨_, _, _, rfl, by decide, by decide, fl_X9_125, rfl, rfl⟩, by decide +kernel⟩
theorem gr_X0_136 : zGR RX0 136 3 0 := ⟨Or.inl ⟨_, _, _, rfl, by decide, by decide, fl_X0_136, rfl, rfl⟩, by decide +kernel⟩
theorem gr_X3_16 : zGR RX3 16 3 1 := ⟨Or.inl ⟨_, _, _, rfl, by decide, by decide, fl_X3_16, rfl, rfl⟩, by decide +kernel⟩
theorem gr_X7_47 : zGR RX7 47 3 1 := ⟨Or.inl ⟨_, _, _, rfl, by decide, by decide, fl_X7_47, rfl, rfl⟩, by decide +kernel⟩
theorem gr_X9_134 : zGR RX9 134 3 1 := ⟨Or.inl ⟨_, _, _, rfl, by decide, by decide, fl_X9_134, rfl, rfl⟩, by decide +kernel⟩
theorem gr_X0_144 : zGR RX0 144 3 1 := ⟨Or.inl ⟨_, _, _, rfl, by decide, by decide, fl_X0_144, rfl, rfl⟩, by decide +kernel⟩
theorem gi_X7_60 : zGI RX7 60 3 2 := ⟨Or.inl ⟨_, _, _, rfl, by decide, by decide, fl_X7_60, rfl, rfl⟩, by decide +kernel⟩
theorem pi_X7_60 : zPI RX7 60 3 2 := ⟨⟨_, _, _, rfl, by decide, by decide, fl_X7_60, rfl, rfl⟩, by decide +kernel, fun q h => by cases h; rfl⟩
theorem zf_3_2 {x : Int32} (h : x = 0 ∨ x = 1) : zFit 3 2 x := Or.inr ⟨by decide +kernel, h⟩
theorem gi_X3_38 : zGI RX3 38 3 2 := ⟨Or.inl ⟨_, _, _, rfl, by decide, by decide, fl_X3_38, rfl, rfl⟩, by decide +kernel⟩
theorem pi_X3_38 : zPI RX3 38 3 2 := ⟨⟨_, _, _, rfl, by decide, by decide, fl_X3_38, rfl, rfl⟩, by decide +kernel, fun q h => by cases h; rfl⟩
theorem gi_X9_121 : zGI RX9 121 3 2 := ⟨Or.inl ⟨_, _, _, rfl, by decide, by decide, fl_X9_121, rfl, rfl⟩, by decide +kernel⟩
theorem pi_X9_121 : zPI RX9 121 3 2 := ⟨⟨_, _, _, rfl, by decide, by decide, fl_X9_121, rfl, rfl⟩, by decide +kernel, fun q h => by cases h; rfl⟩
theorem gi_X0_147 : zGI RX0 147 3 2 := ⟨Or.inl ⟨_, _, _, rfl, by decide, by decide, fl_X0_147, rfl, rfl⟩, by decide +kernel⟩
theorem pi_X0_147 : zPI RX0 147 3 2 := ⟨⟨_, _, _, rfl, by decide, by decide, fl_X0_147, rfl, rfl⟩, by decide +kernel, fun q h => by cases h; rfl⟩
theorem gi_X2_19 : zGI RX2 19 2 0 := ⟨Or.inl ⟨_, _, _, rfl, by decide, by decide, fl_X2_19, rfl, rfl⟩, by decide +kernel⟩
theorem zf_2_0 (x : Int32) : zFit 2 0 x := Or.inl (by decide +kernel)
theorem gr_X2_23 : zGR RX2 23 2 1 := ⟨Or.inl ⟨_, _, _, rfl, by decide, by decide, fl_X2_23, rfl, rfl⟩, by decide +kernel⟩
theorem gr_X2_31 : zGR RX2 31 2 2 := ⟨Or.inl ⟨_, _, _, rfl, by decide, by decide, fl_X2_31, rfl, rfl⟩, by decide +kernel⟩
theorem gr_X2_35 : zGR RX2 35 2 3 := ⟨Or.inl ⟨_, _, _, rfl, by decide, by decide, fl_X2_35, rfl, rfl⟩, by decide +kernel⟩
theorem gr_X6_58 : zGR RX6 58 2 3 := ⟨Or.inr ⟨_, _, _, rfl, by decide, by decide, by decide +kernel, rfl, rfl⟩, by decide +kernel⟩
theorem gr_X2_39 : zGR RX2 39 2 4 := ⟨Or.inl ⟨_, _, _, rfl, by decide, by decide, fl_X2_39, rfl, rfl⟩, by decide +kernel⟩
theorem gr_X6_55 : zGR RX6 55 2 4 := ⟨Or.inr ⟨_, _, _, rfl, by decide, by decide, by decide +kernel, rfl, rfl⟩, by decide +kernel⟩
theorem gr_X2_10 : zGR RX2 10 2 5 := ⟨Or.inl ⟨_, _, _, rfl, by decide, by decide, fl_X2_10, rfl, rfl⟩, by decide +kernel⟩
theorem gr_X2_16 : zGR RX2 16 2 6 := ⟨Or.inl ⟨_, _, _, rfl, by decide, by decide, fl_X2_16, rfl, rfl⟩, by decide +kernel⟩
theorem gi_X1_31 : zGI RX1 31 2 7 := ⟨Or.inr ⟨_, _, _, rfl, by decide, by decide, by decide +kernel, rfl, rfl⟩, by decide +kernel⟩
theorem zf_2_7 (x : Int32) : zFit 2 7 x := Or.inl (by decide +kernel)
theorem gi_X2_54 : zGI RX2 54 2 7 := ⟨Or.inl ⟨_, _, _, rfl, by decide, by decide, fl_X2_54, rfl, rfl⟩, by decide +kernel⟩
theorem pi_X2_54 : zPI RX2 54 2 7 := ⟨⟨_, _, _, rfl, by decide, by decide, fl_X2_54, rfl, rfl⟩, by decide +kernel, fun q h => by cases h; rfl⟩
theorem gi_X6_49 : zGI RX6 49 2 7 := ⟨Or.inr ⟨_, _, _, rfl, by decide, by decide, by decide +kernel, rfl, rfl⟩, by decide +kernel⟩
theorem gi_X1_50 : zGI RX1 50 2 8 := ⟨Or.inr ⟨_, _, _, rfl, by decide, by decide, by decide +kernel, rfl, rfl⟩, by decide +kernel⟩
theorem zf_2_8 {x : Int32} (h : x = 0 ∨ x = 1) : zFit 2 8 x := Or.inr ⟨by decide +kernel, h⟩
theorem gi_X2_73 : zGI RX2 73 2 8 := ⟨Or.inl ⟨_, _, _, rfl, by decide, by decide, fl_X2_73, rfl, rfl⟩, by decide +kernel⟩
theorem pi_X2_73 : zPI RX2 73 2 8 := ⟨⟨_, _, _, rfl, by decide, by decide, fl_X2_73, rfl, rfl⟩, by decide +kernel, fun q h => by cases h; rfl⟩
theorem gi_X1_16 : zGI RX1 16 1 0 := ⟨Or.inl ⟨_, _, _, rfl, by decide, by decide, fl_X1_16, rfl, rfl⟩, by decide +kernel⟩
theorem zf_1_0 (x : Int32) : zFit 1 0 x := Or.inl (by decide +kernel)
theorem gr_X1_20 : zGR RX1 20 1 1 := ⟨Or.inl ⟨_, _, _, rfl, by decide, by decide, fl_X1_20, rfl, rfl⟩, by decide +kernel⟩
theorem gr_X1_24 : zGR RX1 24 1 2 := ⟨Or.inl ⟨_, _, _, rfl, by decide, by decide, fl_X1_24, rfl, rfl⟩, by decide +kernel⟩
theorem gr_X1_10 : zGR RX1 10 1 3 := ⟨Or.inl ⟨_, _, _, rfl, by decide, by decide, fl_X1_10, rfl, rfl⟩, by decide +kernel⟩
theorem gi_X6_19 : zGI RX6 19 5 0 := ⟨Or.inl ⟨_, _, _, rfl, by decide, by decide, fl_X6_19, rfl, rfl⟩, by decide +kernel⟩
theorem zf_5_0 (x : Int32) : zFit 5 0 x := Or.inl (by decide +kernel)
theorem gr_X6_23 : zGR RX6 23 5 1 := ⟨Or.inl ⟨_, _, _, rfl, by decide, by decide, fl_X6_23, rfl, rfl⟩, by decide +kernel⟩
theorem gr_X6_27 : zGR RX6 27 5 2 := ⟨Or.inl ⟨_, _, _, rfl, by decide, by decide, fl_X6_27, rfl, rfl⟩, by decide +kernel⟩
theorem gr_X9_199 : zGR RX9 199 5 2 := ⟨Or.inr ⟨_, _, _, rfl, by decide, by decide, by decide +kernel, rfl, rfl⟩, by decide +kernel⟩
theorem gr_X6_31 : zGR RX6 31 5 3 := ⟨Or.inl ⟨_, _, _, rfl, by decide, by decide, fl_X6_31, rfl, rfl⟩, by decide +kernel⟩
theorem gr_X9_202 : zGR RX9 202 5 3 := ⟨Or.inr ⟨_, _, _, rfl, by decide, by decide, by decide +kernel, rfl, rfl⟩, by decide +kernel⟩
theorem gr_X6_34 : zGR RX6 34 5 4 := ⟨Or.inl ⟨_, _, _, rfl, by decide, by decide, fl_X6_34, rfl, rfl⟩, by decide +kernel⟩
theorem gr_X9_205 : zGR RX9 205 5 4 := ⟨Or.inr ⟨_, _, _, rfl, by decide, by decide, by decide +kernel, rfl, rfl⟩, by decide +kernel⟩
theorem gr_X6_41 : zGR RX6 41 5 5 := ⟨Or.inl ⟨_, _, _, rfl, by decide, by decide, fl_X6_41, rfl, rfl⟩, by decide +kernel⟩
theorem gr_X9_196 : zGR RX9 196 5 5 := ⟨Or.inr ⟨_, _, _, rfl, by decide, by decide, by decide +kernel, rfl, rfl⟩, by decide +kernel⟩
theorem gr_X6_10 : zGR RX6 10 5 6 := ⟨Or.inl ⟨_, _, _, rfl, by decide, by decide, fl_X6_10, rfl, rfl⟩, by decide +kernel⟩
theorem gr_X6_16 : zGR RX6 16 5 7 := ⟨Or.inl ⟨_, _, _, rfl, by decide, by decide, fl_X6_16, rfl, rfl⟩, by decide +kernel⟩
theorem gr_X9_212 : zGR RX9 212 5 7 := ⟨Or.inr ⟨_, _, _, rfl, by decide, by decide, by decide +kernel, rfl, rfl⟩, by decide +kernel⟩
theorem gi_X6_45 : zGI RX6 45 5 8 := ⟨Or.inl ⟨_, _, _, rfl, by decide, by decide, fl_X6_45, rfl, rfl⟩, by decide +kernel⟩
theorem pi_X6_45 : zPI RX6 45 5 8 := ⟨⟨_, _, _, rfl, by decide, by decide, fl_X6_45, rfl, rfl⟩, by decide +kernel, fun q h => by cases h; rfl⟩
theorem zf_5_8 {x : Int32} (h : x = 0 ∨ x = 1) : zFit 5 8 x := Or.inr ⟨by decide +kernel, h⟩
theorem gi_X9_187 : zGI RX9 187 5 8 := ⟨Or.inr ⟨_, _, _, rfl, by decide, by decide, by decide +kernel, rfl, rfl⟩, by decide +kernel⟩
theorem gi_X6_73 : zGI RX6 73 5 9 := ⟨Or.inl ⟨_, _, _, rfl, by decide, by decide, fl_X6_73, rfl, rfl⟩, by decide +kernel⟩
theorem pi_X6_73 : zPI RX6 73 5 9 := ⟨⟨_, _, _, rfl, by decide, by decide, fl_X6_73, rfl, rfl⟩, by decide +kernel, fun q h => by cases h; rfl⟩
theorem zf_5_9 {x : Int32} (h : x = 0 ∨ x = 1) : zFit 5 9 x := Or.inr ⟨by decide +kernel, h⟩
theorem gi_X9_190 : zGI RX9 190 5 9 := ⟨Or.inr ⟨_, _, _, rfl, by decide, by decide, by decide +kernel, rfl, rfl⟩, by decide +kernel⟩
theorem gi_X6_54 : zGI RX6 54 5 10 := ⟨Or.inl ⟨_, _, _, rfl, by decide, by decide, fl_X6_54, rfl, rfl⟩, by decide +kernel⟩
theorem pi_X6_54 : zPI RX6 54 5 10 := ⟨⟨_, _, _, rfl, by decide, by decide, fl_X6_54, rfl, rfl⟩, by decide +kernel, fun q h => by cases h; rfl⟩
theorem zf_5_10 (x : Int32) : zFit 5 10 x := Or.inl (by decide +kernel)
theorem gi_X9_184 : zGI RX9 184 5 10 := ⟨Or.inr ⟨_, _, _, rfl, by decide, by decide, by decide +kernel, rfl, rfl⟩, by decide +kernel⟩
theorem gr_X4_37 : zGR RX4 37 4 0 := ⟨Or.inl ⟨_, _, _, rfl, by decide, by decide, fl_X4_37, rfl, rfl⟩, by decide +kernel⟩
theorem gr_X4_10 : zGR RX4 10 4 1 := ⟨Or.inl ⟨_, _, _, rfl, by decide, by decide, fl_X4_10, rfl, rfl⟩, by decide +kernel⟩
theorem gr_X9_246 : zGR RX9 246 4 1 := ⟨Or.inr ⟨_, _, _, rfl, by decide, by decide, by decide +kernel, rfl, rfl⟩, by decide +kernel⟩
theorem gr_X4_16 : zGR RX4 16 4 2 := ⟨Or.inl ⟨_, _, _, rfl, by decide, by decide, fl_X4_16, rfl, rfl⟩, by decide +kernel⟩
theorem gr_X9_249 : zGR RX9 249 4 2 := ⟨Or.inr ⟨_, _, _, rfl, by decide, by decide, by decide +kernel, rfl, rfl⟩, by decide +kernel⟩
theorem gr_X4_19 : zGR RX4 19 4 3 := ⟨Or.inl ⟨_, _, _, rfl, by decide, by decide, fl_X4_19, rfl, rfl⟩, by decide +kernel⟩
theorem gr_X4_22 : zGR RX4 22 4 4 := ⟨Or.inl ⟨_, _, _, rfl, by decide, by decide, fl_X4_22, rfl, rfl⟩, by decide +kernel⟩
theorem gr_X4_25 : zGR RX4 25 4 5 := ⟨Or.inl ⟨_, _, _, rfl, by decide, by decide, fl_X4_25, rfl, rfl⟩, by decide +kernel⟩
theorem gr_X4_28 : zGR RX4 28 4 6 := ⟨Or.inl ⟨_, _, _, rfl, by decide, by decide, fl_X4_28, rfl, rfl⟩, by decide +kernel⟩
theorem gr_X4_31 : zGR RX4 31 4 7 := ⟨Or.inl ⟨_, _, _, rfl, by decide, by decide, fl_X4_31, rfl, rfl⟩, by decide +kernel⟩
theorem gr_X4_34 : zGR RX4 34 4 8 := ⟨Or.inl ⟨_, _, _, rfl, by decide, by decide, fl_X4_34, rfl, rfl⟩, by decide +kernel⟩
theorem gi_X4_45 : zGI RX4 45 4 9 := ⟨Or.inl ⟨_, _, _, rfl, by decide, by decide, fl_X4_45, rfl, rfl⟩, by decide +kernel⟩
theorem pi_X4_45 : zPI RX4 45 4 9 := ⟨⟨_, _, _, rfl, by decide, by decide, fl_X4_45, rfl, rfl⟩, by decide +kernel, fun q h => by cases h; rfl⟩
theorem zf_4_9 (x : Int32) : zFit 4 9 x := Or.inl (by decide +kernel)
theorem gi_X9_243 : zGI RX9 243 4 9 := ⟨Or.inr ⟨_, _, _, rfl, by decide, by decide, by decide +kernel, rfl, rfl⟩, by decide +kernel⟩
theorem gr_X7_26 : zGR RX7 26 6 0 := ⟨Or.inl ⟨_, _, _, rfl, by decide, by decide, fl_X7_26, rfl, rfl⟩, by decide +kernel⟩
theorem gr_X7_10 : zGR RX7 10 6 1 := ⟨Or.inl ⟨_, _, _, rfl, by decide, by decide, fl_X7_10, rfl, rfl⟩, by decide +kernel⟩
theorem gr_X7_16 : zGR RX7 16 6 2 := ⟨Or.inl ⟨_, _, _, rfl, by decide, by decide, fl_X7_16, rfl, rfl⟩, by decide +kernel⟩
theorem gr_X7_19 : zGR RX7 19 6 3 := ⟨Or.inl ⟨_, _, _, rfl, by decide, by decide, fl_X7_19, rfl, rfl⟩, by decide +kernel⟩
theorem gr_X7_22 : zGR RX7 22 6 4 := ⟨Or.inl ⟨_, _, _, rfl, by decide, by decide, fl_X7_22, rfl, rfl⟩, by decide +kernel⟩
theorem gr_X9_266 : zGR RX9 266 6 4 := ⟨Or.inr ⟨_, _, _, rfl, by decide, by decide, by decide +kernel, rfl, rfl⟩, by decide +kernel⟩
theorem gi_X7_67 : zGI RX7 67 6 5 := ⟨Or.inl ⟨_, _, _, rfl, by decide, by decide, fl_X7_67, rfl, rfl⟩, by decide +kernel⟩
theorem pi_X7_67 : zPI RX7 67 6 5 := ⟨⟨_, _, _, rfl, by decide, by decide, fl_X7_67, rfl, rfl⟩, by decide +kernel, fun q h => by cases h; rfl⟩
theorem zf_6_5 (x : Int32) : zFit 6 5 x := Or.inl (by decide +kernel)
theorem gi_X9_265 : zGI RX9 265 6 5 := ⟨Or.inr ⟨_, _, _, rfl, by decide, by decide, by decide +kernel, rfl, rfl⟩, by decide +kernel⟩
theorem gi_X9_21 : zGI RX9 21 8 0 := ⟨Or.inl ⟨_, _, _, rfl, by decide, by decide, fl_X9_21, rfl, rfl⟩, by decide +kernel⟩
theorem zf_8_0 (x : Int32) : zFit 8 0 x := Or.inl (by decide +kernel)
theorem gr_X9_25 : zGR RX9 25 8 1 := ⟨Or.inl ⟨_, _, _, rfl, by decide, by decide, fl_X9_25, rfl, rfl⟩, by decide +kernel⟩
theorem gr_X9_35 : zGR RX9 35 8 2 := ⟨Or.inl ⟨_, _, _, rfl, by decide, by decide, fl_X9_35, rfl, rfl⟩, by decide +kernel⟩
theorem gr_X9_39 : zGR RX9 39 8 3 := ⟨Or.inl ⟨_, _, _, rfl, by decide, by decide, fl_X9_39, rfl, rfl⟩, by decide +kernel⟩
theorem gr_X9_47 : zGR RX9 47 8 4 := ⟨Or.inl ⟨_, _, _, rfl, by decide, by decide, fl_X9_47, rfl, rfl⟩, by decide +kernel⟩
theorem gr_X9_54 : zGR RX9 54 8 5 := ⟨Or.inl ⟨_, _, _, rfl, by decide, by decide, fl_X9_54, rfl, rfl⟩, by decide +kernel⟩
theorem gr_X9_61 : zGR RX9 61 8 6 := ⟨Or.inl ⟨_, _, _, rfl, by decide, by decide, fl_X9_61, rfl, rfl⟩, by decide +kernel⟩
theorem gr_X9_70 : zGR RX9 70 8 7 := ⟨Or.inl ⟨_, _, _, rfl, by decide, by decide, fl_X9_70, rfl, rfl⟩, by decide +kernel⟩
theorem gr_X9_77 : zGR RX9 77 8 8 := ⟨Or.inl ⟨_, _, _, rfl, by decide, by decide, fl_X9_77, rfl, rfl⟩, by decide +kernel⟩
theorem gi_X9_85 : zGI RX9 85 8 9 := ⟨Or.inl ⟨_, _, _, rfl, by decide, by decide, fl_X9_85, rfl, rfl⟩, by decide +kernel⟩
theorem pi_X9_85 : zPI RX9 85 8 9 := ⟨⟨_, _, _, rfl, by decide, by decide, fl_X9_85, rfl, rfl⟩, by decide +kernel, fun q h => by cases h; rfl⟩
theorem zf_8_9 (x : Int32) : zFit 8 9 x := Or.inl (by decide +kernel)
theorem gi_X9_270 : zGI RX9 270 8 10 := ⟨Or.inl ⟨_, _, _, rfl, by decide, by decide, fl_X9_270, rfl, rfl⟩, by decide +kernel⟩
theorem pi_X9_270 : zPI RX9 270 8 10 := ⟨⟨_, _, _, rfl, by decide, by decide, fl_X9_270, rfl, rfl⟩, by decide +kernel, fun q h => by cases h; rfl⟩
theorem zf_8_10 (x : Int32) : zFit 8 10 x := Or.inl (by decide +kernel)
theorem gr_X10_7 : zGR RX10 7 9 0 := ⟨Or.inl ⟨_, _, _, rfl, by decide, by decide, fl_X10_7, rfl, rfl⟩, by decide +kernel⟩
theorem gr_X10_13 : zGR RX10 13 9 1 := ⟨Or.inl ⟨_, _, _, rfl, by decide, by decide, fl_X10_13, rfl, rfl⟩, by decide +kernel⟩
theorem gi_X10_44 : zGI RX10 44 9 2 := ⟨Or.inl ⟨_, _, _, rfl, by decide, by decide, fl_X10_44, rfl, rfl⟩, by decide +kernel⟩
theorem zf_9_2 (x : Int32) : zFit 9 2 x := Or.inl (by decide +kernel)
theorem gi_X10_116 : zGI RX10 116 9 3 := ⟨Or.inl ⟨_, _, _, rfl, by decide, by decide, fl_X10_116, rfl, rfl⟩, by decide +kernel⟩
theorem pi_X10_116 : zPI RX10 116 9 3 := ⟨⟨_, _, _, rfl, by decide, by decide, fl_X10_116, rfl, rfl⟩, by decide +kernel, fun q h => by cases h; rfl⟩
theorem zf_9_3 (x : Int32) : zFit 9 3 x := Or.inl (by decide +kernel)
theorem gi_X10_219 : zGI RX10 219 9 4 := ⟨Or.inl ⟨_, _, _, rfl, by decide, by decide, fl_X10_219, rfl, rfl⟩, by decide +kernel⟩
theorem pi_X10_219 : zPI RX10 219 9 4 := ⟨⟨_, _, _, rfl, by decide, by decide, fl_X10_219, rfl, rfl⟩, by decide +kernel, fun q h => by cases h; rfl⟩
theorem zf_9_4 (x : Int32) : zFit 9 4 x := Or.inl (by decide +kernel)
theorem gi_X10_123 : zGI RX10 123 9 5 := ⟨Or.inl ⟨_, _, _, rfl, by decide, by decide, fl_X10_123, rfl, rfl⟩, by decide +kernel⟩
theorem pi_X10_123 : zPI RX10 123 9 5 := ⟨⟨_, _, _, rfl, by decide, by decide, fl_X10_123, rfl, rfl⟩, by decide +kernel, fun q h => by cases h; rfl⟩
theorem zf_9_5 (x : Int32) : zFit 9 5 x := Or.inl (by decide +kernel)
theorem gi_X10_52 : zGI RX10 52 9 6 := ⟨Or.inl ⟨_, _, _, rfl, by decide, by decide, fl_X10_52, rfl, rfl⟩, by decide +kernel⟩
theorem pi_X10_52 : zPI RX10 52 9 6 := ⟨⟨_, _, _, rfl, by decide, by decide, fl_X10_52, rfl, rfl⟩, by decide +kernel, fun q h => by cases h; rfl⟩
theorem zf_9_6 (x : Int32) : zFit 9 6 x := Or.inl (by decide +kernel)
theorem gi_X10_180 : zGI RX10 180 9 7 := ⟨Or.inl ⟨_, _, _, rfl, by decide, by decide, fl_X10_180, rfl, rfl⟩, by decide +kernel⟩
theorem pi_X10_180 : zPI RX10 180 9 7 := ⟨⟨_, _, _, rfl, by decide, by decide, fl_X10_180, rfl, rfl⟩, by decide +kernel, fun q h => by cases h; rfl⟩
theorem zf_9_7 {x : Int32} (h : x = 0 ∨ x = 1) : zFit 9 7 x := Or.inr ⟨by decide +kernel, h⟩
theorem gi_X10_186 : zGI RX10 186 9 8 := ⟨Or.inl ⟨_, _, _, rfl, by decide, by decide, fl_X10_186, rfl, rfl⟩, by decide +kernel⟩
theorem pi_X10_186 : zPI RX10 186 9 8 := ⟨⟨_, _, _, rfl, by decide, by decide, fl_X10_186, rfl, rfl⟩, by decide +kernel, fun q h => by cases h; rfl⟩
theorem zf_9_8 {x : Int32} (h : x = 0 ∨ x = 1) : zFit 9 8 x := Or.inr ⟨by decide +kernel, h⟩
theorem gi_X10_192 : zGI RX10 192 9 9 := ⟨Or.inl ⟨_, _, _, rfl, by decide, by decide, fl_X10_192, rfl, rfl⟩, by decide +kernel⟩
theorem pi_X10_192 : zPI RX10 192 9 9 := ⟨⟨_, _, _, rfl, by decide, by decide, fl_X10_192, rfl, rfl⟩, by decide +kernel, fun q h => by cases h; rfl⟩
theorem zf_9_9 (x : Int32) : zFit 9 9 x := Or.inl (by decide +kernel)
theorem gr_X10_17 : zGR RX10 17 9 10 := ⟨Or.inl ⟨_, _, _, rfl, by decide, by decide, fl_X10_17, rfl, rfl⟩, by decide +kernel⟩
theorem gr_X10_20 : zGR RX10 20 9 11 := ⟨Or.inl ⟨_, _, _, rfl, by decide, by decide, fl_X10_20, rfl, rfl⟩, by decide +kernel⟩
theorem gr_X10_23 : zGR RX10 23 9 12 := ⟨Or.inl ⟨_, _, _, rfl, by decide, by decide, fl_X10_23, rfl, rfl⟩, by decide +kernel⟩
theorem gr_X10_26 : zGR RX10 26 9 13 := ⟨Or.inl ⟨_, _, _, rfl, by decide, by decide, fl_X10_26, rfl, rfl⟩, by decide +kernel⟩
theorem gr_X10_29 : zGR RX10 29 9 14 := ⟨Or.inl ⟨_, _, _, rfl, by decide, by decide, fl_X10_29, rfl, rfl⟩, by decide +kernel⟩
theorem gr_X10_32 : zGR RX10 32 9 15 := ⟨Or.inl ⟨_, _, _, rfl, by decide, by decide, fl_X10_32, rfl, rfl⟩, by decide +kernel⟩
theorem gr_X10_35 : zGR RX10 35 9 16 := ⟨Or.inl ⟨_, _, _, rfl, by decide, by decide, fl_X10_35, rfl, rfl⟩, by decide +kernel⟩
theorem gi_X10_163 : zGI RX10 163 9 17 := ⟨Or.inl ⟨_, _, _, rfl, by decide, by decide, fl_X10_163, rfl, rfl⟩, by decide +kernel⟩
theorem pi_X10_163 : zPI RX10 163 9 17 := ⟨⟨_, _, _, rfl, by decide, by decide, fl_X10_163, rfl, rfl⟩, by decide +kernel, fun q h => by cases h; rfl⟩
theorem zf_9_17 {x : Int32} (h : x = 0 ∨ x = 1) : zFit 9 17 x := Or.inr ⟨by decide +kernel, h⟩
theorem gi_X10_167 : zGI RX10 167 9 18 := ⟨Or.inl ⟨_, _, _, rfl, by decide, by decide, fl_X10_167, rfl, rfl⟩, by decide +kernel⟩
theorem pi_X10_167 : zPI RX10 167 9 18 := ⟨⟨_, _, _, rfl, by decide, by decide, fl_X10_167, rfl, rfl⟩, by decide +kernel, fun q h => by cases h; rfl⟩
theorem zf_9_18 {x : Int32} (h : x = 0 ∨ x = 1) : zFit 9 18 x := Or.inr ⟨by decide +kernel, h⟩
theorem gr_X10_38 : zGR RX10 38 9 19 := ⟨Or.inl ⟨_, _, _, rfl, by decide, by decide, fl_X10_38, rfl, rfl⟩, by decide +kernel⟩
theorem gi_X10_227 : zGI RX10 227 9 20 := ⟨Or.inl ⟨_, _, _, rfl, by decide, by decide, fl_X10_227, rfl, rfl⟩, by decide +kernel⟩
theorem pi_X10_227 : zPI RX10 227 9 20 := ⟨⟨_, _, _, rfl, by decide, by decide, fl_X10_227, rfl, rfl⟩, by decide +kernel, fun q h => by cases h; rfl⟩
theorem zf_9_20 (x : Int32) : zFit 9 20 x := Or.inl (by decide +kernel)
theorem gr_X10_41 : zGR RX10 41 9 21 := ⟨Or.inl ⟨_, _, _, rfl, by decide, by decide, fl_X10_41, rfl, rfl⟩, by decide +kernel⟩
