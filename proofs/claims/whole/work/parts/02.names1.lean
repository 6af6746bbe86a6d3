/-! ===== BEGIN printed: names, fields, word lists, decode rows ===== -/
def RX0 : String := "NumeralCipher$BlockCipher"
def TX0 : u_T := fun k => match k with
  | 0 => ("NumeralCipher$BlockCipher", "schedule", "[I", true)
  | 1 => ("NumeralCipher$BlockCipher", "moved", "[I", true)
  | _ => ("NumeralCipher$BlockCipher", "rounds", "I", false)
def tyX0 : Nat → FieldType := fun k => match k with
  | 0 => .array .int
  | 1 => .array .int
  | _ => .int
abbrev wsX00 : List Cond := u_ws RX0 TX0 3
theorem nmX0 : ∀ a, a < 3 → ∀ b, b < 3 → a ≠ b → (TX0 a).2.1 ≠ (TX0 b).2.1 := by decide +kernel
theorem tyX0_ok : ∀ k, k < 3 → parseFieldDescriptor (TX0 k).2.2.1 = some (tyX0 k) := by decide +kernel
abbrev cX0_init : ByteArray := prog_2_method_1_code
def yX0_init : MethodName := ⟨RX0, "<init>", "()V"⟩
abbrev cX0_expand : ByteArray := prog_2_method_2_code
def yX0_expand : MethodName := ⟨RX0, "expand", "(LNumeralCipher$Bytes;Z)V"⟩
abbrev cX0_encipher : ByteArray := prog_2_method_3_code
def yX0_encipher : MethodName := ⟨RX0, "encipher", "([I)V"⟩
abbrev cX0_diagonal : ByteArray := prog_2_method_4_code
def yX0_diagonal : MethodName := ⟨RX0, "diagonal", "([II)I"⟩
abbrev cX0_substituted : ByteArray := prog_2_method_5_code
def yX0_substituted : MethodName := ⟨RX0, "substituted", "(I)I"⟩
abbrev cX0_mixed : ByteArray := prog_2_method_6_code
def yX0_mixed : MethodName := ⟨RX0, "mixed", "(I)I"⟩
abbrev cX0_doubled : ByteArray := prog_2_method_7_code
def yX0_doubled : MethodName := ⟨RX0, "doubled", "(I)I"⟩
abbrev cX0_rotated : ByteArray := prog_2_method_8_code
def yX0_rotated : MethodName := ⟨RX0, "rotated", "(II)I"⟩
abbrev cX0_bytesTurned : ByteArray := prog_2_method_9_code
def yX0_bytesTurned : MethodName := ⟨RX0, "bytesTurned", "(I)I"⟩
def RX1 : String := "NumeralCipher$Bytes"
def TX1 : u_T := fun k => match k with
  | 0 => ("NumeralCipher$Bytes", "cells", "[I", true)
  | _ => ("NumeralCipher$Bytes", "size", "I", false)
def tyX1 : Nat → FieldType := fun k => match k with
  | 0 => .array .int
  | _ => .int
abbrev wsX10 : List Cond := u_ws RX1 TX1 2
theorem nmX1 : ∀ a, a < 2 → ∀ b, b < 2 → a ≠ b → (TX1 a).2.1 ≠ (TX1 b).2.1 := by decide +kernel
theorem tyX1_ok : ∀ k, k < 2 → parseFieldDescriptor (TX1 k).2.2.1 = some (tyX1 k) := by decide +kernel
abbrev cX1_init : ByteArray := prog_3_method_1_code
def yX1_init : MethodName := ⟨RX1, "<init>", "()V"⟩
abbrev cX1_takeAll : ByteArray := prog_3_method_2_code
def yX1_takeAll : MethodName := ⟨RX1, "takeAll", "(LNumeralCipher$Bytes;)V"⟩
abbrev cX1_wordAt : ByteArray := prog_3_method_3_code
def yX1_wordAt : MethodName := ⟨RX1, "wordAt", "(I)I"⟩
def RX2 : String := "NumeralCipher$FirstWay"
def TX2 : u_T := fun k => match k with
  | 0 => ("NumeralCipher$Way", "cipher", "LNumeralCipher$BlockCipher;", true)
  | 1 => ("NumeralCipher$FirstWay", "tweakWords", "[I", true)
  | 2 => ("NumeralCipher$FirstWay", "start", "[I", true)
  | 3 => ("NumeralCipher$FirstWay", "chained", "[I", true)
  | 4 => ("NumeralCipher$FirstWay", "spread", "[I", true)
  | 5 => ("NumeralCipher$FirstWay", "inputWords", "I", false)
  | 6 => ("NumeralCipher$FirstWay", "roundPlace", "I", false)
  | _ => ("NumeralCipher$FirstWay", "addendWords", "I", false)
def tyX2 : Nat → FieldType := fun k => match k with
  | 0 => .object "NumeralCipher$BlockCipher"
  | 1 => .array .int
  | 2 => .array .int
  | 3 => .array .int
  | 4 => .array .int
  | 5 => .int
  | 6 => .int
  | _ => .int
abbrev wsX20 : List Cond := u_ws RX2 TX2 8
theorem nmX2 : ∀ a, a < 8 → ∀ b, b < 8 → a ≠ b → (TX2 a).2.1 ≠ (TX2 b).2.1 := by decide +kernel
theorem tyX2_ok : ∀ k, k < 8 → parseFieldDescriptor (TX2 k).2.2.1 = some (tyX2 k) := by decide +kernel
abbrev cX2_init : ByteArray := prog_4_method_1_code
def yX2_init : MethodName := ⟨RX2, "<init>", "()V"⟩
abbrev cX2_rounds : ByteArray := prog_4_method_2_code
def yX2_rounds : MethodName := ⟨RX2, "rounds", "()I"⟩
abbrev cX2_firstHalf : ByteArray := prog_4_method_3_code
def yX2_firstHalf : MethodName := ⟨RX2, "firstHalf", "(I)I"⟩
abbrev cX2_lowestFirst : ByteArray := prog_4_method_4_code
def yX2_lowestFirst : MethodName := ⟨RX2, "lowestFirst", "()Z"⟩
abbrev cX2_takes : ByteArray := prog_4_method_5_code
def yX2_takes : MethodName := ⟨RX2, "takes", "(LNumeralCipher$Row;LNumeralCipher$Bytes;LNumeralCipher$Natural;)Z"⟩
abbrev cX2_begin : ByteArray := prog_4_method_6_code
def yX2_begin : MethodName := ⟨RX2, "begin", "(LNumeralCipher$Row;LNumeralCipher$Bytes;LNumeralCipher$Natural;)V"⟩
abbrev cX2_makeAddend : ByteArray := prog_4_method_7_code
def yX2_makeAddend : MethodName := ⟨RX2, "makeAddend", "(ILNumeralCipher$Natural;)V"⟩
abbrev cX2_chainInput : ByteArray := prog_4_method_8_code
def yX2_chainInput : MethodName := ⟨RX2, "chainInput", "(ILNumeralCipher$Natural;)V"⟩
abbrev cX2_inputWord : ByteArray := prog_4_method_9_code
def yX2_inputWord : MethodName := ⟨RX2, "inputWord", "(IILNumeralCipher$Natural;)I"⟩
def RX3 : String := "NumeralCipher$Natural"
def TX3 : u_T := fun k => match k with
  | 0 => ("NumeralCipher$Natural", "cells", "[I", true)
  | _ => ("NumeralCipher$Natural", "size", "I", false)
def tyX3 : Nat → FieldType := fun k => match k with
  | 0 => .array .int
  | _ => .int
abbrev wsX30 : List Cond := u_ws RX3 TX3 2
theorem nmX3 : ∀ a, a < 2 → ∀ b, b < 2 → a ≠ b → (TX3 a).2.1 ≠ (TX3 b).2.1 := by decide +kernel
theorem tyX3_ok : ∀ k, k < 2 → parseFieldDescriptor (TX3 k).2.2.1 = some (tyX3 k) := by decide +kernel
abbrev cX3_init : ByteArray := prog_5_method_1_code
def yX3_init : MethodName := ⟨RX3, "<init>", "()V"⟩
abbrev cX3_clear : ByteArray := prog_5_method_2_code
def yX3_clear : MethodName := ⟨RX3, "clear", "()V"⟩
abbrev cX3_wordAt : ByteArray := prog_5_method_3_code
def yX3_wordAt : MethodName := ⟨RX3, "wordAt", "(I)I"⟩
abbrev cX3_putWord : ByteArray := prog_5_method_4_code
def yX3_putWord : MethodName := ⟨RX3, "putWord", "(II)V"⟩
abbrev cX3_multiplyAndAdd : ByteArray := prog_5_method_5_code
def yX3_multiplyAndAdd : MethodName := ⟨RX3, "multiplyAndAdd", "(II)V"⟩
abbrev cX3_divide : ByteArray := prog_5_method_6_code
def yX3_divide : MethodName := ⟨RX3, "divide", "(I)I"⟩
abbrev cX3_byteCount : ByteArray := prog_5_method_7_code
def yX3_byteCount : MethodName := ⟨RX3, "byteCount", "()I"⟩
def RX4 : String := "NumeralCipher$Row"
def TX4 : u_T := fun k => match k with
  | 0 => ("NumeralCipher$Row", "cells", "[I", true)
  | 1 => ("NumeralCipher$Row", "size", "I", false)
  | _ => ("NumeralCipher$Row", "base", "I", false)
def tyX4 : Nat → FieldType := fun k => match k with
  | 0 => .array .int
  | 1 => .int
  | _ => .int
abbrev wsX40 : List Cond := u_ws RX4 TX4 3
theorem nmX4 : ∀ a, a < 3 → ∀ b, b < 3 → a ≠ b → (TX4 a).2.1 ≠ (TX4 b).2.1 := by decide +kernel
theorem tyX4_ok : ∀ k, k < 3 → parseFieldDescriptor (TX4 k).2.2.1 = some (tyX4 k) := by decide +kernel
abbrev cX4_init : ByteArray := prog_6_method_1_code
def yX4_init : MethodName := ⟨RX4, "<init>", "()V"⟩
abbrev cX4_has : ByteArray := prog_6_method_2_code
def yX4_has : MethodName := ⟨RX4, "has", "(I)Z"⟩
abbrev cX4_isNumeral : ByteArray := prog_6_method_3_code
def yX4_isNumeral : MethodName := ⟨RX4, "isNumeral", "(I)Z"⟩
abbrev cX4_isLongEnough : ByteArray := prog_6_method_4_code
def yX4_isLongEnough : MethodName := ⟨RX4, "isLongEnough", "()Z"⟩
abbrev cX4_widthOf : ByteArray := prog_6_method_5_code
def yX4_widthOf : MethodName := ⟨RX4, "widthOf", "(ILNumeralCipher$Natural;)I"⟩
abbrev cX4_readPart : ByteArray := prog_6_method_6_code
def yX4_readPart : MethodName := ⟨RX4, "readPart", "(IIZLNumeralCipher$Natural;)V"⟩
abbrev cX4_shiftPart : ByteArray := prog_6_method_7_code
def yX4_shiftPart : MethodName := ⟨RX4, "shiftPart", "(IIZLNumeralCipher$Natural;Z)V"⟩
abbrev cX4_placeOf : ByteArray := prog_6_method_8_code
def yX4_placeOf : MethodName := ⟨RX4, "placeOf", "(IIIZ)I"⟩
def RX5 : String := "NumeralCipher$SecondWay"
def TX5 : u_T := fun k => match k with
  | 0 => ("NumeralCipher$Way", "cipher", "LNumeralCipher$BlockCipher;", true)
  | 1 => ("NumeralCipher$SecondWay", "turned", "[I", true)
  | 2 => ("NumeralCipher$SecondWay", "left", "I", false)
  | _ => ("NumeralCipher$SecondWay", "right", "I", false)
def tyX5 : Nat → FieldType := fun k => match k with
  | 0 => .object "NumeralCipher$BlockCipher"
  | 1 => .array .int
  | 2 => .int
  | _ => .int
abbrev wsX50 : List Cond := u_ws RX5 TX5 4
theorem nmX5 : ∀ a, a < 4 → ∀ b, b < 4 → a ≠ b → (TX5 a).2.1 ≠ (TX5 b).2.1 := by decide +kernel
theorem tyX5_ok : ∀ k, k < 4 → parseFieldDescriptor (TX5 k).2.2.1 = some (tyX5 k) := by decide +kernel
abbrev cX5_init : ByteArray := prog_7_method_1_code
def yX5_init : MethodName := ⟨RX5, "<init>", "()V"⟩
abbrev cX5_rounds : ByteArray := prog_7_method_2_code
def yX5_rounds : MethodName := ⟨RX5, "rounds", "()I"⟩
abbrev cX5_firstHalf : ByteArray := prog_7_method_3_code
def yX5_firstHalf : MethodName := ⟨RX5, "firstHalf", "(I)I"⟩
abbrev cX5_lowestFirst : ByteArray := prog_7_method_4_code
def yX5_lowestFirst : MethodName := ⟨RX5, "lowestFirst", "()Z"⟩
abbrev cX5_takes : ByteArray := prog_7_method_5_code
def yX5_takes : MethodName := ⟨RX5, "takes", "(LNumeralCipher$Row;LNumeralCipher$Bytes;LNumeralCipher$Natural;)Z"⟩
abbrev cX5_begin : ByteArray := prog_7_method_6_code
def yX5_begin : MethodName := ⟨RX5, "begin", "(LNumeralCipher$Row;LNumeralCipher$Bytes;LNumeralCipher$Natural;)V"⟩
abbrev cX5_makeAddend : ByteArray := prog_7_method_7_code
def yX5_makeAddend : MethodName := ⟨RX5, "makeAddend", "(ILNumeralCipher$Natural;)V"⟩
def RX6 : String := "NumeralCipher$Way"
def TX6 : u_T := fun k => match k with
  | _ => ("", "", "", false)
def tyX6 : Nat → FieldType := fun k => match k with
  | _ => .int
abbrev wsX60 : List Cond := u_ws RX6 TX6 0
theorem nmX6 : ∀ a, a < 0 → ∀ b, b < 0 → a ≠ b → (TX6 a).2.1 ≠ (TX6 b).2.1 := by decide +kernel
theorem tyX6_ok : ∀ k, k < 0 → parseFieldDescriptor (TX6 k).2.2.1 = some (tyX6 k) := by decide +kernel
abbrev cX6_init : ByteArray := prog_8_method_1_code
def yX6_init : MethodName := ⟨RX6, "<init>", "()V"⟩
def RX7 : String := "NumeralCipher"
def TX7 : u_T := fun k => match k with
  | 0 => ("NumeralCipher", "buffer", "LNumeralCipher$Bytes;", true)
  | 1 => ("NumeralCipher", "keyBytes", "LNumeralCipher$Bytes;", true)
  | 2 => ("NumeralCipher", "tweakBytes", "LNumeralCipher$Bytes;", true)
  | 3 => ("NumeralCipher", "row", "LNumeralCipher$Row;", true)
  | 4 => ("NumeralCipher", "firstWay", "LNumeralCipher$FirstWay;", true)
  | 5 => ("NumeralCipher", "secondWay", "LNumeralCipher$SecondWay;", true)
  | 6 => ("NumeralCipher", "number", "LNumeralCipher$Natural;", true)
  | _ => ("NumeralCipher", "words", "[I", true)
def tyX7 : Nat → FieldType := fun k => match k with
  | 0 => .object "NumeralCipher$Bytes"
  | 1 => .object "NumeralCipher$Bytes"
  | 2 => .object "NumeralCipher$Bytes"
  | 3 => .object "NumeralCipher$Row"
  | 4 => .object "NumeralCipher$FirstWay"
  | 5 => .object "NumeralCipher$SecondWay"
  | 6 => .object "NumeralCipher$Natural"
  | _ => .array .int
abbrev wsX70 : List Cond := u_ws RX7 TX7 8
theorem nmX7 : ∀ a, a < 8 → ∀ b, b < 8 → a ≠ b → (TX7 a).2.1 ≠ (TX7 b).2.1 := by decide +kernel
theorem tyX7_ok : ∀ k, k < 8 → parseFieldDescriptor (TX7 k).2.2.1 = some (tyX7 k) := by decide +kernel
abbrev cX7_init : ByteArray := prog_1_method_1_code
def yX7_init : MethodName := ⟨RX7, "<init>", "()V"⟩
abbrev cX7_type : ByteArray := prog_1_method_2_code
def yX7_type : MethodName := ⟨RX7, "type", "(JI)I"⟩
abbrev cX7_keep : ByteArray := prog_1_method_3_code
def yX7_keep : MethodName := ⟨RX7, "keep", "(I)V"⟩
abbrev cX7_typed : ByteArray := prog_1_method_4_code
def yX7_typed : MethodName := ⟨RX7, "typed", "(I)I"⟩
abbrev cX7_key : ByteArray := prog_1_method_5_code
def yX7_key : MethodName := ⟨RX7, "key", "()I"⟩
abbrev cX7_tweak : ByteArray := prog_1_method_6_code
def yX7_tweak : MethodName := ⟨RX7, "tweak", "()I"⟩
abbrev cX7_block : ByteArray := prog_1_method_7_code
def yX7_block : MethodName := ⟨RX7, "block", "()V"⟩
abbrev cX7_radix : ByteArray := prog_1_method_8_code
def yX7_radix : MethodName := ⟨RX7, "radix", "(I)I"⟩
abbrev cX7_numeral : ByteArray := prog_1_method_9_code
def yX7_numeral : MethodName := ⟨RX7, "numeral", "(I)I"⟩
abbrev cX7_cut : ByteArray := prog_1_method_10_code
def yX7_cut : MethodName := ⟨RX7, "cut", "(I)V"⟩
abbrev cX7_set : ByteArray := prog_1_method_11_code
def yX7_set : MethodName := ⟨RX7, "set", "(II)I"⟩
abbrev cX7_at : ByteArray := prog_1_method_12_code
def yX7_at : MethodName := ⟨RX7, "at", "(I)I"⟩
abbrev cX7_can : ByteArray := prog_1_method_13_code
def yX7_can : MethodName := ⟨RX7, "can", "(I)Z"⟩
abbrev cX7_turn : ByteArray := prog_1_method_14_code
def yX7_turn : MethodName := ⟨RX7, "turn", "(IZ)V"⟩
abbrev cX7_count : ByteArray := prog_1_method_15_code
def yX7_count : MethodName := ⟨RX7, "count", "(I)I"⟩
abbrev cX7_expandKey : ByteArray := prog_1_method_16_code
def yX7_expandKey : MethodName := ⟨RX7, "expandKey", "()V"⟩
abbrev cX7_wayOf : ByteArray := prog_1_method_17_code
def yX7_wayOf : MethodName := ⟨RX7, "wayOf", "(I)LNumeralCipher$Way;"⟩
abbrev cX7_isTurnable : ByteArray := prog_1_method_18_code
def yX7_isTurnable : MethodName := ⟨RX7, "isTurnable", "(I)Z"⟩
abbrev cX7_runRounds : ByteArray := prog_1_method_19_code
def yX7_runRounds : MethodName := ⟨RX7, "runRounds", "(LNumeralCipher$Way;Z)V"⟩
def RX8 : String := "NumeralCipherModel"
def TX8 : u_T := fun k => match k with
  | 0 => ("NumeralCipherModel", "thrown", "I", false)
  | 1 => ("NumeralCipherModel", "bytes", "I", false)
  | 2 => ("NumeralCipherModel", "buffer", "[I", false)
  | 3 => ("NumeralCipherModel", "keySize", "I", false)
  | 4 => ("NumeralCipherModel", "key", "[I", false)
  | 5 => ("NumeralCipherModel", "tweakSize", "I", false)
  | 6 => ("NumeralCipherModel", "tweak", "[I", false)
  | 7 => ("NumeralCipherModel", "radix", "I", false)
  | 8 => ("NumeralCipherModel", "many", "I", false)
  | 9 => ("NumeralCipherModel", "row", "[I", false)
  | 10 => ("NumeralCipherModel", "boxOf", "[I", false)
  | 11 => ("NumeralCipherModel", "words", "[I", false)
  | 12 => ("NumeralCipherModel", "rounds", "I", false)
  | 13 => ("NumeralCipherModel", "block", "[I", false)
  | 14 => ("NumeralCipherModel", "moved", "[I", false)
  | 15 => ("NumeralCipherModel", "sizeA", "I", false)
  | 16 => ("NumeralCipherModel", "sizeB", "I", false)
  | 17 => ("NumeralCipherModel", "halfA", "[I", false)
  | 18 => ("NumeralCipherModel", "halfB", "[I", false)
  | 19 => ("NumeralCipherModel", "halfC", "[I", false)
  | 20 => ("NumeralCipherModel", "number", "[I", false)
  | 21 => ("NumeralCipherModel", "message", "[I", false)
  | _ => ("NumeralCipherModel", "stream", "[I", false)
def tyX8 : Nat → FieldType := fun k => match k with
  | 0 => .int
  | 1 => .int
  | 2 => .array .int
  | 3 => .int
  | 4 => .array .int
  | 5 => .int
  | 6 => .array .int
  | 7 => .int
  | 8 => .int
  | 9 => .array .int
  | 10 => .array .int
  | 11 => .array .int
  | 12 => .int
  | 13 => .array .int
  | 14 => .array .int
  | 15 => .int
  | 16 => .int
  | 17 => .array .int
  | 18 => .array .int
  | 19 => .array .int
  | 20 => .array .int
  | 21 => .array .int
  | _ => .array .int
abbrev wsX80 : List Cond := u_ws RX8 TX8 23
theorem nmX8 : ∀ a, a < 23 → ∀ b, b < 23 → a ≠ b → (TX8 a).2.1 ≠ (TX8 b).2.1 := by decide +kernel
theorem tyX8_ok : ∀ k, k < 23 → parseFieldDescriptor (TX8 k).2.2.1 = some (tyX8 k) := by decide +kernel
abbrev cX8_init : ByteArray := prog_10_method_1_code
def yX8_init : MethodName := ⟨RX8, "<init>", "()V"⟩
abbrev cX8_thrown : ByteArray := prog_10_method_2_code
def yX8_thrown : MethodName := ⟨RX8, "thrown", "()I"⟩
abbrev cX8_in : ByteArray := prog_10_method_3_code
def yX8_in : MethodName := ⟨RX8, "in", "(JJJ)Z"⟩
abbrev cX8_refuses : ByteArray := prog_10_method_4_code
def yX8_refuses : MethodName := ⟨RX8, "refuses", "(ZI)Z"⟩
abbrev cX8_times : ByteArray := prog_10_method_5_code
def yX8_times : MethodName := ⟨RX8, "times", "(II)I"⟩
abbrev cX8_sOf : ByteArray := prog_10_method_6_code
def yX8_sOf : MethodName := ⟨RX8, "sOf", "(I)I"⟩
abbrev cX8_makeWords : ByteArray := prog_10_method_7_code
def yX8_makeWords : MethodName := ⟨RX8, "makeWords", "(Z)V"⟩
abbrev cX8_addWords : ByteArray := prog_10_method_8_code
def yX8_addWords : MethodName := ⟨RX8, "addWords", "(I)V"⟩
abbrev cX8_encipher : ByteArray := prog_10_method_9_code
def yX8_encipher : MethodName := ⟨RX8, "encipher", "()V"⟩
abbrev cX8_lay : ByteArray := prog_10_method_10_code
def yX8_lay : MethodName := ⟨RX8, "lay", "([IIIZ)V"⟩
abbrev cX8_bytesOf : ByteArray := prog_10_method_11_code
def yX8_bytesOf : MethodName := ⟨RX8, "bytesOf", "(I)I"⟩
abbrev cX8_takeNumeral : ByteArray := prog_10_method_12_code
def yX8_takeNumeral : MethodName := ⟨RX8, "takeNumeral", "(I)I"⟩
abbrev cX8_add : ByteArray := prog_10_method_13_code
def yX8_add : MethodName := ⟨RX8, "add", "([IIIZZ)V"⟩
abbrev cX8_part : ByteArray := prog_10_method_14_code
def yX8_part : MethodName := ⟨RX8, "part", "(I)V"⟩
abbrev cX8_change : ByteArray := prog_10_method_15_code
def yX8_change : MethodName := ⟨RX8, "change", "(IZ)V"⟩
abbrev cX8_join : ByteArray := prog_10_method_16_code
def yX8_join : MethodName := ⟨RX8, "join", "()V"⟩
abbrev cX8_first : ByteArray := prog_10_method_17_code
def yX8_first : MethodName := ⟨RX8, "first", "(I)V"⟩
abbrev cX8_makeStream : ByteArray := prog_10_method_18_code
def yX8_makeStream : MethodName := ⟨RX8, "makeStream", "(IIIIZ)V"⟩
abbrev cX8_turnFirst : ByteArray := prog_10_method_19_code
def yX8_turnFirst : MethodName := ⟨RX8, "turnFirst", "(Z)V"⟩
abbrev cX8_turnSecond : ByteArray := prog_10_method_20_code
def yX8_turnSecond : MethodName := ⟨RX8, "turnSecond", "(Z)V"⟩
abbrev cX8_canTurn : ByteArray := prog_10_method_21_code
def yX8_canTurn : MethodName := ⟨RX8, "canTurn", "(I)Z"⟩
abbrev cX8_type : ByteArray := prog_10_method_22_code
def yX8_type : MethodName := ⟨RX8, "type", "(JI)I"⟩
abbrev cX8_keep : ByteArray := prog_10_method_23_code
def yX8_keep : MethodName := ⟨RX8, "keep", "(I)V"⟩
abbrev cX8_typed : ByteArray := prog_10_method_24_code
def yX8_typed : MethodName := ⟨RX8, "typed", "(I)I"⟩
abbrev cX8_key : ByteArray := prog_10_method_25_code
def yX8_key : MethodName := ⟨RX8, "key", "()I"⟩
abbrev cX8_tweak : ByteArray := prog_10_method_26_code
def yX8_tweak : MethodName := ⟨RX8, "tweak", "()I"⟩
abbrev cX8_block : ByteArray := prog_10_method_27_code
def yX8_block : MethodName := ⟨RX8, "block", "()V"⟩
abbrev cX8_radix : ByteArray := prog_10_method_28_code
def yX8_radix : MethodName := ⟨RX8, "radix", "(I)I"⟩
abbrev cX8_numeral : ByteArray := prog_10_method_29_code
def yX8_numeral : MethodName := ⟨RX8, "numeral", "(I)I"⟩
abbrev cX8_cut : ByteArray := prog_10_method_30_code
def yX8_cut : MethodName := ⟨RX8, "cut", "(I)V"⟩
abbrev cX8_set : ByteArray := prog_10_method_31_code
def yX8_set : MethodName := ⟨RX8, "set", "(II)I"⟩
abbrev cX8_at : ByteArray := prog_10_method_32_code
def yX8_at : MethodName := ⟨RX8, "at", "(I)I"⟩
abbrev cX8_can : ByteArray := prog_10_method_33_code
def yX8_can : MethodName := ⟨RX8, "can", "(I)Z"⟩
abbrev cX8_turn : ByteArray := prog_10_method_34_code
def yX8_turn : MethodName := ⟨RX8, "turn", "(IZ)V"⟩
abbrev cX8_count : ByteArray := prog_10_method_35_code
def yX8_count : MethodName := ⟨RX8, "count", "(I)I"⟩
def RJ9 : String := "java/lang/Math"
def TJ9 : u_T := fun k => match k with
  | _ => ("", "", "", false)
def tyJ9 : Nat → FieldType := fun k => match k with
  | _ => .int
abbrev wsJ90 : List Cond := u_ws RJ9 TJ9 0
theorem nmJ9 : ∀ a, a < 0 → ∀ b, b < 0 → a ≠ b → (TJ9 a).2.1 ≠ (TJ9 b).2.1 := by decide +kernel
theorem tyJ9_ok : ∀ k, k < 0 → parseFieldDescriptor (TJ9 k).2.2.1 = some (tyJ9 k) := by decide +kernel
abbrev cJ9_max_7cf53 : ByteArray := prog_15_method_65_code
def yJ9_max_7cf53 : MethodName := ⟨RJ9, "max", "(II)I"⟩
def RJ0 : String := "java/lang/String"
def TJ0 : u_T := fun k => match k with
  | _ => ("", "", "", false)
def tyJ0 : Nat → FieldType := fun k => match k with
  | _ => .int
abbrev wsJ00 : List Cond := u_ws RJ0 TJ0 0
theorem nmJ0 : ∀ a, a < 0 → ∀ b, b < 0 → a ≠ b → (TJ0 a).2.1 ≠ (TJ0 b).2.1 := by decide +kernel
theorem tyJ0_ok : ∀ k, k < 0 → parseFieldDescriptor (TJ0 k).2.2.1 = some (tyJ0 k) := by decide +kernel
def RJ10 : String := "java/lang/System"
def TJ10 : u_T := fun k => match k with
  | _ => ("", "", "", false)
def tyJ10 : Nat → FieldType := fun k => match k with
  | _ => .int
abbrev wsJ100 : List Cond := u_ws RJ10 TJ10 0
theorem nmJ10 : ∀ a, a < 0 → ∀ b, b < 0 → a ≠ b → (TJ10 a).2.1 ≠ (TJ10 b).2.1 := by decide +kernel
theorem tyJ10_ok : ∀ k, k < 0 → parseFieldDescriptor (TJ10 k).2.2.1 = some (tyJ10 k) := by decide +kernel
def RJ7 : String := "java/util/Arrays"
def TJ7 : u_T := fun k => match k with
  | _ => ("", "", "", false)
def tyJ7 : Nat → FieldType := fun k => match k with
  | _ => .int
abbrev wsJ70 : List Cond := u_ws RJ7 TJ7 0
theorem nmJ7 : ∀ a, a < 0 → ∀ b, b < 0 → a ≠ b → (TJ7 a).2.1 ≠ (TJ7 b).2.1 := by decide +kernel
theorem tyJ7_ok : ∀ k, k < 0 → parseFieldDescriptor (TJ7 k).2.2.1 = some (tyJ7 k) := by decide +kernel
abbrev cJ7_fill_53178 : ByteArray := prog_21_method_103_code
def yJ7_fill_53178 : MethodName := ⟨RJ7, "fill", "([II)V"⟩
def RL : String := "NumeralCipherLaw"
abbrev cL_type : ByteArray := method_3_code
def yL_type : MethodName := ⟨RL, "type", "(LNumeralCipher;JI[J)I"⟩
abbrev cL_keep : ByteArray := method_4_code
def yL_keep : MethodName := ⟨RL, "keep", "(LNumeralCipher;I)I"⟩
abbrev cL_typed : ByteArray := method_5_code
def yL_typed : MethodName := ⟨RL, "typed", "(LNumeralCipher;I[J)I"⟩
abbrev cL_key : ByteArray := method_6_code
def yL_key : MethodName := ⟨RL, "key", "(LNumeralCipher;[J)I"⟩
abbrev cL_tweak : ByteArray := method_7_code
def yL_tweak : MethodName := ⟨RL, "tweak", "(LNumeralCipher;[J)I"⟩
abbrev cL_block : ByteArray := method_8_code
def yL_block : MethodName := ⟨RL, "block", "(LNumeralCipher;)I"⟩
abbrev cL_radix : ByteArray := method_9_code
def yL_radix : MethodName := ⟨RL, "radix", "(LNumeralCipher;I[J)I"⟩
abbrev cL_numeral : ByteArray := method_10_code
def yL_numeral : MethodName := ⟨RL, "numeral", "(LNumeralCipher;I[J)I"⟩
abbrev cL_cut : ByteArray := method_11_code
def yL_cut : MethodName := ⟨RL, "cut", "(LNumeralCipher;I)I"⟩
abbrev cL_set : ByteArray := method_12_code
def yL_set : MethodName := ⟨RL, "set", "(LNumeralCipher;II[J)I"⟩
abbrev cL_at : ByteArray := method_13_code
def yL_at : MethodName := ⟨RL, "at", "(LNumeralCipher;I[J)I"⟩
abbrev cL_can : ByteArray := method_14_code
def yL_can : MethodName := ⟨RL, "can", "(LNumeralCipher;I[J)I"⟩
abbrev cL_turn : ByteArray := method_15_code
def yL_turn : MethodName := ⟨RL, "turn", "(LNumeralCipher;IZ)I"⟩
abbrev cL_count : ByteArray := method_16_code
def yL_count : MethodName := ⟨RL, "count", "(LNumeralCipher;I[J)I"⟩
abbrev cL_law : ByteArray := code
def yL_law : MethodName := ⟨RL, "law", "([I)Z"⟩
def wsX0_init : List Cond := .code yX0_init cX0_init 1 none :: ([.methodLink RX0 3 objectInit, .instanceMethod objectInit, .code objectInit ⟨#[0xb1]⟩ 1 none, .arrayClass .int, .fieldLink RX0 11 "NumeralCipher$BlockCipher" "schedule" "[I", .fieldLink RX0 15 "NumeralCipher$BlockCipher" "moved" "[I"] ++ wsX00)
def wsX1_wordAt : List Cond := .code yX1_wordAt cX1_wordAt 3 (some .int) :: ([.fieldLink RX1 9 "NumeralCipher$Bytes" "cells" "[I"] ++ wsX10)
def wsX0_rotated : List Cond := .code yX0_rotated cX0_rotated 2 (some .int) :: ([])
def wsX0_bytesTurned : List Cond := .code yX0_bytesTurned cX0_bytesTurned 1 (some .int) :: ([.constant RX0 59 (16711935), .constant RX0 60 (-16711936), .methodLink RX0 34 yX0_rotated, .static yX0_rotated, .initialized RX0, .code yX0_rotated cX0_rotated 2 (some .int)])
def wsX0_substituted : List Cond := .code yX0_substituted cX0_substituted 1 (some .int) :: ([.fieldLink RX0 54 "NumeralCipher$BlockCipher" "S" "[I"])
def wsX0_doubled : List Cond := .code yX0_doubled cX0_doubled 1 (some .int) :: ([.constant RX0 57 (2139062143), .constant RX0 58 (16843009)])
def wsX0_expand_r1 : List Cond := [Cond.fieldLink RX0 24 "NumeralCipher$BlockCipher" "rounds" "I", Cond.fieldLink RX0 11 "NumeralCipher$BlockCipher" "schedule" "[I", Cond.methodLink RX0 27 yX1_wordAt, Cond.instanceMethod yX1_wordAt, Cond.selects RX1 yX1_wordAt yX1_wordAt, Cond.initialized RX1, Cond.code yX1_wordAt cX1_wordAt 3 (some .int), Cond.fieldLink RX1 9 "NumeralCipher$Bytes" "cells" "[I", Cond.methodLink RX0 31 yX0_bytesTurned, Cond.static yX0_bytesTurned, Cond.initialized RX0, Cond.code yX0_bytesTurned cX0_bytesTurned 1 (some .int), Cond.constant RX0 59 (16711935), Cond.constant RX0 60 (-16711936), Cond.methodLink RX0 34 yX0_rotated, Cond.static yX0_rotated, Cond.code yX0_rotated cX0_rotated 2 (some .int), Cond.methodLink RX0 38 yX0_substituted, Cond.static yX0_substituted, Cond.code yX0_substituted cX0_substituted 1 (some .int), Cond.fieldLink RX0 54 "NumeralCipher$BlockCipher" "S" "[I", Cond.methodLink RX0 41 yX0_doubled, Cond.static yX0_doubled, Cond.code yX0_doubled cX0_doubled 1 (some .int)]
def wsX0_expand_r2 : List Cond := [Cond.constant RX0 57 (2139062143), Cond.constant RX0 58 (16843009)]
def wsX0_expand : List Cond := .code yX0_expand cX0_expand 7 none :: ((wsX0_expand_r1 ++ wsX0_expand_r2) ++ wsX10 ++ wsX00)
def wsX0_diagonal : List Cond := .code yX0_diagonal cX0_diagonal 2 (some .int) :: ([.constant RX0 51 (-16777216), .constant RX0 52 (16711680), .constant RX0 53 (65280)])
def wsX0_mixed : List Cond := .code yX0_mixed cX0_mixed 2 (some .int) :: ([.methodLink RX0 41 yX0_doubled, .static yX0_doubled, .initialized RX0, .code yX0_doubled cX0_doubled 1 (some .int), .constant RX0 57 (2139062143), .constant RX0 58 (16843009), .methodLink RX0 34 yX0_rotated, .static yX0_rotated, .code yX0_rotated cX0_rotated 2 (some .int)])
def wsX0_encipher_r1 : List Cond := [Cond.fieldLink RX0 11 "NumeralCipher$BlockCipher" "schedule" "[I", Cond.fieldLink RX0 24 "NumeralCipher$BlockCipher" "rounds" "I", Cond.fieldLink RX0 15 "NumeralCipher$BlockCipher" "moved" "[I", Cond.methodLink RX0 44 yX0_diagonal, Cond.static yX0_diagonal, Cond.initialized RX0, Cond.code yX0_diagonal cX0_diagonal 2 (some .int), Cond.constant RX0 51 (-16777216), Cond.constant RX0 52 (16711680), Cond.constant RX0 53 (65280), Cond.methodLink RX0 38 yX0_substituted, Cond.static yX0_substituted, Cond.code yX0_substituted cX0_substituted 1 (some .int), Cond.fieldLink RX0 54 "NumeralCipher$BlockCipher" "S" "[I", Cond.methodLink RX0 48 yX0_mixed, Cond.static yX0_mixed, Cond.code yX0_mixed cX0_mixed 2 (some .int), Cond.methodLink RX0 41 yX0_doubled, Cond.static yX0_doubled, Cond.code yX0_doubled cX0_doubled 1 (some .int), Cond.constant RX0 57 (2139062143), Cond.constant RX0 58 (16843009), Cond.methodLink RX0 34 yX0_rotated, Cond.static yX0_rotated]
def wsX0_encipher_r2 : List Cond := [Cond.code yX0_rotated cX0_rotated 2 (some .int)]
def wsX0_encipher : List Cond := .code yX0_encipher cX0_encipher 4 none :: ((wsX0_encipher_r1 ++ wsX0_encipher_r2) ++ wsX00)
def wsX1_init : List Cond := .code yX1_init cX1_init 1 none :: ([.methodLink RX1 3 objectInit, .instanceMethod objectInit, .code objectInit ⟨#[0xb1]⟩ 1 none, .arrayClass .int, .fieldLink RX1 9 "NumeralCipher$Bytes" "cells" "[I"] ++ wsX10)
def wsX1_takeAll : List Cond := .code yX1_takeAll cX1_takeAll 3 none :: ([.fieldLink RX1 9 "NumeralCipher$Bytes" "cells" "[I", .fieldLink RX1 15 "NumeralCipher$Bytes" "size" "I"] ++ wsX10)
def wsX6_init : List Cond := .code yX6_init cX6_init 1 none :: ([.methodLink RX6 1 objectInit, .instanceMethod objectInit, .code objectInit ⟨#[0xb1]⟩ 1 none, .classLink RX6 7 RX0, .instantiable RX0 3, .initialized RX0, .fieldLink RX6 10 "NumeralCipher$Way" "cipher" "LNumeralCipher$BlockCipher;", .instanceMethod yX0_init, .code yX0_init cX0_init 1 none, .methodLink RX0 3 objectInit, .arrayClass .int, .fieldLink RX0 11 "NumeralCipher$BlockCipher" "schedule" "[I", .fieldLink RX0 15 "NumeralCipher$BlockCipher" "moved" "[I"] ++ wsX00 ++ wsX20 ++ wsX50)
def wsX2_init : List Cond := .code yX2_init cX2_init 1 none :: ([.arrayClass .int, .fieldLink RX2 11 "NumeralCipher$FirstWay" "tweakWords" "[I", .fieldLink RX2 15 "NumeralCipher$FirstWay" "start" "[I", .fieldLink RX2 18 "NumeralCipher$FirstWay" "chained" "[I", .fieldLink RX2 21 "NumeralCipher$FirstWay" "spread" "[I", .instanceMethod yX6_init, .initialized RX6, .code yX6_init cX6_init 1 none, .methodLink RX6 1 objectInit, .instanceMethod objectInit, .code objectInit ⟨#[0xb1]⟩ 1 none, .classLink RX6 7 RX0, .instantiable RX0 3, .initialized RX0, .fieldLink RX6 10 "NumeralCipher$Way" "cipher" "LNumeralCipher$BlockCipher;", .instanceMethod yX0_init, .code yX0_init cX0_init 1 none, .methodLink RX0 3 objectInit, .fieldLink RX0 11 "NumeralCipher$BlockCipher" "schedule" "[I", .fieldLink RX0 15 "NumeralCipher$BlockCipher" "moved" "[I"] ++ wsX20 ++ wsX00 ++ wsX50)
def wsX2_rounds : List Cond := .code yX2_rounds cX2_rounds 1 (some .int) :: ([])
def wsX2_firstHalf : List Cond := .code yX2_firstHalf cX2_firstHalf 2 (some .int) :: ([])
def wsX2_lowestFirst : List Cond := .code yX2_lowestFirst cX2_lowestFirst 1 (some .boolean) :: ([])
def wsX2_takes : List Cond := .code yX2_takes cX2_takes 4 (some .boolean) :: ([])
def wsJ7_fill_53178 : List Cond := .code yJ7_fill_53178 cJ7_fill_53178 4 none :: ([])
def wsX3_clear : List Cond := .code yX3_clear cX3_clear 1 none :: ([.fieldLink RX3 9 "NumeralCipher$Natural" "cells" "[I", .fieldLink RX3 19 "NumeralCipher$Natural" "size" "I", .methodLink RX3 13 yJ7_fill_53178, .static yJ7_fill_53178, .initialized RJ7, .code yJ7_fill_53178 cJ7_fill_53178 4 none] ++ wsX30)
def wsX3_putWord : List Cond := .code yX3_putWord cX3_putWord 3 none :: ([.fieldLink RX3 9 "NumeralCipher$Natural" "cells" "[I", .fieldLink RX3 19 "NumeralCipher$Natural" "size" "I", .methodLink RX3 23 Lib.Math.max.name, .static Lib.Math.max.name, .initialized "java/lang/Math", .code Lib.Math.max.name Lib.Math.max.code 2 (some .int)] ++ wsX30)
def wsX3_multiplyAndAdd : List Cond := .code yX3_multiplyAndAdd cX3_multiplyAndAdd 8 none :: ([.fieldLink RX3 19 "NumeralCipher$Natural" "size" "I", .fieldLink RX3 9 "NumeralCipher$Natural" "cells" "[I", .constantLong RX3 29 (4294967295), .methodLink RX3 31 yX3_putWord, .instanceMethod yX3_putWord, .selects RX3 yX3_putWord yX3_putWord, .initialized RX3, .code yX3_putWord cX3_putWord 3 none, .methodLink RX3 23 Lib.Math.max.name, .static Lib.Math.max.name, .initialized "java/lang/Math", .code Lib.Math.max.name Lib.Math.max.code 2 (some .int)] ++ wsX30)
def wsX3_byteCount : List Cond := .code yX3_byteCount cX3_byteCount 3 (some .int) :: ([.fieldLink RX3 19 "NumeralCipher$Natural" "size" "I", .fieldLink RX3 9 "NumeralCipher$Natural" "cells" "[I"] ++ wsX30)
def wsX4_widthOf_r1 : List Cond := [Cond.fieldLink RX4 15 "NumeralCipher$Row" "base" "I", Cond.methodLink RX4 24 yX3_clear, Cond.instanceMethod yX3_clear, Cond.selects RX3 yX3_clear yX3_clear, Cond.initialized RX3, Cond.code yX3_clear cX3_clear 1 none, Cond.fieldLink RX3 9 "NumeralCipher$Natural" "cells" "[I", Cond.fieldLink RX3 19 "NumeralCipher$Natural" "size" "I", Cond.methodLink RX3 13 yJ7_fill_53178, Cond.static yJ7_fill_53178, Cond.initialized RJ7, Cond.code yJ7_fill_53178 cJ7_fill_53178 4 none, Cond.methodLink RX4 29 yX3_multiplyAndAdd, Cond.instanceMethod yX3_multiplyAndAdd, Cond.selects RX3 yX3_multiplyAndAdd yX3_multiplyAndAdd, Cond.code yX3_multiplyAndAdd cX3_multiplyAndAdd 8 none, Cond.constantLong RX3 29 (4294967295), Cond.methodLink RX3 31 yX3_putWord, Cond.instanceMethod yX3_putWord, Cond.selects RX3 yX3_putWord yX3_putWord, Cond.code yX3_putWord cX3_putWord 3 none, Cond.methodLink RX3 23 Lib.Math.max.name, Cond.static Lib.Math.max.name, Cond.initialized "java/lang/Math"]
def wsX4_widthOf_r2 : List Cond := [Cond.code Lib.Math.max.name Lib.Math.max.code 2 (some .int), Cond.methodLink RX4 33 yX3_byteCount, Cond.instanceMethod yX3_byteCount, Cond.selects RX3 yX3_byteCount yX3_byteCount, Cond.code yX3_byteCount cX3_byteCount 3 (some .int)]
def wsX4_widthOf : List Cond := .code yX4_widthOf cX4_widthOf 4 (some .int) :: ((wsX4_widthOf_r1 ++ wsX4_widthOf_r2) ++ wsX40 ++ wsX30)
def wsX2_begin_r1 : List Cond := [Cond.fieldLink RX2 38 "NumeralCipher$FirstWay" "addendWords" "I", Cond.fieldLink RX2 44 "NumeralCipher$FirstWay" "inputWords" "I", Cond.fieldLink RX2 47 "NumeralCipher$FirstWay" "roundPlace" "I", Cond.fieldLink RX2 11 "NumeralCipher$FirstWay" "tweakWords" "[I", Cond.fieldLink RX2 15 "NumeralCipher$FirstWay" "start" "[I", Cond.constant RX2 53 (16908544), Cond.constant RX2 57 (65535), Cond.fieldLink RX2 58 "NumeralCipher$FirstWay" "cipher" "LNumeralCipher$BlockCipher;", Cond.sameField "NumeralCipher$FirstWay" "NumeralCipher$Way" "cipher" "LNumeralCipher$BlockCipher;", Cond.methodLink RX2 30 yX2_firstHalf, Cond.instanceMethod yX2_firstHalf, Cond.selects RX2 yX2_firstHalf yX2_firstHalf, Cond.initialized RX2, Cond.code yX2_firstHalf cX2_firstHalf 2 (some .int), Cond.methodLink RX2 34 yX4_widthOf, Cond.instanceMethod yX4_widthOf, Cond.selects RX4 yX4_widthOf yX4_widthOf, Cond.initialized RX4, Cond.code yX4_widthOf cX4_widthOf 4 (some .int), Cond.fieldLink RX4 15 "NumeralCipher$Row" "base" "I", Cond.methodLink RX4 24 yX3_clear, Cond.instanceMethod yX3_clear, Cond.selects RX3 yX3_clear yX3_clear, Cond.initialized RX3]
def wsX2_begin_r2 : List Cond := [Cond.code yX3_clear cX3_clear 1 none, Cond.fieldLink RX3 9 "NumeralCipher$Natural" "cells" "[I", Cond.fieldLink RX3 19 "NumeralCipher$Natural" "size" "I", Cond.methodLink RX3 13 yJ7_fill_53178, Cond.static yJ7_fill_53178, Cond.initialized RJ7, Cond.code yJ7_fill_53178 cJ7_fill_53178 4 none, Cond.methodLink RX4 29 yX3_multiplyAndAdd, Cond.instanceMethod yX3_multiplyAndAdd, Cond.selects RX3 yX3_multiplyAndAdd yX3_multiplyAndAdd, Cond.code yX3_multiplyAndAdd cX3_multiplyAndAdd 8 none, Cond.constantLong RX3 29 (4294967295), Cond.methodLink RX3 31 yX3_putWord, Cond.instanceMethod yX3_putWord, Cond.selects RX3 yX3_putWord yX3_putWord, Cond.code yX3_putWord cX3_putWord 3 none, Cond.methodLink RX3 23 Lib.Math.max.name, Cond.static Lib.Math.max.name, Cond.initialized "java/lang/Math", Cond.code Lib.Math.max.name Lib.Math.max.code 2 (some .int), Cond.methodLink RX4 33 yX3_byteCount, Cond.instanceMethod yX3_byteCount, Cond.selects RX3 yX3_byteCount yX3_byteCount, Cond.code yX3_byteCount cX3_byteCount 3 (some .int)]
def wsX2_begin_r3 : List Cond := [Cond.methodLink RX2 50 yX1_wordAt, Cond.instanceMethod yX1_wordAt, Cond.selects RX1 yX1_wordAt yX1_wordAt, Cond.initialized RX1, Cond.code yX1_wordAt cX1_wordAt 3 (some .int), Cond.fieldLink RX1 9 "NumeralCipher$Bytes" "cells" "[I", Cond.methodLink RX2 62 yX0_encipher, Cond.instanceMethod yX0_encipher, Cond.selects RX0 yX0_encipher yX0_encipher, Cond.initialized RX0, Cond.code yX0_encipher cX0_encipher 4 none, Cond.fieldLink RX0 11 "NumeralCipher$BlockCipher" "schedule" "[I", Cond.fieldLink RX0 24 "NumeralCipher$BlockCipher" "rounds" "I", Cond.fieldLink RX0 15 "NumeralCipher$BlockCipher" "moved" "[I", Cond.methodLink RX0 44 yX0_diagonal, Cond.static yX0_diagonal, Cond.code yX0_diagonal cX0_diagonal 2 (some .int), Cond.constant RX0 51 (-16777216), Cond.constant RX0 52 (16711680), Cond.constant RX0 53 (65280), Cond.methodLink RX0 38 yX0_substituted, Cond.static yX0_substituted, Cond.code yX0_substituted cX0_substituted 1 (some .int), Cond.fieldLink RX0 54 "NumeralCipher$BlockCipher" "S" "[I"]
def wsX2_begin_r4 : List Cond := [Cond.methodLink RX0 48 yX0_mixed, Cond.static yX0_mixed, Cond.code yX0_mixed cX0_mixed 2 (some .int), Cond.methodLink RX0 41 yX0_doubled, Cond.static yX0_doubled, Cond.code yX0_doubled cX0_doubled 1 (some .int), Cond.constant RX0 57 (2139062143), Cond.constant RX0 58 (16843009), Cond.methodLink RX0 34 yX0_rotated, Cond.static yX0_rotated, Cond.code yX0_rotated cX0_rotated 2 (some .int)]
def wsX2_begin : List Cond := .code yX2_begin cX2_begin 7 none :: ((wsX2_begin_r1 ++ (wsX2_begin_r2 ++ (wsX2_begin_r3 ++ wsX2_begin_r4))) ++ wsX40 ++ wsX20 ++ wsX10 ++ wsX50 ++ wsX30 ++ wsX00)
def wsX3_wordAt : List Cond := .code yX3_wordAt cX3_wordAt 2 (some .int) :: ([.fieldLink RX3 19 "NumeralCipher$Natural" "size" "I", .fieldLink RX3 9 "NumeralCipher$Natural" "cells" "[I"] ++ wsX30)
def wsX2_inputWord : List Cond := .code yX2_inputWord cX2_inputWord 5 (some .int) :: ([.fieldLink RX2 44 "NumeralCipher$FirstWay" "inputWords" "I", .fieldLink RX2 11 "NumeralCipher$FirstWay" "tweakWords" "[I", .fieldLink RX2 47 "NumeralCipher$FirstWay" "roundPlace" "I", .methodLink RX2 91 yX3_wordAt, .instanceMethod yX3_wordAt, .selects RX3 yX3_wordAt yX3_wordAt, .initialized RX3, .code yX3_wordAt cX3_wordAt 2 (some .int), .fieldLink RX3 19 "NumeralCipher$Natural" "size" "I", .fieldLink RX3 9 "NumeralCipher$Natural" "cells" "[I"] ++ wsX20 ++ wsX30)
def wsX2_chainInput_r1 : List Cond := [Cond.fieldLink RX2 15 "NumeralCipher$FirstWay" "start" "[I", Cond.fieldLink RX2 18 "NumeralCipher$FirstWay" "chained" "[I", Cond.methodLink RX2 77 arraycopyName, Cond.native arraycopyName, Cond.static arraycopyName, Cond.initialized "java/lang/System", Cond.fieldLink RX2 44 "NumeralCipher$FirstWay" "inputWords" "I", Cond.fieldLink RX2 58 "NumeralCipher$FirstWay" "cipher" "LNumeralCipher$BlockCipher;", Cond.sameField "NumeralCipher$FirstWay" "NumeralCipher$Way" "cipher" "LNumeralCipher$BlockCipher;", Cond.methodLink RX2 87 yX2_inputWord, Cond.instanceMethod yX2_inputWord, Cond.selects RX2 yX2_inputWord yX2_inputWord, Cond.initialized RX2, Cond.code yX2_inputWord cX2_inputWord 5 (some .int), Cond.fieldLink RX2 11 "NumeralCipher$FirstWay" "tweakWords" "[I", Cond.fieldLink RX2 47 "NumeralCipher$FirstWay" "roundPlace" "I", Cond.methodLink RX2 91 yX3_wordAt, Cond.instanceMethod yX3_wordAt, Cond.selects RX3 yX3_wordAt yX3_wordAt, Cond.initialized RX3, Cond.code yX3_wordAt cX3_wordAt 2 (some .int), Cond.fieldLink RX3 19 "NumeralCipher$Natural" "size" "I", Cond.fieldLink RX3 9 "NumeralCipher$Natural" "cells" "[I", Cond.methodLink RX2 62 yX0_encipher]
def wsX2_chainInput_r2 : List Cond := [Cond.instanceMethod yX0_encipher, Cond.selects RX0 yX0_encipher yX0_encipher, Cond.initialized RX0, Cond.code yX0_encipher cX0_encipher 4 none, Cond.fieldLink RX0 11 "NumeralCipher$BlockCipher" "schedule" "[I", Cond.fieldLink RX0 24 "NumeralCipher$BlockCipher" "rounds" "I", Cond.fieldLink RX0 15 "NumeralCipher$BlockCipher" "moved" "[I", Cond.methodLink RX0 44 yX0_diagonal, Cond.static yX0_diagonal, Cond.code yX0_diagonal cX0_diagonal 2 (some .int), Cond.constant RX0 51 (-16777216), Cond.constant RX0 52 (16711680), Cond.constant RX0 53 (65280), Cond.methodLink RX0 38 yX0_substituted, Cond.static yX0_substituted, Cond.code yX0_substituted cX0_substituted 1 (some .int), Cond.fieldLink RX0 54 "NumeralCipher$BlockCipher" "S" "[I", Cond.methodLink RX0 48 yX0_mixed, Cond.static yX0_mixed, Cond.code yX0_mixed cX0_mixed 2 (some .int), Cond.methodLink RX0 41 yX0_doubled, Cond.static yX0_doubled, Cond.code yX0_doubled cX0_doubled 1 (some .int), Cond.constant RX0 57 (2139062143)]
def wsX2_chainInput_r3 : List Cond := [Cond.constant RX0 58 (16843009), Cond.methodLink RX0 34 yX0_rotated, Cond.static yX0_rotated, Cond.code yX0_rotated cX0_rotated 2 (some .int)]
def wsX2_chainInput : List Cond := .code yX2_chainInput cX2_chainInput 4 none :: ((wsX2_chainInput_r1 ++ (wsX2_chainInput_r2 ++ wsX2_chainInput_r3)) ++ wsX20 ++ wsX50 ++ wsX30 ++ wsX00)
def wsX2_makeAddend_r1 : List Cond := [Cond.fieldLink RX2 18 "NumeralCipher$FirstWay" "chained" "[I", Cond.fieldLink RX2 21 "NumeralCipher$FirstWay" "spread" "[I", Cond.methodLink RX2 77 arraycopyName, Cond.native arraycopyName, Cond.static arraycopyName, Cond.initialized "java/lang/System", Cond.fieldLink RX2 38 "NumeralCipher$FirstWay" "addendWords" "I", Cond.fieldLink RX2 58 "NumeralCipher$FirstWay" "cipher" "LNumeralCipher$BlockCipher;", Cond.sameField "NumeralCipher$FirstWay" "NumeralCipher$Way" "cipher" "LNumeralCipher$BlockCipher;", Cond.methodLink RX2 68 yX2_chainInput, Cond.instanceMethod yX2_chainInput, Cond.selects RX2 yX2_chainInput yX2_chainInput, Cond.initialized RX2, Cond.code yX2_chainInput cX2_chainInput 4 none, Cond.fieldLink RX2 15 "NumeralCipher$FirstWay" "start" "[I", Cond.fieldLink RX2 44 "NumeralCipher$FirstWay" "inputWords" "I", Cond.methodLink RX2 87 yX2_inputWord, Cond.instanceMethod yX2_inputWord, Cond.selects RX2 yX2_inputWord yX2_inputWord, Cond.code yX2_inputWord cX2_inputWord 5 (some .int), Cond.fieldLink RX2 11 "NumeralCipher$FirstWay" "tweakWords" "[I", Cond.fieldLink RX2 47 "NumeralCipher$FirstWay" "roundPlace" "I", Cond.methodLink RX2 91 yX3_wordAt, Cond.instanceMethod yX3_wordAt]
def wsX2_makeAddend_r2 : List Cond := [Cond.selects RX3 yX3_wordAt yX3_wordAt, Cond.initialized RX3, Cond.code yX3_wordAt cX3_wordAt 2 (some .int), Cond.fieldLink RX3 19 "NumeralCipher$Natural" "size" "I", Cond.fieldLink RX3 9 "NumeralCipher$Natural" "cells" "[I", Cond.methodLink RX2 62 yX0_encipher, Cond.instanceMethod yX0_encipher, Cond.selects RX0 yX0_encipher yX0_encipher, Cond.initialized RX0, Cond.code yX0_encipher cX0_encipher 4 none, Cond.fieldLink RX0 11 "NumeralCipher$BlockCipher" "schedule" "[I", Cond.fieldLink RX0 24 "NumeralCipher$BlockCipher" "rounds" "I", Cond.fieldLink RX0 15 "NumeralCipher$BlockCipher" "moved" "[I", Cond.methodLink RX0 44 yX0_diagonal, Cond.static yX0_diagonal, Cond.code yX0_diagonal cX0_diagonal 2 (some .int), Cond.constant RX0 51 (-16777216), Cond.constant RX0 52 (16711680), Cond.constant RX0 53 (65280), Cond.methodLink RX0 38 yX0_substituted, Cond.static yX0_substituted, Cond.code yX0_substituted cX0_substituted 1 (some .int), Cond.fieldLink RX0 54 "NumeralCipher$BlockCipher" "S" "[I", Cond.methodLink RX0 48 yX0_mixed]
def wsX2_makeAddend_r3 : List Cond := [Cond.static yX0_mixed, Cond.code yX0_mixed cX0_mixed 2 (some .int), Cond.methodLink RX0 41 yX0_doubled, Cond.static yX0_doubled, Cond.code yX0_doubled cX0_doubled 1 (some .int), Cond.constant RX0 57 (2139062143), Cond.constant RX0 58 (16843009), Cond.methodLink RX0 34 yX0_rotated, Cond.static yX0_rotated, Cond.code yX0_rotated cX0_rotated 2 (some .int), Cond.methodLink RX2 72 yX3_clear, Cond.instanceMethod yX3_clear, Cond.selects RX3 yX3_clear yX3_clear, Cond.code yX3_clear cX3_clear 1 none, Cond.methodLink RX3 13 yJ7_fill_53178, Cond.static yJ7_fill_53178, Cond.initialized RJ7, Cond.code yJ7_fill_53178 cJ7_fill_53178 4 none, Cond.methodLink RX2 83 yX3_putWord, Cond.instanceMethod yX3_putWord, Cond.selects RX3 yX3_putWord yX3_putWord, Cond.code yX3_putWord cX3_putWord 3 none, Cond.methodLink RX3 23 Lib.Math.max.name, Cond.static Lib.Math.max.name]
def wsX2_makeAddend_r4 : List Cond := [Cond.initialized "java/lang/Math", Cond.code Lib.Math.max.name Lib.Math.max.code 2 (some .int)]
def wsX2_makeAddend : List Cond := .code yX2_makeAddend cX2_makeAddend 4 none :: ((wsX2_makeAddend_r1 ++ (wsX2_makeAddend_r2 ++ (wsX2_makeAddend_r3 ++ wsX2_makeAddend_r4))) ++ wsX20 ++ wsX50 ++ wsX30 ++ wsX00)
def wsX3_init : List Cond := .code yX3_init cX3_init 1 none :: ([.methodLink RX3 1 objectInit, .instanceMethod objectInit, .code objectInit ⟨#[0xb1]⟩ 1 none, .arrayClass .int, .fieldLink RX3 9 "NumeralCipher$Natural" "cells" "[I"] ++ wsX30)
def wsX3_divide : List Cond := .code yX3_divide cX3_divide 7 (some .int) :: ([.fieldLink RX3 19 "NumeralCipher$Natural" "size" "I", .fieldLink RX3 9 "NumeralCipher$Natural" "cells" "[I", .constantLong RX3 29 (4294967295)] ++ wsX30)
def wsX4_init : List Cond := .code yX4_init cX4_init 1 none :: ([.methodLink RX4 3 objectInit, .instanceMethod objectInit, .code objectInit ⟨#[0xb1]⟩ 1 none, .arrayClass .int, .fieldLink RX4 9 "NumeralCipher$Row" "cells" "[I", .fieldLink RX4 15 "NumeralCipher$Row" "base" "I"] ++ wsX40)
def wsX4_has : List Cond := .code yX4_has cX4_has 2 (some .boolean) :: ([.fieldLink RX4 19 "NumeralCipher$Row" "size" "I"] ++ wsX40)
def wsX4_isNumeral : List Cond := .code yX4_isNumeral cX4_isNumeral 2 (some .boolean) :: ([.fieldLink RX4 15 "NumeralCipher$Row" "base" "I"] ++ wsX40)
def wsX4_isLongEnough : List Cond := .code yX4_isLongEnough cX4_isLongEnough 4 (some .boolean) :: ([.fieldLink RX4 19 "NumeralCipher$Row" "size" "I", .constantLong RX4 22 (1000000), .fieldLink RX4 15 "NumeralCipher$Row" "base" "I"] ++ wsX40)
def wsX4_placeOf : List Cond := .code yX4_placeOf cX4_placeOf 4 (some .int) :: ([])
def wsX4_readPart_r1 : List Cond := [Cond.fieldLink RX4 15 "NumeralCipher$Row" "base" "I", Cond.fieldLink RX4 9 "NumeralCipher$Row" "cells" "[I", Cond.methodLink RX4 24 yX3_clear, Cond.instanceMethod yX3_clear, Cond.selects RX3 yX3_clear yX3_clear, Cond.initialized RX3, Cond.code yX3_clear cX3_clear 1 none, Cond.fieldLink RX3 9 "NumeralCipher$Natural" "cells" "[I", Cond.fieldLink RX3 19 "NumeralCipher$Natural" "size" "I", Cond.methodLink RX3 13 yJ7_fill_53178, Cond.static yJ7_fill_53178, Cond.initialized RJ7, Cond.code yJ7_fill_53178 cJ7_fill_53178 4 none, Cond.methodLink RX4 37 yX4_placeOf, Cond.static yX4_placeOf, Cond.initialized RX4, Cond.code yX4_placeOf cX4_placeOf 4 (some .int), Cond.methodLink RX4 29 yX3_multiplyAndAdd, Cond.instanceMethod yX3_multiplyAndAdd, Cond.selects RX3 yX3_multiplyAndAdd yX3_multiplyAndAdd, Cond.code yX3_multiplyAndAdd cX3_multiplyAndAdd 8 none, Cond.constantLong RX3 29 (4294967295), Cond.methodLink RX3 31 yX3_putWord, Cond.instanceMethod yX3_putWord]
def wsX4_readPart_r2 : List Cond := [Cond.selects RX3 yX3_putWord yX3_putWord, Cond.code yX3_putWord cX3_putWord 3 none, Cond.methodLink RX3 23 Lib.Math.max.name, Cond.static Lib.Math.max.name, Cond.initialized "java/lang/Math", Cond.code Lib.Math.max.name Lib.Math.max.code 2 (some .int)]
def wsX4_readPart : List Cond := .code yX4_readPart cX4_readPart 6 none :: ((wsX4_readPart_r1 ++ wsX4_readPart_r2) ++ wsX40 ++ wsX30)
def wsX4_shiftPart : List Cond := .code yX4_shiftPart cX4_shiftPart 11 none :: ([.fieldLink RX4 15 "NumeralCipher$Row" "base" "I", .fieldLink RX4 9 "NumeralCipher$Row" "cells" "[I", .methodLink RX4 37 yX4_placeOf, .static yX4_placeOf, .initialized RX4, .code yX4_placeOf cX4_placeOf 4 (some .int), .methodLink RX4 41 yX3_divide, .instanceMethod yX3_divide, .selects RX3 yX3_divide yX3_divide, .initialized RX3, .code yX3_divide cX3_divide 7 (some .int), .fieldLink RX3 19 "NumeralCipher$Natural" "size" "I", .fieldLink RX3 9 "NumeralCipher$Natural" "cells" "[I", .constantLong RX3 29 (4294967295), .methodLink RX4 45 yX4_isNumeral, .instanceMethod yX4_isNumeral, .selects RX4 yX4_isNumeral yX4_isNumeral, .code yX4_isNumeral cX4_isNumeral 2 (some .boolean)] ++ wsX40 ++ wsX30)
def wsX5_init : List Cond := .code yX5_init cX5_init 1 none :: ([.arrayClass .int, .fieldLink RX5 9 "NumeralCipher$SecondWay" "turned" "[I", .instanceMethod yX6_init, .initialized RX6, .code yX6_init cX6_init 1 none, .methodLink RX6 1 objectInit, .instanceMethod objectInit, .code objectInit ⟨#[0xb1]⟩ 1 none, .classLink RX6 7 RX0, .instantiable RX0 3, .initialized RX0, .fieldLink RX6 10 "NumeralCipher$Way" "cipher" "LNumeralCipher$BlockCipher;", .instanceMethod yX0_init, .code yX0_init cX0_init 1 none, .methodLink RX0 3 objectInit, .fieldLink RX0 11 "NumeralCipher$BlockCipher" "schedule" "[I", .fieldLink RX0 15 "NumeralCipher$BlockCipher" "moved" "[I"] ++ wsX50 ++ wsX00 ++ wsX20)
def wsX5_rounds : List Cond := .code yX5_rounds cX5_rounds 1 (some .int) :: ([])
def wsX5_firstHalf : List Cond := .code yX5_firstHalf cX5_firstHalf 2 (some .int) :: ([])
def wsX5_lowestFirst : List Cond := .code yX5_lowestFirst cX5_lowestFirst 1 (some .boolean) :: ([])
def wsX5_takes_r1 : List Cond := [Cond.methodLink RX5 24 yX5_firstHalf, Cond.instanceMethod yX5_firstHalf, Cond.selects RX5 yX5_firstHalf yX5_firstHalf, Cond.initialized RX5, Cond.code yX5_firstHalf cX5_firstHalf 2 (some .int), Cond.methodLink RX5 28 yX4_widthOf, Cond.instanceMethod yX4_widthOf, Cond.selects RX4 yX4_widthOf yX4_widthOf, Cond.initialized RX4, Cond.code yX4_widthOf cX4_widthOf 4 (some .int), Cond.fieldLink RX4 15 "NumeralCipher$Row" "base" "I", Cond.methodLink RX4 24 yX3_clear, Cond.instanceMethod yX3_clear, Cond.selects RX3 yX3_clear yX3_clear, Cond.initialized RX3, Cond.code yX3_clear cX3_clear 1 none, Cond.fieldLink RX3 9 "NumeralCipher$Natural" "cells" "[I", Cond.fieldLink RX3 19 "NumeralCipher$Natural" "size" "I", Cond.methodLink RX3 13 yJ7_fill_53178, Cond.static yJ7_fill_53178, Cond.initialized RJ7, Cond.code yJ7_fill_53178 cJ7_fill_53178 4 none, Cond.methodLink RX4 29 yX3_multiplyAndAdd, Cond.instanceMethod yX3_multiplyAndAdd]
def wsX5_takes_r2 : List Cond := [Cond.selects RX3 yX3_multiplyAndAdd yX3_multiplyAndAdd, Cond.code yX3_multiplyAndAdd cX3_multiplyAndAdd 8 none, Cond.constantLong RX3 29 (4294967295), Cond.methodLink RX3 31 yX3_putWord, Cond.instanceMethod yX3_putWord, Cond.selects RX3 yX3_putWord yX3_putWord, Cond.code yX3_putWord cX3_putWord 3 none, Cond.methodLink RX3 23 Lib.Math.max.name, Cond.static Lib.Math.max.name, Cond.initialized "java/lang/Math", Cond.code Lib.Math.max.name Lib.Math.max.code 2 (some .int), Cond.methodLink RX4 33 yX3_byteCount, Cond.instanceMethod yX3_byteCount, Cond.selects RX3 yX3_byteCount yX3_byteCount, Cond.code yX3_byteCount cX3_byteCount 3 (some .int)]
def wsX5_takes : List Cond := .code yX5_takes cX5_takes 4 (some .boolean) :: ((wsX5_takes_r1 ++ wsX5_takes_r2) ++ wsX10 ++ wsX40 ++ wsX30)
def wsX5_begin : List Cond := .code yX5_begin cX5_begin 5 none :: ([.fieldLink RX5 35 "NumeralCipher$SecondWay" "left" "I", .fieldLink RX5 38 "NumeralCipher$SecondWay" "right" "I", .methodLink RX5 32 yX1_wordAt, .instanceMethod yX1_wordAt, .selects RX1 yX1_wordAt yX1_wordAt, .initialized RX1, .code yX1_wordAt cX1_wordAt 3 (some .int), .fieldLink RX1 9 "NumeralCipher$Bytes" "cells" "[I"] ++ wsX50 ++ wsX10)
def wsX5_makeAddend_r1 : List Cond := [Cond.fieldLink RX5 9 "NumeralCipher$SecondWay" "turned" "[I", Cond.fieldLink RX5 38 "NumeralCipher$SecondWay" "right" "I", Cond.fieldLink RX5 35 "NumeralCipher$SecondWay" "left" "I", Cond.fieldLink RX5 49 "NumeralCipher$SecondWay" "cipher" "LNumeralCipher$BlockCipher;", Cond.sameField "NumeralCipher$SecondWay" "NumeralCipher$Way" "cipher" "LNumeralCipher$BlockCipher;", Cond.methodLink RX5 41 yX3_wordAt, Cond.instanceMethod yX3_wordAt, Cond.selects RX3 yX3_wordAt yX3_wordAt, Cond.initialized RX3, Cond.code yX3_wordAt cX3_wordAt 2 (some .int), Cond.fieldLink RX3 19 "NumeralCipher$Natural" "size" "I", Cond.fieldLink RX3 9 "NumeralCipher$Natural" "cells" "[I", Cond.methodLink RX5 44 yX0_bytesTurned, Cond.static yX0_bytesTurned, Cond.initialized RX0, Cond.code yX0_bytesTurned cX0_bytesTurned 1 (some .int), Cond.constant RX0 59 (16711935), Cond.constant RX0 60 (-16711936), Cond.methodLink RX0 34 yX0_rotated, Cond.static yX0_rotated, Cond.code yX0_rotated cX0_rotated 2 (some .int), Cond.methodLink RX5 53 yX0_encipher, Cond.instanceMethod yX0_encipher, Cond.selects RX0 yX0_encipher yX0_encipher]
def wsX5_makeAddend_r2 : List Cond := [Cond.code yX0_encipher cX0_encipher 4 none, Cond.fieldLink RX0 11 "NumeralCipher$BlockCipher" "schedule" "[I", Cond.fieldLink RX0 24 "NumeralCipher$BlockCipher" "rounds" "I", Cond.fieldLink RX0 15 "NumeralCipher$BlockCipher" "moved" "[I", Cond.methodLink RX0 44 yX0_diagonal, Cond.static yX0_diagonal, Cond.code yX0_diagonal cX0_diagonal 2 (some .int), Cond.constant RX0 51 (-16777216), Cond.constant RX0 52 (16711680), Cond.constant RX0 53 (65280), Cond.methodLink RX0 38 yX0_substituted, Cond.static yX0_substituted, Cond.code yX0_substituted cX0_substituted 1 (some .int), Cond.fieldLink RX0 54 "NumeralCipher$BlockCipher" "S" "[I", Cond.methodLink RX0 48 yX0_mixed, Cond.static yX0_mixed, Cond.code yX0_mixed cX0_mixed 2 (some .int), Cond.methodLink RX0 41 yX0_doubled, Cond.static yX0_doubled, Cond.code yX0_doubled cX0_doubled 1 (some .int), Cond.constant RX0 57 (2139062143), Cond.constant RX0 58 (16843009), Cond.methodLink RX5 57 yX3_clear, Cond.instanceMethod yX3_clear]
def wsX5_makeAddend_r3 : List Cond := [Cond.selects RX3 yX3_clear yX3_clear, Cond.code yX3_clear cX3_clear 1 none, Cond.methodLink RX3 13 yJ7_fill_53178, Cond.static yJ7_fill_53178, Cond.initialized RJ7, Cond.code yJ7_fill_53178 cJ7_fill_53178 4 none, Cond.methodLink RX5 60 yX3_putWord, Cond.instanceMethod yX3_putWord, Cond.selects RX3 yX3_putWord yX3_putWord, Cond.code yX3_putWord cX3_putWord 3 none, Cond.methodLink RX3 23 Lib.Math.max.name, Cond.static Lib.Math.max.name, Cond.initialized "java/lang/Math", Cond.code Lib.Math.max.name Lib.Math.max.code 2 (some .int)]
def wsX5_makeAddend : List Cond := .code yX5_makeAddend cX5_makeAddend 4 none :: ((wsX5_makeAddend_r1 ++ (wsX5_makeAddend_r2 ++ wsX5_makeAddend_r3)) ++ wsX50 ++ wsX20 ++ wsX30 ++ wsX00)
def wsX7_expandKey_r1 : List Cond := [Cond.fieldLink RX7 32 "NumeralCipher" "firstWay" "LNumeralCipher$FirstWay;", Cond.fieldLink RX7 89 "NumeralCipher$FirstWay" "cipher" "LNumeralCipher$BlockCipher;", Cond.sameField "NumeralCipher$FirstWay" "NumeralCipher$Way" "cipher" "LNumeralCipher$BlockCipher;", Cond.fieldLink RX7 16 "NumeralCipher" "keyBytes" "LNumeralCipher$Bytes;", Cond.fieldLink RX7 39 "NumeralCipher" "secondWay" "LNumeralCipher$SecondWay;", Cond.fieldLink RX7 157 "NumeralCipher$SecondWay" "cipher" "LNumeralCipher$BlockCipher;", Cond.sameField "NumeralCipher$SecondWay" "NumeralCipher$Way" "cipher" "LNumeralCipher$BlockCipher;", Cond.methodLink RX7 153 yX0_expand, Cond.instanceMethod yX0_expand, Cond.selects RX0 yX0_expand yX0_expand, Cond.initialized RX0, Cond.code yX0_expand cX0_expand 7 none, Cond.fieldLink RX0 24 "NumeralCipher$BlockCipher" "rounds" "I", Cond.fieldLink RX0 11 "NumeralCipher$BlockCipher" "schedule" "[I", Cond.methodLink RX0 27 yX1_wordAt, Cond.instanceMethod yX1_wordAt, Cond.selects RX1 yX1_wordAt yX1_wordAt, Cond.initialized RX1, Cond.code yX1_wordAt cX1_wordAt 3 (some .int), Cond.fieldLink RX1 9 "NumeralCipher$Bytes" "cells" "[I", Cond.methodLink RX0 31 yX0_bytesTurned, Cond.static yX0_bytesTurned, Cond.code yX0_bytesTurned cX0_bytesTurned 1 (some .int), Cond.constant RX0 59 (16711935)]
def wsX7_expandKey_r2 : List Cond := [Cond.constant RX0 60 (-16711936), Cond.methodLink RX0 34 yX0_rotated, Cond.static yX0_rotated, Cond.code yX0_rotated cX0_rotated 2 (some .int), Cond.methodLink RX0 38 yX0_substituted, Cond.static yX0_substituted, Cond.code yX0_substituted cX0_substituted 1 (some .int), Cond.fieldLink RX0 54 "NumeralCipher$BlockCipher" "S" "[I", Cond.methodLink RX0 41 yX0_doubled, Cond.static yX0_doubled, Cond.code yX0_doubled cX0_doubled 1 (some .int), Cond.constant RX0 57 (2139062143), Cond.constant RX0 58 (16843009)]
def wsX7_expandKey : List Cond := .code yX7_expandKey cX7_expandKey 1 none :: ((wsX7_expandKey_r1 ++ wsX7_expandKey_r2) ++ wsX70 ++ wsX20 ++ wsX50 ++ wsX10 ++ wsX00)
def wsX7_init_r1 : List Cond := [Cond.methodLink RX7 1 objectInit, Cond.instanceMethod objectInit, Cond.code objectInit ⟨#[0xb1]⟩ 1 none, Cond.classLink RX7 7 RX1, Cond.instantiable RX1 2, Cond.initialized RX1, Cond.fieldLink RX7 10 "NumeralCipher" "buffer" "LNumeralCipher$Bytes;", Cond.fieldLink RX7 16 "NumeralCipher" "keyBytes" "LNumeralCipher$Bytes;", Cond.fieldLink RX7 19 "NumeralCipher" "tweakBytes" "LNumeralCipher$Bytes;", Cond.classLink RX7 22 RX4, Cond.instantiable RX4 3, Cond.initialized RX4, Cond.fieldLink RX7 25 "NumeralCipher" "row" "LNumeralCipher$Row;", Cond.classLink RX7 29 RX2, Cond.instantiable RX2 8, Cond.initialized RX2, Cond.fieldLink RX7 32 "NumeralCipher" "firstWay" "LNumeralCipher$FirstWay;", Cond.classLink RX7 36 RX5, Cond.instantiable RX5 4, Cond.initialized RX5, Cond.fieldLink RX7 39 "NumeralCipher" "secondWay" "LNumeralCipher$SecondWay;", Cond.classLink RX7 43 RX3, Cond.instantiable RX3 2, Cond.initialized RX3]
def wsX7_init_r2 : List Cond := [Cond.fieldLink RX7 46 "NumeralCipher" "number" "LNumeralCipher$Natural;", Cond.arrayClass .int, Cond.fieldLink RX7 50 "NumeralCipher" "words" "[I", Cond.instanceMethod yX1_init, Cond.code yX1_init cX1_init 1 none, Cond.methodLink RX1 3 objectInit, Cond.fieldLink RX1 9 "NumeralCipher$Bytes" "cells" "[I", Cond.instanceMethod yX4_init, Cond.code yX4_init cX4_init 1 none, Cond.methodLink RX4 3 objectInit, Cond.fieldLink RX4 9 "NumeralCipher$Row" "cells" "[I", Cond.fieldLink RX4 15 "NumeralCipher$Row" "base" "I", Cond.instanceMethod yX2_init, Cond.code yX2_init cX2_init 1 none, Cond.fieldLink RX2 11 "NumeralCipher$FirstWay" "tweakWords" "[I", Cond.fieldLink RX2 15 "NumeralCipher$FirstWay" "start" "[I", Cond.fieldLink RX2 18 "NumeralCipher$FirstWay" "chained" "[I", Cond.fieldLink RX2 21 "NumeralCipher$FirstWay" "spread" "[I", Cond.instanceMethod yX6_init, Cond.initialized RX6, Cond.code yX6_init cX6_init 1 none, Cond.methodLink RX6 1 objectInit, Cond.classLink RX6 7 RX0, Cond.instantiable RX0 3]
def wsX7_init_r3 : List Cond := [Cond.initialized RX0, Cond.fieldLink RX6 10 "NumeralCipher$Way" "cipher" "LNumeralCipher$BlockCipher;", Cond.instanceMethod yX0_init, Cond.code yX0_init cX0_init 1 none, Cond.methodLink RX0 3 objectInit, Cond.fieldLink RX0 11 "NumeralCipher$BlockCipher" "schedule" "[I", Cond.fieldLink RX0 15 "NumeralCipher$BlockCipher" "moved" "[I", Cond.instanceMethod yX5_init, Cond.code yX5_init cX5_init 1 none, Cond.fieldLink RX5 9 "NumeralCipher$SecondWay" "turned" "[I", Cond.instanceMethod yX3_init, Cond.code yX3_init cX3_init 1 none, Cond.methodLink RX3 1 objectInit, Cond.fieldLink RX3 9 "NumeralCipher$Natural" "cells" "[I", Cond.methodLink RX7 58 yX7_expandKey, Cond.instanceMethod yX7_expandKey, Cond.selects RX7 yX7_expandKey yX7_expandKey, Cond.initialized RX7, Cond.code yX7_expandKey cX7_expandKey 1 none, Cond.fieldLink RX7 89 "NumeralCipher$FirstWay" "cipher" "LNumeralCipher$BlockCipher;", Cond.sameField "NumeralCipher$FirstWay" "NumeralCipher$Way" "cipher" "LNumeralCipher$BlockCipher;", Cond.fieldLink RX7 157 "NumeralCipher$SecondWay" "cipher" "LNumeralCipher$BlockCipher;", Cond.sameField "NumeralCipher$SecondWay" "NumeralCipher$Way" "cipher" "LNumeralCipher$BlockCipher;", Cond.methodLink RX7 153 yX0_expand]
def wsX7_init_r4 : List Cond := [Cond.instanceMethod yX0_expand, Cond.selects RX0 yX0_expand yX0_expand, Cond.code yX0_expand cX0_expand 7 none, Cond.fieldLink RX0 24 "NumeralCipher$BlockCipher" "rounds" "I", Cond.methodLink RX0 27 yX1_wordAt, Cond.instanceMethod yX1_wordAt, Cond.selects RX1 yX1_wordAt yX1_wordAt, Cond.code yX1_wordAt cX1_wordAt 3 (some .int), Cond.methodLink RX0 31 yX0_bytesTurned, Cond.static yX0_bytesTurned, Cond.code yX0_bytesTurned cX0_bytesTurned 1 (some .int), Cond.constant RX0 59 (16711935), Cond.constant RX0 60 (-16711936), Cond.methodLink RX0 34 yX0_rotated, Cond.static yX0_rotated, Cond.code yX0_rotated cX0_rotated 2 (some .int), Cond.methodLink RX0 38 yX0_substituted, Cond.static yX0_substituted, Cond.code yX0_substituted cX0_substituted 1 (some .int), Cond.fieldLink RX0 54 "NumeralCipher$BlockCipher" "S" "[I", Cond.methodLink RX0 41 yX0_doubled, Cond.static yX0_doubled, Cond.code yX0_doubled cX0_doubled 1 (some .int), Cond.constant RX0 57 (2139062143)]
def wsX7_init_r5 : List Cond := [Cond.constant RX0 58 (16843009)]
def wsX7_init : List Cond := .code yX7_init cX7_init 1 none :: ((wsX7_init_r1 ++ (wsX7_init_r2 ++ (wsX7_init_r3 ++ (wsX7_init_r4 ++ wsX7_init_r5)))) ++ wsX10 ++ wsX70 ++ wsX40 ++ wsX20 ++ wsX50 ++ wsX30 ++ wsX00)
def wsX7_type : List Cond := .code yX7_type cX7_type 5 (some .int) :: ([.classLink RX7 61 "java/lang/IllegalArgumentException", .initialized "java/lang/IllegalArgumentException", .classLink RX7 68 "java/lang/UnsupportedOperationException", .initialized "java/lang/UnsupportedOperationException", .fieldLink RX7 10 "NumeralCipher" "buffer" "LNumeralCipher$Bytes;"] ++ wsX70 ++ wsX10 ++ (vx_atS RX7 65 "java/lang/IllegalArgumentException" ["java/lang/RuntimeException", "java/lang/Exception"]).filter goodWord ++ (vx_atS RX7 72 "java/lang/UnsupportedOperationException" ["java/lang/RuntimeException", "java/lang/Exception"]).filter goodWord)
def wsX7_keep : List Cond := .code yX7_keep cX7_keep 2 none :: ([.classLink RX7 61 "java/lang/IllegalArgumentException", .initialized "java/lang/IllegalArgumentException", .fieldLink RX7 10 "NumeralCipher" "buffer" "LNumeralCipher$Bytes;"] ++ wsX70 ++ wsX10 ++ (vx_atS RX7 65 "java/lang/IllegalArgumentException" ["java/lang/RuntimeException", "java/lang/Exception"]).filter goodWord)
def wsX7_typed : List Cond := .code yX7_typed cX7_typed 2 (some .int) :: ([.classLink RX7 78 "java/lang/IndexOutOfBoundsException", .initialized "java/lang/IndexOutOfBoundsException", .fieldLink RX7 10 "NumeralCipher" "buffer" "LNumeralCipher$Bytes;"] ++ wsX70 ++ wsX10 ++ (vx_atS RX7 82 "java/lang/IndexOutOfBoundsException" ["java/lang/RuntimeException", "java/lang/Exception"]).filter goodWord)
def wsX7_key_r1 : List Cond := [Cond.classLink RX7 61 "java/lang/IllegalArgumentException", Cond.initialized "java/lang/IllegalArgumentException", Cond.fieldLink RX7 10 "NumeralCipher" "buffer" "LNumeralCipher$Bytes;", Cond.fieldLink RX7 16 "NumeralCipher" "keyBytes" "LNumeralCipher$Bytes;", Cond.fieldLink RX7 32 "NumeralCipher" "firstWay" "LNumeralCipher$FirstWay;", Cond.fieldLink RX7 89 "NumeralCipher$FirstWay" "cipher" "LNumeralCipher$BlockCipher;", Cond.sameField "NumeralCipher$FirstWay" "NumeralCipher$Way" "cipher" "LNumeralCipher$BlockCipher;", Cond.methodLink RX7 85 yX1_takeAll, Cond.instanceMethod yX1_takeAll, Cond.selects RX1 yX1_takeAll yX1_takeAll, Cond.initialized RX1, Cond.code yX1_takeAll cX1_takeAll 3 none, Cond.fieldLink RX1 9 "NumeralCipher$Bytes" "cells" "[I", Cond.fieldLink RX1 15 "NumeralCipher$Bytes" "size" "I", Cond.methodLink RX7 58 yX7_expandKey, Cond.instanceMethod yX7_expandKey, Cond.selects RX7 yX7_expandKey yX7_expandKey, Cond.initialized RX7, Cond.code yX7_expandKey cX7_expandKey 1 none, Cond.fieldLink RX7 39 "NumeralCipher" "secondWay" "LNumeralCipher$SecondWay;", Cond.fieldLink RX7 157 "NumeralCipher$SecondWay" "cipher" "LNumeralCipher$BlockCipher;", Cond.sameField "NumeralCipher$SecondWay" "NumeralCipher$Way" "cipher" "LNumeralCipher$BlockCipher;", Cond.methodLink RX7 153 yX0_expand, Cond.instanceMethod yX0_expand]
def wsX7_key_r2 : List Cond := [Cond.selects RX0 yX0_expand yX0_expand, Cond.initialized RX0, Cond.code yX0_expand cX0_expand 7 none, Cond.fieldLink RX0 24 "NumeralCipher$BlockCipher" "rounds" "I", Cond.fieldLink RX0 11 "NumeralCipher$BlockCipher" "schedule" "[I", Cond.methodLink RX0 27 yX1_wordAt, Cond.instanceMethod yX1_wordAt, Cond.selects RX1 yX1_wordAt yX1_wordAt, Cond.code yX1_wordAt cX1_wordAt 3 (some .int), Cond.methodLink RX0 31 yX0_bytesTurned, Cond.static yX0_bytesTurned, Cond.code yX0_bytesTurned cX0_bytesTurned 1 (some .int), Cond.constant RX0 59 (16711935), Cond.constant RX0 60 (-16711936), Cond.methodLink RX0 34 yX0_rotated, Cond.static yX0_rotated, Cond.code yX0_rotated cX0_rotated 2 (some .int), Cond.methodLink RX0 38 yX0_substituted, Cond.static yX0_substituted, Cond.code yX0_substituted cX0_substituted 1 (some .int), Cond.fieldLink RX0 54 "NumeralCipher$BlockCipher" "S" "[I", Cond.methodLink RX0 41 yX0_doubled, Cond.static yX0_doubled, Cond.code yX0_doubled cX0_doubled 1 (some .int)]
def wsX7_key_r3 : List Cond := [Cond.constant RX0 57 (2139062143), Cond.constant RX0 58 (16843009)]
def wsX7_key : List Cond := .code yX7_key cX7_key 1 (some .int) :: ((wsX7_key_r1 ++ (wsX7_key_r2 ++ wsX7_key_r3)) ++ wsX70 ++ wsX10 ++ wsX20 ++ wsX50 ++ wsX00 ++ (vx_atS RX7 65 "java/lang/IllegalArgumentException" ["java/lang/RuntimeException", "java/lang/Exception"]).filter goodWord)
def wsX7_tweak : List Cond := .code yX7_tweak cX7_tweak 1 (some .int) :: ([.classLink RX7 61 "java/lang/IllegalArgumentException", .initialized "java/lang/IllegalArgumentException", .fieldLink RX7 10 "NumeralCipher" "buffer" "LNumeralCipher$Bytes;", .fieldLink RX7 19 "NumeralCipher" "tweakBytes" "LNumeralCipher$Bytes;", .methodLink RX7 85 yX1_takeAll, .instanceMethod yX1_takeAll, .selects RX1 yX1_takeAll yX1_takeAll, .initialized RX1, .code yX1_takeAll cX1_takeAll 3 none, .fieldLink RX1 9 "NumeralCipher$Bytes" "cells" "[I", .fieldLink RX1 15 "NumeralCipher$Bytes" "size" "I"] ++ wsX70 ++ wsX10 ++ (vx_atS RX7 65 "java/lang/IllegalArgumentException" ["java/lang/RuntimeException", "java/lang/Exception"]).filter goodWord)
def wsX7_block_r1 : List Cond := [Cond.classLink RX7 61 "java/lang/IllegalArgumentException", Cond.initialized "java/lang/IllegalArgumentException", Cond.fieldLink RX7 10 "NumeralCipher" "buffer" "LNumeralCipher$Bytes;", Cond.fieldLink RX7 50 "NumeralCipher" "words" "[I", Cond.fieldLink RX7 32 "NumeralCipher" "firstWay" "LNumeralCipher$FirstWay;", Cond.fieldLink RX7 89 "NumeralCipher$FirstWay" "cipher" "LNumeralCipher$BlockCipher;", Cond.sameField "NumeralCipher$FirstWay" "NumeralCipher$Way" "cipher" "LNumeralCipher$BlockCipher;", Cond.methodLink RX7 102 yX1_wordAt, Cond.instanceMethod yX1_wordAt, Cond.selects RX1 yX1_wordAt yX1_wordAt, Cond.initialized RX1, Cond.code yX1_wordAt cX1_wordAt 3 (some .int), Cond.fieldLink RX1 9 "NumeralCipher$Bytes" "cells" "[I", Cond.methodLink RX7 106 yX0_encipher, Cond.instanceMethod yX0_encipher, Cond.selects RX0 yX0_encipher yX0_encipher, Cond.initialized RX0, Cond.code yX0_encipher cX0_encipher 4 none, Cond.fieldLink RX0 11 "NumeralCipher$BlockCipher" "schedule" "[I", Cond.fieldLink RX0 24 "NumeralCipher$BlockCipher" "rounds" "I", Cond.fieldLink RX0 15 "NumeralCipher$BlockCipher" "moved" "[I", Cond.methodLink RX0 44 yX0_diagonal, Cond.static yX0_diagonal, Cond.code yX0_diagonal cX0_diagonal 2 (some .int)]
def wsX7_block_r2 : List Cond := [Cond.constant RX0 51 (-16777216), Cond.constant RX0 52 (16711680), Cond.constant RX0 53 (65280), Cond.methodLink RX0 38 yX0_substituted, Cond.static yX0_substituted, Cond.code yX0_substituted cX0_substituted 1 (some .int), Cond.fieldLink RX0 54 "NumeralCipher$BlockCipher" "S" "[I", Cond.methodLink RX0 48 yX0_mixed, Cond.static yX0_mixed, Cond.code yX0_mixed cX0_mixed 2 (some .int), Cond.methodLink RX0 41 yX0_doubled, Cond.static yX0_doubled, Cond.code yX0_doubled cX0_doubled 1 (some .int), Cond.constant RX0 57 (2139062143), Cond.constant RX0 58 (16843009), Cond.methodLink RX0 34 yX0_rotated, Cond.static yX0_rotated, Cond.code yX0_rotated cX0_rotated 2 (some .int)]
def wsX7_block : List Cond := .code yX7_block cX7_block 2 none :: ((wsX7_block_r1 ++ wsX7_block_r2) ++ wsX70 ++ wsX10 ++ wsX20 ++ wsX50 ++ wsX00 ++ (vx_atS RX7 65 "java/lang/IllegalArgumentException" ["java/lang/RuntimeException", "java/lang/Exception"]).filter goodWord)
def wsX7_radix : List Cond := .code yX7_radix cX7_radix 3 (some .int) :: ([.classLink RX7 61 "java/lang/IllegalArgumentException", .initialized "java/lang/IllegalArgumentException", .constant RX7 110 (65536), .fieldLink RX7 25 "NumeralCipher" "row" "LNumeralCipher$Row;"] ++ wsX70 ++ wsX40 ++ (vx_atS RX7 65 "java/lang/IllegalArgumentException" ["java/lang/RuntimeException", "java/lang/Exception"]).filter goodWord)
def wsX7_numeral : List Cond := .code yX7_numeral cX7_numeral 2 (some .int) :: ([.classLink RX7 61 "java/lang/IllegalArgumentException", .initialized "java/lang/IllegalArgumentException", .classLink RX7 68 "java/lang/UnsupportedOperationException", .initialized "java/lang/UnsupportedOperationException", .fieldLink RX7 25 "NumeralCipher" "row" "LNumeralCipher$Row;", .methodLink RX7 117 yX4_isNumeral, .instanceMethod yX4_isNumeral, .selects RX4 yX4_isNumeral yX4_isNumeral, .initialized RX4, .code yX4_isNumeral cX4_isNumeral 2 (some .boolean), .fieldLink RX4 15 "NumeralCipher$Row" "base" "I"] ++ wsX70 ++ wsX40 ++ (vx_atS RX7 65 "java/lang/IllegalArgumentException" ["java/lang/RuntimeException", "java/lang/Exception"]).filter goodWord ++ (vx_atS RX7 72 "java/lang/UnsupportedOperationException" ["java/lang/RuntimeException", "java/lang/Exception"]).filter goodWord)
def wsX7_cut : List Cond := .code yX7_cut cX7_cut 2 none :: ([.classLink RX7 61 "java/lang/IllegalArgumentException", .initialized "java/lang/IllegalArgumentException", .fieldLink RX7 25 "NumeralCipher" "row" "LNumeralCipher$Row;"] ++ wsX70 ++ wsX40 ++ (vx_atS RX7 65 "java/lang/IllegalArgumentException" ["java/lang/RuntimeException", "java/lang/Exception"]).filter goodWord)
def wsX7_set : List Cond := .code yX7_set cX7_set 4 (some .int) :: ([.classLink RX7 78 "java/lang/IndexOutOfBoundsException", .initialized "java/lang/IndexOutOfBoundsException", .classLink RX7 61 "java/lang/IllegalArgumentException", .initialized "java/lang/IllegalArgumentException", .fieldLink RX7 25 "NumeralCipher" "row" "LNumeralCipher$Row;", .methodLink RX7 128 yX4_has, .instanceMethod yX4_has, .selects RX4 yX4_has yX4_has, .initialized RX4, .code yX4_has cX4_has 2 (some .boolean), .fieldLink RX4 19 "NumeralCipher$Row" "size" "I", .methodLink RX7 117 yX4_isNumeral, .instanceMethod yX4_isNumeral, .selects RX4 yX4_isNumeral yX4_isNumeral, .code yX4_isNumeral cX4_isNumeral 2 (some .boolean), .fieldLink RX4 15 "NumeralCipher$Row" "base" "I"] ++ wsX70 ++ wsX40 ++ (vx_atS RX7 82 "java/lang/IndexOutOfBoundsException" ["java/lang/RuntimeException", "java/lang/Exception"]).filter goodWord ++ (vx_atS RX7 65 "java/lang/IllegalArgumentException" ["java/lang/RuntimeException", "java/lang/Exception"]).filter goodWord)
def wsX7_at : List Cond := .code yX7_at cX7_at 2 (some .int) :: ([.classLink RX7 78 "java/lang/IndexOutOfBoundsException", .initialized "java/lang/IndexOutOfBoundsException", .fieldLink RX7 25 "NumeralCipher" "row" "LNumeralCipher$Row;", .methodLink RX7 128 yX4_has, .instanceMethod yX4_has, .selects RX4 yX4_has yX4_has, .initialized RX4, .code yX4_has cX4_has 2 (some .boolean), .fieldLink RX4 19 "NumeralCipher$Row" "size" "I"] ++ wsX70 ++ wsX40 ++ (vx_atS RX7 82 "java/lang/IndexOutOfBoundsException" ["java/lang/RuntimeException", "java/lang/Exception"]).filter goodWord)
def wsX7_wayOf : List Cond := .code yX7_wayOf cX7_wayOf 2 (some (.object "NumeralCipher$Way")) :: ([.fieldLink RX7 32 "NumeralCipher" "firstWay" "LNumeralCipher$FirstWay;", .fieldLink RX7 39 "NumeralCipher" "secondWay" "LNumeralCipher$SecondWay;"] ++ wsX70)
def wsX7_isTurnable_r1 : List Cond := [Cond.fieldLink RX7 25 "NumeralCipher" "row" "LNumeralCipher$Row;", Cond.fieldLink RX7 19 "NumeralCipher" "tweakBytes" "LNumeralCipher$Bytes;", Cond.fieldLink RX7 46 "NumeralCipher" "number" "LNumeralCipher$Natural;", Cond.methodLink RX7 158 yX4_isLongEnough, Cond.instanceMethod yX4_isLongEnough, Cond.selects RX4 yX4_isLongEnough yX4_isLongEnough, Cond.initialized RX4, Cond.code yX4_isLongEnough cX4_isLongEnough 4 (some .boolean), Cond.fieldLink RX4 19 "NumeralCipher$Row" "size" "I", Cond.constantLong RX4 22 (1000000), Cond.fieldLink RX4 15 "NumeralCipher$Row" "base" "I", Cond.methodLink RX7 143 yX7_wayOf, Cond.instanceMethod yX7_wayOf, Cond.selects RX7 yX7_wayOf yX7_wayOf, Cond.initialized RX7, Cond.code yX7_wayOf cX7_wayOf 2 (some (.object "NumeralCipher$Way")), Cond.fieldLink RX7 32 "NumeralCipher" "firstWay" "LNumeralCipher$FirstWay;", Cond.fieldLink RX7 39 "NumeralCipher" "secondWay" "LNumeralCipher$SecondWay;", Cond.methodLink RX7 162 ⟨"NumeralCipher$Way", "takes", "(LNumeralCipher$Row;LNumeralCipher$Bytes;LNumeralCipher$Natural;)Z"⟩, Cond.sameMethod "NumeralCipher$Way" "NumeralCipher$Way" "takes" "(LNumeralCipher$Row;LNumeralCipher$Bytes;LNumeralCipher$Natural;)Z", Cond.selects RX2 ⟨"NumeralCipher$Way", "takes", "(LNumeralCipher$Row;LNumeralCipher$Bytes;LNumeralCipher$Natural;)Z"⟩ yX2_takes, Cond.instanceMethod yX2_takes, Cond.initialized RX2, Cond.code yX2_takes cX2_takes 4 (some .boolean)]
def wsX7_isTurnable_r2 : List Cond := [Cond.selects RX5 ⟨"NumeralCipher$Way", "takes", "(LNumeralCipher$Row;LNumeralCipher$Bytes;LNumeralCipher$Natural;)Z"⟩ yX5_takes, Cond.instanceMethod yX5_takes, Cond.initialized RX5, Cond.code yX5_takes cX5_takes 4 (some .boolean), Cond.methodLink RX5 24 yX5_firstHalf, Cond.instanceMethod yX5_firstHalf, Cond.selects RX5 yX5_firstHalf yX5_firstHalf, Cond.code yX5_firstHalf cX5_firstHalf 2 (some .int), Cond.methodLink RX5 28 yX4_widthOf, Cond.instanceMethod yX4_widthOf, Cond.selects RX4 yX4_widthOf yX4_widthOf, Cond.code yX4_widthOf cX4_widthOf 4 (some .int), Cond.methodLink RX4 24 yX3_clear, Cond.instanceMethod yX3_clear, Cond.selects RX3 yX3_clear yX3_clear, Cond.initialized RX3, Cond.code yX3_clear cX3_clear 1 none, Cond.fieldLink RX3 9 "NumeralCipher$Natural" "cells" "[I", Cond.fieldLink RX3 19 "NumeralCipher$Natural" "size" "I", Cond.methodLink RX3 13 yJ7_fill_53178, Cond.static yJ7_fill_53178, Cond.initialized RJ7, Cond.code yJ7_fill_53178 cJ7_fill_53178 4 none, Cond.methodLink RX4 29 yX3_multiplyAndAdd]
def wsX7_isTurnable_r3 : List Cond := [Cond.instanceMethod yX3_multiplyAndAdd, Cond.selects RX3 yX3_multiplyAndAdd yX3_multiplyAndAdd, Cond.code yX3_multiplyAndAdd cX3_multiplyAndAdd 8 none, Cond.constantLong RX3 29 (4294967295), Cond.methodLink RX3 31 yX3_putWord, Cond.instanceMethod yX3_putWord, Cond.selects RX3 yX3_putWord yX3_putWord, Cond.code yX3_putWord cX3_putWord 3 none, Cond.methodLink RX3 23 Lib.Math.max.name, Cond.static Lib.Math.max.name, Cond.initialized "java/lang/Math", Cond.code Lib.Math.max.name Lib.Math.max.code 2 (some .int), Cond.methodLink RX4 33 yX3_byteCount, Cond.instanceMethod yX3_byteCount, Cond.selects RX3 yX3_byteCount yX3_byteCount, Cond.code yX3_byteCount cX3_byteCount 3 (some .int)]
def wsX7_isTurnable : List Cond := .code yX7_isTurnable cX7_isTurnable 2 (some .boolean) :: ((wsX7_isTurnable_r1 ++ (wsX7_isTurnable_r2 ++ wsX7_isTurnable_r3)) ++ wsX70 ++ wsX40 ++ wsX10 ++ wsX30)
def wsX7_can_r1 : List Cond := [Cond.classLink RX7 61 "java/lang/IllegalArgumentException", Cond.initialized "java/lang/IllegalArgumentException", Cond.methodLink RX7 135 yX7_isTurnable, Cond.instanceMethod yX7_isTurnable, Cond.selects RX7 yX7_isTurnable yX7_isTurnable, Cond.initialized RX7, Cond.code yX7_isTurnable cX7_isTurnable 2 (some .boolean), Cond.fieldLink RX7 25 "NumeralCipher" "row" "LNumeralCipher$Row;", Cond.fieldLink RX7 19 "NumeralCipher" "tweakBytes" "LNumeralCipher$Bytes;", Cond.fieldLink RX7 46 "NumeralCipher" "number" "LNumeralCipher$Natural;", Cond.methodLink RX7 158 yX4_isLongEnough, Cond.instanceMethod yX4_isLongEnough, Cond.selects RX4 yX4_isLongEnough yX4_isLongEnough, Cond.initialized RX4, Cond.code yX4_isLongEnough cX4_isLongEnough 4 (some .boolean), Cond.fieldLink RX4 19 "NumeralCipher$Row" "size" "I", Cond.constantLong RX4 22 (1000000), Cond.fieldLink RX4 15 "NumeralCipher$Row" "base" "I", Cond.methodLink RX7 143 yX7_wayOf, Cond.instanceMethod yX7_wayOf, Cond.selects RX7 yX7_wayOf yX7_wayOf, Cond.code yX7_wayOf cX7_wayOf 2 (some (.object "NumeralCipher$Way")), Cond.fieldLink RX7 32 "NumeralCipher" "firstWay" "LNumeralCipher$FirstWay;", Cond.fieldLink RX7 39 "NumeralCipher" "secondWay" "LNumeralCipher$SecondWay;"]
def wsX7_can_r2 : List Cond := [Cond.methodLink RX7 162 ⟨"NumeralCipher$Way", "takes", "(LNumeralCipher$Row;LNumeralCipher$Bytes;LNumeralCipher$Natural;)Z"⟩, Cond.sameMethod "NumeralCipher$Way" "NumeralCipher$Way" "takes" "(LNumeralCipher$Row;LNumeralCipher$Bytes;LNumeralCipher$Natural;)Z", Cond.selects RX2 ⟨"NumeralCipher$Way", "takes", "(LNumeralCipher$Row;LNumeralCipher$Bytes;LNumeralCipher$Natural;)Z"⟩ yX2_takes, Cond.instanceMethod yX2_takes, Cond.initialized RX2, Cond.code yX2_takes cX2_takes 4 (some .boolean), Cond.selects RX5 ⟨"NumeralCipher$Way", "takes", "(LNumeralCipher$Row;LNumeralCipher$Bytes;LNumeralCipher$Natural;)Z"⟩ yX5_takes, Cond.instanceMethod yX5_takes, Cond.initialized RX5, Cond.code yX5_takes cX5_takes 4 (some .boolean), Cond.methodLink RX5 24 yX5_firstHalf, Cond.instanceMethod yX5_firstHalf, Cond.selects RX5 yX5_firstHalf yX5_firstHalf, Cond.code yX5_firstHalf cX5_firstHalf 2 (some .int), Cond.methodLink RX5 28 yX4_widthOf, Cond.instanceMethod yX4_widthOf, Cond.selects RX4 yX4_widthOf yX4_widthOf, Cond.code yX4_widthOf cX4_widthOf 4 (some .int), Cond.methodLink RX4 24 yX3_clear, Cond.instanceMethod yX3_clear, Cond.selects RX3 yX3_clear yX3_clear, Cond.initialized RX3, Cond.code yX3_clear cX3_clear 1 none, Cond.fieldLink RX3 9 "NumeralCipher$Natural" "cells" "[I"]
def wsX7_can_r3 : List Cond := [Cond.fieldLink RX3 19 "NumeralCipher$Natural" "size" "I", Cond.methodLink RX3 13 yJ7_fill_53178, Cond.static yJ7_fill_53178, Cond.initialized RJ7, Cond.code yJ7_fill_53178 cJ7_fill_53178 4 none, Cond.methodLink RX4 29 yX3_multiplyAndAdd, Cond.instanceMethod yX3_multiplyAndAdd, Cond.selects RX3 yX3_multiplyAndAdd yX3_multiplyAndAdd, Cond.code yX3_multiplyAndAdd cX3_multiplyAndAdd 8 none, Cond.constantLong RX3 29 (4294967295), Cond.methodLink RX3 31 yX3_putWord, Cond.instanceMethod yX3_putWord, Cond.selects RX3 yX3_putWord yX3_putWord, Cond.code yX3_putWord cX3_putWord 3 none, Cond.methodLink RX3 23 Lib.Math.max.name, Cond.static Lib.Math.max.name, Cond.initialized "java/lang/Math", Cond.code Lib.Math.max.name Lib.Math.max.code 2 (some .int), Cond.methodLink RX4 33 yX3_byteCount, Cond.instanceMethod yX3_byteCount, Cond.selects RX3 yX3_byteCount yX3_byteCount, Cond.code yX3_byteCount cX3_byteCount 3 (some .int)]
def wsX7_can : List Cond := .code yX7_can cX7_can 2 (some .boolean) :: ((wsX7_can_r1 ++ (wsX7_can_r2 ++ wsX7_can_r3)) ++ wsX70 ++ wsX40 ++ wsX10 ++ wsX30 ++ (vx_atS RX7 65 "java/lang/IllegalArgumentException" ["java/lang/RuntimeException", "java/lang/Exception"]).filter goodWord)
def wsX7_runRounds_r1 : List Cond := [Cond.fieldLink RX7 25 "NumeralCipher" "row" "LNumeralCipher$Row;", Cond.fieldLink RX7 19 "NumeralCipher" "tweakBytes" "LNumeralCipher$Bytes;", Cond.fieldLink RX7 46 "NumeralCipher" "number" "LNumeralCipher$Natural;", Cond.methodLink RX7 168 ⟨"NumeralCipher$Way", "firstHalf", "(I)I"⟩, Cond.sameMethod "NumeralCipher$Way" "NumeralCipher$Way" "firstHalf" "(I)I", Cond.selects RX2 ⟨"NumeralCipher$Way", "firstHalf", "(I)I"⟩ yX2_firstHalf, Cond.instanceMethod yX2_firstHalf, Cond.initialized RX2, Cond.code yX2_firstHalf cX2_firstHalf 2 (some .int), Cond.selects RX5 ⟨"NumeralCipher$Way", "firstHalf", "(I)I"⟩ yX5_firstHalf, Cond.instanceMethod yX5_firstHalf, Cond.initialized RX5, Cond.code yX5_firstHalf cX5_firstHalf 2 (some .int), Cond.methodLink RX7 171 ⟨"NumeralCipher$Way", "rounds", "()I"⟩, Cond.sameMethod "NumeralCipher$Way" "NumeralCipher$Way" "rounds" "()I", Cond.selects RX2 ⟨"NumeralCipher$Way", "rounds", "()I"⟩ yX2_rounds, Cond.instanceMethod yX2_rounds, Cond.code yX2_rounds cX2_rounds 1 (some .int), Cond.selects RX5 ⟨"NumeralCipher$Way", "rounds", "()I"⟩ yX5_rounds, Cond.instanceMethod yX5_rounds, Cond.code yX5_rounds cX5_rounds 1 (some .int), Cond.methodLink RX7 174 ⟨"NumeralCipher$Way", "begin", "(LNumeralCipher$Row;LNumeralCipher$Bytes;LNumeralCipher$Natural;)V"⟩, Cond.sameMethod "NumeralCipher$Way" "NumeralCipher$Way" "begin" "(LNumeralCipher$Row;LNumeralCipher$Bytes;LNumeralCipher$Natural;)V", Cond.selects RX2 ⟨"NumeralCipher$Way", "begin", "(LNumeralCipher$Row;LNumeralCipher$Bytes;LNumeralCipher$Natural;)V"⟩ yX2_begin]
def wsX7_runRounds_r2 : List Cond := [Cond.instanceMethod yX2_begin, Cond.code yX2_begin cX2_begin 7 none, Cond.fieldLink RX2 38 "NumeralCipher$FirstWay" "addendWords" "I", Cond.fieldLink RX2 44 "NumeralCipher$FirstWay" "inputWords" "I", Cond.fieldLink RX2 47 "NumeralCipher$FirstWay" "roundPlace" "I", Cond.fieldLink RX2 11 "NumeralCipher$FirstWay" "tweakWords" "[I", Cond.fieldLink RX2 15 "NumeralCipher$FirstWay" "start" "[I", Cond.constant RX2 53 (16908544), Cond.constant RX2 57 (65535), Cond.fieldLink RX2 58 "NumeralCipher$FirstWay" "cipher" "LNumeralCipher$BlockCipher;", Cond.sameField "NumeralCipher$FirstWay" "NumeralCipher$Way" "cipher" "LNumeralCipher$BlockCipher;", Cond.methodLink RX2 30 yX2_firstHalf, Cond.selects RX2 yX2_firstHalf yX2_firstHalf, Cond.methodLink RX2 34 yX4_widthOf, Cond.instanceMethod yX4_widthOf, Cond.selects RX4 yX4_widthOf yX4_widthOf, Cond.initialized RX4, Cond.code yX4_widthOf cX4_widthOf 4 (some .int), Cond.fieldLink RX4 15 "NumeralCipher$Row" "base" "I", Cond.methodLink RX4 24 yX3_clear, Cond.instanceMethod yX3_clear, Cond.selects RX3 yX3_clear yX3_clear, Cond.initialized RX3, Cond.code yX3_clear cX3_clear 1 none]
def wsX7_runRounds_r3 : List Cond := [Cond.fieldLink RX3 9 "NumeralCipher$Natural" "cells" "[I", Cond.fieldLink RX3 19 "NumeralCipher$Natural" "size" "I", Cond.methodLink RX3 13 yJ7_fill_53178, Cond.static yJ7_fill_53178, Cond.initialized RJ7, Cond.code yJ7_fill_53178 cJ7_fill_53178 4 none, Cond.methodLink RX4 29 yX3_multiplyAndAdd, Cond.instanceMethod yX3_multiplyAndAdd, Cond.selects RX3 yX3_multiplyAndAdd yX3_multiplyAndAdd, Cond.code yX3_multiplyAndAdd cX3_multiplyAndAdd 8 none, Cond.constantLong RX3 29 (4294967295), Cond.methodLink RX3 31 yX3_putWord, Cond.instanceMethod yX3_putWord, Cond.selects RX3 yX3_putWord yX3_putWord, Cond.code yX3_putWord cX3_putWord 3 none, Cond.methodLink RX3 23 Lib.Math.max.name, Cond.static Lib.Math.max.name, Cond.initialized "java/lang/Math", Cond.code Lib.Math.max.name Lib.Math.max.code 2 (some .int), Cond.methodLink RX4 33 yX3_byteCount, Cond.instanceMethod yX3_byteCount, Cond.selects RX3 yX3_byteCount yX3_byteCount, Cond.code yX3_byteCount cX3_byteCount 3 (some .int), Cond.methodLink RX2 50 yX1_wordAt]
def wsX7_runRounds_r4 : List Cond := [Cond.instanceMethod yX1_wordAt, Cond.selects RX1 yX1_wordAt yX1_wordAt, Cond.initialized RX1, Cond.code yX1_wordAt cX1_wordAt 3 (some .int), Cond.fieldLink RX1 9 "NumeralCipher$Bytes" "cells" "[I", Cond.methodLink RX2 62 yX0_encipher, Cond.instanceMethod yX0_encipher, Cond.selects RX0 yX0_encipher yX0_encipher, Cond.initialized RX0, Cond.code yX0_encipher cX0_encipher 4 none, Cond.fieldLink RX0 11 "NumeralCipher$BlockCipher" "schedule" "[I", Cond.fieldLink RX0 24 "NumeralCipher$BlockCipher" "rounds" "I", Cond.fieldLink RX0 15 "NumeralCipher$BlockCipher" "moved" "[I", Cond.methodLink RX0 44 yX0_diagonal, Cond.static yX0_diagonal, Cond.code yX0_diagonal cX0_diagonal 2 (some .int), Cond.constant RX0 51 (-16777216), Cond.constant RX0 52 (16711680), Cond.constant RX0 53 (65280), Cond.methodLink RX0 38 yX0_substituted, Cond.static yX0_substituted, Cond.code yX0_substituted cX0_substituted 1 (some .int), Cond.fieldLink RX0 54 "NumeralCipher$BlockCipher" "S" "[I", Cond.methodLink RX0 48 yX0_mixed]
def wsX7_runRounds_r5 : List Cond := [Cond.static yX0_mixed, Cond.code yX0_mixed cX0_mixed 2 (some .int), Cond.methodLink RX0 41 yX0_doubled, Cond.static yX0_doubled, Cond.code yX0_doubled cX0_doubled 1 (some .int), Cond.constant RX0 57 (2139062143), Cond.constant RX0 58 (16843009), Cond.methodLink RX0 34 yX0_rotated, Cond.static yX0_rotated, Cond.code yX0_rotated cX0_rotated 2 (some .int), Cond.selects RX5 ⟨"NumeralCipher$Way", "begin", "(LNumeralCipher$Row;LNumeralCipher$Bytes;LNumeralCipher$Natural;)V"⟩ yX5_begin, Cond.instanceMethod yX5_begin, Cond.code yX5_begin cX5_begin 5 none, Cond.fieldLink RX5 35 "NumeralCipher$SecondWay" "left" "I", Cond.fieldLink RX5 38 "NumeralCipher$SecondWay" "right" "I", Cond.methodLink RX5 32 yX1_wordAt, Cond.methodLink RX7 178 ⟨"NumeralCipher$Way", "lowestFirst", "()Z"⟩, Cond.sameMethod "NumeralCipher$Way" "NumeralCipher$Way" "lowestFirst" "()Z", Cond.selects RX2 ⟨"NumeralCipher$Way", "lowestFirst", "()Z"⟩ yX2_lowestFirst, Cond.instanceMethod yX2_lowestFirst, Cond.code yX2_lowestFirst cX2_lowestFirst 1 (some .boolean), Cond.selects RX5 ⟨"NumeralCipher$Way", "lowestFirst", "()Z"⟩ yX5_lowestFirst, Cond.instanceMethod yX5_lowestFirst, Cond.code yX5_lowestFirst cX5_lowestFirst 1 (some .boolean)]
def wsX7_runRounds_r6 : List Cond := [Cond.methodLink RX7 181 yX4_readPart, Cond.instanceMethod yX4_readPart, Cond.selects RX4 yX4_readPart yX4_readPart, Cond.code yX4_readPart cX4_readPart 6 none, Cond.fieldLink RX4 9 "NumeralCipher$Row" "cells" "[I", Cond.methodLink RX4 37 yX4_placeOf, Cond.static yX4_placeOf, Cond.code yX4_placeOf cX4_placeOf 4 (some .int), Cond.methodLink RX7 185 ⟨"NumeralCipher$Way", "makeAddend", "(ILNumeralCipher$Natural;)V"⟩, Cond.sameMethod "NumeralCipher$Way" "NumeralCipher$Way" "makeAddend" "(ILNumeralCipher$Natural;)V", Cond.selects RX2 ⟨"NumeralCipher$Way", "makeAddend", "(ILNumeralCipher$Natural;)V"⟩ yX2_makeAddend, Cond.instanceMethod yX2_makeAddend, Cond.code yX2_makeAddend cX2_makeAddend 4 none, Cond.fieldLink RX2 18 "NumeralCipher$FirstWay" "chained" "[I", Cond.fieldLink RX2 21 "NumeralCipher$FirstWay" "spread" "[I", Cond.methodLink RX2 77 arraycopyName, Cond.native arraycopyName, Cond.static arraycopyName, Cond.initialized "java/lang/System", Cond.methodLink RX2 68 yX2_chainInput, Cond.instanceMethod yX2_chainInput, Cond.selects RX2 yX2_chainInput yX2_chainInput, Cond.code yX2_chainInput cX2_chainInput 4 none, Cond.methodLink RX2 87 yX2_inputWord]
def wsX7_runRounds_r7 : List Cond := [Cond.instanceMethod yX2_inputWord, Cond.selects RX2 yX2_inputWord yX2_inputWord, Cond.code yX2_inputWord cX2_inputWord 5 (some .int), Cond.methodLink RX2 91 yX3_wordAt, Cond.instanceMethod yX3_wordAt, Cond.selects RX3 yX3_wordAt yX3_wordAt, Cond.code yX3_wordAt cX3_wordAt 2 (some .int), Cond.methodLink RX2 72 yX3_clear, Cond.methodLink RX2 83 yX3_putWord, Cond.selects RX5 ⟨"NumeralCipher$Way", "makeAddend", "(ILNumeralCipher$Natural;)V"⟩ yX5_makeAddend, Cond.instanceMethod yX5_makeAddend, Cond.code yX5_makeAddend cX5_makeAddend 4 none, Cond.fieldLink RX5 9 "NumeralCipher$SecondWay" "turned" "[I", Cond.fieldLink RX5 49 "NumeralCipher$SecondWay" "cipher" "LNumeralCipher$BlockCipher;", Cond.sameField "NumeralCipher$SecondWay" "NumeralCipher$Way" "cipher" "LNumeralCipher$BlockCipher;", Cond.methodLink RX5 41 yX3_wordAt, Cond.methodLink RX5 44 yX0_bytesTurned, Cond.static yX0_bytesTurned, Cond.code yX0_bytesTurned cX0_bytesTurned 1 (some .int), Cond.constant RX0 59 (16711935), Cond.constant RX0 60 (-16711936), Cond.methodLink RX5 53 yX0_encipher, Cond.methodLink RX5 57 yX3_clear, Cond.methodLink RX5 60 yX3_putWord]
def wsX7_runRounds_r8 : List Cond := [Cond.methodLink RX7 189 yX4_shiftPart, Cond.instanceMethod yX4_shiftPart, Cond.selects RX4 yX4_shiftPart yX4_shiftPart, Cond.code yX4_shiftPart cX4_shiftPart 11 none, Cond.methodLink RX4 41 yX3_divide, Cond.instanceMethod yX3_divide, Cond.selects RX3 yX3_divide yX3_divide, Cond.code yX3_divide cX3_divide 7 (some .int), Cond.methodLink RX4 45 yX4_isNumeral, Cond.instanceMethod yX4_isNumeral, Cond.selects RX4 yX4_isNumeral yX4_isNumeral, Cond.code yX4_isNumeral cX4_isNumeral 2 (some .boolean)]
def wsX7_runRounds : List Cond := .code yX7_runRounds cX7_runRounds 9 none :: ((wsX7_runRounds_r1 ++ (wsX7_runRounds_r2 ++ (wsX7_runRounds_r3 ++ (wsX7_runRounds_r4 ++ (wsX7_runRounds_r5 ++ (wsX7_runRounds_r6 ++ (wsX7_runRounds_r7 ++ wsX7_runRounds_r8))))))) ++ wsX70 ++ wsX40 ++ wsX20 ++ wsX10 ++ wsX50 ++ wsX30 ++ wsX00)
def wsX7_turn_r1 : List Cond := [Cond.classLink RX7 61 "java/lang/IllegalArgumentException", Cond.initialized "java/lang/IllegalArgumentException", Cond.classLink RX7 138 "java/lang/IllegalStateException", Cond.initialized "java/lang/IllegalStateException", Cond.methodLink RX7 135 yX7_isTurnable, Cond.instanceMethod yX7_isTurnable, Cond.selects RX7 yX7_isTurnable yX7_isTurnable, Cond.initialized RX7, Cond.code yX7_isTurnable cX7_isTurnable 2 (some .boolean), Cond.fieldLink RX7 25 "NumeralCipher" "row" "LNumeralCipher$Row;", Cond.fieldLink RX7 19 "NumeralCipher" "tweakBytes" "LNumeralCipher$Bytes;", Cond.fieldLink RX7 46 "NumeralCipher" "number" "LNumeralCipher$Natural;", Cond.methodLink RX7 158 yX4_isLongEnough, Cond.instanceMethod yX4_isLongEnough, Cond.selects RX4 yX4_isLongEnough yX4_isLongEnough, Cond.initialized RX4, Cond.code yX4_isLongEnough cX4_isLongEnough 4 (some .boolean), Cond.fieldLink RX4 19 "NumeralCipher$Row" "size" "I", Cond.constantLong RX4 22 (1000000), Cond.fieldLink RX4 15 "NumeralCipher$Row" "base" "I", Cond.methodLink RX7 143 yX7_wayOf, Cond.instanceMethod yX7_wayOf, Cond.selects RX7 yX7_wayOf yX7_wayOf, Cond.code yX7_wayOf cX7_wayOf 2 (some (.object "NumeralCipher$Way"))]
def wsX7_turn_r2 : List Cond := [Cond.fieldLink RX7 32 "NumeralCipher" "firstWay" "LNumeralCipher$FirstWay;", Cond.fieldLink RX7 39 "NumeralCipher" "secondWay" "LNumeralCipher$SecondWay;", Cond.methodLink RX7 162 ⟨"NumeralCipher$Way", "takes", "(LNumeralCipher$Row;LNumeralCipher$Bytes;LNumeralCipher$Natural;)Z"⟩, Cond.sameMethod "NumeralCipher$Way" "NumeralCipher$Way" "takes" "(LNumeralCipher$Row;LNumeralCipher$Bytes;LNumeralCipher$Natural;)Z", Cond.selects RX2 ⟨"NumeralCipher$Way", "takes", "(LNumeralCipher$Row;LNumeralCipher$Bytes;LNumeralCipher$Natural;)Z"⟩ yX2_takes, Cond.instanceMethod yX2_takes, Cond.initialized RX2, Cond.code yX2_takes cX2_takes 4 (some .boolean), Cond.selects RX5 ⟨"NumeralCipher$Way", "takes", "(LNumeralCipher$Row;LNumeralCipher$Bytes;LNumeralCipher$Natural;)Z"⟩ yX5_takes, Cond.instanceMethod yX5_takes, Cond.initialized RX5, Cond.code yX5_takes cX5_takes 4 (some .boolean), Cond.methodLink RX5 24 yX5_firstHalf, Cond.instanceMethod yX5_firstHalf, Cond.selects RX5 yX5_firstHalf yX5_firstHalf, Cond.code yX5_firstHalf cX5_firstHalf 2 (some .int), Cond.methodLink RX5 28 yX4_widthOf, Cond.instanceMethod yX4_widthOf, Cond.selects RX4 yX4_widthOf yX4_widthOf, Cond.code yX4_widthOf cX4_widthOf 4 (some .int), Cond.methodLink RX4 24 yX3_clear, Cond.instanceMethod yX3_clear, Cond.selects RX3 yX3_clear yX3_clear, Cond.initialized RX3]
def wsX7_turn_r3 : List Cond := [Cond.code yX3_clear cX3_clear 1 none, Cond.fieldLink RX3 9 "NumeralCipher$Natural" "cells" "[I", Cond.fieldLink RX3 19 "NumeralCipher$Natural" "size" "I", Cond.methodLink RX3 13 yJ7_fill_53178, Cond.static yJ7_fill_53178, Cond.initialized RJ7, Cond.code yJ7_fill_53178 cJ7_fill_53178 4 none, Cond.methodLink RX4 29 yX3_multiplyAndAdd, Cond.instanceMethod yX3_multiplyAndAdd, Cond.selects RX3 yX3_multiplyAndAdd yX3_multiplyAndAdd, Cond.code yX3_multiplyAndAdd cX3_multiplyAndAdd 8 none, Cond.constantLong RX3 29 (4294967295), Cond.methodLink RX3 31 yX3_putWord, Cond.instanceMethod yX3_putWord, Cond.selects RX3 yX3_putWord yX3_putWord, Cond.code yX3_putWord cX3_putWord 3 none, Cond.methodLink RX3 23 Lib.Math.max.name, Cond.static Lib.Math.max.name, Cond.initialized "java/lang/Math", Cond.code Lib.Math.max.name Lib.Math.max.code 2 (some .int), Cond.methodLink RX4 33 yX3_byteCount, Cond.instanceMethod yX3_byteCount, Cond.selects RX3 yX3_byteCount yX3_byteCount, Cond.code yX3_byteCount cX3_byteCount 3 (some .int)]
def wsX7_turn_r4 : List Cond := [Cond.methodLink RX7 147 yX7_runRounds, Cond.instanceMethod yX7_runRounds, Cond.selects RX7 yX7_runRounds yX7_runRounds, Cond.code yX7_runRounds cX7_runRounds 9 none, Cond.methodLink RX7 168 ⟨"NumeralCipher$Way", "firstHalf", "(I)I"⟩, Cond.sameMethod "NumeralCipher$Way" "NumeralCipher$Way" "firstHalf" "(I)I", Cond.selects RX2 ⟨"NumeralCipher$Way", "firstHalf", "(I)I"⟩ yX2_firstHalf, Cond.instanceMethod yX2_firstHalf, Cond.code yX2_firstHalf cX2_firstHalf 2 (some .int), Cond.selects RX5 ⟨"NumeralCipher$Way", "firstHalf", "(I)I"⟩ yX5_firstHalf, Cond.methodLink RX7 171 ⟨"NumeralCipher$Way", "rounds", "()I"⟩, Cond.sameMethod "NumeralCipher$Way" "NumeralCipher$Way" "rounds" "()I", Cond.selects RX2 ⟨"NumeralCipher$Way", "rounds", "()I"⟩ yX2_rounds, Cond.instanceMethod yX2_rounds, Cond.code yX2_rounds cX2_rounds 1 (some .int), Cond.selects RX5 ⟨"NumeralCipher$Way", "rounds", "()I"⟩ yX5_rounds, Cond.instanceMethod yX5_rounds, Cond.code yX5_rounds cX5_rounds 1 (some .int), Cond.methodLink RX7 174 ⟨"NumeralCipher$Way", "begin", "(LNumeralCipher$Row;LNumeralCipher$Bytes;LNumeralCipher$Natural;)V"⟩, Cond.sameMethod "NumeralCipher$Way" "NumeralCipher$Way" "begin" "(LNumeralCipher$Row;LNumeralCipher$Bytes;LNumeralCipher$Natural;)V", Cond.selects RX2 ⟨"NumeralCipher$Way", "begin", "(LNumeralCipher$Row;LNumeralCipher$Bytes;LNumeralCipher$Natural;)V"⟩ yX2_begin, Cond.instanceMethod yX2_begin, Cond.code yX2_begin cX2_begin 7 none, Cond.fieldLink RX2 38 "NumeralCipher$FirstWay" "addendWords" "I"]
def wsX7_turn_r5 : List Cond := [Cond.fieldLink RX2 44 "NumeralCipher$FirstWay" "inputWords" "I", Cond.fieldLink RX2 47 "NumeralCipher$FirstWay" "roundPlace" "I", Cond.fieldLink RX2 11 "NumeralCipher$FirstWay" "tweakWords" "[I", Cond.fieldLink RX2 15 "NumeralCipher$FirstWay" "start" "[I", Cond.constant RX2 53 (16908544), Cond.constant RX2 57 (65535), Cond.fieldLink RX2 58 "NumeralCipher$FirstWay" "cipher" "LNumeralCipher$BlockCipher;", Cond.sameField "NumeralCipher$FirstWay" "NumeralCipher$Way" "cipher" "LNumeralCipher$BlockCipher;", Cond.methodLink RX2 30 yX2_firstHalf, Cond.selects RX2 yX2_firstHalf yX2_firstHalf, Cond.methodLink RX2 34 yX4_widthOf, Cond.methodLink RX2 50 yX1_wordAt, Cond.instanceMethod yX1_wordAt, Cond.selects RX1 yX1_wordAt yX1_wordAt, Cond.initialized RX1, Cond.code yX1_wordAt cX1_wordAt 3 (some .int), Cond.fieldLink RX1 9 "NumeralCipher$Bytes" "cells" "[I", Cond.methodLink RX2 62 yX0_encipher, Cond.instanceMethod yX0_encipher, Cond.selects RX0 yX0_encipher yX0_encipher, Cond.initialized RX0, Cond.code yX0_encipher cX0_encipher 4 none, Cond.fieldLink RX0 11 "NumeralCipher$BlockCipher" "schedule" "[I", Cond.fieldLink RX0 24 "NumeralCipher$BlockCipher" "rounds" "I"]
def wsX7_turn_r6 : List Cond := [Cond.fieldLink RX0 15 "NumeralCipher$BlockCipher" "moved" "[I", Cond.methodLink RX0 44 yX0_diagonal, Cond.static yX0_diagonal, Cond.code yX0_diagonal cX0_diagonal 2 (some .int), Cond.constant RX0 51 (-16777216), Cond.constant RX0 52 (16711680), Cond.constant RX0 53 (65280), Cond.methodLink RX0 38 yX0_substituted, Cond.static yX0_substituted, Cond.code yX0_substituted cX0_substituted 1 (some .int), Cond.fieldLink RX0 54 "NumeralCipher$BlockCipher" "S" "[I", Cond.methodLink RX0 48 yX0_mixed, Cond.static yX0_mixed, Cond.code yX0_mixed cX0_mixed 2 (some .int), Cond.methodLink RX0 41 yX0_doubled, Cond.static yX0_doubled, Cond.code yX0_doubled cX0_doubled 1 (some .int), Cond.constant RX0 57 (2139062143), Cond.constant RX0 58 (16843009), Cond.methodLink RX0 34 yX0_rotated, Cond.static yX0_rotated, Cond.code yX0_rotated cX0_rotated 2 (some .int), Cond.selects RX5 ⟨"NumeralCipher$Way", "begin", "(LNumeralCipher$Row;LNumeralCipher$Bytes;LNumeralCipher$Natural;)V"⟩ yX5_begin, Cond.instanceMethod yX5_begin]
def wsX7_turn_r7 : List Cond := [Cond.code yX5_begin cX5_begin 5 none, Cond.fieldLink RX5 35 "NumeralCipher$SecondWay" "left" "I", Cond.fieldLink RX5 38 "NumeralCipher$SecondWay" "right" "I", Cond.methodLink RX5 32 yX1_wordAt, Cond.methodLink RX7 178 ⟨"NumeralCipher$Way", "lowestFirst", "()Z"⟩, Cond.sameMethod "NumeralCipher$Way" "NumeralCipher$Way" "lowestFirst" "()Z", Cond.selects RX2 ⟨"NumeralCipher$Way", "lowestFirst", "()Z"⟩ yX2_lowestFirst, Cond.instanceMethod yX2_lowestFirst, Cond.code yX2_lowestFirst cX2_lowestFirst 1 (some .boolean), Cond.selects RX5 ⟨"NumeralCipher$Way", "lowestFirst", "()Z"⟩ yX5_lowestFirst, Cond.instanceMethod yX5_lowestFirst, Cond.code yX5_lowestFirst cX5_lowestFirst 1 (some .boolean), Cond.methodLink RX7 181 yX4_readPart, Cond.instanceMethod yX4_readPart, Cond.selects RX4 yX4_readPart yX4_readPart, Cond.code yX4_readPart cX4_readPart 6 none, Cond.fieldLink RX4 9 "NumeralCipher$Row" "cells" "[I", Cond.methodLink RX4 37 yX4_placeOf, Cond.static yX4_placeOf, Cond.code yX4_placeOf cX4_placeOf 4 (some .int), Cond.methodLink RX7 185 ⟨"NumeralCipher$Way", "makeAddend", "(ILNumeralCipher$Natural;)V"⟩, Cond.sameMethod "NumeralCipher$Way" "NumeralCipher$Way" "makeAddend" "(ILNumeralCipher$Natural;)V", Cond.selects RX2 ⟨"NumeralCipher$Way", "makeAddend", "(ILNumeralCipher$Natural;)V"⟩ yX2_makeAddend, Cond.instanceMethod yX2_makeAddend]
def wsX7_turn_r8 : List Cond := [Cond.code yX2_makeAddend cX2_makeAddend 4 none, Cond.fieldLink RX2 18 "NumeralCipher$FirstWay" "chained" "[I", Cond.fieldLink RX2 21 "NumeralCipher$FirstWay" "spread" "[I", Cond.methodLink RX2 77 arraycopyName, Cond.native arraycopyName, Cond.static arraycopyName, Cond.initialized "java/lang/System", Cond.methodLink RX2 68 yX2_chainInput, Cond.instanceMethod yX2_chainInput, Cond.selects RX2 yX2_chainInput yX2_chainInput, Cond.code yX2_chainInput cX2_chainInput 4 none, Cond.methodLink RX2 87 yX2_inputWord, Cond.instanceMethod yX2_inputWord, Cond.selects RX2 yX2_inputWord yX2_inputWord, Cond.code yX2_inputWord cX2_inputWord 5 (some .int), Cond.methodLink RX2 91 yX3_wordAt, Cond.instanceMethod yX3_wordAt, Cond.selects RX3 yX3_wordAt yX3_wordAt, Cond.code yX3_wordAt cX3_wordAt 2 (some .int), Cond.methodLink RX2 72 yX3_clear, Cond.methodLink RX2 83 yX3_putWord, Cond.selects RX5 ⟨"NumeralCipher$Way", "makeAddend", "(ILNumeralCipher$Natural;)V"⟩ yX5_makeAddend, Cond.instanceMethod yX5_makeAddend, Cond.code yX5_makeAddend cX5_makeAddend 4 none]
def wsX7_turn_r9 : List Cond := [Cond.fieldLink RX5 9 "NumeralCipher$SecondWay" "turned" "[I", Cond.fieldLink RX5 49 "NumeralCipher$SecondWay" "cipher" "LNumeralCipher$BlockCipher;", Cond.sameField "NumeralCipher$SecondWay" "NumeralCipher$Way" "cipher" "LNumeralCipher$BlockCipher;", Cond.methodLink RX5 41 yX3_wordAt, Cond.methodLink RX5 44 yX0_bytesTurned, Cond.static yX0_bytesTurned, Cond.code yX0_bytesTurned cX0_bytesTurned 1 (some .int), Cond.constant RX0 59 (16711935), Cond.constant RX0 60 (-16711936), Cond.methodLink RX5 53 yX0_encipher, Cond.methodLink RX5 57 yX3_clear, Cond.methodLink RX5 60 yX3_putWord, Cond.methodLink RX7 189 yX4_shiftPart, Cond.instanceMethod yX4_shiftPart, Cond.selects RX4 yX4_shiftPart yX4_shiftPart, Cond.code yX4_shiftPart cX4_shiftPart 11 none, Cond.methodLink RX4 41 yX3_divide, Cond.instanceMethod yX3_divide, Cond.selects RX3 yX3_divide yX3_divide, Cond.code yX3_divide cX3_divide 7 (some .int), Cond.methodLink RX4 45 yX4_isNumeral, Cond.instanceMethod yX4_isNumeral, Cond.selects RX4 yX4_isNumeral yX4_isNumeral, Cond.code yX4_isNumeral cX4_isNumeral 2 (some .boolean)]
def wsX7_turn : List Cond := .code yX7_turn cX7_turn 3 none :: ((wsX7_turn_r1 ++ (wsX7_turn_r2 ++ (wsX7_turn_r3 ++ (wsX7_turn_r4 ++ (wsX7_turn_r5 ++ (wsX7_turn_r6 ++ (wsX7_turn_r7 ++ (wsX7_turn_r8 ++ wsX7_turn_r9)))))))) ++ wsX70 ++ wsX40 ++ wsX10 ++ wsX30 ++ wsX20 ++ wsX50 ++ wsX00 ++ (vx_atS RX7 65 "java/lang/IllegalArgumentException" ["java/lang/RuntimeException", "java/lang/Exception"]).filter goodWord ++ (vx_atS RX7 142 "java/lang/IllegalStateException" ["java/lang/RuntimeException", "java/lang/Exception"]).filter goodWord)
def wsX7_count : List Cond := .code yX7_count cX7_count 2 (some .int) :: ([.classLink RX7 78 "java/lang/IndexOutOfBoundsException", .initialized "java/lang/IndexOutOfBoundsException", .fieldLink RX7 25 "NumeralCipher" "row" "LNumeralCipher$Row;", .fieldLink RX7 16 "NumeralCipher" "keyBytes" "LNumeralCipher$Bytes;", .fieldLink RX7 19 "NumeralCipher" "tweakBytes" "LNumeralCipher$Bytes;", .fieldLink RX7 10 "NumeralCipher" "buffer" "LNumeralCipher$Bytes;"] ++ wsX70 ++ wsX40 ++ wsX10 ++ (vx_atS RX7 82 "java/lang/IndexOutOfBoundsException" ["java/lang/RuntimeException", "java/lang/Exception"]).filter goodWord)
def wsX8_times : List Cond := .code yX8_times cX8_times 4 (some .int) :: ([])
def wsX8_sOf : List Cond := .code yX8_sOf cX8_sOf 4 (some .int) :: ([.methodLink RX8 66 yX8_times, .static yX8_times, .initialized RX8, .code yX8_times cX8_times 4 (some .int)])
def wsX8_init_r1 : List Cond := [Cond.methodLink RX8 1 objectInit, Cond.instanceMethod objectInit, Cond.code objectInit ⟨#[0xb1]⟩ 1 none, Cond.arrayClass .int, Cond.fieldLink RX8 7 "NumeralCipherModel" "buffer" "[I", Cond.fieldLink RX8 13 "NumeralCipherModel" "keySize" "I", Cond.fieldLink RX8 17 "NumeralCipherModel" "key" "[I", Cond.fieldLink RX8 20 "NumeralCipherModel" "tweak" "[I", Cond.fieldLink RX8 23 "NumeralCipherModel" "radix" "I", Cond.fieldLink RX8 26 "NumeralCipherModel" "row" "[I", Cond.fieldLink RX8 29 "NumeralCipherModel" "boxOf" "[I", Cond.fieldLink RX8 32 "NumeralCipherModel" "words" "[I", Cond.fieldLink RX8 35 "NumeralCipherModel" "block" "[I", Cond.fieldLink RX8 38 "NumeralCipherModel" "moved" "[I", Cond.fieldLink RX8 41 "NumeralCipherModel" "halfA" "[I", Cond.fieldLink RX8 44 "NumeralCipherModel" "halfB" "[I", Cond.fieldLink RX8 47 "NumeralCipherModel" "halfC" "[I", Cond.fieldLink RX8 50 "NumeralCipherModel" "number" "[I", Cond.fieldLink RX8 53 "NumeralCipherModel" "message" "[I", Cond.fieldLink RX8 56 "NumeralCipherModel" "stream" "[I", Cond.methodLink RX8 59 yX8_sOf, Cond.static yX8_sOf, Cond.initialized RX8, Cond.code yX8_sOf cX8_sOf 4 (some .int)]
def wsX8_init_r2 : List Cond := [Cond.methodLink RX8 66 yX8_times, Cond.static yX8_times, Cond.code yX8_times cX8_times 4 (some .int)]
def wsX8_init : List Cond := .code yX8_init cX8_init 2 none :: ((wsX8_init_r1 ++ wsX8_init_r2) ++ wsX80)
def wsX8_thrown : List Cond := .code yX8_thrown cX8_thrown 1 (some .int) :: ([.fieldLink RX8 63 "NumeralCipherModel" "thrown" "I"] ++ wsX80)
def wsX8_in : List Cond := .code yX8_in cX8_in 6 (some .boolean) :: ([])
def wsX8_refuses : List Cond := .code yX8_refuses cX8_refuses 3 (some .boolean) :: ([.fieldLink RX8 63 "NumeralCipherModel" "thrown" "I"] ++ wsX80)
def wsX8_makeWords : List Cond := .code yX8_makeWords cX8_makeWords 10 none :: ([.fieldLink RX8 13 "NumeralCipherModel" "keySize" "I", .fieldLink RX8 70 "NumeralCipherModel" "rounds" "I", .fieldLink RX8 32 "NumeralCipherModel" "words" "[I", .fieldLink RX8 17 "NumeralCipherModel" "key" "[I", .fieldLink RX8 29 "NumeralCipherModel" "boxOf" "[I", .methodLink RX8 66 yX8_times, .static yX8_times, .initialized RX8, .code yX8_times cX8_times 4 (some .int)] ++ wsX80)
def wsX8_addWords : List Cond := .code yX8_addWords cX8_addWords 3 none :: ([.fieldLink RX8 35 "NumeralCipherModel" "block" "[I", .fieldLink RX8 32 "NumeralCipherModel" "words" "[I"] ++ wsX80)
def wsX8_encipher : List Cond := .code yX8_encipher cX8_encipher 7 none :: ([.fieldLink RX8 70 "NumeralCipherModel" "rounds" "I", .fieldLink RX8 38 "NumeralCipherModel" "moved" "[I", .fieldLink RX8 29 "NumeralCipherModel" "boxOf" "[I", .fieldLink RX8 35 "NumeralCipherModel" "block" "[I", .methodLink RX8 73 yX8_addWords, .instanceMethod yX8_addWords, .selects RX8 yX8_addWords yX8_addWords, .initialized RX8, .code yX8_addWords cX8_addWords 3 none, .fieldLink RX8 32 "NumeralCipherModel" "words" "[I", .methodLink RX8 66 yX8_times, .static yX8_times, .code yX8_times cX8_times 4 (some .int)] ++ wsX80)
def wsX8_lay : List Cond := .code yX8_lay cX8_lay 10 none :: ([.fieldLink RX8 50 "NumeralCipherModel" "number" "[I", .fieldLink RX8 23 "NumeralCipherModel" "radix" "I", .constantLong RX8 77 (255)] ++ wsX80)
def wsX8_bytesOf : List Cond := .code yX8_bytesOf cX8_bytesOf 3 (some .int) :: ([.fieldLink RX8 47 "NumeralCipherModel" "halfC" "[I", .fieldLink RX8 23 "NumeralCipherModel" "radix" "I", .fieldLink RX8 50 "NumeralCipherModel" "number" "[I", .methodLink RX8 79 yX8_lay, .instanceMethod yX8_lay, .selects RX8 yX8_lay yX8_lay, .initialized RX8, .code yX8_lay cX8_lay 10 none, .constantLong RX8 77 (255)] ++ wsX80)
def wsX8_takeNumeral : List Cond := .code yX8_takeNumeral cX8_takeNumeral 7 (some .int) :: ([.fieldLink RX8 56 "NumeralCipherModel" "stream" "[I", .fieldLink RX8 23 "NumeralCipherModel" "radix" "I"] ++ wsX80)
def wsX8_add : List Cond := .code yX8_add cX8_add 11 none :: ([.fieldLink RX8 23 "NumeralCipherModel" "radix" "I", .fieldLink RX8 47 "NumeralCipherModel" "halfC" "[I", .methodLink RX8 83 yX8_takeNumeral, .instanceMethod yX8_takeNumeral, .selects RX8 yX8_takeNumeral yX8_takeNumeral, .initialized RX8, .code yX8_takeNumeral cX8_takeNumeral 7 (some .int), .fieldLink RX8 56 "NumeralCipherModel" "stream" "[I"] ++ wsX80)
def wsX8_part : List Cond := .code yX8_part cX8_part 3 none :: ([.fieldLink RX8 86 "NumeralCipherModel" "sizeA" "I", .fieldLink RX8 89 "NumeralCipherModel" "many" "I", .fieldLink RX8 92 "NumeralCipherModel" "sizeB" "I", .fieldLink RX8 41 "NumeralCipherModel" "halfA" "[I", .fieldLink RX8 26 "NumeralCipherModel" "row" "[I", .fieldLink RX8 44 "NumeralCipherModel" "halfB" "[I"] ++ wsX80)
def wsX8_change : List Cond := .code yX8_change cX8_change 4 none :: ([.fieldLink RX8 86 "NumeralCipherModel" "sizeA" "I", .fieldLink RX8 92 "NumeralCipherModel" "sizeB" "I", .fieldLink RX8 44 "NumeralCipherModel" "halfB" "[I", .fieldLink RX8 41 "NumeralCipherModel" "halfA" "[I", .fieldLink RX8 47 "NumeralCipherModel" "halfC" "[I"] ++ wsX80)
def wsX8_join : List Cond := .code yX8_join cX8_join 2 none :: ([.fieldLink RX8 89 "NumeralCipherModel" "many" "I", .fieldLink RX8 26 "NumeralCipherModel" "row" "[I", .fieldLink RX8 86 "NumeralCipherModel" "sizeA" "I", .fieldLink RX8 41 "NumeralCipherModel" "halfA" "[I", .fieldLink RX8 44 "NumeralCipherModel" "halfB" "[I"] ++ wsX80)
def wsX8_first : List Cond := .code yX8_first cX8_first 3 none :: ([.fieldLink RX8 35 "NumeralCipherModel" "block" "[I", .fieldLink RX8 23 "NumeralCipherModel" "radix" "I", .fieldLink RX8 89 "NumeralCipherModel" "many" "I", .fieldLink RX8 95 "NumeralCipherModel" "tweakSize" "I"] ++ wsX80)
def wsX8_makeStream_r1 : List Cond := [Cond.fieldLink RX8 95 "NumeralCipherModel" "tweakSize" "I", Cond.fieldLink RX8 53 "NumeralCipherModel" "message" "[I", Cond.fieldLink RX8 20 "NumeralCipherModel" "tweak" "[I", Cond.fieldLink RX8 41 "NumeralCipherModel" "halfA" "[I", Cond.fieldLink RX8 44 "NumeralCipherModel" "halfB" "[I", Cond.fieldLink RX8 86 "NumeralCipherModel" "sizeA" "I", Cond.fieldLink RX8 92 "NumeralCipherModel" "sizeB" "I", Cond.fieldLink RX8 50 "NumeralCipherModel" "number" "[I", Cond.fieldLink RX8 35 "NumeralCipherModel" "block" "[I", Cond.fieldLink RX8 56 "NumeralCipherModel" "stream" "[I", Cond.methodLink RX8 79 yX8_lay, Cond.instanceMethod yX8_lay, Cond.selects RX8 yX8_lay yX8_lay, Cond.initialized RX8, Cond.code yX8_lay cX8_lay 10 none, Cond.fieldLink RX8 23 "NumeralCipherModel" "radix" "I", Cond.constantLong RX8 77 (255), Cond.methodLink RX8 98 yX8_first, Cond.instanceMethod yX8_first, Cond.selects RX8 yX8_first yX8_first, Cond.code yX8_first cX8_first 3 none, Cond.fieldLink RX8 89 "NumeralCipherModel" "many" "I", Cond.methodLink RX8 101 yX8_encipher, Cond.instanceMethod yX8_encipher]
def wsX8_makeStream_r2 : List Cond := [Cond.selects RX8 yX8_encipher yX8_encipher, Cond.code yX8_encipher cX8_encipher 7 none, Cond.fieldLink RX8 70 "NumeralCipherModel" "rounds" "I", Cond.fieldLink RX8 38 "NumeralCipherModel" "moved" "[I", Cond.fieldLink RX8 29 "NumeralCipherModel" "boxOf" "[I", Cond.methodLink RX8 73 yX8_addWords, Cond.instanceMethod yX8_addWords, Cond.selects RX8 yX8_addWords yX8_addWords, Cond.code yX8_addWords cX8_addWords 3 none, Cond.fieldLink RX8 32 "NumeralCipherModel" "words" "[I", Cond.methodLink RX8 66 yX8_times, Cond.static yX8_times, Cond.code yX8_times cX8_times 4 (some .int)]
def wsX8_makeStream : List Cond := .code yX8_makeStream cX8_makeStream 10 none :: ((wsX8_makeStream_r1 ++ wsX8_makeStream_r2) ++ wsX80)
def wsX8_turnFirst_r1 : List Cond := [Cond.fieldLink RX8 89 "NumeralCipherModel" "many" "I", Cond.fieldLink RX8 44 "NumeralCipherModel" "halfB" "[I", Cond.fieldLink RX8 41 "NumeralCipherModel" "halfA" "[I", Cond.methodLink RX8 104 yX8_bytesOf, Cond.instanceMethod yX8_bytesOf, Cond.selects RX8 yX8_bytesOf yX8_bytesOf, Cond.initialized RX8, Cond.code yX8_bytesOf cX8_bytesOf 3 (some .int), Cond.fieldLink RX8 47 "NumeralCipherModel" "halfC" "[I", Cond.fieldLink RX8 23 "NumeralCipherModel" "radix" "I", Cond.fieldLink RX8 50 "NumeralCipherModel" "number" "[I", Cond.methodLink RX8 79 yX8_lay, Cond.instanceMethod yX8_lay, Cond.selects RX8 yX8_lay yX8_lay, Cond.code yX8_lay cX8_lay 10 none, Cond.constantLong RX8 77 (255), Cond.methodLink RX8 107 yX8_makeWords, Cond.instanceMethod yX8_makeWords, Cond.selects RX8 yX8_makeWords yX8_makeWords, Cond.code yX8_makeWords cX8_makeWords 10 none, Cond.fieldLink RX8 13 "NumeralCipherModel" "keySize" "I", Cond.fieldLink RX8 70 "NumeralCipherModel" "rounds" "I", Cond.fieldLink RX8 32 "NumeralCipherModel" "words" "[I", Cond.fieldLink RX8 17 "NumeralCipherModel" "key" "[I"]
def wsX8_turnFirst_r2 : List Cond := [Cond.fieldLink RX8 29 "NumeralCipherModel" "boxOf" "[I", Cond.methodLink RX8 66 yX8_times, Cond.static yX8_times, Cond.code yX8_times cX8_times 4 (some .int), Cond.methodLink RX8 111 yX8_part, Cond.instanceMethod yX8_part, Cond.selects RX8 yX8_part yX8_part, Cond.code yX8_part cX8_part 3 none, Cond.fieldLink RX8 86 "NumeralCipherModel" "sizeA" "I", Cond.fieldLink RX8 92 "NumeralCipherModel" "sizeB" "I", Cond.fieldLink RX8 26 "NumeralCipherModel" "row" "[I", Cond.methodLink RX8 114 yX8_makeStream, Cond.instanceMethod yX8_makeStream, Cond.selects RX8 yX8_makeStream yX8_makeStream, Cond.code yX8_makeStream cX8_makeStream 10 none, Cond.fieldLink RX8 95 "NumeralCipherModel" "tweakSize" "I", Cond.fieldLink RX8 53 "NumeralCipherModel" "message" "[I", Cond.fieldLink RX8 20 "NumeralCipherModel" "tweak" "[I", Cond.fieldLink RX8 35 "NumeralCipherModel" "block" "[I", Cond.fieldLink RX8 56 "NumeralCipherModel" "stream" "[I", Cond.methodLink RX8 98 yX8_first, Cond.instanceMethod yX8_first, Cond.selects RX8 yX8_first yX8_first, Cond.code yX8_first cX8_first 3 none]
def wsX8_turnFirst_r3 : List Cond := [Cond.methodLink RX8 101 yX8_encipher, Cond.instanceMethod yX8_encipher, Cond.selects RX8 yX8_encipher yX8_encipher, Cond.code yX8_encipher cX8_encipher 7 none, Cond.fieldLink RX8 38 "NumeralCipherModel" "moved" "[I", Cond.methodLink RX8 73 yX8_addWords, Cond.instanceMethod yX8_addWords, Cond.selects RX8 yX8_addWords yX8_addWords, Cond.code yX8_addWords cX8_addWords 3 none, Cond.methodLink RX8 118 yX8_add, Cond.instanceMethod yX8_add, Cond.selects RX8 yX8_add yX8_add, Cond.code yX8_add cX8_add 11 none, Cond.methodLink RX8 83 yX8_takeNumeral, Cond.instanceMethod yX8_takeNumeral, Cond.selects RX8 yX8_takeNumeral yX8_takeNumeral, Cond.code yX8_takeNumeral cX8_takeNumeral 7 (some .int), Cond.methodLink RX8 122 yX8_change, Cond.instanceMethod yX8_change, Cond.selects RX8 yX8_change yX8_change, Cond.code yX8_change cX8_change 4 none, Cond.methodLink RX8 126 yX8_join, Cond.instanceMethod yX8_join, Cond.selects RX8 yX8_join yX8_join]
def wsX8_turnFirst_r4 : List Cond := [Cond.code yX8_join cX8_join 2 none]
def wsX8_turnFirst : List Cond := .code yX8_turnFirst cX8_turnFirst 9 none :: ((wsX8_turnFirst_r1 ++ (wsX8_turnFirst_r2 ++ (wsX8_turnFirst_r3 ++ wsX8_turnFirst_r4))) ++ wsX80)
def wsX8_turnSecond_r1 : List Cond := [Cond.fieldLink RX8 89 "NumeralCipherModel" "many" "I", Cond.fieldLink RX8 53 "NumeralCipherModel" "message" "[I", Cond.fieldLink RX8 20 "NumeralCipherModel" "tweak" "[I", Cond.fieldLink RX8 41 "NumeralCipherModel" "halfA" "[I", Cond.fieldLink RX8 44 "NumeralCipherModel" "halfB" "[I", Cond.fieldLink RX8 86 "NumeralCipherModel" "sizeA" "I", Cond.fieldLink RX8 92 "NumeralCipherModel" "sizeB" "I", Cond.fieldLink RX8 50 "NumeralCipherModel" "number" "[I", Cond.fieldLink RX8 35 "NumeralCipherModel" "block" "[I", Cond.fieldLink RX8 56 "NumeralCipherModel" "stream" "[I", Cond.methodLink RX8 107 yX8_makeWords, Cond.instanceMethod yX8_makeWords, Cond.selects RX8 yX8_makeWords yX8_makeWords, Cond.initialized RX8, Cond.code yX8_makeWords cX8_makeWords 10 none, Cond.fieldLink RX8 13 "NumeralCipherModel" "keySize" "I", Cond.fieldLink RX8 70 "NumeralCipherModel" "rounds" "I", Cond.fieldLink RX8 32 "NumeralCipherModel" "words" "[I", Cond.fieldLink RX8 17 "NumeralCipherModel" "key" "[I", Cond.fieldLink RX8 29 "NumeralCipherModel" "boxOf" "[I", Cond.methodLink RX8 66 yX8_times, Cond.static yX8_times, Cond.code yX8_times cX8_times 4 (some .int), Cond.methodLink RX8 111 yX8_part]
def wsX8_turnSecond_r2 : List Cond := [Cond.instanceMethod yX8_part, Cond.selects RX8 yX8_part yX8_part, Cond.code yX8_part cX8_part 3 none, Cond.fieldLink RX8 26 "NumeralCipherModel" "row" "[I", Cond.methodLink RX8 79 yX8_lay, Cond.instanceMethod yX8_lay, Cond.selects RX8 yX8_lay yX8_lay, Cond.code yX8_lay cX8_lay 10 none, Cond.fieldLink RX8 23 "NumeralCipherModel" "radix" "I", Cond.constantLong RX8 77 (255), Cond.methodLink RX8 101 yX8_encipher, Cond.instanceMethod yX8_encipher, Cond.selects RX8 yX8_encipher yX8_encipher, Cond.code yX8_encipher cX8_encipher 7 none, Cond.fieldLink RX8 38 "NumeralCipherModel" "moved" "[I", Cond.methodLink RX8 73 yX8_addWords, Cond.instanceMethod yX8_addWords, Cond.selects RX8 yX8_addWords yX8_addWords, Cond.code yX8_addWords cX8_addWords 3 none, Cond.methodLink RX8 118 yX8_add, Cond.instanceMethod yX8_add, Cond.selects RX8 yX8_add yX8_add, Cond.code yX8_add cX8_add 11 none, Cond.fieldLink RX8 47 "NumeralCipherModel" "halfC" "[I"]
def wsX8_turnSecond_r3 : List Cond := [Cond.methodLink RX8 83 yX8_takeNumeral, Cond.instanceMethod yX8_takeNumeral, Cond.selects RX8 yX8_takeNumeral yX8_takeNumeral, Cond.code yX8_takeNumeral cX8_takeNumeral 7 (some .int), Cond.methodLink RX8 122 yX8_change, Cond.instanceMethod yX8_change, Cond.selects RX8 yX8_change yX8_change, Cond.code yX8_change cX8_change 4 none, Cond.methodLink RX8 126 yX8_join, Cond.instanceMethod yX8_join, Cond.selects RX8 yX8_join yX8_join, Cond.code yX8_join cX8_join 2 none]
def wsX8_turnSecond : List Cond := .code yX8_turnSecond cX8_turnSecond 9 none :: ((wsX8_turnSecond_r1 ++ (wsX8_turnSecond_r2 ++ wsX8_turnSecond_r3)) ++ wsX80)
def wsX8_canTurn : List Cond := .code yX8_canTurn cX8_canTurn 5 (some .boolean) :: ([.fieldLink RX8 89 "NumeralCipherModel" "many" "I", .constantLong RX8 129 (1000000), .fieldLink RX8 23 "NumeralCipherModel" "radix" "I", .fieldLink RX8 95 "NumeralCipherModel" "tweakSize" "I", .methodLink RX8 104 yX8_bytesOf, .instanceMethod yX8_bytesOf, .selects RX8 yX8_bytesOf yX8_bytesOf, .initialized RX8, .code yX8_bytesOf cX8_bytesOf 3 (some .int), .fieldLink RX8 47 "NumeralCipherModel" "halfC" "[I", .fieldLink RX8 50 "NumeralCipherModel" "number" "[I", .methodLink RX8 79 yX8_lay, .instanceMethod yX8_lay, .selects RX8 yX8_lay yX8_lay, .code yX8_lay cX8_lay 10 none, .constantLong RX8 77 (255)] ++ wsX80)
def wsX8_type : List Cond := .code yX8_type cX8_type 5 (some .int) :: ([.fieldLink RX8 63 "NumeralCipherModel" "thrown" "I", .constantLong RX8 131 (8), .fieldLink RX8 141 "NumeralCipherModel" "bytes" "I", .fieldLink RX8 7 "NumeralCipherModel" "buffer" "[I", .constantLong RX8 77 (255), .methodLink RX8 133 yX8_in, .static yX8_in, .initialized RX8, .code yX8_in cX8_in 6 (some .boolean), .methodLink RX8 137 yX8_refuses, .instanceMethod yX8_refuses, .selects RX8 yX8_refuses yX8_refuses, .code yX8_refuses cX8_refuses 3 (some .boolean)] ++ wsX80)
def wsX8_keep : List Cond := .code yX8_keep cX8_keep 2 none :: ([.fieldLink RX8 63 "NumeralCipherModel" "thrown" "I", .fieldLink RX8 141 "NumeralCipherModel" "bytes" "I", .methodLink RX8 133 yX8_in, .static yX8_in, .initialized RX8, .code yX8_in cX8_in 6 (some .boolean), .methodLink RX8 137 yX8_refuses, .instanceMethod yX8_refuses, .selects RX8 yX8_refuses yX8_refuses, .code yX8_refuses cX8_refuses 3 (some .boolean)] ++ wsX80)
def wsX8_typed : List Cond := .code yX8_typed cX8_typed 2 (some .int) :: ([.fieldLink RX8 63 "NumeralCipherModel" "thrown" "I", .fieldLink RX8 141 "NumeralCipherModel" "bytes" "I", .fieldLink RX8 7 "NumeralCipherModel" "buffer" "[I", .methodLink RX8 133 yX8_in, .static yX8_in, .initialized RX8, .code yX8_in cX8_in 6 (some .boolean), .methodLink RX8 137 yX8_refuses, .instanceMethod yX8_refuses, .selects RX8 yX8_refuses yX8_refuses, .code yX8_refuses cX8_refuses 3 (some .boolean)] ++ wsX80)
def wsX8_key : List Cond := .code yX8_key cX8_key 2 (some .int) :: ([.fieldLink RX8 63 "NumeralCipherModel" "thrown" "I", .fieldLink RX8 141 "NumeralCipherModel" "bytes" "I", .fieldLink RX8 13 "NumeralCipherModel" "keySize" "I", .fieldLink RX8 17 "NumeralCipherModel" "key" "[I", .fieldLink RX8 7 "NumeralCipherModel" "buffer" "[I", .methodLink RX8 137 yX8_refuses, .instanceMethod yX8_refuses, .selects RX8 yX8_refuses yX8_refuses, .initialized RX8, .code yX8_refuses cX8_refuses 3 (some .boolean)] ++ wsX80)
def wsX8_tweak : List Cond := .code yX8_tweak cX8_tweak 2 (some .int) :: ([.fieldLink RX8 63 "NumeralCipherModel" "thrown" "I", .fieldLink RX8 141 "NumeralCipherModel" "bytes" "I", .fieldLink RX8 95 "NumeralCipherModel" "tweakSize" "I", .fieldLink RX8 20 "NumeralCipherModel" "tweak" "[I", .fieldLink RX8 7 "NumeralCipherModel" "buffer" "[I", .methodLink RX8 137 yX8_refuses, .instanceMethod yX8_refuses, .selects RX8 yX8_refuses yX8_refuses, .initialized RX8, .code yX8_refuses cX8_refuses 3 (some .boolean)] ++ wsX80)
def wsX8_block_r1 : List Cond := [Cond.fieldLink RX8 63 "NumeralCipherModel" "thrown" "I", Cond.fieldLink RX8 141 "NumeralCipherModel" "bytes" "I", Cond.fieldLink RX8 35 "NumeralCipherModel" "block" "[I", Cond.fieldLink RX8 7 "NumeralCipherModel" "buffer" "[I", Cond.methodLink RX8 137 yX8_refuses, Cond.instanceMethod yX8_refuses, Cond.selects RX8 yX8_refuses yX8_refuses, Cond.initialized RX8, Cond.code yX8_refuses cX8_refuses 3 (some .boolean), Cond.methodLink RX8 107 yX8_makeWords, Cond.instanceMethod yX8_makeWords, Cond.selects RX8 yX8_makeWords yX8_makeWords, Cond.code yX8_makeWords cX8_makeWords 10 none, Cond.fieldLink RX8 13 "NumeralCipherModel" "keySize" "I", Cond.fieldLink RX8 70 "NumeralCipherModel" "rounds" "I", Cond.fieldLink RX8 32 "NumeralCipherModel" "words" "[I", Cond.fieldLink RX8 17 "NumeralCipherModel" "key" "[I", Cond.fieldLink RX8 29 "NumeralCipherModel" "boxOf" "[I", Cond.methodLink RX8 66 yX8_times, Cond.static yX8_times, Cond.code yX8_times cX8_times 4 (some .int), Cond.methodLink RX8 101 yX8_encipher, Cond.instanceMethod yX8_encipher, Cond.selects RX8 yX8_encipher yX8_encipher]
def wsX8_block_r2 : List Cond := [Cond.code yX8_encipher cX8_encipher 7 none, Cond.fieldLink RX8 38 "NumeralCipherModel" "moved" "[I", Cond.methodLink RX8 73 yX8_addWords, Cond.instanceMethod yX8_addWords, Cond.selects RX8 yX8_addWords yX8_addWords, Cond.code yX8_addWords cX8_addWords 3 none]
def wsX8_block : List Cond := .code yX8_block cX8_block 2 none :: ((wsX8_block_r1 ++ wsX8_block_r2) ++ wsX80)
def wsX8_radix : List Cond := .code yX8_radix cX8_radix 3 (some .int) :: ([.fieldLink RX8 63 "NumeralCipherModel" "thrown" "I", .constantLong RX8 144 (2), .constantLong RX8 146 (65536), .fieldLink RX8 89 "NumeralCipherModel" "many" "I", .fieldLink RX8 23 "NumeralCipherModel" "radix" "I", .methodLink RX8 133 yX8_in, .static yX8_in, .initialized RX8, .code yX8_in cX8_in 6 (some .boolean), .methodLink RX8 137 yX8_refuses, .instanceMethod yX8_refuses, .selects RX8 yX8_refuses yX8_refuses, .code yX8_refuses cX8_refuses 3 (some .boolean)] ++ wsX80)
def wsX8_numeral : List Cond := .code yX8_numeral cX8_numeral 2 (some .int) :: ([.fieldLink RX8 63 "NumeralCipherModel" "thrown" "I", .fieldLink RX8 23 "NumeralCipherModel" "radix" "I", .fieldLink RX8 89 "NumeralCipherModel" "many" "I", .fieldLink RX8 26 "NumeralCipherModel" "row" "[I", .methodLink RX8 133 yX8_in, .static yX8_in, .initialized RX8, .code yX8_in cX8_in 6 (some .boolean), .methodLink RX8 137 yX8_refuses, .instanceMethod yX8_refuses, .selects RX8 yX8_refuses yX8_refuses, .code yX8_refuses cX8_refuses 3 (some .boolean)] ++ wsX80)
def wsX8_cut : List Cond := .code yX8_cut cX8_cut 2 none :: ([.fieldLink RX8 63 "NumeralCipherModel" "thrown" "I", .fieldLink RX8 89 "NumeralCipherModel" "many" "I", .methodLink RX8 133 yX8_in, .static yX8_in, .initialized RX8, .code yX8_in cX8_in 6 (some .boolean), .methodLink RX8 137 yX8_refuses, .instanceMethod yX8_refuses, .selects RX8 yX8_refuses yX8_refuses, .code yX8_refuses cX8_refuses 3 (some .boolean)] ++ wsX80)
def wsX8_set : List Cond := .code yX8_set cX8_set 4 (some .int) :: ([.fieldLink RX8 63 "NumeralCipherModel" "thrown" "I", .fieldLink RX8 89 "NumeralCipherModel" "many" "I", .fieldLink RX8 23 "NumeralCipherModel" "radix" "I", .fieldLink RX8 26 "NumeralCipherModel" "row" "[I", .methodLink RX8 133 yX8_in, .static yX8_in, .initialized RX8, .code yX8_in cX8_in 6 (some .boolean), .methodLink RX8 137 yX8_refuses, .instanceMethod yX8_refuses, .selects RX8 yX8_refuses yX8_refuses, .code yX8_refuses cX8_refuses 3 (some .boolean)] ++ wsX80)
def wsX8_at : List Cond := .code yX8_at cX8_at 2 (some .int) :: ([.fieldLink RX8 63 "NumeralCipherModel" "thrown" "I", .fieldLink RX8 89 "NumeralCipherModel" "many" "I", .fieldLink RX8 26 "NumeralCipherModel" "row" "[I", .methodLink RX8 133 yX8_in, .static yX8_in, .initialized RX8, .code yX8_in cX8_in 6 (some .boolean), .methodLink RX8 137 yX8_refuses, .instanceMethod yX8_refuses, .selects RX8 yX8_refuses yX8_refuses, .code yX8_refuses cX8_refuses 3 (some .boolean)] ++ wsX80)
def wsX8_can_r1 : List Cond := [Cond.fieldLink RX8 63 "NumeralCipherModel" "thrown" "I", Cond.methodLink RX8 133 yX8_in, Cond.static yX8_in, Cond.initialized RX8, Cond.code yX8_in cX8_in 6 (some .boolean), Cond.methodLink RX8 137 yX8_refuses, Cond.instanceMethod yX8_refuses, Cond.selects RX8 yX8_refuses yX8_refuses, Cond.code yX8_refuses cX8_refuses 3 (some .boolean), Cond.methodLink RX8 148 yX8_canTurn, Cond.instanceMethod yX8_canTurn, Cond.selects RX8 yX8_canTurn yX8_canTurn, Cond.code yX8_canTurn cX8_canTurn 5 (some .boolean), Cond.fieldLink RX8 89 "NumeralCipherModel" "many" "I", Cond.constantLong RX8 129 (1000000), Cond.fieldLink RX8 23 "NumeralCipherModel" "radix" "I", Cond.fieldLink RX8 95 "NumeralCipherModel" "tweakSize" "I", Cond.methodLink RX8 104 yX8_bytesOf, Cond.instanceMethod yX8_bytesOf, Cond.selects RX8 yX8_bytesOf yX8_bytesOf, Cond.code yX8_bytesOf cX8_bytesOf 3 (some .int), Cond.fieldLink RX8 47 "NumeralCipherModel" "halfC" "[I", Cond.fieldLink RX8 50 "NumeralCipherModel" "number" "[I", Cond.methodLink RX8 79 yX8_lay]
def wsX8_can_r2 : List Cond := [Cond.instanceMethod yX8_lay, Cond.selects RX8 yX8_lay yX8_lay, Cond.code yX8_lay cX8_lay 10 none, Cond.constantLong RX8 77 (255)]
def wsX8_can : List Cond := .code yX8_can cX8_can 2 (some .boolean) :: ((wsX8_can_r1 ++ wsX8_can_r2) ++ wsX80)
def wsX8_turn_r1 : List Cond := [Cond.fieldLink RX8 63 "NumeralCipherModel" "thrown" "I", Cond.methodLink RX8 133 yX8_in, Cond.static yX8_in, Cond.initialized RX8, Cond.code yX8_in cX8_in 6 (some .boolean), Cond.methodLink RX8 137 yX8_refuses, Cond.instanceMethod yX8_refuses, Cond.selects RX8 yX8_refuses yX8_refuses, Cond.code yX8_refuses cX8_refuses 3 (some .boolean), Cond.methodLink RX8 148 yX8_canTurn, Cond.instanceMethod yX8_canTurn, Cond.selects RX8 yX8_canTurn yX8_canTurn, Cond.code yX8_canTurn cX8_canTurn 5 (some .boolean), Cond.fieldLink RX8 89 "NumeralCipherModel" "many" "I", Cond.constantLong RX8 129 (1000000), Cond.fieldLink RX8 23 "NumeralCipherModel" "radix" "I", Cond.fieldLink RX8 95 "NumeralCipherModel" "tweakSize" "I", Cond.methodLink RX8 104 yX8_bytesOf, Cond.instanceMethod yX8_bytesOf, Cond.selects RX8 yX8_bytesOf yX8_bytesOf, Cond.code yX8_bytesOf cX8_bytesOf 3 (some .int), Cond.fieldLink RX8 47 "NumeralCipherModel" "halfC" "[I", Cond.fieldLink RX8 50 "NumeralCipherModel" "number" "[I", Cond.methodLink RX8 79 yX8_lay]
def wsX8_turn_r2 : List Cond := [Cond.instanceMethod yX8_lay, Cond.selects RX8 yX8_lay yX8_lay, Cond.code yX8_lay cX8_lay 10 none, Cond.constantLong RX8 77 (255), Cond.methodLink RX8 152 yX8_turnFirst, Cond.instanceMethod yX8_turnFirst, Cond.selects RX8 yX8_turnFirst yX8_turnFirst, Cond.code yX8_turnFirst cX8_turnFirst 9 none, Cond.fieldLink RX8 44 "NumeralCipherModel" "halfB" "[I", Cond.fieldLink RX8 41 "NumeralCipherModel" "halfA" "[I", Cond.methodLink RX8 107 yX8_makeWords, Cond.instanceMethod yX8_makeWords, Cond.selects RX8 yX8_makeWords yX8_makeWords, Cond.code yX8_makeWords cX8_makeWords 10 none, Cond.fieldLink RX8 13 "NumeralCipherModel" "keySize" "I", Cond.fieldLink RX8 70 "NumeralCipherModel" "rounds" "I", Cond.fieldLink RX8 32 "NumeralCipherModel" "words" "[I", Cond.fieldLink RX8 17 "NumeralCipherModel" "key" "[I", Cond.fieldLink RX8 29 "NumeralCipherModel" "boxOf" "[I", Cond.methodLink RX8 66 yX8_times, Cond.static yX8_times, Cond.code yX8_times cX8_times 4 (some .int), Cond.methodLink RX8 111 yX8_part, Cond.instanceMethod yX8_part]
def wsX8_turn_r3 : List Cond := [Cond.selects RX8 yX8_part yX8_part, Cond.code yX8_part cX8_part 3 none, Cond.fieldLink RX8 86 "NumeralCipherModel" "sizeA" "I", Cond.fieldLink RX8 92 "NumeralCipherModel" "sizeB" "I", Cond.fieldLink RX8 26 "NumeralCipherModel" "row" "[I", Cond.methodLink RX8 114 yX8_makeStream, Cond.instanceMethod yX8_makeStream, Cond.selects RX8 yX8_makeStream yX8_makeStream, Cond.code yX8_makeStream cX8_makeStream 10 none, Cond.fieldLink RX8 53 "NumeralCipherModel" "message" "[I", Cond.fieldLink RX8 20 "NumeralCipherModel" "tweak" "[I", Cond.fieldLink RX8 35 "NumeralCipherModel" "block" "[I", Cond.fieldLink RX8 56 "NumeralCipherModel" "stream" "[I", Cond.methodLink RX8 98 yX8_first, Cond.instanceMethod yX8_first, Cond.selects RX8 yX8_first yX8_first, Cond.code yX8_first cX8_first 3 none, Cond.methodLink RX8 101 yX8_encipher, Cond.instanceMethod yX8_encipher, Cond.selects RX8 yX8_encipher yX8_encipher, Cond.code yX8_encipher cX8_encipher 7 none, Cond.fieldLink RX8 38 "NumeralCipherModel" "moved" "[I", Cond.methodLink RX8 73 yX8_addWords, Cond.instanceMethod yX8_addWords]
def wsX8_turn_r4 : List Cond := [Cond.selects RX8 yX8_addWords yX8_addWords, Cond.code yX8_addWords cX8_addWords 3 none, Cond.methodLink RX8 118 yX8_add, Cond.instanceMethod yX8_add, Cond.selects RX8 yX8_add yX8_add, Cond.code yX8_add cX8_add 11 none, Cond.methodLink RX8 83 yX8_takeNumeral, Cond.instanceMethod yX8_takeNumeral, Cond.selects RX8 yX8_takeNumeral yX8_takeNumeral, Cond.code yX8_takeNumeral cX8_takeNumeral 7 (some .int), Cond.methodLink RX8 122 yX8_change, Cond.instanceMethod yX8_change, Cond.selects RX8 yX8_change yX8_change, Cond.code yX8_change cX8_change 4 none, Cond.methodLink RX8 126 yX8_join, Cond.instanceMethod yX8_join, Cond.selects RX8 yX8_join yX8_join, Cond.code yX8_join cX8_join 2 none, Cond.methodLink RX8 155 yX8_turnSecond, Cond.instanceMethod yX8_turnSecond, Cond.selects RX8 yX8_turnSecond yX8_turnSecond, Cond.code yX8_turnSecond cX8_turnSecond 9 none]
def wsX8_turn : List Cond := .code yX8_turn cX8_turn 3 none :: ((wsX8_turn_r1 ++ (wsX8_turn_r2 ++ (wsX8_turn_r3 ++ wsX8_turn_r4))) ++ wsX80)
def wsX8_count : List Cond := .code yX8_count cX8_count 2 (some .int) :: ([.fieldLink RX8 63 "NumeralCipherModel" "thrown" "I", .constantLong RX8 158 (4), .fieldLink RX8 89 "NumeralCipherModel" "many" "I", .fieldLink RX8 23 "NumeralCipherModel" "radix" "I", .fieldLink RX8 13 "NumeralCipherModel" "keySize" "I", .fieldLink RX8 95 "NumeralCipherModel" "tweakSize" "I", .fieldLink RX8 141 "NumeralCipherModel" "bytes" "I", .methodLink RX8 133 yX8_in, .static yX8_in, .initialized RX8, .code yX8_in cX8_in 6 (some .boolean), .methodLink RX8 137 yX8_refuses, .instanceMethod yX8_refuses, .selects RX8 yX8_refuses yX8_refuses, .code yX8_refuses cX8_refuses 3 (some .boolean)] ++ wsX80)
def wsJ9_max_7cf53 : List Cond := .code yJ9_max_7cf53 cJ9_max_7cf53 2 (some .int) :: ([])
theorem dX0_init_0 : decode cX0_init 0 = .ok (.aload_n 0, 1) := by decide +kernel
theorem dX0_init_1 : decode cX0_init 1 = .ok (.invokespecial 3, 3) := by decide +kernel
theorem dX0_init_4 : decode cX0_init 4 = .ok (.aload_n 0, 1) := by decide +kernel
theorem dX0_init_5 : decode cX0_init 5 = .ok (.bipush 60, 2) := by decide +kernel
theorem dX0_init_7 : decode cX0_init 7 = .ok (.newarray .int, 2) := by decide +kernel
theorem dX0_init_9 : decode cX0_init 9 = .ok (.putfield 11, 3) := by decide +kernel
theorem dX0_init_12 : decode cX0_init 12 = .ok (.aload_n 0, 1) := by decide +kernel
theorem dX0_init_13 : decode cX0_init 13 = .ok (.iconst 4, 1) := by decide +kernel
theorem dX0_init_14 : decode cX0_init 14 = .ok (.newarray .int, 2) := by decide +kernel
theorem dX0_init_16 : decode cX0_init 16 = .ok (.putfield 15, 3) := by decide +kernel
theorem dX0_init_19 : decode cX0_init 19 = .ok (.return_, 1) := by decide +kernel
set_option maxRecDepth 20000 in
theorem ggX0_expand_X1_wordAt : GoodIn wsX0_expand wsX1_wordAt := goodIn_r _ [7, 8, 27, 28] (by decide +kernel) (by decide +kernel)
set_option maxRecDepth 20000 in
theorem gX0_expand_X1_wordAt : GoodIn wsX0_expand (wsV RX0 27 RX1 yX1_wordAt wsX1_wordAt) := goodIn_app (goodIn_of _ (by decide +kernel)) ggX0_expand_X1_wordAt
set_option maxRecDepth 20000 in
theorem ggX0_expand_X0_bytesTurned : GoodIn wsX0_expand wsX0_bytesTurned := goodIn_r _ [12, 13, 14, 15, 16, 11, 17] (by decide +kernel) (by decide +kernel)
set_option maxRecDepth 20000 in
theorem gX0_expand_X0_bytesTurned : GoodIn wsX0_expand (va_wsS RX0 31 yX0_bytesTurned wsX0_bytesTurned) := goodIn_app (goodIn_of _ (by decide +kernel)) ggX0_expand_X0_bytesTurned
set_option maxRecDepth 20000 in
theorem ggX0_expand_X0_rotated : GoodIn wsX0_expand wsX0_rotated := goodIn_r _ [17] (by decide +kernel) (by decide +kernel)
set_option maxRecDepth 20000 in
theorem gX0_expand_X0_rotated : GoodIn wsX0_expand (va_wsS RX0 34 yX0_rotated wsX0_rotated) := goodIn_app (goodIn_of _ (by decide +kernel)) ggX0_expand_X0_rotated
set_option maxRecDepth 20000 in
theorem ggX0_expand_X0_substituted : GoodIn wsX0_expand wsX0_substituted := goodIn_r _ [20, 21] (by decide +kernel) (by decide +kernel)
set_option maxRecDepth 20000 in
theorem gX0_expand_X0_substituted : GoodIn wsX0_expand (va_wsS RX0 38 yX0_substituted wsX0_substituted) := goodIn_app (goodIn_of _ (by decide +kernel)) ggX0_expand_X0_substituted
set_option maxRecDepth 20000 in
theorem ggX0_expand_X0_doubled : GoodIn wsX0_expand wsX0_doubled := goodIn_r _ [24, 25, 26] (by decide +kernel) (by decide +kernel)
set_option maxRecDepth 20000 in
theorem gX0_expand_X0_doubled : GoodIn wsX0_expand (va_wsS RX0 41 yX0_doubled wsX0_doubled) := goodIn_app (goodIn_of _ (by decide +kernel)) ggX0_expand_X0_doubled
theorem dX0_expand_0 : decode cX0_expand 0 = .ok (.aload_n 1, 1) := by decide +kernel
theorem dX0_expand_1 : decode cX0_expand 1 = .ok (.getfield 18, 3) := by decide +kernel
theorem dX0_expand_4 : decode cX0_expand 4 = .ok (.bipush 32, 2) := by decide +kernel
theorem dX0_expand_6 : decode cX0_expand 6 = .ok (.if_icmp .ne 8, 3) := by decide +kernel
theorem dX0_expand_9 : decode cX0_expand 9 = .ok (.bipush 8, 2) := by decide +kernel
theorem dX0_expand_11 : decode cX0_expand 11 = .ok (.goto 18, 3) := by decide +kernel
theorem dX0_expand_14 : decode cX0_expand 14 = .ok (.aload_n 1, 1) := by decide +kernel
theorem dX0_expand_15 : decode cX0_expand 15 = .ok (.getfield 18, 3) := by decide +kernel
theorem dX0_expand_18 : decode cX0_expand 18 = .ok (.bipush 24, 2) := by decide +kernel
theorem dX0_expand_20 : decode cX0_expand 20 = .ok (.if_icmp .ne 8, 3) := by decide +kernel
theorem dX0_expand_23 : decode cX0_expand 23 = .ok (.bipush 6, 2) := by decide +kernel
theorem dX0_expand_25 : decode cX0_expand 25 = .ok (.goto 4, 3) := by decide +kernel
theorem dX0_expand_28 : decode cX0_expand 28 = .ok (.iconst 4, 1) := by decide +kernel
theorem dX0_expand_29 : decode cX0_expand 29 = .ok (.istore_n 3, 1) := by decide +kernel
theorem dX0_expand_30 : decode cX0_expand 30 = .ok (.aload_n 0, 1) := by decide +kernel
theorem dX0_expand_31 : decode cX0_expand 31 = .ok (.iload_n 3, 1) := by decide +kernel
theorem dX0_expand_32 : decode cX0_expand 32 = .ok (.bipush 6, 2) := by decide +kernel
theorem dX0_expand_34 : decode cX0_expand 34 = .ok (.iadd, 1) := by decide +kernel
theorem dX0_expand_35 : decode cX0_expand 35 = .ok (.putfield 24, 3) := by decide +kernel
theorem dX0_expand_38 : decode cX0_expand 38 = .ok (.iconst 0, 1) := by decide +kernel
theorem dX0_expand_39 : decode cX0_expand 39 = .ok (.istore 4, 2) := by decide +kernel
theorem dX0_expand_41 : decode cX0_expand 41 = .ok (.iload 4, 2) := by decide +kernel
theorem dX0_expand_43 : decode cX0_expand 43 = .ok (.iload_n 3, 1) := by decide +kernel
theorem dX0_expand_44 : decode cX0_expand 44 = .ok (.if_icmp .ge 42, 3) := by decide +kernel
theorem dX0_expand_47 : decode cX0_expand 47 = .ok (.aload_n 0, 1) := by decide +kernel
theorem dX0_expand_48 : decode cX0_expand 48 = .ok (.getfield 11, 3) := by decide +kernel
theorem dX0_expand_51 : decode cX0_expand 51 = .ok (.iload 4, 2) := by decide +kernel
theorem dX0_expand_53 : decode cX0_expand 53 = .ok (.iload_n 2, 1) := by decide +kernel
theorem dX0_expand_54 : decode cX0_expand 54 = .ok (.ifCond .eq 19, 3) := by decide +kernel
theorem dX0_expand_57 : decode cX0_expand 57 = .ok (.aload_n 1, 1) := by decide +kernel
theorem dX0_expand_58 : decode cX0_expand 58 = .ok (.iload_n 3, 1) := by decide +kernel
theorem dX0_expand_59 : decode cX0_expand 59 = .ok (.iconst 1, 1) := by decide +kernel
theorem dX0_expand_60 : decode cX0_expand 60 = .ok (.isub, 1) := by decide +kernel
theorem dX0_expand_61 : decode cX0_expand 61 = .ok (.iload 4, 2) := by decide +kernel
theorem dX0_expand_63 : decode cX0_expand 63 = .ok (.isub, 1) := by decide +kernel
theorem dX0_expand_64 : decode cX0_expand 64 = .ok (.invokevirtual 27, 3) := by decide +kernel
theorem dX0_expand_67 : decode cX0_expand 67 = .ok (.invokestatic 31, 3) := by decide +kernel
theorem dX0_expand_70 : decode cX0_expand 70 = .ok (.goto 9, 3) := by decide +kernel
theorem dX0_expand_73 : decode cX0_expand 73 = .ok (.aload_n 1, 1) := by decide +kernel
theorem dX0_expand_74 : decode cX0_expand 74 = .ok (.iload 4, 2) := by decide +kernel
theorem dX0_expand_76 : decode cX0_expand 76 = .ok (.invokevirtual 27, 3) := by decide +kernel
theorem dX0_expand_79 : decode cX0_expand 79 = .ok (.iastore, 1) := by decide +kernel
theorem dX0_expand_80 : decode cX0_expand 80 = .ok (.iinc 4 1, 3) := by decide +kernel
theorem dX0_expand_83 : decode cX0_expand 83 = .ok (.goto (-42), 3) := by decide +kernel
theorem dX0_expand_86 : decode cX0_expand 86 = .ok (.iconst 1, 1) := by decide +kernel
theorem dX0_expand_87 : decode cX0_expand 87 = .ok (.istore 4, 2) := by decide +kernel
theorem dX0_expand_89 : decode cX0_expand 89 = .ok (.iload_n 3, 1) := by decide +kernel
theorem dX0_expand_90 : decode cX0_expand 90 = .ok (.istore 5, 2) := by decide +kernel
theorem dX0_expand_92 : decode cX0_expand 92 = .ok (.iload 5, 2) := by decide +kernel
theorem dX0_expand_94 : decode cX0_expand 94 = .ok (.iconst 4, 1) := by decide +kernel
theorem dX0_expand_95 : decode cX0_expand 95 = .ok (.aload_n 0, 1) := by decide +kernel
theorem dX0_expand_96 : decode cX0_expand 96 = .ok (.getfield 24, 3) := by decide +kernel
theorem dX0_expand_99 : decode cX0_expand 99 = .ok (.iconst 1, 1) := by decide +kernel
theorem dX0_expand_100 : decode cX0_expand 100 = .ok (.iadd, 1) := by decide +kernel
theorem dX0_expand_101 : decode cX0_expand 101 = .ok (.imul, 1) := by decide +kernel
theorem dX0_expand_102 : decode cX0_expand 102 = .ok (.if_icmp .ge 96, 3) := by decide +kernel
theorem dX0_expand_105 : decode cX0_expand 105 = .ok (.aload_n 0, 1) := by decide +kernel
theorem dX0_expand_106 : decode cX0_expand 106 = .ok (.getfield 11, 3) := by decide +kernel
theorem dX0_expand_109 : decode cX0_expand 109 = .ok (.iload 5, 2) := by decide +kernel
theorem dX0_expand_111 : decode cX0_expand 111 = .ok (.iconst 1, 1) := by decide +kernel
theorem dX0_expand_112 : decode cX0_expand 112 = .ok (.isub, 1) := by decide +kernel
theorem dX0_expand_113 : decode cX0_expand 113 = .ok (.iaload, 1) := by decide +kernel
theorem dX0_expand_114 : decode cX0_expand 114 = .ok (.istore 6, 2) := by decide +kernel
theorem dX0_expand_116 : decode cX0_expand 116 = .ok (.iload 5, 2) := by decide +kernel
theorem dX0_expand_118 : decode cX0_expand 118 = .ok (.iload_n 3, 1) := by decide +kernel
theorem dX0_expand_119 : decode cX0_expand 119 = .ok (.irem, 1) := by decide +kernel
theorem dX0_expand_120 : decode cX0_expand 120 = .ok (.ifCond .ne 31, 3) := by decide +kernel
theorem dX0_expand_123 : decode cX0_expand 123 = .ok (.iload 6, 2) := by decide +kernel
theorem dX0_expand_125 : decode cX0_expand 125 = .ok (.bipush 8, 2) := by decide +kernel
theorem dX0_expand_127 : decode cX0_expand 127 = .ok (.invokestatic 34, 3) := by decide +kernel
theorem dX0_expand_130 : decode cX0_expand 130 = .ok (.invokestatic 38, 3) := by decide +kernel
theorem dX0_expand_133 : decode cX0_expand 133 = .ok (.iload 4, 2) := by decide +kernel
theorem dX0_expand_135 : decode cX0_expand 135 = .ok (.bipush 24, 2) := by decide +kernel
theorem dX0_expand_137 : decode cX0_expand 137 = .ok (.ishl, 1) := by decide +kernel
theorem dX0_expand_138 : decode cX0_expand 138 = .ok (.ixor, 1) := by decide +kernel
theorem dX0_expand_139 : decode cX0_expand 139 = .ok (.istore 6, 2) := by decide +kernel
theorem dX0_expand_141 : decode cX0_expand 141 = .ok (.iload 4, 2) := by decide +kernel
theorem dX0_expand_143 : decode cX0_expand 143 = .ok (.invokestatic 41, 3) := by decide +kernel
theorem dX0_expand_146 : decode cX0_expand 146 = .ok (.istore 4, 2) := by decide +kernel
theorem dX0_expand_148 : decode cX0_expand 148 = .ok (.goto 25, 3) := by decide +kernel
theorem dX0_expand_151 : decode cX0_expand 151 = .ok (.iload_n 3, 1) := by decide +kernel
theorem dX0_expand_152 : decode cX0_expand 152 = .ok (.bipush 8, 2) := by decide +kernel
theorem dX0_expand_154 : decode cX0_expand 154 = .ok (.if_icmp .ne 19, 3) := by decide +kernel
theorem dX0_expand_157 : decode cX0_expand 157 = .ok (.iload 5, 2) := by decide +kernel
theorem dX0_expand_159 : decode cX0_expand 159 = .ok (.bipush 8, 2) := by decide +kernel
theorem dX0_expand_161 : decode cX0_expand 161 = .ok (.irem, 1) := by decide +kernel
theorem dX0_expand_162 : decode cX0_expand 162 = .ok (.iconst 4, 1) := by decide +kernel
theorem dX0_expand_163 : decode cX0_expand 163 = .ok (.if_icmp .ne 10, 3) := by decide +kernel
theorem dX0_expand_166 : decode cX0_expand 166 = .ok (.iload 6, 2) := by decide +kernel
theorem dX0_expand_168 : decode cX0_expand 168 = .ok (.invokestatic 38, 3) := by decide +kernel
theorem dX0_expand_171 : decode cX0_expand 171 = .ok (.istore 6, 2) := by decide +kernel
theorem dX0_expand_173 : decode cX0_expand 173 = .ok (.aload_n 0, 1) := by decide +kernel
theorem dX0_expand_174 : decode cX0_expand 174 = .ok (.getfield 11, 3) := by decide +kernel
theorem dX0_expand_177 : decode cX0_expand 177 = .ok (.iload 5, 2) := by decide +kernel
theorem dX0_expand_179 : decode cX0_expand 179 = .ok (.aload_n 0, 1) := by decide +kernel
theorem dX0_expand_180 : decode cX0_expand 180 = .ok (.getfield 11, 3) := by decide +kernel
theorem dX0_expand_183 : decode cX0_expand 183 = .ok (.iload 5, 2) := by decide +kernel
theorem dX0_expand_185 : decode cX0_expand 185 = .ok (.iload_n 3, 1) := by decide +kernel
theorem dX0_expand_186 : decode cX0_expand 186 = .ok (.isub, 1) := by decide +kernel
theorem dX0_expand_187 : decode cX0_expand 187 = .ok (.iaload, 1) := by decide +kernel
theorem dX0_expand_188 : decode cX0_expand 188 = .ok (.iload 6, 2) := by decide +kernel
theorem dX0_expand_190 : decode cX0_expand 190 = .ok (.ixor, 1) := by decide +kernel
theorem dX0_expand_191 : decode cX0_expand 191 = .ok (.iastore, 1) := by decide +kernel
theorem dX0_expand_192 : decode cX0_expand 192 = .ok (.iinc 5 1, 3) := by decide +kernel
theorem dX0_expand_195 : decode cX0_expand 195 = .ok (.goto (-103), 3) := by decide +kernel
theorem dX0_expand_198 : decode cX0_expand 198 = .ok (.return_, 1) := by decide +kernel
set_option maxRecDepth 20000 in
theorem ggX0_encipher_X0_diagonal : GoodIn wsX0_encipher wsX0_diagonal := goodIn_r _ [7, 8, 9, 10] (by decide +kernel) (by decide +kernel)
set_option maxRecDepth 20000 in
theorem gX0_encipher_X0_diagonal : GoodIn wsX0_encipher (va_wsS RX0 44 yX0_diagonal wsX0_diagonal) := goodIn_app (goodIn_of _ (by decide +kernel)) ggX0_encipher_X0_diagonal
set_option maxRecDepth 20000 in
theorem ggX0_encipher_X0_substituted : GoodIn wsX0_encipher wsX0_substituted := goodIn_r _ [13, 14] (by decide +kernel) (by decide +kernel)
set_option maxRecDepth 20000 in
theorem gX0_encipher_X0_substituted : GoodIn wsX0_encipher (va_wsS RX0 38 yX0_substituted wsX0_substituted) := goodIn_app (goodIn_of _ (by decide +kernel)) ggX0_encipher_X0_substituted
set_option maxRecDepth 20000 in
theorem ggX0_encipher_X0_mixed : GoodIn wsX0_encipher wsX0_mixed := goodIn_r _ [17, 18, 19, 6, 20, 21, 22, 23, 24, 25] (by decide +kernel) (by decide +kernel)
set_option maxRecDepth 20000 in
theorem gX0_encipher_X0_mixed : GoodIn wsX0_encipher (va_wsS RX0 48 yX0_mixed wsX0_mixed) := goodIn_app (goodIn_of _ (by decide +kernel)) ggX0_encipher_X0_mixed
theorem dX0_encipher_0 : decode cX0_encipher 0 = .ok (.iconst 0, 1) := by decide +kernel
theorem dX0_encipher_1 : decode cX0_encipher 1 = .ok (.istore_n 2, 1) := by decide +kernel
theorem dX0_encipher_2 : decode cX0_encipher 2 = .ok (.iload_n 2, 1) := by decide +kernel
theorem dX0_encipher_3 : decode cX0_encipher 3 = .ok (.iconst 4, 1) := by decide +kernel
theorem dX0_encipher_4 : decode cX0_encipher 4 = .ok (.if_icmp .ge 21, 3) := by decide +kernel
theorem dX0_encipher_7 : decode cX0_encipher 7 = .ok (.aload_n 1, 1) := by decide +kernel
theorem dX0_encipher_8 : decode cX0_encipher 8 = .ok (.iload_n 2, 1) := by decide +kernel
theorem dX0_encipher_9 : decode cX0_encipher 9 = .ok (.dup2, 1) := by decide +kernel
theorem dX0_encipher_10 : decode cX0_encipher 10 = .ok (.iaload, 1) := by decide +kernel
theorem dX0_encipher_11 : decode cX0_encipher 11 = .ok (.aload_n 0, 1) := by decide +kernel
theorem dX0_encipher_12 : decode cX0_encipher 12 = .ok (.getfield 11, 3) := by decide +kernel
theorem dX0_encipher_15 : decode cX0_encipher 15 = .ok (.iload_n 2, 1) := by decide +kernel
theorem dX0_encipher_16 : decode cX0_encipher 16 = .ok (.iaload, 1) := by decide +kernel
theorem dX0_encipher_17 : decode cX0_encipher 17 = .ok (.ixor, 1) := by decide +kernel
theorem dX0_encipher_18 : decode cX0_encipher 18 = .ok (.iastore, 1) := by decide +kernel
theorem dX0_encipher_19 : decode cX0_encipher 19 = .ok (.iinc 2 1, 3) := by decide +kernel
theorem dX0_encipher_22 : decode cX0_encipher 22 = .ok (.goto (-20), 3) := by decide +kernel
theorem dX0_encipher_25 : decode cX0_encipher 25 = .ok (.iconst 1, 1) := by decide +kernel
theorem dX0_encipher_26 : decode cX0_encipher 26 = .ok (.istore_n 2, 1) := by decide +kernel
theorem dX0_encipher_27 : decode cX0_encipher 27 = .ok (.iload_n 2, 1) := by decide +kernel
theorem dX0_encipher_28 : decode cX0_encipher 28 = .ok (.aload_n 0, 1) := by decide +kernel
theorem dX0_encipher_29 : decode cX0_encipher 29 = .ok (.getfield 24, 3) := by decide +kernel
theorem dX0_encipher_32 : decode cX0_encipher 32 = .ok (.if_icmp .gt 89, 3) := by decide +kernel
theorem dX0_encipher_35 : decode cX0_encipher 35 = .ok (.iconst 0, 1) := by decide +kernel
theorem dX0_encipher_36 : decode cX0_encipher 36 = .ok (.istore_n 3, 1) := by decide +kernel
theorem dX0_encipher_37 : decode cX0_encipher 37 = .ok (.iload_n 3, 1) := by decide +kernel
theorem dX0_encipher_38 : decode cX0_encipher 38 = .ok (.iconst 4, 1) := by decide +kernel
theorem dX0_encipher_39 : decode cX0_encipher 39 = .ok (.if_icmp .ge 23, 3) := by decide +kernel
theorem dX0_encipher_42 : decode cX0_encipher 42 = .ok (.aload_n 0, 1) := by decide +kernel
theorem dX0_encipher_43 : decode cX0_encipher 43 = .ok (.getfield 15, 3) := by decide +kernel
theorem dX0_encipher_46 : decode cX0_encipher 46 = .ok (.iload_n 3, 1) := by decide +kernel
theorem dX0_encipher_47 : decode cX0_encipher 47 = .ok (.aload_n 1, 1) := by decide +kernel
theorem dX0_encipher_48 : decode cX0_encipher 48 = .ok (.iload_n 3, 1) := by decide +kernel
theorem dX0_encipher_49 : decode cX0_encipher 49 = .ok (.invokestatic 44, 3) := by decide +kernel
theorem dX0_encipher_52 : decode cX0_encipher 52 = .ok (.invokestatic 38, 3) := by decide +kernel
theorem dX0_encipher_55 : decode cX0_encipher 55 = .ok (.iastore, 1) := by decide +kernel
theorem dX0_encipher_56 : decode cX0_encipher 56 = .ok (.iinc 3 1, 3) := by decide +kernel
theorem dX0_encipher_59 : decode cX0_encipher 59 = .ok (.goto (-22), 3) := by decide +kernel
theorem dX0_encipher_62 : decode cX0_encipher 62 = .ok (.iconst 0, 1) := by decide +kernel
theorem dX0_encipher_63 : decode cX0_encipher 63 = .ok (.istore_n 3, 1) := by decide +kernel
theorem dX0_encipher_64 : decode cX0_encipher 64 = .ok (.iload_n 3, 1) := by decide +kernel
theorem dX0_encipher_65 : decode cX0_encipher 65 = .ok (.iconst 4, 1) := by decide +kernel
theorem dX0_encipher_66 : decode cX0_encipher 66 = .ok (.if_icmp .ge 49, 3) := by decide +kernel
theorem dX0_encipher_69 : decode cX0_encipher 69 = .ok (.aload_n 1, 1) := by decide +kernel
theorem dX0_encipher_70 : decode cX0_encipher 70 = .ok (.iload_n 3, 1) := by decide +kernel
theorem dX0_encipher_71 : decode cX0_encipher 71 = .ok (.iload_n 2, 1) := by decide +kernel
theorem dX0_encipher_72 : decode cX0_encipher 72 = .ok (.aload_n 0, 1) := by decide +kernel
