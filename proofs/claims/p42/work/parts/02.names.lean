/-! ===== BEGIN printed: names, fields, word lists, decode rows ===== -/
def RX0 : String := "Shingletrack$Buffer"
def TX0 : u_T := fun k => match k with
  | 0 => ("Shingletrack$Buffer", "sectors", "LShingletrack$Row;", true)
  | 1 => ("Shingletrack$Buffer", "values", "LShingletrack$Row;", true)
  | _ => ("Shingletrack$Buffer", "sectorsThere", "I", false)
def tyX0 : Nat → FieldType := fun k => match k with
  | 0 => .object "Shingletrack$Row"
  | 1 => .object "Shingletrack$Row"
  | _ => .int
abbrev wsX00 : List Cond := u_ws RX0 TX0 3
theorem nmX0 : ∀ a, a < 3 → ∀ b, b < 3 → a ≠ b → (TX0 a).2.1 ≠ (TX0 b).2.1 := by decide +kernel
theorem tyX0_ok : ∀ k, k < 3 → parseFieldDescriptor (TX0 k).2.2.1 = some (tyX0 k) := by decide +kernel
abbrev cX0_init : ByteArray := prog_2_method_1_code
def yX0_init : MethodName := ⟨RX0, "<init>", "()V"⟩
abbrev cX0_holdsEachOnce : ByteArray := prog_2_method_11_code
def yX0_holdsEachOnce : MethodName := ⟨RX0, "holdsEachOnce", "()Z"⟩
abbrev cX0_indexOf : ByteArray := prog_2_method_12_code
def yX0_indexOf : MethodName := ⟨RX0, "indexOf", "(I)I"⟩
def RX1 : String := "Shingletrack$Cells"
def TX1 : u_T := fun k => match k with
  | _ => ("", "", "", false)
def tyX1 : Nat → FieldType := fun k => match k with
  | _ => .int
abbrev wsX10 : List Cond := u_ws RX1 TX1 0
theorem nmX1 : ∀ a, a < 0 → ∀ b, b < 0 → a ≠ b → (TX1 a).2.1 ≠ (TX1 b).2.1 := by decide +kernel
theorem tyX1_ok : ∀ k, k < 0 → parseFieldDescriptor (TX1 k).2.2.1 = some (tyX1 k) := by decide +kernel
abbrev cX1_ofByte : ByteArray := prog_3_method_2_code
def yX1_ofByte : MethodName := ⟨RX1, "ofByte", "(II)I"⟩
abbrev cX1_dataOf : ByteArray := prog_3_method_3_code
def yX1_dataOf : MethodName := ⟨RX1, "dataOf", "(I)I"⟩
def RX2 : String := "Shingletrack$Channel"
def TX2 : u_T := fun k => match k with
  | 0 => ("Shingletrack$Channel", "samples", "LShingletrack$Row;", true)
  | 1 => ("Shingletrack$Channel", "samplesThere", "I", false)
  | 2 => ("Shingletrack$Channel", "squares", "LShingletrack$Row;", true)
  | 3 => ("Shingletrack$Channel", "numbers", "LShingletrack$Row;", true)
  | 4 => ("Shingletrack$Channel", "nextSquares", "LShingletrack$Row;", true)
  | _ => ("Shingletrack$Channel", "nextNumbers", "LShingletrack$Row;", true)
def tyX2 : Nat → FieldType := fun k => match k with
  | 0 => .object "Shingletrack$Row"
  | 1 => .int
  | 2 => .object "Shingletrack$Row"
  | 3 => .object "Shingletrack$Row"
  | 4 => .object "Shingletrack$Row"
  | _ => .object "Shingletrack$Row"
abbrev wsX20 : List Cond := u_ws RX2 TX2 6
theorem nmX2 : ∀ a, a < 6 → ∀ b, b < 6 → a ≠ b → (TX2 a).2.1 ≠ (TX2 b).2.1 := by decide +kernel
theorem tyX2_ok : ∀ k, k < 6 → parseFieldDescriptor (TX2 k).2.2.1 = some (tyX2 k) := by decide +kernel
abbrev cX2_init : ByteArray := prog_4_method_1_code
def yX2_init : MethodName := ⟨RX2, "<init>", "()V"⟩
abbrev cX2_size : ByteArray := prog_4_method_2_code
def yX2_size : MethodName := ⟨RX2, "size", "()I"⟩
abbrev cX2_add : ByteArray := prog_4_method_3_code
def yX2_add : MethodName := ⟨RX2, "add", "(I)I"⟩
abbrev cX2_bestCells : ByteArray := prog_4_method_4_code
def yX2_bestCells : MethodName := ⟨RX2, "bestCells", "()I"⟩
abbrev cX2_goOn : ByteArray := prog_4_method_5_code
def yX2_goOn : MethodName := ⟨RX2, "goOn", "(J)V"⟩
abbrev cX2_isBetter : ByteArray := prog_4_method_6_code
def yX2_isBetter : MethodName := ⟨RX2, "isBetter", "(JJJJ)Z"⟩
def RX3 : String := "Shingletrack$Platter"
def TX3 : u_T := fun k => match k with
  | 0 => ("Shingletrack$Platter", "bandStore", "LShingletrack$Store;", true)
  | 1 => ("Shingletrack$Platter", "zone", "LShingletrack$Store;", true)
  | 2 => ("Shingletrack$Platter", "ends", "LShingletrack$Row;", true)
  | 3 => ("Shingletrack$Platter", "badPlaces", "LShingletrack$Row;", true)
  | 4 => ("Shingletrack$Platter", "mappedPlaces", "LShingletrack$Row;", true)
  | 5 => ("Shingletrack$Platter", "lostSectors", "LShingletrack$Row;", true)
  | 6 => ("Shingletrack$Platter", "lastSent", "LShingletrack$Row;", true)
  | 7 => ("Shingletrack$Platter", "harmedSectors", "LShingletrack$Row;", true)
  | 8 => ("Shingletrack$Platter", "shakes", "Z", false)
  | 9 => ("Shingletrack$Platter", "wordsWritten", "I", false)
  | 10 => ("Shingletrack$Platter", "placesMended", "I", false)
  | 11 => ("Shingletrack$Platter", "wordsLost", "I", false)
  | _ => ("Shingletrack$Platter", "cleanings", "I", false)
def tyX3 : Nat → FieldType := fun k => match k with
  | 0 => .object "Shingletrack$Store"
  | 1 => .object "Shingletrack$Store"
  | 2 => .object "Shingletrack$Row"
  | 3 => .object "Shingletrack$Row"
  | 4 => .object "Shingletrack$Row"
  | 5 => .object "Shingletrack$Row"
  | 6 => .object "Shingletrack$Row"
  | 7 => .object "Shingletrack$Row"
  | 8 => .boolean
  | 9 => .int
  | 10 => .int
  | 11 => .int
  | _ => .int
abbrev wsX30 : List Cond := u_ws RX3 TX3 13
theorem nmX3 : ∀ a, a < 13 → ∀ b, b < 13 → a ≠ b → (TX3 a).2.1 ≠ (TX3 b).2.1 := by decide +kernel
theorem tyX3_ok : ∀ k, k < 13 → parseFieldDescriptor (TX3 k).2.2.1 = some (tyX3 k) := by decide +kernel
abbrev cX3_init : ByteArray := prog_5_method_1_code
def yX3_init : MethodName := ⟨RX3, "<init>", "()V"⟩
abbrev cX3_endOf : ByteArray := prog_5_method_2_code
def yX3_endOf : MethodName := ⟨RX3, "endOf", "(I)I"⟩
abbrev cX3_newestStore : ByteArray := prog_5_method_4_code
def yX3_newestStore : MethodName := ⟨RX3, "newestStore", "(I)LShingletrack$Store;"⟩
abbrev cX3_keepsWhatWasSent : ByteArray := prog_5_method_10_code
def yX3_keepsWhatWasSent : MethodName := ⟨RX3, "keepsWhatWasSent", "()Z"⟩
abbrev cX3_tellsWhatWasSent : ByteArray := prog_5_method_11_code
def yX3_tellsWhatWasSent : MethodName := ⟨RX3, "tellsWhatWasSent", "(I)Z"⟩
abbrev cX3_endsHold : ByteArray := prog_5_method_12_code
def yX3_endsHold : MethodName := ⟨RX3, "endsHold", "()Z"⟩
def RX4 : String := "Shingletrack$Row"
def TX4 : u_T := fun k => match k with
  | _ => ("Shingletrack$Row", "numbers", "[J", true)
def tyX4 : Nat → FieldType := fun k => match k with
  | _ => .array .long
abbrev wsX40 : List Cond := u_ws RX4 TX4 1
theorem nmX4 : ∀ a, a < 1 → ∀ b, b < 1 → a ≠ b → (TX4 a).2.1 ≠ (TX4 b).2.1 := by decide +kernel
theorem tyX4_ok : ∀ k, k < 1 → parseFieldDescriptor (TX4 k).2.2.1 = some (tyX4 k) := by decide +kernel
abbrev cX4_init : ByteArray := prog_6_method_1_code
def yX4_init : MethodName := ⟨RX4, "<init>", "(I)V"⟩
abbrev cX4_at : ByteArray := prog_6_method_2_code
def yX4_at : MethodName := ⟨RX4, "at", "(I)J"⟩
abbrev cX4_intAt : ByteArray := prog_6_method_3_code
def yX4_intAt : MethodName := ⟨RX4, "intAt", "(I)I"⟩
abbrev cX4_put : ByteArray := prog_6_method_4_code
def yX4_put : MethodName := ⟨RX4, "put", "(IJ)V"⟩
abbrev cX4_fill : ByteArray := prog_6_method_5_code
def yX4_fill : MethodName := ⟨RX4, "fill", "(J)V"⟩
abbrev cX4_isSet : ByteArray := prog_6_method_7_code
def yX4_isSet : MethodName := ⟨RX4, "isSet", "(I)Z"⟩
def RX5 : String := "Shingletrack$Seeks"
def TX5 : u_T := fun k => match k with
  | 0 => ("Shingletrack$Seeks", "sectors", "LShingletrack$Row;", true)
  | 1 => ("Shingletrack$Seeks", "comings", "LShingletrack$Row;", true)
  | 2 => ("Shingletrack$Seeks", "requestsThere", "I", false)
  | 3 => ("Shingletrack$Seeks", "now", "I", false)
  | 4 => ("Shingletrack$Seeks", "armTrack", "I", false)
  | 5 => ("Shingletrack$Seeks", "ticksWaited", "I", false)
  | _ => ("Shingletrack$Seeks", "requestsServed", "I", false)
def tyX5 : Nat → FieldType := fun k => match k with
  | 0 => .object "Shingletrack$Row"
  | 1 => .object "Shingletrack$Row"
  | 2 => .int
  | 3 => .int
  | 4 => .int
  | 5 => .int
  | _ => .int
abbrev wsX50 : List Cond := u_ws RX5 TX5 7
theorem nmX5 : ∀ a, a < 7 → ∀ b, b < 7 → a ≠ b → (TX5 a).2.1 ≠ (TX5 b).2.1 := by decide +kernel
theorem tyX5_ok : ∀ k, k < 7 → parseFieldDescriptor (TX5 k).2.2.1 = some (tyX5 k) := by decide +kernel
abbrev cX5_init : ByteArray := prog_7_method_1_code
def yX5_init : MethodName := ⟨RX5, "<init>", "()V"⟩
def RX6 : String := "Shingletrack$Store"
def TX6 : u_T := fun k => match k with
  | 0 => ("Shingletrack$Store", "words", "LShingletrack$Row;", true)
  | _ => ("Shingletrack$Store", "weaks", "LShingletrack$Row;", true)
def tyX6 : Nat → FieldType := fun k => match k with
  | 0 => .object "Shingletrack$Row"
  | _ => .object "Shingletrack$Row"
abbrev wsX60 : List Cond := u_ws RX6 TX6 2
theorem nmX6 : ∀ a, a < 2 → ∀ b, b < 2 → a ≠ b → (TX6 a).2.1 ≠ (TX6 b).2.1 := by decide +kernel
theorem tyX6_ok : ∀ k, k < 2 → parseFieldDescriptor (TX6 k).2.2.1 = some (tyX6 k) := by decide +kernel
abbrev cX6_init : ByteArray := prog_8_method_1_code
def yX6_init : MethodName := ⟨RX6, "<init>", "()V"⟩
abbrev cX6_has : ByteArray := prog_8_method_2_code
def yX6_has : MethodName := ⟨RX6, "has", "(I)Z"⟩
abbrev cX6_wordOf : ByteArray := prog_8_method_3_code
def yX6_wordOf : MethodName := ⟨RX6, "wordOf", "(I)J"⟩
abbrev cX6_weakOf : ByteArray := prog_8_method_4_code
def yX6_weakOf : MethodName := ⟨RX6, "weakOf", "(I)I"⟩
abbrev cX6_size : ByteArray := prog_8_method_10_code
def yX6_size : MethodName := ⟨RX6, "size", "()I"⟩
def RX7 : String := "Shingletrack$Words"
def TX7 : u_T := fun k => match k with
  | _ => ("", "", "", false)
def tyX7 : Nat → FieldType := fun k => match k with
  | _ => .int
abbrev wsX70 : List Cond := u_ws RX7 TX7 0
theorem nmX7 : ∀ a, a < 0 → ∀ b, b < 0 → a ≠ b → (TX7 a).2.1 ≠ (TX7 b).2.1 := by decide +kernel
theorem tyX7_ok : ∀ k, k < 0 → parseFieldDescriptor (TX7 k).2.2.1 = some (tyX7 k) := by decide +kernel
abbrev cX7_nibble : ByteArray := prog_9_method_2_code
def yX7_nibble : MethodName := ⟨RX7, "nibble", "(JI)I"⟩
abbrev cX7_turned : ByteArray := prog_9_method_3_code
def yX7_turned : MethodName := ⟨RX7, "turned", "(JII)J"⟩
abbrev cX7_of : ByteArray := prog_9_method_4_code
def yX7_of : MethodName := ⟨RX7, "of", "(I)J"⟩
abbrev cX7_valueOf : ByteArray := prog_9_method_5_code
def yX7_valueOf : MethodName := ⟨RX7, "valueOf", "(J)I"⟩
abbrev cX7_differences : ByteArray := prog_9_method_6_code
def yX7_differences : MethodName := ⟨RX7, "differences", "(JJ)I"⟩
abbrev cX7_repaired : ByteArray := prog_9_method_7_code
def yX7_repaired : MethodName := ⟨RX7, "repaired", "(JI)J"⟩
abbrev cX7_sumsOf : ByteArray := prog_9_method_8_code
def yX7_sumsOf : MethodName := ⟨RX7, "sumsOf", "(J)I"⟩
abbrev cX7_filled : ByteArray := prog_9_method_9_code
def yX7_filled : MethodName := ⟨RX7, "filled", "(JII)J"⟩
abbrev cX7_sumsWithout : ByteArray := prog_9_method_10_code
def yX7_sumsWithout : MethodName := ⟨RX7, "sumsWithout", "(II)I"⟩
abbrev cX7_times : ByteArray := prog_9_method_11_code
def yX7_times : MethodName := ⟨RX7, "times", "(II)I"⟩
abbrev cX7_quotient : ByteArray := prog_9_method_12_code
def yX7_quotient : MethodName := ⟨RX7, "quotient", "(II)I"⟩
def RX8 : String := "Shingletrack"
def TX8 : u_T := fun k => match k with
  | 0 => ("Shingletrack", "channel", "LShingletrack$Channel;", true)
  | 1 => ("Shingletrack", "buffer", "LShingletrack$Buffer;", true)
  | 2 => ("Shingletrack", "platter", "LShingletrack$Platter;", true)
  | 3 => ("Shingletrack", "seeks", "LShingletrack$Seeks;", true)
  | 4 => ("Shingletrack", "shocked", "Z", false)
  | 5 => ("Shingletrack", "warmth", "I", false)
  | 6 => ("Shingletrack", "sectorsWritten", "I", false)
  | _ => ("Shingletrack", "readsAnswered", "I", false)
def tyX8 : Nat → FieldType := fun k => match k with
  | 0 => .object "Shingletrack$Channel"
  | 1 => .object "Shingletrack$Buffer"
  | 2 => .object "Shingletrack$Platter"
  | 3 => .object "Shingletrack$Seeks"
  | 4 => .boolean
  | 5 => .int
  | 6 => .int
  | _ => .int
abbrev wsX80 : List Cond := u_ws RX8 TX8 8
theorem nmX8 : ∀ a, a < 8 → ∀ b, b < 8 → a ≠ b → (TX8 a).2.1 ≠ (TX8 b).2.1 := by decide +kernel
theorem tyX8_ok : ∀ k, k < 8 → parseFieldDescriptor (TX8 k).2.2.1 = some (tyX8 k) := by decide +kernel
abbrev cX8_init : ByteArray := prog_1_method_1_code
def yX8_init : MethodName := ⟨RX8, "<init>", "()V"⟩
abbrev cX8_word : ByteArray := prog_1_method_2_code
def yX8_word : MethodName := ⟨RX8, "word", "(I)J"⟩
abbrev cX8_mend : ByteArray := prog_1_method_3_code
def yX8_mend : MethodName := ⟨RX8, "mend", "(JI)I"⟩
abbrev cX8_mended : ByteArray := prog_1_method_4_code
def yX8_mended : MethodName := ⟨RX8, "mended", "(JI)I"⟩
abbrev cX8_encode : ByteArray := prog_1_method_5_code
def yX8_encode : MethodName := ⟨RX8, "encode", "(II)I"⟩
abbrev cX8_decode : ByteArray := prog_1_method_6_code
def yX8_decode : MethodName := ⟨RX8, "decode", "(II)I"⟩
abbrev cX8_sample : ByteArray := prog_1_method_7_code
def yX8_sample : MethodName := ⟨RX8, "sample", "(I)I"⟩
abbrev cX8_guess : ByteArray := prog_1_method_8_code
def yX8_guess : MethodName := ⟨RX8, "guess", "()I"⟩
abbrev cX8_isSound : ByteArray := prog_1_method_40_code
def yX8_isSound : MethodName := ⟨RX8, "isSound", "()Z"⟩
abbrev cX8_checkRange : ByteArray := prog_1_method_41_code
def yX8_checkRange : MethodName := ⟨RX8, "checkRange", "(JJJ)V"⟩
abbrev cX8_repairedOrThrow : ByteArray := prog_1_method_45_code
def yX8_repairedOrThrow : MethodName := ⟨RX8, "repairedOrThrow", "(JI)J"⟩
def RX9 : String := "ShingletrackModel"
def TX9 : u_T := fun k => match k with
  | _ => ("", "", "", false)
def tyX9 : Nat → FieldType := fun k => match k with
  | _ => .int
abbrev wsX90 : List Cond := u_ws RX9 TX9 0
theorem nmX9 : ∀ a, a < 0 → ∀ b, b < 0 → a ≠ b → (TX9 a).2.1 ≠ (TX9 b).2.1 := by decide +kernel
theorem tyX9_ok : ∀ k, k < 0 → parseFieldDescriptor (TX9 k).2.2.1 = some (tyX9 k) := by decide +kernel
def RJx145de : String := "java/io/Serializable"
def TJx145de : u_T := fun k => match k with
  | _ => ("", "", "", false)
def tyJx145de : Nat → FieldType := fun k => match k with
  | _ => .int
abbrev wsJx145de0 : List Cond := u_ws RJx145de TJx145de 0
theorem nmJx145de : ∀ a, a < 0 → ∀ b, b < 0 → a ≠ b → (TJx145de a).2.1 ≠ (TJx145de b).2.1 := by decide +kernel
theorem tyJx145de_ok : ∀ k, k < 0 → parseFieldDescriptor (TJx145de k).2.2.1 = some (tyJx145de k) := by decide +kernel
def RJ6 : String := "java/lang/Integer"
def TJ6 : u_T := fun k => match k with
  | _ => ("", "", "", false)
def tyJ6 : Nat → FieldType := fun k => match k with
  | _ => .int
abbrev wsJ60 : List Cond := u_ws RJ6 TJ6 0
theorem nmJ6 : ∀ a, a < 0 → ∀ b, b < 0 → a ≠ b → (TJ6 a).2.1 ≠ (TJ6 b).2.1 := by decide +kernel
theorem tyJ6_ok : ∀ k, k < 0 → parseFieldDescriptor (TJ6 k).2.2.1 = some (tyJ6 k) := by decide +kernel
abbrev cJ6_bitCount_0f7a4 : ByteArray := prog_16_method_49_code
def yJ6_bitCount_0f7a4 : MethodName := ⟨RJ6, "bitCount", "(I)I"⟩
def RL : String := "ShingletrackLaw"
abbrev cL_cell : ByteArray := method_2_code
def yL_cell : MethodName := ⟨RL, "cell", "([II)I"⟩
abbrev cL_word : ByteArray := method_3_code
def yL_word : MethodName := ⟨RL, "word", "(LShingletrack;I)J"⟩
abbrev cL_mend : ByteArray := method_4_code
def yL_mend : MethodName := ⟨RL, "mend", "(LShingletrack;JI)I"⟩
abbrev cL_mended : ByteArray := method_5_code
def yL_mended : MethodName := ⟨RL, "mended", "(LShingletrack;JI)I"⟩
abbrev cL_encode : ByteArray := method_6_code
def yL_encode : MethodName := ⟨RL, "encode", "(LShingletrack;II)I"⟩
abbrev cL_decode : ByteArray := method_7_code
def yL_decode : MethodName := ⟨RL, "decode", "(LShingletrack;II)I"⟩
abbrev cL_sample : ByteArray := method_8_code
def yL_sample : MethodName := ⟨RL, "sample", "(LShingletrack;I)I"⟩
abbrev cL_in : ByteArray := method_9_code
def yL_in : MethodName := ⟨RL, "in", "([III)I"⟩
abbrev cL_product : ByteArray := method_10_code
def yL_product : MethodName := ⟨RL, "product", "(II)I"⟩
abbrev cL_nibble : ByteArray := method_11_code
def yL_nibble : MethodName := ⟨RL, "nibble", "(JI)I"⟩
abbrev cL_isWord : ByteArray := method_12_code
def yL_isWord : MethodName := ⟨RL, "isWord", "(J)Z"⟩
abbrev cL_law : ByteArray := code
def yL_law : MethodName := ⟨RL, "law", "([I)Z"⟩
def wsX4_init : List Cond := .code yX4_init cX4_init 2 none :: ([.methodLink RX4 1 objectInit, .instanceMethod objectInit, .code objectInit ⟨#[0xb1]⟩ 1 none, .arrayClass .long, .fieldLink RX4 7 "Shingletrack$Row" "numbers" "[J"] ++ wsX40)
def wsX0_init : List Cond := .code yX0_init cX0_init 1 none :: ([.methodLink RX0 3 objectInit, .instanceMethod objectInit, .code objectInit ⟨#[0xb1]⟩ 1 none, .classLink RX0 9 RX4, .instantiable RX4 1, .initialized RX4, .fieldLink RX0 14 "Shingletrack$Buffer" "sectors" "LShingletrack$Row;", .fieldLink RX0 20 "Shingletrack$Buffer" "values" "LShingletrack$Row;", .fieldLink RX0 23 "Shingletrack$Buffer" "sectorsThere" "I", .methodLink RX0 11 yX4_init, .instanceMethod yX4_init, .code yX4_init cX4_init 2 none, .methodLink RX4 1 objectInit, .arrayClass .long, .fieldLink RX4 7 "Shingletrack$Row" "numbers" "[J"] ++ wsX40 ++ wsX00)
def wsX4_at : List Cond := .code yX4_at cX4_at 2 (some .long) :: ([.fieldLink RX4 7 "Shingletrack$Row" "numbers" "[J"] ++ wsX40)
def wsX4_intAt : List Cond := .code yX4_intAt cX4_intAt 2 (some .int) :: ([.methodLink RX4 13 yX4_at, .instanceMethod yX4_at, .selects RX4 yX4_at yX4_at, .initialized RX4, .code yX4_at cX4_at 2 (some .long), .fieldLink RX4 7 "Shingletrack$Row" "numbers" "[J"] ++ wsX40)
def wsX0_indexOf : List Cond := .code yX0_indexOf cX0_indexOf 3 (some .int) :: ([.fieldLink RX0 23 "Shingletrack$Buffer" "sectorsThere" "I", .fieldLink RX0 14 "Shingletrack$Buffer" "sectors" "LShingletrack$Row;", .methodLink RX0 41 yX4_at, .instanceMethod yX4_at, .selects RX4 yX4_at yX4_at, .initialized RX4, .code yX4_at cX4_at 2 (some .long), .fieldLink RX4 7 "Shingletrack$Row" "numbers" "[J"] ++ wsX00 ++ wsX40)
def wsX0_holdsEachOnce : List Cond := .code yX0_holdsEachOnce cX0_holdsEachOnce 2 (some .boolean) :: ([.fieldLink RX0 23 "Shingletrack$Buffer" "sectorsThere" "I", .fieldLink RX0 14 "Shingletrack$Buffer" "sectors" "LShingletrack$Row;", .methodLink RX0 31 yX4_intAt, .instanceMethod yX4_intAt, .selects RX4 yX4_intAt yX4_intAt, .initialized RX4, .code yX4_intAt cX4_intAt 2 (some .int), .methodLink RX4 13 yX4_at, .instanceMethod yX4_at, .selects RX4 yX4_at yX4_at, .code yX4_at cX4_at 2 (some .long), .fieldLink RX4 7 "Shingletrack$Row" "numbers" "[J", .methodLink RX0 27 yX0_indexOf, .instanceMethod yX0_indexOf, .selects RX0 yX0_indexOf yX0_indexOf, .initialized RX0, .code yX0_indexOf cX0_indexOf 3 (some .int), .methodLink RX0 41 yX4_at] ++ wsX00 ++ wsX40)
def wsX1_ofByte : List Cond := .code yX1_ofByte cX1_ofByte 7 (some .int) :: ([])
def wsX1_dataOf : List Cond := .code yX1_dataOf cX1_dataOf 3 (some .int) :: ([])
def wsX2_init : List Cond := .code yX2_init cX2_init 1 none :: ([.methodLink RX2 3 objectInit, .instanceMethod objectInit, .code objectInit ⟨#[0xb1]⟩ 1 none, .classLink RX2 9 RX4, .instantiable RX4 1, .initialized RX4, .fieldLink RX2 14 "Shingletrack$Channel" "samples" "LShingletrack$Row;", .fieldLink RX2 20 "Shingletrack$Channel" "samplesThere" "I", .fieldLink RX2 24 "Shingletrack$Channel" "squares" "LShingletrack$Row;", .fieldLink RX2 27 "Shingletrack$Channel" "numbers" "LShingletrack$Row;", .fieldLink RX2 30 "Shingletrack$Channel" "nextSquares" "LShingletrack$Row;", .fieldLink RX2 33 "Shingletrack$Channel" "nextNumbers" "LShingletrack$Row;", .methodLink RX2 11 yX4_init, .instanceMethod yX4_init, .code yX4_init cX4_init 2 none, .methodLink RX4 1 objectInit, .arrayClass .long, .fieldLink RX4 7 "Shingletrack$Row" "numbers" "[J"] ++ wsX40 ++ wsX20)
def wsX2_size : List Cond := .code yX2_size cX2_size 1 (some .int) :: ([.fieldLink RX2 20 "Shingletrack$Channel" "samplesThere" "I"] ++ wsX20)
def wsX4_put : List Cond := .code yX4_put cX4_put 4 none :: ([.fieldLink RX4 7 "Shingletrack$Row" "numbers" "[J"] ++ wsX40)
def wsX2_add : List Cond := .code yX2_add cX2_add 2 (some .int) :: ([.fieldLink RX2 14 "Shingletrack$Channel" "samples" "LShingletrack$Row;", .fieldLink RX2 20 "Shingletrack$Channel" "samplesThere" "I", .methodLink RX2 36 yX4_put, .instanceMethod yX4_put, .selects RX4 yX4_put yX4_put, .initialized RX4, .code yX4_put cX4_put 4 none, .fieldLink RX4 7 "Shingletrack$Row" "numbers" "[J"] ++ wsX20 ++ wsX40)
def wsX4_fill : List Cond := .code yX4_fill cX4_fill 4 none :: ([.fieldLink RX4 7 "Shingletrack$Row" "numbers" "[J"] ++ wsX40)
def wsX2_isBetter : List Cond := .code yX2_isBetter cX2_isBetter 8 (some .boolean) :: ([])
def wsX2_goOn : List Cond := .code yX2_goOn cX2_goOn 12 none :: ([.fieldLink RX2 30 "Shingletrack$Channel" "nextSquares" "LShingletrack$Row;", .constantLong RX2 40 (1000000), .fieldLink RX2 33 "Shingletrack$Channel" "nextNumbers" "LShingletrack$Row;", .fieldLink RX2 24 "Shingletrack$Channel" "squares" "LShingletrack$Row;", .fieldLink RX2 27 "Shingletrack$Channel" "numbers" "LShingletrack$Row;", .methodLink RX2 42 yX4_fill, .instanceMethod yX4_fill, .selects RX4 yX4_fill yX4_fill, .initialized RX4, .code yX4_fill cX4_fill 4 none, .fieldLink RX4 7 "Shingletrack$Row" "numbers" "[J", .methodLink RX2 46 yX4_at, .instanceMethod yX4_at, .selects RX4 yX4_at yX4_at, .code yX4_at cX4_at 2 (some .long), .methodLink RX2 53 yX2_isBetter, .static yX2_isBetter, .initialized RX2, .code yX2_isBetter cX2_isBetter 8 (some .boolean), .methodLink RX2 36 yX4_put, .instanceMethod yX4_put, .selects RX4 yX4_put yX4_put, .code yX4_put cX4_put 4 none] ++ wsX20 ++ wsX40)
def wsX2_bestCells_r1 : List Cond := [Cond.fieldLink RX2 24 "Shingletrack$Channel" "squares" "LShingletrack$Row;", Cond.constantLong RX2 40 (1000000), Cond.fieldLink RX2 27 "Shingletrack$Channel" "numbers" "LShingletrack$Row;", Cond.fieldLink RX2 20 "Shingletrack$Channel" "samplesThere" "I", Cond.fieldLink RX2 14 "Shingletrack$Channel" "samples" "LShingletrack$Row;", Cond.methodLink RX2 42 yX4_fill, Cond.instanceMethod yX4_fill, Cond.selects RX4 yX4_fill yX4_fill, Cond.initialized RX4, Cond.code yX4_fill cX4_fill 4 none, Cond.fieldLink RX4 7 "Shingletrack$Row" "numbers" "[J", Cond.methodLink RX2 36 yX4_put, Cond.instanceMethod yX4_put, Cond.selects RX4 yX4_put yX4_put, Cond.code yX4_put cX4_put 4 none, Cond.methodLink RX2 46 yX4_at, Cond.instanceMethod yX4_at, Cond.selects RX4 yX4_at yX4_at, Cond.code yX4_at cX4_at 2 (some .long), Cond.methodLink RX2 50 yX2_goOn, Cond.instanceMethod yX2_goOn, Cond.selects RX2 yX2_goOn yX2_goOn, Cond.initialized RX2, Cond.code yX2_goOn cX2_goOn 12 none]
def wsX2_bestCells_r2 : List Cond := [Cond.fieldLink RX2 30 "Shingletrack$Channel" "nextSquares" "LShingletrack$Row;", Cond.fieldLink RX2 33 "Shingletrack$Channel" "nextNumbers" "LShingletrack$Row;", Cond.methodLink RX2 53 yX2_isBetter, Cond.static yX2_isBetter, Cond.code yX2_isBetter cX2_isBetter 8 (some .boolean), Cond.methodLink RX2 57 yX4_intAt, Cond.instanceMethod yX4_intAt, Cond.selects RX4 yX4_intAt yX4_intAt, Cond.code yX4_intAt cX4_intAt 2 (some .int), Cond.methodLink RX4 13 yX4_at]
def wsX2_bestCells : List Cond := .code yX2_bestCells cX2_bestCells 3 (some .int) :: ((wsX2_bestCells_r1 ++ wsX2_bestCells_r2) ++ wsX20 ++ wsX40)
def wsX6_init : List Cond := .code yX6_init cX6_init 1 none :: ([.methodLink RX6 3 objectInit, .instanceMethod objectInit, .code objectInit ⟨#[0xb1]⟩ 1 none, .classLink RX6 9 RX4, .instantiable RX4 1, .initialized RX4, .fieldLink RX6 14 "Shingletrack$Store" "words" "LShingletrack$Row;", .fieldLink RX6 20 "Shingletrack$Store" "weaks" "LShingletrack$Row;", .constantLong RX6 23 (-1), .methodLink RX6 11 yX4_init, .instanceMethod yX4_init, .code yX4_init cX4_init 2 none, .methodLink RX4 1 objectInit, .arrayClass .long, .fieldLink RX4 7 "Shingletrack$Row" "numbers" "[J", .methodLink RX6 25 yX4_fill, .instanceMethod yX4_fill, .selects RX4 yX4_fill yX4_fill, .code yX4_fill cX4_fill 4 none] ++ wsX40 ++ wsX60)
def wsX3_init_r1 : List Cond := [Cond.methodLink RX3 3 objectInit, Cond.instanceMethod objectInit, Cond.code objectInit ⟨#[0xb1]⟩ 1 none, Cond.classLink RX3 9 RX6, Cond.instantiable RX6 2, Cond.initialized RX6, Cond.fieldLink RX3 12 "Shingletrack$Platter" "bandStore" "LShingletrack$Store;", Cond.fieldLink RX3 18 "Shingletrack$Platter" "zone" "LShingletrack$Store;", Cond.classLink RX3 21 RX4, Cond.instantiable RX4 1, Cond.initialized RX4, Cond.fieldLink RX3 26 "Shingletrack$Platter" "ends" "LShingletrack$Row;", Cond.fieldLink RX3 30 "Shingletrack$Platter" "badPlaces" "LShingletrack$Row;", Cond.fieldLink RX3 33 "Shingletrack$Platter" "mappedPlaces" "LShingletrack$Row;", Cond.fieldLink RX3 36 "Shingletrack$Platter" "lostSectors" "LShingletrack$Row;", Cond.fieldLink RX3 39 "Shingletrack$Platter" "lastSent" "LShingletrack$Row;", Cond.fieldLink RX3 42 "Shingletrack$Platter" "harmedSectors" "LShingletrack$Row;", Cond.fieldLink RX3 45 "Shingletrack$Platter" "shakes" "Z", Cond.fieldLink RX3 49 "Shingletrack$Platter" "wordsWritten" "I", Cond.fieldLink RX3 53 "Shingletrack$Platter" "placesMended" "I", Cond.fieldLink RX3 56 "Shingletrack$Platter" "wordsLost" "I", Cond.fieldLink RX3 59 "Shingletrack$Platter" "cleanings" "I", Cond.constantLong RX3 62 (-1), Cond.methodLink RX3 11 yX6_init]
def wsX3_init_r2 : List Cond := [Cond.instanceMethod yX6_init, Cond.code yX6_init cX6_init 1 none, Cond.methodLink RX6 3 objectInit, Cond.classLink RX6 9 RX4, Cond.fieldLink RX6 14 "Shingletrack$Store" "words" "LShingletrack$Row;", Cond.fieldLink RX6 20 "Shingletrack$Store" "weaks" "LShingletrack$Row;", Cond.constantLong RX6 23 (-1), Cond.methodLink RX6 11 yX4_init, Cond.instanceMethod yX4_init, Cond.code yX4_init cX4_init 2 none, Cond.methodLink RX4 1 objectInit, Cond.arrayClass .long, Cond.fieldLink RX4 7 "Shingletrack$Row" "numbers" "[J", Cond.methodLink RX6 25 yX4_fill, Cond.instanceMethod yX4_fill, Cond.selects RX4 yX4_fill yX4_fill, Cond.code yX4_fill cX4_fill 4 none, Cond.methodLink RX3 23 yX4_init, Cond.methodLink RX3 64 yX4_fill]
def wsX3_init : List Cond := .code yX3_init cX3_init 1 none :: ((wsX3_init_r1 ++ wsX3_init_r2) ++ wsX60 ++ wsX30 ++ wsX40)
def wsX3_endOf : List Cond := .code yX3_endOf cX3_endOf 2 (some .int) :: ([.fieldLink RX3 26 "Shingletrack$Platter" "ends" "LShingletrack$Row;", .methodLink RX3 68 yX4_intAt, .instanceMethod yX4_intAt, .selects RX4 yX4_intAt yX4_intAt, .initialized RX4, .code yX4_intAt cX4_intAt 2 (some .int), .methodLink RX4 13 yX4_at, .instanceMethod yX4_at, .selects RX4 yX4_at yX4_at, .code yX4_at cX4_at 2 (some .long), .fieldLink RX4 7 "Shingletrack$Row" "numbers" "[J"] ++ wsX30 ++ wsX40)
def wsX6_has : List Cond := .code yX6_has cX6_has 2 (some .boolean) :: ([.fieldLink RX6 14 "Shingletrack$Store" "words" "LShingletrack$Row;", .constantLong RX6 23 (-1), .methodLink RX6 29 yX4_at, .instanceMethod yX4_at, .selects RX4 yX4_at yX4_at, .initialized RX4, .code yX4_at cX4_at 2 (some .long), .fieldLink RX4 7 "Shingletrack$Row" "numbers" "[J"] ++ wsX60 ++ wsX40)
def wsX3_newestStore : List Cond := .code yX3_newestStore cX3_newestStore 2 (some (.object "Shingletrack$Store")) :: ([.fieldLink RX3 18 "Shingletrack$Platter" "zone" "LShingletrack$Store;", .fieldLink RX3 12 "Shingletrack$Platter" "bandStore" "LShingletrack$Store;", .methodLink RX3 76 yX6_has, .instanceMethod yX6_has, .selects RX6 yX6_has yX6_has, .initialized RX6, .code yX6_has cX6_has 2 (some .boolean), .fieldLink RX6 14 "Shingletrack$Store" "words" "LShingletrack$Row;", .constantLong RX6 23 (-1), .methodLink RX6 29 yX4_at, .instanceMethod yX4_at, .selects RX4 yX4_at yX4_at, .initialized RX4, .code yX4_at cX4_at 2 (some .long), .fieldLink RX4 7 "Shingletrack$Row" "numbers" "[J"] ++ wsX30 ++ wsX60 ++ wsX40)
def wsX4_isSet : List Cond := .code yX4_isSet cX4_isSet 2 (some .boolean) :: ([.methodLink RX4 13 yX4_at, .instanceMethod yX4_at, .selects RX4 yX4_at yX4_at, .initialized RX4, .code yX4_at cX4_at 2 (some .long), .fieldLink RX4 7 "Shingletrack$Row" "numbers" "[J"] ++ wsX40)
def wsX6_wordOf : List Cond := .code yX6_wordOf cX6_wordOf 2 (some .long) :: ([.fieldLink RX6 14 "Shingletrack$Store" "words" "LShingletrack$Row;", .methodLink RX6 29 yX4_at, .instanceMethod yX4_at, .selects RX4 yX4_at yX4_at, .initialized RX4, .code yX4_at cX4_at 2 (some .long), .fieldLink RX4 7 "Shingletrack$Row" "numbers" "[J"] ++ wsX60 ++ wsX40)
def wsX6_weakOf : List Cond := .code yX6_weakOf cX6_weakOf 2 (some .int) :: ([.fieldLink RX6 20 "Shingletrack$Store" "weaks" "LShingletrack$Row;", .methodLink RX6 33 yX4_intAt, .instanceMethod yX4_intAt, .selects RX4 yX4_intAt yX4_intAt, .initialized RX4, .code yX4_intAt cX4_intAt 2 (some .int), .methodLink RX4 13 yX4_at, .instanceMethod yX4_at, .selects RX4 yX4_at yX4_at, .code yX4_at cX4_at 2 (some .long), .fieldLink RX4 7 "Shingletrack$Row" "numbers" "[J"] ++ wsX60 ++ wsX40)
def wsX7_times : List Cond := .code yX7_times cX7_times 4 (some .int) :: ([])
def wsX7_nibble : List Cond := .code yX7_nibble cX7_nibble 3 (some .int) :: ([])
def wsX7_sumsOf : List Cond := .code yX7_sumsOf cX7_sumsOf 6 (some .int) :: ([.methodLink RX7 37 yX7_times, .static yX7_times, .initialized RX7, .code yX7_times cX7_times 4 (some .int), .methodLink RX7 21 yX7_nibble, .static yX7_nibble, .code yX7_nibble cX7_nibble 3 (some .int)])
def wsJ6_bitCount_0f7a4 : List Cond := .code yJ6_bitCount_0f7a4 cJ6_bitCount_0f7a4 1 (some .int) :: ([.constant RJ6 265 (1431655765), .constant RJ6 266 (858993459), .constant RJ6 267 (252645135)])
def wsX7_sumsWithout : List Cond := .code yX7_sumsWithout cX7_sumsWithout 8 (some .int) :: ([.constantLong RX7 46 (3160638497), .methodLink RX7 21 yX7_nibble, .static yX7_nibble, .initialized RX7, .code yX7_nibble cX7_nibble 3 (some .int), .methodLink RX7 37 yX7_times, .static yX7_times, .code yX7_times cX7_times 4 (some .int)])
def wsX7_quotient : List Cond := .code yX7_quotient cX7_quotient 3 (some .int) :: ([.methodLink RX7 37 yX7_times, .static yX7_times, .initialized RX7, .code yX7_times cX7_times 4 (some .int)])
def wsX7_turned : List Cond := .code yX7_turned cX7_turned 4 (some .long) :: ([])
def wsX7_filled : List Cond := .code yX7_filled cX7_filled 10 (some .long) :: ([.methodLink RX7 31 yX7_sumsWithout, .static yX7_sumsWithout, .initialized RX7, .code yX7_sumsWithout cX7_sumsWithout 8 (some .int), .constantLong RX7 46 (3160638497), .methodLink RX7 21 yX7_nibble, .static yX7_nibble, .code yX7_nibble cX7_nibble 3 (some .int), .methodLink RX7 37 yX7_times, .static yX7_times, .code yX7_times cX7_times 4 (some .int), .methodLink RX7 9 yX7_sumsOf, .static yX7_sumsOf, .code yX7_sumsOf cX7_sumsOf 6 (some .int), .methodLink RX7 40 yX7_quotient, .static yX7_quotient, .code yX7_quotient cX7_quotient 3 (some .int), .methodLink RX7 43 yX7_turned, .static yX7_turned, .code yX7_turned cX7_turned 4 (some .long)])
def wsX7_repaired_r1 : List Cond := [Cond.constantLong RX7 35 (-1), Cond.methodLink RX7 9 yX7_sumsOf, Cond.static yX7_sumsOf, Cond.initialized RX7, Cond.code yX7_sumsOf cX7_sumsOf 6 (some .int), Cond.methodLink RX7 37 yX7_times, Cond.static yX7_times, Cond.code yX7_times cX7_times 4 (some .int), Cond.methodLink RX7 21 yX7_nibble, Cond.static yX7_nibble, Cond.code yX7_nibble cX7_nibble 3 (some .int), Cond.methodLink RX7 25 yJ6_bitCount_0f7a4, Cond.static yJ6_bitCount_0f7a4, Cond.initialized RJ6, Cond.code yJ6_bitCount_0f7a4 cJ6_bitCount_0f7a4 1 (some .int), Cond.constant RJ6 265 (1431655765), Cond.constant RJ6 266 (858993459), Cond.constant RJ6 267 (252645135), Cond.methodLink RX7 31 yX7_sumsWithout, Cond.static yX7_sumsWithout, Cond.code yX7_sumsWithout cX7_sumsWithout 8 (some .int), Cond.constantLong RX7 46 (3160638497), Cond.methodLink RX7 15 yX7_filled, Cond.static yX7_filled]
def wsX7_repaired_r2 : List Cond := [Cond.code yX7_filled cX7_filled 10 (some .long), Cond.methodLink RX7 40 yX7_quotient, Cond.static yX7_quotient, Cond.code yX7_quotient cX7_quotient 3 (some .int), Cond.methodLink RX7 43 yX7_turned, Cond.static yX7_turned, Cond.code yX7_turned cX7_turned 4 (some .long)]
def wsX7_repaired : List Cond := .code yX7_repaired cX7_repaired 7 (some .long) :: ((wsX7_repaired_r1 ++ wsX7_repaired_r2))
def wsX7_valueOf : List Cond := .code yX7_valueOf cX7_valueOf 2 (some .int) :: ([.constantLong RX7 19 (65535)])
def wsX3_tellsWhatWasSent_r1 : List Cond := [Cond.constantLong RX3 62 (-1), Cond.fieldLink RX3 39 "Shingletrack$Platter" "lastSent" "LShingletrack$Row;", Cond.methodLink RX3 121 yX3_newestStore, Cond.instanceMethod yX3_newestStore, Cond.selects RX3 yX3_newestStore yX3_newestStore, Cond.initialized RX3, Cond.code yX3_newestStore cX3_newestStore 2 (some (.object "Shingletrack$Store")), Cond.fieldLink RX3 18 "Shingletrack$Platter" "zone" "LShingletrack$Store;", Cond.fieldLink RX3 12 "Shingletrack$Platter" "bandStore" "LShingletrack$Store;", Cond.methodLink RX3 76 yX6_has, Cond.instanceMethod yX6_has, Cond.selects RX6 yX6_has yX6_has, Cond.initialized RX6, Cond.code yX6_has cX6_has 2 (some .boolean), Cond.fieldLink RX6 14 "Shingletrack$Store" "words" "LShingletrack$Row;", Cond.constantLong RX6 23 (-1), Cond.methodLink RX6 29 yX4_at, Cond.instanceMethod yX4_at, Cond.selects RX4 yX4_at yX4_at, Cond.initialized RX4, Cond.code yX4_at cX4_at 2 (some .long), Cond.fieldLink RX4 7 "Shingletrack$Row" "numbers" "[J", Cond.methodLink RX3 125 yX6_wordOf, Cond.instanceMethod yX6_wordOf]
def wsX3_tellsWhatWasSent_r2 : List Cond := [Cond.selects RX6 yX6_wordOf yX6_wordOf, Cond.code yX6_wordOf cX6_wordOf 2 (some .long), Cond.methodLink RX3 128 yX6_weakOf, Cond.instanceMethod yX6_weakOf, Cond.selects RX6 yX6_weakOf yX6_weakOf, Cond.code yX6_weakOf cX6_weakOf 2 (some .int), Cond.fieldLink RX6 20 "Shingletrack$Store" "weaks" "LShingletrack$Row;", Cond.methodLink RX6 33 yX4_intAt, Cond.instanceMethod yX4_intAt, Cond.selects RX4 yX4_intAt yX4_intAt, Cond.code yX4_intAt cX4_intAt 2 (some .int), Cond.methodLink RX4 13 yX4_at, Cond.methodLink RX3 131 yX7_repaired, Cond.static yX7_repaired, Cond.initialized RX7, Cond.code yX7_repaired cX7_repaired 7 (some .long), Cond.constantLong RX7 35 (-1), Cond.methodLink RX7 9 yX7_sumsOf, Cond.static yX7_sumsOf, Cond.code yX7_sumsOf cX7_sumsOf 6 (some .int), Cond.methodLink RX7 37 yX7_times, Cond.static yX7_times, Cond.code yX7_times cX7_times 4 (some .int), Cond.methodLink RX7 21 yX7_nibble]
def wsX3_tellsWhatWasSent_r3 : List Cond := [Cond.static yX7_nibble, Cond.code yX7_nibble cX7_nibble 3 (some .int), Cond.methodLink RX7 25 yJ6_bitCount_0f7a4, Cond.static yJ6_bitCount_0f7a4, Cond.initialized RJ6, Cond.code yJ6_bitCount_0f7a4 cJ6_bitCount_0f7a4 1 (some .int), Cond.constant RJ6 265 (1431655765), Cond.constant RJ6 266 (858993459), Cond.constant RJ6 267 (252645135), Cond.methodLink RX7 31 yX7_sumsWithout, Cond.static yX7_sumsWithout, Cond.code yX7_sumsWithout cX7_sumsWithout 8 (some .int), Cond.constantLong RX7 46 (3160638497), Cond.methodLink RX7 15 yX7_filled, Cond.static yX7_filled, Cond.code yX7_filled cX7_filled 10 (some .long), Cond.methodLink RX7 40 yX7_quotient, Cond.static yX7_quotient, Cond.code yX7_quotient cX7_quotient 3 (some .int), Cond.methodLink RX7 43 yX7_turned, Cond.static yX7_turned, Cond.code yX7_turned cX7_turned 4 (some .long), Cond.methodLink RX3 151 yX7_valueOf, Cond.static yX7_valueOf]
def wsX3_tellsWhatWasSent_r4 : List Cond := [Cond.code yX7_valueOf cX7_valueOf 2 (some .int), Cond.constantLong RX7 19 (65535), Cond.methodLink RX3 145 yX4_at]
def wsX3_tellsWhatWasSent : List Cond := .code yX3_tellsWhatWasSent cX3_tellsWhatWasSent 5 (some .boolean) :: ((wsX3_tellsWhatWasSent_r1 ++ (wsX3_tellsWhatWasSent_r2 ++ (wsX3_tellsWhatWasSent_r3 ++ wsX3_tellsWhatWasSent_r4))) ++ wsX30 ++ wsX60 ++ wsX40)
def wsX3_keepsWhatWasSent_r1 : List Cond := [Cond.fieldLink RX3 39 "Shingletrack$Platter" "lastSent" "LShingletrack$Row;", Cond.constantLong RX3 62 (-1), Cond.fieldLink RX3 36 "Shingletrack$Platter" "lostSectors" "LShingletrack$Row;", Cond.fieldLink RX3 42 "Shingletrack$Platter" "harmedSectors" "LShingletrack$Row;", Cond.methodLink RX3 145 yX4_at, Cond.instanceMethod yX4_at, Cond.selects RX4 yX4_at yX4_at, Cond.initialized RX4, Cond.code yX4_at cX4_at 2 (some .long), Cond.fieldLink RX4 7 "Shingletrack$Row" "numbers" "[J", Cond.methodLink RX3 80 yX4_isSet, Cond.instanceMethod yX4_isSet, Cond.selects RX4 yX4_isSet yX4_isSet, Cond.code yX4_isSet cX4_isSet 2 (some .boolean), Cond.methodLink RX4 13 yX4_at, Cond.methodLink RX3 148 yX3_tellsWhatWasSent, Cond.instanceMethod yX3_tellsWhatWasSent, Cond.selects RX3 yX3_tellsWhatWasSent yX3_tellsWhatWasSent, Cond.initialized RX3, Cond.code yX3_tellsWhatWasSent cX3_tellsWhatWasSent 5 (some .boolean), Cond.methodLink RX3 121 yX3_newestStore, Cond.instanceMethod yX3_newestStore, Cond.selects RX3 yX3_newestStore yX3_newestStore, Cond.code yX3_newestStore cX3_newestStore 2 (some (.object "Shingletrack$Store"))]
def wsX3_keepsWhatWasSent_r2 : List Cond := [Cond.fieldLink RX3 18 "Shingletrack$Platter" "zone" "LShingletrack$Store;", Cond.fieldLink RX3 12 "Shingletrack$Platter" "bandStore" "LShingletrack$Store;", Cond.methodLink RX3 76 yX6_has, Cond.instanceMethod yX6_has, Cond.selects RX6 yX6_has yX6_has, Cond.initialized RX6, Cond.code yX6_has cX6_has 2 (some .boolean), Cond.fieldLink RX6 14 "Shingletrack$Store" "words" "LShingletrack$Row;", Cond.constantLong RX6 23 (-1), Cond.methodLink RX6 29 yX4_at, Cond.methodLink RX3 125 yX6_wordOf, Cond.instanceMethod yX6_wordOf, Cond.selects RX6 yX6_wordOf yX6_wordOf, Cond.code yX6_wordOf cX6_wordOf 2 (some .long), Cond.methodLink RX3 128 yX6_weakOf, Cond.instanceMethod yX6_weakOf, Cond.selects RX6 yX6_weakOf yX6_weakOf, Cond.code yX6_weakOf cX6_weakOf 2 (some .int), Cond.fieldLink RX6 20 "Shingletrack$Store" "weaks" "LShingletrack$Row;", Cond.methodLink RX6 33 yX4_intAt, Cond.instanceMethod yX4_intAt, Cond.selects RX4 yX4_intAt yX4_intAt, Cond.code yX4_intAt cX4_intAt 2 (some .int), Cond.methodLink RX3 131 yX7_repaired]
def wsX3_keepsWhatWasSent_r3 : List Cond := [Cond.static yX7_repaired, Cond.initialized RX7, Cond.code yX7_repaired cX7_repaired 7 (some .long), Cond.constantLong RX7 35 (-1), Cond.methodLink RX7 9 yX7_sumsOf, Cond.static yX7_sumsOf, Cond.code yX7_sumsOf cX7_sumsOf 6 (some .int), Cond.methodLink RX7 37 yX7_times, Cond.static yX7_times, Cond.code yX7_times cX7_times 4 (some .int), Cond.methodLink RX7 21 yX7_nibble, Cond.static yX7_nibble, Cond.code yX7_nibble cX7_nibble 3 (some .int), Cond.methodLink RX7 25 yJ6_bitCount_0f7a4, Cond.static yJ6_bitCount_0f7a4, Cond.initialized RJ6, Cond.code yJ6_bitCount_0f7a4 cJ6_bitCount_0f7a4 1 (some .int), Cond.constant RJ6 265 (1431655765), Cond.constant RJ6 266 (858993459), Cond.constant RJ6 267 (252645135), Cond.methodLink RX7 31 yX7_sumsWithout, Cond.static yX7_sumsWithout, Cond.code yX7_sumsWithout cX7_sumsWithout 8 (some .int), Cond.constantLong RX7 46 (3160638497)]
def wsX3_keepsWhatWasSent_r4 : List Cond := [Cond.methodLink RX7 15 yX7_filled, Cond.static yX7_filled, Cond.code yX7_filled cX7_filled 10 (some .long), Cond.methodLink RX7 40 yX7_quotient, Cond.static yX7_quotient, Cond.code yX7_quotient cX7_quotient 3 (some .int), Cond.methodLink RX7 43 yX7_turned, Cond.static yX7_turned, Cond.code yX7_turned cX7_turned 4 (some .long), Cond.methodLink RX3 151 yX7_valueOf, Cond.static yX7_valueOf, Cond.code yX7_valueOf cX7_valueOf 2 (some .int), Cond.constantLong RX7 19 (65535)]
def wsX3_keepsWhatWasSent : List Cond := .code yX3_keepsWhatWasSent cX3_keepsWhatWasSent 3 (some .boolean) :: ((wsX3_keepsWhatWasSent_r1 ++ (wsX3_keepsWhatWasSent_r2 ++ (wsX3_keepsWhatWasSent_r3 ++ wsX3_keepsWhatWasSent_r4))) ++ wsX30 ++ wsX40 ++ wsX60)
def wsX3_endsHold_r1 : List Cond := [Cond.fieldLink RX3 12 "Shingletrack$Platter" "bandStore" "LShingletrack$Store;", Cond.methodLink RX3 76 yX6_has, Cond.instanceMethod yX6_has, Cond.selects RX6 yX6_has yX6_has, Cond.initialized RX6, Cond.code yX6_has cX6_has 2 (some .boolean), Cond.fieldLink RX6 14 "Shingletrack$Store" "words" "LShingletrack$Row;", Cond.constantLong RX6 23 (-1), Cond.methodLink RX6 29 yX4_at, Cond.instanceMethod yX4_at, Cond.selects RX4 yX4_at yX4_at, Cond.initialized RX4, Cond.code yX4_at cX4_at 2 (some .long), Cond.fieldLink RX4 7 "Shingletrack$Row" "numbers" "[J", Cond.methodLink RX3 155 yX3_endOf, Cond.instanceMethod yX3_endOf, Cond.selects RX3 yX3_endOf yX3_endOf, Cond.initialized RX3, Cond.code yX3_endOf cX3_endOf 2 (some .int), Cond.fieldLink RX3 26 "Shingletrack$Platter" "ends" "LShingletrack$Row;", Cond.methodLink RX3 68 yX4_intAt, Cond.instanceMethod yX4_intAt, Cond.selects RX4 yX4_intAt yX4_intAt, Cond.code yX4_intAt cX4_intAt 2 (some .int)]
def wsX3_endsHold_r2 : List Cond := [Cond.methodLink RX4 13 yX4_at]
def wsX3_endsHold : List Cond := .code yX3_endsHold cX3_endsHold 2 (some .boolean) :: ((wsX3_endsHold_r1 ++ wsX3_endsHold_r2) ++ wsX30 ++ wsX60 ++ wsX40)
def wsX5_init : List Cond := .code yX5_init cX5_init 1 none :: ([.methodLink RX5 3 objectInit, .instanceMethod objectInit, .code objectInit ⟨#[0xb1]⟩ 1 none, .classLink RX5 9 RX4, .instantiable RX4 1, .initialized RX4, .fieldLink RX5 14 "Shingletrack$Seeks" "sectors" "LShingletrack$Row;", .fieldLink RX5 20 "Shingletrack$Seeks" "comings" "LShingletrack$Row;", .fieldLink RX5 23 "Shingletrack$Seeks" "requestsThere" "I", .fieldLink RX5 27 "Shingletrack$Seeks" "now" "I", .fieldLink RX5 30 "Shingletrack$Seeks" "armTrack" "I", .fieldLink RX5 33 "Shingletrack$Seeks" "ticksWaited" "I", .fieldLink RX5 36 "Shingletrack$Seeks" "requestsServed" "I", .methodLink RX5 11 yX4_init, .instanceMethod yX4_init, .code yX4_init cX4_init 2 none, .methodLink RX4 1 objectInit, .arrayClass .long, .fieldLink RX4 7 "Shingletrack$Row" "numbers" "[J"] ++ wsX40 ++ wsX50)
def wsX6_size : List Cond := .code yX6_size cX6_size 3 (some .int) :: ([.methodLink RX6 42 yX6_has, .instanceMethod yX6_has, .selects RX6 yX6_has yX6_has, .initialized RX6, .code yX6_has cX6_has 2 (some .boolean), .fieldLink RX6 14 "Shingletrack$Store" "words" "LShingletrack$Row;", .constantLong RX6 23 (-1), .methodLink RX6 29 yX4_at, .instanceMethod yX4_at, .selects RX4 yX4_at yX4_at, .initialized RX4, .code yX4_at cX4_at 2 (some .long), .fieldLink RX4 7 "Shingletrack$Row" "numbers" "[J"] ++ wsX60 ++ wsX40)
def wsX7_of : List Cond := .code yX7_of cX7_of 1 (some .long) :: ([.methodLink RX7 9 yX7_sumsOf, .static yX7_sumsOf, .initialized RX7, .code yX7_sumsOf cX7_sumsOf 6 (some .int), .methodLink RX7 37 yX7_times, .static yX7_times, .code yX7_times cX7_times 4 (some .int), .methodLink RX7 21 yX7_nibble, .static yX7_nibble, .code yX7_nibble cX7_nibble 3 (some .int), .methodLink RX7 15 yX7_filled, .static yX7_filled, .code yX7_filled cX7_filled 10 (some .long), .methodLink RX7 31 yX7_sumsWithout, .static yX7_sumsWithout, .code yX7_sumsWithout cX7_sumsWithout 8 (some .int), .constantLong RX7 46 (3160638497), .methodLink RX7 40 yX7_quotient, .static yX7_quotient, .code yX7_quotient cX7_quotient 3 (some .int), .methodLink RX7 43 yX7_turned, .static yX7_turned, .code yX7_turned cX7_turned 4 (some .long)])
def wsX7_differences : List Cond := .code yX7_differences cX7_differences 6 (some .int) :: ([.methodLink RX7 21 yX7_nibble, .static yX7_nibble, .initialized RX7, .code yX7_nibble cX7_nibble 3 (some .int)])
def wsX8_init_r1 : List Cond := [Cond.methodLink RX8 3 objectInit, Cond.instanceMethod objectInit, Cond.code objectInit ⟨#[0xb1]⟩ 1 none, Cond.classLink RX8 9 RX2, Cond.instantiable RX2 6, Cond.initialized RX2, Cond.fieldLink RX8 12 "Shingletrack" "channel" "LShingletrack$Channel;", Cond.classLink RX8 16 RX0, Cond.instantiable RX0 3, Cond.initialized RX0, Cond.fieldLink RX8 19 "Shingletrack" "buffer" "LShingletrack$Buffer;", Cond.classLink RX8 23 RX3, Cond.instantiable RX3 13, Cond.initialized RX3, Cond.fieldLink RX8 26 "Shingletrack" "platter" "LShingletrack$Platter;", Cond.classLink RX8 30 RX5, Cond.instantiable RX5 7, Cond.initialized RX5, Cond.fieldLink RX8 33 "Shingletrack" "seeks" "LShingletrack$Seeks;", Cond.fieldLink RX8 37 "Shingletrack" "shocked" "Z", Cond.fieldLink RX8 41 "Shingletrack" "warmth" "I", Cond.fieldLink RX8 45 "Shingletrack" "sectorsWritten" "I", Cond.fieldLink RX8 48 "Shingletrack" "readsAnswered" "I", Cond.instanceMethod yX2_init]
def wsX8_init_r2 : List Cond := [Cond.code yX2_init cX2_init 1 none, Cond.methodLink RX2 3 objectInit, Cond.classLink RX2 9 RX4, Cond.instantiable RX4 1, Cond.initialized RX4, Cond.fieldLink RX2 14 "Shingletrack$Channel" "samples" "LShingletrack$Row;", Cond.fieldLink RX2 20 "Shingletrack$Channel" "samplesThere" "I", Cond.fieldLink RX2 24 "Shingletrack$Channel" "squares" "LShingletrack$Row;", Cond.fieldLink RX2 27 "Shingletrack$Channel" "numbers" "LShingletrack$Row;", Cond.fieldLink RX2 30 "Shingletrack$Channel" "nextSquares" "LShingletrack$Row;", Cond.fieldLink RX2 33 "Shingletrack$Channel" "nextNumbers" "LShingletrack$Row;", Cond.methodLink RX2 11 yX4_init, Cond.instanceMethod yX4_init, Cond.code yX4_init cX4_init 2 none, Cond.methodLink RX4 1 objectInit, Cond.arrayClass .long, Cond.fieldLink RX4 7 "Shingletrack$Row" "numbers" "[J", Cond.instanceMethod yX0_init, Cond.code yX0_init cX0_init 1 none, Cond.methodLink RX0 3 objectInit, Cond.classLink RX0 9 RX4, Cond.fieldLink RX0 14 "Shingletrack$Buffer" "sectors" "LShingletrack$Row;", Cond.fieldLink RX0 20 "Shingletrack$Buffer" "values" "LShingletrack$Row;", Cond.fieldLink RX0 23 "Shingletrack$Buffer" "sectorsThere" "I"]
def wsX8_init_r3 : List Cond := [Cond.methodLink RX0 11 yX4_init, Cond.methodLink RX8 25 yX3_init, Cond.instanceMethod yX3_init, Cond.code yX3_init cX3_init 1 none, Cond.methodLink RX3 3 objectInit, Cond.classLink RX3 9 RX6, Cond.instantiable RX6 2, Cond.initialized RX6, Cond.fieldLink RX3 12 "Shingletrack$Platter" "bandStore" "LShingletrack$Store;", Cond.fieldLink RX3 18 "Shingletrack$Platter" "zone" "LShingletrack$Store;", Cond.classLink RX3 21 RX4, Cond.fieldLink RX3 26 "Shingletrack$Platter" "ends" "LShingletrack$Row;", Cond.fieldLink RX3 30 "Shingletrack$Platter" "badPlaces" "LShingletrack$Row;", Cond.fieldLink RX3 33 "Shingletrack$Platter" "mappedPlaces" "LShingletrack$Row;", Cond.fieldLink RX3 36 "Shingletrack$Platter" "lostSectors" "LShingletrack$Row;", Cond.fieldLink RX3 39 "Shingletrack$Platter" "lastSent" "LShingletrack$Row;", Cond.fieldLink RX3 42 "Shingletrack$Platter" "harmedSectors" "LShingletrack$Row;", Cond.fieldLink RX3 45 "Shingletrack$Platter" "shakes" "Z", Cond.fieldLink RX3 49 "Shingletrack$Platter" "wordsWritten" "I", Cond.fieldLink RX3 53 "Shingletrack$Platter" "placesMended" "I", Cond.fieldLink RX3 56 "Shingletrack$Platter" "wordsLost" "I", Cond.fieldLink RX3 59 "Shingletrack$Platter" "cleanings" "I", Cond.constantLong RX3 62 (-1), Cond.methodLink RX3 11 yX6_init]
def wsX8_init_r4 : List Cond := [Cond.instanceMethod yX6_init, Cond.code yX6_init cX6_init 1 none, Cond.methodLink RX6 3 objectInit, Cond.classLink RX6 9 RX4, Cond.fieldLink RX6 14 "Shingletrack$Store" "words" "LShingletrack$Row;", Cond.fieldLink RX6 20 "Shingletrack$Store" "weaks" "LShingletrack$Row;", Cond.constantLong RX6 23 (-1), Cond.methodLink RX6 11 yX4_init, Cond.methodLink RX6 25 yX4_fill, Cond.instanceMethod yX4_fill, Cond.selects RX4 yX4_fill yX4_fill, Cond.code yX4_fill cX4_fill 4 none, Cond.methodLink RX3 23 yX4_init, Cond.methodLink RX3 64 yX4_fill, Cond.instanceMethod yX5_init, Cond.code yX5_init cX5_init 1 none, Cond.methodLink RX5 3 objectInit, Cond.classLink RX5 9 RX4, Cond.fieldLink RX5 14 "Shingletrack$Seeks" "sectors" "LShingletrack$Row;", Cond.fieldLink RX5 20 "Shingletrack$Seeks" "comings" "LShingletrack$Row;", Cond.fieldLink RX5 23 "Shingletrack$Seeks" "requestsThere" "I", Cond.fieldLink RX5 27 "Shingletrack$Seeks" "now" "I", Cond.fieldLink RX5 30 "Shingletrack$Seeks" "armTrack" "I", Cond.fieldLink RX5 33 "Shingletrack$Seeks" "ticksWaited" "I"]
def wsX8_init_r5 : List Cond := [Cond.fieldLink RX5 36 "Shingletrack$Seeks" "requestsServed" "I", Cond.methodLink RX5 11 yX4_init]
def wsX8_init : List Cond := .code yX8_init cX8_init 1 none :: ((wsX8_init_r1 ++ (wsX8_init_r2 ++ (wsX8_init_r3 ++ (wsX8_init_r4 ++ wsX8_init_r5)))) ++ wsX20 ++ wsX80 ++ wsX00 ++ wsX30 ++ wsX50 ++ wsX40 ++ wsX60)
def wsX8_checkRange : List Cond := .code yX8_checkRange cX8_checkRange 6 none :: ([.classLink RX8 238 "java/lang/IllegalArgumentException", .initialized "java/lang/IllegalArgumentException"] ++ (vx_at0 RX8 240 "java/lang/IllegalArgumentException" ["java/lang/RuntimeException", "java/lang/Exception"]).filter goodWord)
def wsX8_word_r1 : List Cond := [Cond.constantLong RX8 51 (65535), Cond.methodLink RX8 53 yX8_checkRange, Cond.static yX8_checkRange, Cond.initialized RX8, Cond.code yX8_checkRange cX8_checkRange 6 none, Cond.classLink RX8 238 "java/lang/IllegalArgumentException", Cond.initialized "java/lang/IllegalArgumentException", Cond.methodLink RX8 57 yX7_of, Cond.static yX7_of, Cond.initialized RX7, Cond.code yX7_of cX7_of 1 (some .long), Cond.methodLink RX7 9 yX7_sumsOf, Cond.static yX7_sumsOf, Cond.code yX7_sumsOf cX7_sumsOf 6 (some .int), Cond.methodLink RX7 37 yX7_times, Cond.static yX7_times, Cond.code yX7_times cX7_times 4 (some .int), Cond.methodLink RX7 21 yX7_nibble, Cond.static yX7_nibble, Cond.code yX7_nibble cX7_nibble 3 (some .int), Cond.methodLink RX7 15 yX7_filled, Cond.static yX7_filled, Cond.code yX7_filled cX7_filled 10 (some .long), Cond.methodLink RX7 31 yX7_sumsWithout]
def wsX8_word_r2 : List Cond := [Cond.static yX7_sumsWithout, Cond.code yX7_sumsWithout cX7_sumsWithout 8 (some .int), Cond.constantLong RX7 46 (3160638497), Cond.methodLink RX7 40 yX7_quotient, Cond.static yX7_quotient, Cond.code yX7_quotient cX7_quotient 3 (some .int), Cond.methodLink RX7 43 yX7_turned, Cond.static yX7_turned, Cond.code yX7_turned cX7_turned 4 (some .long)]
def wsX8_word : List Cond := .code yX8_word cX8_word 2 (some .long) :: ((wsX8_word_r1 ++ wsX8_word_r2) ++ (vx_at0 RX8 240 "java/lang/IllegalArgumentException" ["java/lang/RuntimeException", "java/lang/Exception"]).filter goodWord)
def wsX8_repairedOrThrow_r1 : List Cond := [Cond.classLink RX8 87 "java/util/NoSuchElementException", Cond.initialized "java/util/NoSuchElementException", Cond.constantLong RX8 298 (4294967295), Cond.constantLong RX8 75 (255), Cond.constantLong RX8 303 (-1), Cond.methodLink RX8 53 yX8_checkRange, Cond.static yX8_checkRange, Cond.initialized RX8, Cond.code yX8_checkRange cX8_checkRange 6 none, Cond.classLink RX8 238 "java/lang/IllegalArgumentException", Cond.initialized "java/lang/IllegalArgumentException", Cond.methodLink RX8 300 yX7_repaired, Cond.static yX7_repaired, Cond.initialized RX7, Cond.code yX7_repaired cX7_repaired 7 (some .long), Cond.constantLong RX7 35 (-1), Cond.methodLink RX7 9 yX7_sumsOf, Cond.static yX7_sumsOf, Cond.code yX7_sumsOf cX7_sumsOf 6 (some .int), Cond.methodLink RX7 37 yX7_times, Cond.static yX7_times, Cond.code yX7_times cX7_times 4 (some .int), Cond.methodLink RX7 21 yX7_nibble, Cond.static yX7_nibble]
def wsX8_repairedOrThrow_r2 : List Cond := [Cond.code yX7_nibble cX7_nibble 3 (some .int), Cond.methodLink RX7 25 yJ6_bitCount_0f7a4, Cond.static yJ6_bitCount_0f7a4, Cond.initialized RJ6, Cond.code yJ6_bitCount_0f7a4 cJ6_bitCount_0f7a4 1 (some .int), Cond.constant RJ6 265 (1431655765), Cond.constant RJ6 266 (858993459), Cond.constant RJ6 267 (252645135), Cond.methodLink RX7 31 yX7_sumsWithout, Cond.static yX7_sumsWithout, Cond.code yX7_sumsWithout cX7_sumsWithout 8 (some .int), Cond.constantLong RX7 46 (3160638497), Cond.methodLink RX7 15 yX7_filled, Cond.static yX7_filled, Cond.code yX7_filled cX7_filled 10 (some .long), Cond.methodLink RX7 40 yX7_quotient, Cond.static yX7_quotient, Cond.code yX7_quotient cX7_quotient 3 (some .int), Cond.methodLink RX7 43 yX7_turned, Cond.static yX7_turned, Cond.code yX7_turned cX7_turned 4 (some .long)]
def wsX8_repairedOrThrow : List Cond := .code yX8_repairedOrThrow cX8_repairedOrThrow 5 (some .long) :: ((wsX8_repairedOrThrow_r1 ++ wsX8_repairedOrThrow_r2) ++ (vx_at0 RX8 89 "java/util/NoSuchElementException" ["java/lang/RuntimeException", "java/lang/Exception"]).filter goodWord ++ (vx_at0 RX8 240 "java/lang/IllegalArgumentException" ["java/lang/RuntimeException", "java/lang/Exception"]).filter goodWord)
def wsX8_mend_r1 : List Cond := [Cond.methodLink RX8 63 yX8_repairedOrThrow, Cond.static yX8_repairedOrThrow, Cond.initialized RX8, Cond.code yX8_repairedOrThrow cX8_repairedOrThrow 5 (some .long), Cond.classLink RX8 87 "java/util/NoSuchElementException", Cond.initialized "java/util/NoSuchElementException", Cond.constantLong RX8 298 (4294967295), Cond.constantLong RX8 75 (255), Cond.constantLong RX8 303 (-1), Cond.methodLink RX8 53 yX8_checkRange, Cond.static yX8_checkRange, Cond.code yX8_checkRange cX8_checkRange 6 none, Cond.classLink RX8 238 "java/lang/IllegalArgumentException", Cond.initialized "java/lang/IllegalArgumentException", Cond.methodLink RX8 300 yX7_repaired, Cond.static yX7_repaired, Cond.initialized RX7, Cond.code yX7_repaired cX7_repaired 7 (some .long), Cond.constantLong RX7 35 (-1), Cond.methodLink RX7 9 yX7_sumsOf, Cond.static yX7_sumsOf, Cond.code yX7_sumsOf cX7_sumsOf 6 (some .int), Cond.methodLink RX7 37 yX7_times, Cond.static yX7_times]
def wsX8_mend_r2 : List Cond := [Cond.code yX7_times cX7_times 4 (some .int), Cond.methodLink RX7 21 yX7_nibble, Cond.static yX7_nibble, Cond.code yX7_nibble cX7_nibble 3 (some .int), Cond.methodLink RX7 25 yJ6_bitCount_0f7a4, Cond.static yJ6_bitCount_0f7a4, Cond.initialized RJ6, Cond.code yJ6_bitCount_0f7a4 cJ6_bitCount_0f7a4 1 (some .int), Cond.constant RJ6 265 (1431655765), Cond.constant RJ6 266 (858993459), Cond.constant RJ6 267 (252645135), Cond.methodLink RX7 31 yX7_sumsWithout, Cond.static yX7_sumsWithout, Cond.code yX7_sumsWithout cX7_sumsWithout 8 (some .int), Cond.constantLong RX7 46 (3160638497), Cond.methodLink RX7 15 yX7_filled, Cond.static yX7_filled, Cond.code yX7_filled cX7_filled 10 (some .long), Cond.methodLink RX7 40 yX7_quotient, Cond.static yX7_quotient, Cond.code yX7_quotient cX7_quotient 3 (some .int), Cond.methodLink RX7 43 yX7_turned, Cond.static yX7_turned, Cond.code yX7_turned cX7_turned 4 (some .long)]
def wsX8_mend_r3 : List Cond := [Cond.methodLink RX8 67 yX7_valueOf, Cond.static yX7_valueOf, Cond.code yX7_valueOf cX7_valueOf 2 (some .int), Cond.constantLong RX7 19 (65535)]
def wsX8_mend : List Cond := .code yX8_mend cX8_mend 4 (some .int) :: ((wsX8_mend_r1 ++ (wsX8_mend_r2 ++ wsX8_mend_r3)) ++ (vx_at0 RX8 89 "java/util/NoSuchElementException" ["java/lang/RuntimeException", "java/lang/Exception"]).filter goodWord ++ (vx_at0 RX8 240 "java/lang/IllegalArgumentException" ["java/lang/RuntimeException", "java/lang/Exception"]).filter goodWord)
def wsX8_mended_r1 : List Cond := [Cond.methodLink RX8 63 yX8_repairedOrThrow, Cond.static yX8_repairedOrThrow, Cond.initialized RX8, Cond.code yX8_repairedOrThrow cX8_repairedOrThrow 5 (some .long), Cond.classLink RX8 87 "java/util/NoSuchElementException", Cond.initialized "java/util/NoSuchElementException", Cond.constantLong RX8 298 (4294967295), Cond.constantLong RX8 75 (255), Cond.constantLong RX8 303 (-1), Cond.methodLink RX8 53 yX8_checkRange, Cond.static yX8_checkRange, Cond.code yX8_checkRange cX8_checkRange 6 none, Cond.classLink RX8 238 "java/lang/IllegalArgumentException", Cond.initialized "java/lang/IllegalArgumentException", Cond.methodLink RX8 300 yX7_repaired, Cond.static yX7_repaired, Cond.initialized RX7, Cond.code yX7_repaired cX7_repaired 7 (some .long), Cond.constantLong RX7 35 (-1), Cond.methodLink RX7 9 yX7_sumsOf, Cond.static yX7_sumsOf, Cond.code yX7_sumsOf cX7_sumsOf 6 (some .int), Cond.methodLink RX7 37 yX7_times, Cond.static yX7_times]
def wsX8_mended_r2 : List Cond := [Cond.code yX7_times cX7_times 4 (some .int), Cond.methodLink RX7 21 yX7_nibble, Cond.static yX7_nibble, Cond.code yX7_nibble cX7_nibble 3 (some .int), Cond.methodLink RX7 25 yJ6_bitCount_0f7a4, Cond.static yJ6_bitCount_0f7a4, Cond.initialized RJ6, Cond.code yJ6_bitCount_0f7a4 cJ6_bitCount_0f7a4 1 (some .int), Cond.constant RJ6 265 (1431655765), Cond.constant RJ6 266 (858993459), Cond.constant RJ6 267 (252645135), Cond.methodLink RX7 31 yX7_sumsWithout, Cond.static yX7_sumsWithout, Cond.code yX7_sumsWithout cX7_sumsWithout 8 (some .int), Cond.constantLong RX7 46 (3160638497), Cond.methodLink RX7 15 yX7_filled, Cond.static yX7_filled, Cond.code yX7_filled cX7_filled 10 (some .long), Cond.methodLink RX7 40 yX7_quotient, Cond.static yX7_quotient, Cond.code yX7_quotient cX7_quotient 3 (some .int), Cond.methodLink RX7 43 yX7_turned, Cond.static yX7_turned, Cond.code yX7_turned cX7_turned 4 (some .long)]
def wsX8_mended_r3 : List Cond := [Cond.methodLink RX8 71 yX7_differences, Cond.static yX7_differences, Cond.code yX7_differences cX7_differences 6 (some .int)]
def wsX8_mended : List Cond := .code yX8_mended cX8_mended 4 (some .int) :: ((wsX8_mended_r1 ++ (wsX8_mended_r2 ++ wsX8_mended_r3)) ++ (vx_at0 RX8 89 "java/util/NoSuchElementException" ["java/lang/RuntimeException", "java/lang/Exception"]).filter goodWord ++ (vx_at0 RX8 240 "java/lang/IllegalArgumentException" ["java/lang/RuntimeException", "java/lang/Exception"]).filter goodWord)
def wsX8_encode : List Cond := .code yX8_encode cX8_encode 3 (some .int) :: ([.constantLong RX8 75 (255), .methodLink RX8 53 yX8_checkRange, .static yX8_checkRange, .initialized RX8, .code yX8_checkRange cX8_checkRange 6 none, .classLink RX8 238 "java/lang/IllegalArgumentException", .initialized "java/lang/IllegalArgumentException", .methodLink RX8 77 yX1_ofByte, .static yX1_ofByte, .initialized RX1, .code yX1_ofByte cX1_ofByte 7 (some .int)] ++ (vx_at0 RX8 240 "java/lang/IllegalArgumentException" ["java/lang/RuntimeException", "java/lang/Exception"]).filter goodWord)
def wsX8_decode : List Cond := .code yX8_decode cX8_decode 4 (some .int) :: ([.classLink RX8 87 "java/util/NoSuchElementException", .initialized "java/util/NoSuchElementException", .constantLong RX8 51 (65535), .methodLink RX8 53 yX8_checkRange, .static yX8_checkRange, .initialized RX8, .code yX8_checkRange cX8_checkRange 6 none, .classLink RX8 238 "java/lang/IllegalArgumentException", .initialized "java/lang/IllegalArgumentException", .methodLink RX8 83 yX1_dataOf, .static yX1_dataOf, .initialized RX1, .code yX1_dataOf cX1_dataOf 3 (some .int), .methodLink RX8 77 yX1_ofByte, .static yX1_ofByte, .code yX1_ofByte cX1_ofByte 7 (some .int)] ++ (vx_at0 RX8 89 "java/util/NoSuchElementException" ["java/lang/RuntimeException", "java/lang/Exception"]).filter goodWord ++ (vx_at0 RX8 240 "java/lang/IllegalArgumentException" ["java/lang/RuntimeException", "java/lang/Exception"]).filter goodWord)
def wsX8_sample_r1 : List Cond := [Cond.classLink RX8 98 "java/lang/IllegalStateException", Cond.initialized "java/lang/IllegalStateException", Cond.constantLong RX8 90 (-40), Cond.constantLong RX8 92 (40), Cond.fieldLink RX8 12 "Shingletrack" "channel" "LShingletrack$Channel;", Cond.methodLink RX8 53 yX8_checkRange, Cond.static yX8_checkRange, Cond.initialized RX8, Cond.code yX8_checkRange cX8_checkRange 6 none, Cond.classLink RX8 238 "java/lang/IllegalArgumentException", Cond.initialized "java/lang/IllegalArgumentException", Cond.methodLink RX8 94 yX2_size, Cond.instanceMethod yX2_size, Cond.selects RX2 yX2_size yX2_size, Cond.initialized RX2, Cond.code yX2_size cX2_size 1 (some .int), Cond.fieldLink RX2 20 "Shingletrack$Channel" "samplesThere" "I", Cond.methodLink RX8 101 yX2_add, Cond.instanceMethod yX2_add, Cond.selects RX2 yX2_add yX2_add, Cond.code yX2_add cX2_add 2 (some .int), Cond.fieldLink RX2 14 "Shingletrack$Channel" "samples" "LShingletrack$Row;", Cond.methodLink RX2 36 yX4_put, Cond.instanceMethod yX4_put]
def wsX8_sample_r2 : List Cond := [Cond.selects RX4 yX4_put yX4_put, Cond.initialized RX4, Cond.code yX4_put cX4_put 4 none, Cond.fieldLink RX4 7 "Shingletrack$Row" "numbers" "[J"]
def wsX8_sample : List Cond := .code yX8_sample cX8_sample 2 (some .int) :: ((wsX8_sample_r1 ++ wsX8_sample_r2) ++ wsX80 ++ wsX20 ++ wsX40 ++ (vx_at0 RX8 100 "java/lang/IllegalStateException" ["java/lang/RuntimeException", "java/lang/Exception"]).filter goodWord ++ (vx_at0 RX8 240 "java/lang/IllegalArgumentException" ["java/lang/RuntimeException", "java/lang/Exception"]).filter goodWord)
def wsX8_guess_r1 : List Cond := [Cond.fieldLink RX8 12 "Shingletrack" "channel" "LShingletrack$Channel;", Cond.methodLink RX8 104 yX2_bestCells, Cond.instanceMethod yX2_bestCells, Cond.selects RX2 yX2_bestCells yX2_bestCells, Cond.initialized RX2, Cond.code yX2_bestCells cX2_bestCells 3 (some .int), Cond.fieldLink RX2 24 "Shingletrack$Channel" "squares" "LShingletrack$Row;", Cond.constantLong RX2 40 (1000000), Cond.fieldLink RX2 27 "Shingletrack$Channel" "numbers" "LShingletrack$Row;", Cond.fieldLink RX2 20 "Shingletrack$Channel" "samplesThere" "I", Cond.fieldLink RX2 14 "Shingletrack$Channel" "samples" "LShingletrack$Row;", Cond.methodLink RX2 42 yX4_fill, Cond.instanceMethod yX4_fill, Cond.selects RX4 yX4_fill yX4_fill, Cond.initialized RX4, Cond.code yX4_fill cX4_fill 4 none, Cond.fieldLink RX4 7 "Shingletrack$Row" "numbers" "[J", Cond.methodLink RX2 36 yX4_put, Cond.instanceMethod yX4_put, Cond.selects RX4 yX4_put yX4_put, Cond.code yX4_put cX4_put 4 none, Cond.methodLink RX2 46 yX4_at, Cond.instanceMethod yX4_at, Cond.selects RX4 yX4_at yX4_at]
def wsX8_guess_r2 : List Cond := [Cond.code yX4_at cX4_at 2 (some .long), Cond.methodLink RX2 50 yX2_goOn, Cond.instanceMethod yX2_goOn, Cond.selects RX2 yX2_goOn yX2_goOn, Cond.code yX2_goOn cX2_goOn 12 none, Cond.fieldLink RX2 30 "Shingletrack$Channel" "nextSquares" "LShingletrack$Row;", Cond.fieldLink RX2 33 "Shingletrack$Channel" "nextNumbers" "LShingletrack$Row;", Cond.methodLink RX2 53 yX2_isBetter, Cond.static yX2_isBetter, Cond.code yX2_isBetter cX2_isBetter 8 (some .boolean), Cond.methodLink RX2 57 yX4_intAt, Cond.instanceMethod yX4_intAt, Cond.selects RX4 yX4_intAt yX4_intAt, Cond.code yX4_intAt cX4_intAt 2 (some .int), Cond.methodLink RX4 13 yX4_at]
def wsX8_guess : List Cond := .code yX8_guess cX8_guess 1 (some .int) :: ((wsX8_guess_r1 ++ wsX8_guess_r2) ++ wsX80 ++ wsX20 ++ wsX40)
def wsX8_isSound_r1 : List Cond := [Cond.fieldLink RX8 26 "Shingletrack" "platter" "LShingletrack$Platter;", Cond.fieldLink RX8 19 "Shingletrack" "buffer" "LShingletrack$Buffer;", Cond.methodLink RX8 286 yX3_keepsWhatWasSent, Cond.instanceMethod yX3_keepsWhatWasSent, Cond.selects RX3 yX3_keepsWhatWasSent yX3_keepsWhatWasSent, Cond.initialized RX3, Cond.code yX3_keepsWhatWasSent cX3_keepsWhatWasSent 3 (some .boolean), Cond.fieldLink RX3 39 "Shingletrack$Platter" "lastSent" "LShingletrack$Row;", Cond.constantLong RX3 62 (-1), Cond.fieldLink RX3 36 "Shingletrack$Platter" "lostSectors" "LShingletrack$Row;", Cond.fieldLink RX3 42 "Shingletrack$Platter" "harmedSectors" "LShingletrack$Row;", Cond.methodLink RX3 145 yX4_at, Cond.instanceMethod yX4_at, Cond.selects RX4 yX4_at yX4_at, Cond.initialized RX4, Cond.code yX4_at cX4_at 2 (some .long), Cond.fieldLink RX4 7 "Shingletrack$Row" "numbers" "[J", Cond.methodLink RX3 80 yX4_isSet, Cond.instanceMethod yX4_isSet, Cond.selects RX4 yX4_isSet yX4_isSet, Cond.code yX4_isSet cX4_isSet 2 (some .boolean), Cond.methodLink RX4 13 yX4_at, Cond.methodLink RX3 148 yX3_tellsWhatWasSent, Cond.instanceMethod yX3_tellsWhatWasSent]
def wsX8_isSound_r2 : List Cond := [Cond.selects RX3 yX3_tellsWhatWasSent yX3_tellsWhatWasSent, Cond.code yX3_tellsWhatWasSent cX3_tellsWhatWasSent 5 (some .boolean), Cond.methodLink RX3 121 yX3_newestStore, Cond.instanceMethod yX3_newestStore, Cond.selects RX3 yX3_newestStore yX3_newestStore, Cond.code yX3_newestStore cX3_newestStore 2 (some (.object "Shingletrack$Store")), Cond.fieldLink RX3 18 "Shingletrack$Platter" "zone" "LShingletrack$Store;", Cond.fieldLink RX3 12 "Shingletrack$Platter" "bandStore" "LShingletrack$Store;", Cond.methodLink RX3 76 yX6_has, Cond.instanceMethod yX6_has, Cond.selects RX6 yX6_has yX6_has, Cond.initialized RX6, Cond.code yX6_has cX6_has 2 (some .boolean), Cond.fieldLink RX6 14 "Shingletrack$Store" "words" "LShingletrack$Row;", Cond.constantLong RX6 23 (-1), Cond.methodLink RX6 29 yX4_at, Cond.methodLink RX3 125 yX6_wordOf, Cond.instanceMethod yX6_wordOf, Cond.selects RX6 yX6_wordOf yX6_wordOf, Cond.code yX6_wordOf cX6_wordOf 2 (some .long), Cond.methodLink RX3 128 yX6_weakOf, Cond.instanceMethod yX6_weakOf, Cond.selects RX6 yX6_weakOf yX6_weakOf, Cond.code yX6_weakOf cX6_weakOf 2 (some .int)]
def wsX8_isSound_r3 : List Cond := [Cond.fieldLink RX6 20 "Shingletrack$Store" "weaks" "LShingletrack$Row;", Cond.methodLink RX6 33 yX4_intAt, Cond.instanceMethod yX4_intAt, Cond.selects RX4 yX4_intAt yX4_intAt, Cond.code yX4_intAt cX4_intAt 2 (some .int), Cond.methodLink RX3 131 yX7_repaired, Cond.static yX7_repaired, Cond.initialized RX7, Cond.code yX7_repaired cX7_repaired 7 (some .long), Cond.constantLong RX7 35 (-1), Cond.methodLink RX7 9 yX7_sumsOf, Cond.static yX7_sumsOf, Cond.code yX7_sumsOf cX7_sumsOf 6 (some .int), Cond.methodLink RX7 37 yX7_times, Cond.static yX7_times, Cond.code yX7_times cX7_times 4 (some .int), Cond.methodLink RX7 21 yX7_nibble, Cond.static yX7_nibble, Cond.code yX7_nibble cX7_nibble 3 (some .int), Cond.methodLink RX7 25 yJ6_bitCount_0f7a4, Cond.static yJ6_bitCount_0f7a4, Cond.initialized RJ6, Cond.code yJ6_bitCount_0f7a4 cJ6_bitCount_0f7a4 1 (some .int), Cond.constant RJ6 265 (1431655765)]
def wsX8_isSound_r4 : List Cond := [Cond.constant RJ6 266 (858993459), Cond.constant RJ6 267 (252645135), Cond.methodLink RX7 31 yX7_sumsWithout, Cond.static yX7_sumsWithout, Cond.code yX7_sumsWithout cX7_sumsWithout 8 (some .int), Cond.constantLong RX7 46 (3160638497), Cond.methodLink RX7 15 yX7_filled, Cond.static yX7_filled, Cond.code yX7_filled cX7_filled 10 (some .long), Cond.methodLink RX7 40 yX7_quotient, Cond.static yX7_quotient, Cond.code yX7_quotient cX7_quotient 3 (some .int), Cond.methodLink RX7 43 yX7_turned, Cond.static yX7_turned, Cond.code yX7_turned cX7_turned 4 (some .long), Cond.methodLink RX3 151 yX7_valueOf, Cond.static yX7_valueOf, Cond.code yX7_valueOf cX7_valueOf 2 (some .int), Cond.constantLong RX7 19 (65535), Cond.methodLink RX8 289 yX3_endsHold, Cond.instanceMethod yX3_endsHold, Cond.selects RX3 yX3_endsHold yX3_endsHold, Cond.code yX3_endsHold cX3_endsHold 2 (some .boolean), Cond.methodLink RX3 155 yX3_endOf]
def wsX8_isSound_r5 : List Cond := [Cond.instanceMethod yX3_endOf, Cond.selects RX3 yX3_endOf yX3_endOf, Cond.code yX3_endOf cX3_endOf 2 (some .int), Cond.fieldLink RX3 26 "Shingletrack$Platter" "ends" "LShingletrack$Row;", Cond.methodLink RX3 68 yX4_intAt, Cond.methodLink RX8 292 yX0_holdsEachOnce, Cond.instanceMethod yX0_holdsEachOnce, Cond.selects RX0 yX0_holdsEachOnce yX0_holdsEachOnce, Cond.initialized RX0, Cond.code yX0_holdsEachOnce cX0_holdsEachOnce 2 (some .boolean), Cond.fieldLink RX0 23 "Shingletrack$Buffer" "sectorsThere" "I", Cond.fieldLink RX0 14 "Shingletrack$Buffer" "sectors" "LShingletrack$Row;", Cond.methodLink RX0 31 yX4_intAt, Cond.methodLink RX0 27 yX0_indexOf, Cond.instanceMethod yX0_indexOf, Cond.selects RX0 yX0_indexOf yX0_indexOf, Cond.code yX0_indexOf cX0_indexOf 3 (some .int), Cond.methodLink RX0 41 yX4_at, Cond.methodLink RX8 155 yX6_size, Cond.instanceMethod yX6_size, Cond.selects RX6 yX6_size yX6_size, Cond.code yX6_size cX6_size 3 (some .int), Cond.methodLink RX6 42 yX6_has]
def wsX8_isSound : List Cond := .code yX8_isSound cX8_isSound 1 (some .boolean) :: ((wsX8_isSound_r1 ++ (wsX8_isSound_r2 ++ (wsX8_isSound_r3 ++ (wsX8_isSound_r4 ++ wsX8_isSound_r5)))) ++ wsX80 ++ wsX30 ++ wsX40 ++ wsX60 ++ wsX00)
def wsL_cell : List Cond := .code yL_cell cL_cell 3 (some .int) :: ([.constant RL 7 (69069), .constant RL 8 (1103515245)])
def wsL_word_r1 : List Cond := [Cond.classLink RL 15 "java/lang/IllegalArgumentException", Cond.constantLong RL 17 (-900001), Cond.methodLink RL 9 yX8_word, Cond.instanceMethod yX8_word, Cond.selects RX8 yX8_word yX8_word, Cond.initialized RX8, Cond.code yX8_word cX8_word 2 (some .long), Cond.constantLong RX8 51 (65535), Cond.methodLink RX8 53 yX8_checkRange, Cond.static yX8_checkRange, Cond.code yX8_checkRange cX8_checkRange 6 none, Cond.classLink RX8 238 "java/lang/IllegalArgumentException", Cond.initialized "java/lang/IllegalArgumentException", Cond.methodLink RX8 57 yX7_of, Cond.static yX7_of, Cond.initialized RX7, Cond.code yX7_of cX7_of 1 (some .long), Cond.methodLink RX7 9 yX7_sumsOf, Cond.static yX7_sumsOf, Cond.code yX7_sumsOf cX7_sumsOf 6 (some .int), Cond.methodLink RX7 37 yX7_times, Cond.static yX7_times, Cond.code yX7_times cX7_times 4 (some .int), Cond.methodLink RX7 21 yX7_nibble]
def wsL_word_r2 : List Cond := [Cond.static yX7_nibble, Cond.code yX7_nibble cX7_nibble 3 (some .int), Cond.methodLink RX7 15 yX7_filled, Cond.static yX7_filled, Cond.code yX7_filled cX7_filled 10 (some .long), Cond.methodLink RX7 31 yX7_sumsWithout, Cond.static yX7_sumsWithout, Cond.code yX7_sumsWithout cX7_sumsWithout 8 (some .int), Cond.constantLong RX7 46 (3160638497), Cond.methodLink RX7 40 yX7_quotient, Cond.static yX7_quotient, Cond.code yX7_quotient cX7_quotient 3 (some .int), Cond.methodLink RX7 43 yX7_turned, Cond.static yX7_turned, Cond.code yX7_turned cX7_turned 4 (some .long)]
def wsL_word : List Cond := .codeWith yL_word cL_word 3 (some .long) [(0, 5, 6, 15)] :: ((wsL_word_r1 ++ wsL_word_r2) ++ (vx_at0 RX8 240 "java/lang/IllegalArgumentException" ["java/lang/RuntimeException", "java/lang/Exception"]).filter goodWord)
def wsL_mend_r1 : List Cond := [Cond.classLink RL 15 "java/lang/IllegalArgumentException", Cond.classLink RL 24 "java/util/NoSuchElementException", Cond.constant RL 23 (-900001), Cond.constant RL 26 (-900002), Cond.methodLink RL 19 yX8_mend, Cond.instanceMethod yX8_mend, Cond.selects RX8 yX8_mend yX8_mend, Cond.initialized RX8, Cond.code yX8_mend cX8_mend 4 (some .int), Cond.methodLink RX8 63 yX8_repairedOrThrow, Cond.static yX8_repairedOrThrow, Cond.code yX8_repairedOrThrow cX8_repairedOrThrow 5 (some .long), Cond.classLink RX8 87 "java/util/NoSuchElementException", Cond.initialized "java/util/NoSuchElementException", Cond.constantLong RX8 298 (4294967295), Cond.constantLong RX8 75 (255), Cond.constantLong RX8 303 (-1), Cond.methodLink RX8 53 yX8_checkRange, Cond.static yX8_checkRange, Cond.code yX8_checkRange cX8_checkRange 6 none, Cond.classLink RX8 238 "java/lang/IllegalArgumentException", Cond.initialized "java/lang/IllegalArgumentException", Cond.methodLink RX8 300 yX7_repaired, Cond.static yX7_repaired]
def wsL_mend_r2 : List Cond := [Cond.initialized RX7, Cond.code yX7_repaired cX7_repaired 7 (some .long), Cond.constantLong RX7 35 (-1), Cond.methodLink RX7 9 yX7_sumsOf, Cond.static yX7_sumsOf, Cond.code yX7_sumsOf cX7_sumsOf 6 (some .int), Cond.methodLink RX7 37 yX7_times, Cond.static yX7_times, Cond.code yX7_times cX7_times 4 (some .int), Cond.methodLink RX7 21 yX7_nibble, Cond.static yX7_nibble, Cond.code yX7_nibble cX7_nibble 3 (some .int), Cond.methodLink RX7 25 yJ6_bitCount_0f7a4, Cond.static yJ6_bitCount_0f7a4, Cond.initialized RJ6, Cond.code yJ6_bitCount_0f7a4 cJ6_bitCount_0f7a4 1 (some .int), Cond.constant RJ6 265 (1431655765), Cond.constant RJ6 266 (858993459), Cond.constant RJ6 267 (252645135), Cond.methodLink RX7 31 yX7_sumsWithout, Cond.static yX7_sumsWithout, Cond.code yX7_sumsWithout cX7_sumsWithout 8 (some .int), Cond.constantLong RX7 46 (3160638497), Cond.methodLink RX7 15 yX7_filled]
def wsL_mend_r3 : List Cond := [Cond.static yX7_filled, Cond.code yX7_filled cX7_filled 10 (some .long), Cond.methodLink RX7 40 yX7_quotient, Cond.static yX7_quotient, Cond.code yX7_quotient cX7_quotient 3 (some .int), Cond.methodLink RX7 43 yX7_turned, Cond.static yX7_turned, Cond.code yX7_turned cX7_turned 4 (some .long), Cond.methodLink RX8 67 yX7_valueOf, Cond.static yX7_valueOf, Cond.code yX7_valueOf cX7_valueOf 2 (some .int), Cond.constantLong RX7 19 (65535)]
def wsL_mend : List Cond := .codeWith yL_mend cL_mend 5 (some .int) [(0, 6, 7, 15), (0, 6, 12, 24)] :: ((wsL_mend_r1 ++ (wsL_mend_r2 ++ wsL_mend_r3)) ++ (vx_at0 RX8 89 "java/util/NoSuchElementException" ["java/lang/RuntimeException", "java/lang/Exception"]).filter goodWord ++ (vx_at0 RX8 240 "java/lang/IllegalArgumentException" ["java/lang/RuntimeException", "java/lang/Exception"]).filter goodWord)
def wsL_mended_r1 : List Cond := [Cond.classLink RL 15 "java/lang/IllegalArgumentException", Cond.classLink RL 24 "java/util/NoSuchElementException", Cond.constant RL 23 (-900001), Cond.constant RL 26 (-900002), Cond.methodLink RL 27 yX8_mended, Cond.instanceMethod yX8_mended, Cond.selects RX8 yX8_mended yX8_mended, Cond.initialized RX8, Cond.code yX8_mended cX8_mended 4 (some .int), Cond.methodLink RX8 63 yX8_repairedOrThrow, Cond.static yX8_repairedOrThrow, Cond.code yX8_repairedOrThrow cX8_repairedOrThrow 5 (some .long), Cond.classLink RX8 87 "java/util/NoSuchElementException", Cond.initialized "java/util/NoSuchElementException", Cond.constantLong RX8 298 (4294967295), Cond.constantLong RX8 75 (255), Cond.constantLong RX8 303 (-1), Cond.methodLink RX8 53 yX8_checkRange, Cond.static yX8_checkRange, Cond.code yX8_checkRange cX8_checkRange 6 none, Cond.classLink RX8 238 "java/lang/IllegalArgumentException", Cond.initialized "java/lang/IllegalArgumentException", Cond.methodLink RX8 300 yX7_repaired, Cond.static yX7_repaired]
def wsL_mended_r2 : List Cond := [Cond.initialized RX7, Cond.code yX7_repaired cX7_repaired 7 (some .long), Cond.constantLong RX7 35 (-1), Cond.methodLink RX7 9 yX7_sumsOf, Cond.static yX7_sumsOf, Cond.code yX7_sumsOf cX7_sumsOf 6 (some .int), Cond.methodLink RX7 37 yX7_times, Cond.static yX7_times, Cond.code yX7_times cX7_times 4 (some .int), Cond.methodLink RX7 21 yX7_nibble, Cond.static yX7_nibble, Cond.code yX7_nibble cX7_nibble 3 (some .int), Cond.methodLink RX7 25 yJ6_bitCount_0f7a4, Cond.static yJ6_bitCount_0f7a4, Cond.initialized RJ6, Cond.code yJ6_bitCount_0f7a4 cJ6_bitCount_0f7a4 1 (some .int), Cond.constant RJ6 265 (1431655765), Cond.constant RJ6 266 (858993459), Cond.constant RJ6 267 (252645135), Cond.methodLink RX7 31 yX7_sumsWithout, Cond.static yX7_sumsWithout, Cond.code yX7_sumsWithout cX7_sumsWithout 8 (some .int), Cond.constantLong RX7 46 (3160638497), Cond.methodLink RX7 15 yX7_filled]
def wsL_mended_r3 : List Cond := [Cond.static yX7_filled, Cond.code yX7_filled cX7_filled 10 (some .long), Cond.methodLink RX7 40 yX7_quotient, Cond.static yX7_quotient, Cond.code yX7_quotient cX7_quotient 3 (some .int), Cond.methodLink RX7 43 yX7_turned, Cond.static yX7_turned, Cond.code yX7_turned cX7_turned 4 (some .long), Cond.methodLink RX8 71 yX7_differences, Cond.static yX7_differences, Cond.code yX7_differences cX7_differences 6 (some .int)]
def wsL_mended : List Cond := .codeWith yL_mended cL_mended 5 (some .int) [(0, 6, 7, 15), (0, 6, 12, 24)] :: ((wsL_mended_r1 ++ (wsL_mended_r2 ++ wsL_mended_r3)) ++ (vx_at0 RX8 89 "java/util/NoSuchElementException" ["java/lang/RuntimeException", "java/lang/Exception"]).filter goodWord ++ (vx_at0 RX8 240 "java/lang/IllegalArgumentException" ["java/lang/RuntimeException", "java/lang/Exception"]).filter goodWord)
def wsL_encode : List Cond := .codeWith yL_encode cL_encode 4 (some .int) [(0, 6, 7, 15)] :: ([.classLink RL 15 "java/lang/IllegalArgumentException", .constant RL 23 (-900001), .methodLink RL 30 yX8_encode, .instanceMethod yX8_encode, .selects RX8 yX8_encode yX8_encode, .initialized RX8, .code yX8_encode cX8_encode 3 (some .int), .constantLong RX8 75 (255), .methodLink RX8 53 yX8_checkRange, .static yX8_checkRange, .code yX8_checkRange cX8_checkRange 6 none, .classLink RX8 238 "java/lang/IllegalArgumentException", .initialized "java/lang/IllegalArgumentException", .methodLink RX8 77 yX1_ofByte, .static yX1_ofByte, .initialized RX1, .code yX1_ofByte cX1_ofByte 7 (some .int)] ++ (vx_at0 RX8 240 "java/lang/IllegalArgumentException" ["java/lang/RuntimeException", "java/lang/Exception"]).filter goodWord)
def wsL_decode : List Cond := .codeWith yL_decode cL_decode 4 (some .int) [(0, 6, 7, 15), (0, 6, 11, 24)] :: ([.classLink RL 15 "java/lang/IllegalArgumentException", .classLink RL 24 "java/util/NoSuchElementException", .constant RL 23 (-900001), .constant RL 26 (-900002), .methodLink RL 34 yX8_decode, .instanceMethod yX8_decode, .selects RX8 yX8_decode yX8_decode, .initialized RX8, .code yX8_decode cX8_decode 4 (some .int), .classLink RX8 87 "java/util/NoSuchElementException", .initialized "java/util/NoSuchElementException", .constantLong RX8 51 (65535), .methodLink RX8 53 yX8_checkRange, .static yX8_checkRange, .code yX8_checkRange cX8_checkRange 6 none, .classLink RX8 238 "java/lang/IllegalArgumentException", .initialized "java/lang/IllegalArgumentException", .methodLink RX8 83 yX1_dataOf, .static yX1_dataOf, .initialized RX1, .code yX1_dataOf cX1_dataOf 3 (some .int), .methodLink RX8 77 yX1_ofByte, .static yX1_ofByte, .code yX1_ofByte cX1_ofByte 7 (some .int)] ++ (vx_at0 RX8 89 "java/util/NoSuchElementException" ["java/lang/RuntimeException", "java/lang/Exception"]).filter goodWord ++ (vx_at0 RX8 240 "java/lang/IllegalArgumentException" ["java/lang/RuntimeException", "java/lang/Exception"]).filter goodWord)
def wsL_sample_r1 : List Cond := [Cond.classLink RL 15 "java/lang/IllegalArgumentException", Cond.classLink RL 41 "java/lang/IllegalStateException", Cond.constant RL 23 (-900001), Cond.constant RL 26 (-900002), Cond.methodLink RL 37 yX8_sample, Cond.instanceMethod yX8_sample, Cond.selects RX8 yX8_sample yX8_sample, Cond.initialized RX8, Cond.code yX8_sample cX8_sample 2 (some .int), Cond.classLink RX8 98 "java/lang/IllegalStateException", Cond.initialized "java/lang/IllegalStateException", Cond.constantLong RX8 90 (-40), Cond.constantLong RX8 92 (40), Cond.fieldLink RX8 12 "Shingletrack" "channel" "LShingletrack$Channel;", Cond.methodLink RX8 53 yX8_checkRange, Cond.static yX8_checkRange, Cond.code yX8_checkRange cX8_checkRange 6 none, Cond.classLink RX8 238 "java/lang/IllegalArgumentException", Cond.initialized "java/lang/IllegalArgumentException", Cond.methodLink RX8 94 yX2_size, Cond.instanceMethod yX2_size, Cond.selects RX2 yX2_size yX2_size, Cond.initialized RX2, Cond.code yX2_size cX2_size 1 (some .int)]
def wsL_sample_r2 : List Cond := [Cond.fieldLink RX2 20 "Shingletrack$Channel" "samplesThere" "I", Cond.methodLink RX8 101 yX2_add, Cond.instanceMethod yX2_add, Cond.selects RX2 yX2_add yX2_add, Cond.code yX2_add cX2_add 2 (some .int), Cond.fieldLink RX2 14 "Shingletrack$Channel" "samples" "LShingletrack$Row;", Cond.methodLink RX2 36 yX4_put, Cond.instanceMethod yX4_put, Cond.selects RX4 yX4_put yX4_put, Cond.initialized RX4, Cond.code yX4_put cX4_put 4 none, Cond.fieldLink RX4 7 "Shingletrack$Row" "numbers" "[J"]
def wsL_sample : List Cond := .codeWith yL_sample cL_sample 3 (some .int) [(0, 5, 6, 15), (0, 5, 10, 41)] :: ((wsL_sample_r1 ++ wsL_sample_r2) ++ wsX80 ++ wsX20 ++ wsX40 ++ (vx_at0 RX8 100 "java/lang/IllegalStateException" ["java/lang/RuntimeException", "java/lang/Exception"]).filter goodWord ++ (vx_at0 RX8 240 "java/lang/IllegalArgumentException" ["java/lang/RuntimeException", "java/lang/Exception"]).filter goodWord)
def wsL_in : List Cond := .code yL_in cL_in 3 (some .int) :: ([.constant RL 49 (2147483647), .methodLink RL 43 yL_cell, .static yL_cell, .initialized RL, .code yL_cell cL_cell 3 (some .int), .constant RL 7 (69069), .constant RL 8 (1103515245)])
def wsL_product : List Cond := .code yL_product cL_product 5 (some .int) :: ([])
def wsL_nibble : List Cond := .code yL_nibble cL_nibble 3 (some .int) :: ([.constantLong RL 50 (15)])
def wsL_isWord : List Cond := .code yL_isWord cL_isWord 8 (some .boolean) :: ([.methodLink RL 52 yL_nibble, .static yL_nibble, .initialized RL, .code yL_nibble cL_nibble 3 (some .int), .constantLong RL 50 (15), .methodLink RL 55 yL_product, .static yL_product, .code yL_product cL_product 5 (some .int)])
def wsL_law0_r1 : List Cond := [Cond.classLink RL 10 RX8, Cond.instantiable RX8 8, Cond.initialized RX8, Cond.constant RL 59 (65536), Cond.constantLong RL 17 (-900001), Cond.constantLong RL 63 (-1), Cond.constant RL 23 (-900001), Cond.constantLong RL 78 (65535), Cond.constantLong RL 80 (5), Cond.constant RL 26 (-900002), Cond.arrayClass .int, Cond.constant RL 49 (2147483647), Cond.methodLink RL 58 yX8_init, Cond.instanceMethod yX8_init, Cond.code yX8_init cX8_init 1 none, Cond.methodLink RX8 3 objectInit, Cond.instanceMethod objectInit, Cond.code objectInit ⟨#[0xb1]⟩ 1 none, Cond.classLink RX8 9 RX2, Cond.instantiable RX2 6, Cond.initialized RX2, Cond.fieldLink RX8 12 "Shingletrack" "channel" "LShingletrack$Channel;", Cond.classLink RX8 16 RX0, Cond.instantiable RX0 3]
def wsL_law0_r2 : List Cond := [Cond.initialized RX0, Cond.fieldLink RX8 19 "Shingletrack" "buffer" "LShingletrack$Buffer;", Cond.classLink RX8 23 RX3, Cond.instantiable RX3 13, Cond.initialized RX3, Cond.fieldLink RX8 26 "Shingletrack" "platter" "LShingletrack$Platter;", Cond.classLink RX8 30 RX5, Cond.instantiable RX5 7, Cond.initialized RX5, Cond.fieldLink RX8 33 "Shingletrack" "seeks" "LShingletrack$Seeks;", Cond.fieldLink RX8 37 "Shingletrack" "shocked" "Z", Cond.fieldLink RX8 41 "Shingletrack" "warmth" "I", Cond.fieldLink RX8 45 "Shingletrack" "sectorsWritten" "I", Cond.fieldLink RX8 48 "Shingletrack" "readsAnswered" "I", Cond.instanceMethod yX2_init, Cond.code yX2_init cX2_init 1 none, Cond.methodLink RX2 3 objectInit, Cond.classLink RX2 9 RX4, Cond.instantiable RX4 1, Cond.initialized RX4, Cond.fieldLink RX2 14 "Shingletrack$Channel" "samples" "LShingletrack$Row;", Cond.fieldLink RX2 20 "Shingletrack$Channel" "samplesThere" "I", Cond.fieldLink RX2 24 "Shingletrack$Channel" "squares" "LShingletrack$Row;", Cond.fieldLink RX2 27 "Shingletrack$Channel" "numbers" "LShingletrack$Row;"]
def wsL_law0_r3 : List Cond := [Cond.fieldLink RX2 30 "Shingletrack$Channel" "nextSquares" "LShingletrack$Row;", Cond.fieldLink RX2 33 "Shingletrack$Channel" "nextNumbers" "LShingletrack$Row;", Cond.methodLink RX2 11 yX4_init, Cond.instanceMethod yX4_init, Cond.code yX4_init cX4_init 2 none, Cond.methodLink RX4 1 objectInit, Cond.arrayClass .long, Cond.fieldLink RX4 7 "Shingletrack$Row" "numbers" "[J", Cond.instanceMethod yX0_init, Cond.code yX0_init cX0_init 1 none, Cond.methodLink RX0 3 objectInit, Cond.classLink RX0 9 RX4, Cond.fieldLink RX0 14 "Shingletrack$Buffer" "sectors" "LShingletrack$Row;", Cond.fieldLink RX0 20 "Shingletrack$Buffer" "values" "LShingletrack$Row;", Cond.fieldLink RX0 23 "Shingletrack$Buffer" "sectorsThere" "I", Cond.methodLink RX0 11 yX4_init, Cond.methodLink RX8 25 yX3_init, Cond.instanceMethod yX3_init, Cond.code yX3_init cX3_init 1 none, Cond.methodLink RX3 3 objectInit, Cond.classLink RX3 9 RX6, Cond.instantiable RX6 2, Cond.initialized RX6, Cond.fieldLink RX3 12 "Shingletrack$Platter" "bandStore" "LShingletrack$Store;"]
def wsL_law0_r4 : List Cond := [Cond.fieldLink RX3 18 "Shingletrack$Platter" "zone" "LShingletrack$Store;", Cond.classLink RX3 21 RX4, Cond.fieldLink RX3 26 "Shingletrack$Platter" "ends" "LShingletrack$Row;", Cond.fieldLink RX3 30 "Shingletrack$Platter" "badPlaces" "LShingletrack$Row;", Cond.fieldLink RX3 33 "Shingletrack$Platter" "mappedPlaces" "LShingletrack$Row;", Cond.fieldLink RX3 36 "Shingletrack$Platter" "lostSectors" "LShingletrack$Row;", Cond.fieldLink RX3 39 "Shingletrack$Platter" "lastSent" "LShingletrack$Row;", Cond.fieldLink RX3 42 "Shingletrack$Platter" "harmedSectors" "LShingletrack$Row;", Cond.fieldLink RX3 45 "Shingletrack$Platter" "shakes" "Z", Cond.fieldLink RX3 49 "Shingletrack$Platter" "wordsWritten" "I", Cond.fieldLink RX3 53 "Shingletrack$Platter" "placesMended" "I", Cond.fieldLink RX3 56 "Shingletrack$Platter" "wordsLost" "I", Cond.fieldLink RX3 59 "Shingletrack$Platter" "cleanings" "I", Cond.constantLong RX3 62 (-1), Cond.methodLink RX3 11 yX6_init, Cond.instanceMethod yX6_init, Cond.code yX6_init cX6_init 1 none, Cond.methodLink RX6 3 objectInit, Cond.classLink RX6 9 RX4, Cond.fieldLink RX6 14 "Shingletrack$Store" "words" "LShingletrack$Row;", Cond.fieldLink RX6 20 "Shingletrack$Store" "weaks" "LShingletrack$Row;", Cond.constantLong RX6 23 (-1), Cond.methodLink RX6 11 yX4_init, Cond.methodLink RX6 25 yX4_fill]
def wsL_law0_r5 : List Cond := [Cond.instanceMethod yX4_fill, Cond.selects RX4 yX4_fill yX4_fill, Cond.code yX4_fill cX4_fill 4 none, Cond.methodLink RX3 23 yX4_init, Cond.methodLink RX3 64 yX4_fill, Cond.instanceMethod yX5_init, Cond.code yX5_init cX5_init 1 none, Cond.methodLink RX5 3 objectInit, Cond.classLink RX5 9 RX4, Cond.fieldLink RX5 14 "Shingletrack$Seeks" "sectors" "LShingletrack$Row;", Cond.fieldLink RX5 20 "Shingletrack$Seeks" "comings" "LShingletrack$Row;", Cond.fieldLink RX5 23 "Shingletrack$Seeks" "requestsThere" "I", Cond.fieldLink RX5 27 "Shingletrack$Seeks" "now" "I", Cond.fieldLink RX5 30 "Shingletrack$Seeks" "armTrack" "I", Cond.fieldLink RX5 33 "Shingletrack$Seeks" "ticksWaited" "I", Cond.fieldLink RX5 36 "Shingletrack$Seeks" "requestsServed" "I", Cond.methodLink RX5 11 yX4_init, Cond.methodLink RL 60 yL_word, Cond.static yL_word, Cond.initialized RL, Cond.codeWith yL_word cL_word 3 (some .long) [(0, 5, 6, 15)], Cond.classLink RL 15 "java/lang/IllegalArgumentException", Cond.methodLink RL 9 yX8_word, Cond.instanceMethod yX8_word]
def wsL_law0_r6 : List Cond := [Cond.selects RX8 yX8_word yX8_word, Cond.code yX8_word cX8_word 2 (some .long), Cond.constantLong RX8 51 (65535), Cond.methodLink RX8 53 yX8_checkRange, Cond.static yX8_checkRange, Cond.code yX8_checkRange cX8_checkRange 6 none, Cond.classLink RX8 238 "java/lang/IllegalArgumentException", Cond.initialized "java/lang/IllegalArgumentException", Cond.methodLink RX8 57 yX7_of, Cond.static yX7_of, Cond.initialized RX7, Cond.code yX7_of cX7_of 1 (some .long), Cond.methodLink RX7 9 yX7_sumsOf, Cond.static yX7_sumsOf, Cond.code yX7_sumsOf cX7_sumsOf 6 (some .int), Cond.methodLink RX7 37 yX7_times, Cond.static yX7_times, Cond.code yX7_times cX7_times 4 (some .int), Cond.methodLink RX7 21 yX7_nibble, Cond.static yX7_nibble, Cond.code yX7_nibble cX7_nibble 3 (some .int), Cond.methodLink RX7 15 yX7_filled, Cond.static yX7_filled, Cond.code yX7_filled cX7_filled 10 (some .long)]
def wsL_law0_r7 : List Cond := [Cond.methodLink RX7 31 yX7_sumsWithout, Cond.static yX7_sumsWithout, Cond.code yX7_sumsWithout cX7_sumsWithout 8 (some .int), Cond.constantLong RX7 46 (3160638497), Cond.methodLink RX7 40 yX7_quotient, Cond.static yX7_quotient, Cond.code yX7_quotient cX7_quotient 3 (some .int), Cond.methodLink RX7 43 yX7_turned, Cond.static yX7_turned, Cond.code yX7_turned cX7_turned 4 (some .long), Cond.methodLink RL 65 yL_mend, Cond.static yL_mend, Cond.codeWith yL_mend cL_mend 5 (some .int) [(0, 6, 7, 15), (0, 6, 12, 24)], Cond.classLink RL 24 "java/util/NoSuchElementException", Cond.methodLink RL 19 yX8_mend, Cond.instanceMethod yX8_mend, Cond.selects RX8 yX8_mend yX8_mend, Cond.code yX8_mend cX8_mend 4 (some .int), Cond.methodLink RX8 63 yX8_repairedOrThrow, Cond.static yX8_repairedOrThrow, Cond.code yX8_repairedOrThrow cX8_repairedOrThrow 5 (some .long), Cond.classLink RX8 87 "java/util/NoSuchElementException", Cond.initialized "java/util/NoSuchElementException", Cond.constantLong RX8 298 (4294967295)]
def wsL_law0_r8 : List Cond := [Cond.constantLong RX8 75 (255), Cond.constantLong RX8 303 (-1), Cond.methodLink RX8 300 yX7_repaired, Cond.static yX7_repaired, Cond.code yX7_repaired cX7_repaired 7 (some .long), Cond.constantLong RX7 35 (-1), Cond.methodLink RX7 25 yJ6_bitCount_0f7a4, Cond.static yJ6_bitCount_0f7a4, Cond.initialized RJ6, Cond.code yJ6_bitCount_0f7a4 cJ6_bitCount_0f7a4 1 (some .int), Cond.constant RJ6 265 (1431655765), Cond.constant RJ6 266 (858993459), Cond.constant RJ6 267 (252645135), Cond.methodLink RX8 67 yX7_valueOf, Cond.static yX7_valueOf, Cond.code yX7_valueOf cX7_valueOf 2 (some .int), Cond.constantLong RX7 19 (65535), Cond.methodLink RL 68 yL_mended, Cond.static yL_mended, Cond.codeWith yL_mended cL_mended 5 (some .int) [(0, 6, 7, 15), (0, 6, 12, 24)], Cond.methodLink RL 27 yX8_mended, Cond.instanceMethod yX8_mended, Cond.selects RX8 yX8_mended yX8_mended, Cond.code yX8_mended cX8_mended 4 (some .int)]
def wsL_law0_r9 : List Cond := [Cond.methodLink RX8 71 yX7_differences, Cond.static yX7_differences, Cond.code yX7_differences cX7_differences 6 (some .int), Cond.methodLink RL 70 yL_in, Cond.static yL_in, Cond.code yL_in cL_in 3 (some .int), Cond.methodLink RL 43 yL_cell, Cond.static yL_cell, Cond.code yL_cell cL_cell 3 (some .int), Cond.constant RL 7 (69069), Cond.constant RL 8 (1103515245), Cond.methodLink RL 74 yL_isWord, Cond.static yL_isWord, Cond.code yL_isWord cL_isWord 8 (some .boolean), Cond.methodLink RL 52 yL_nibble, Cond.static yL_nibble, Cond.code yL_nibble cL_nibble 3 (some .int), Cond.constantLong RL 50 (15), Cond.methodLink RL 55 yL_product, Cond.static yL_product, Cond.code yL_product cL_product 5 (some .int), Cond.methodLink RL 82 yL_encode, Cond.static yL_encode, Cond.codeWith yL_encode cL_encode 4 (some .int) [(0, 6, 7, 15)]]
def wsL_law0_r10 : List Cond := [Cond.methodLink RL 30 yX8_encode, Cond.instanceMethod yX8_encode, Cond.selects RX8 yX8_encode yX8_encode, Cond.code yX8_encode cX8_encode 3 (some .int), Cond.methodLink RX8 77 yX1_ofByte, Cond.static yX1_ofByte, Cond.initialized RX1, Cond.code yX1_ofByte cX1_ofByte 7 (some .int), Cond.methodLink RL 85 yL_decode, Cond.static yL_decode, Cond.codeWith yL_decode cL_decode 4 (some .int) [(0, 6, 7, 15), (0, 6, 11, 24)], Cond.methodLink RL 34 yX8_decode, Cond.instanceMethod yX8_decode, Cond.selects RX8 yX8_decode yX8_decode, Cond.code yX8_decode cX8_decode 4 (some .int), Cond.methodLink RX8 83 yX1_dataOf, Cond.static yX1_dataOf, Cond.code yX1_dataOf cX1_dataOf 3 (some .int), Cond.methodLink RL 87 yX8_guess, Cond.instanceMethod yX8_guess, Cond.selects RX8 yX8_guess yX8_guess, Cond.code yX8_guess cX8_guess 1 (some .int), Cond.methodLink RX8 104 yX2_bestCells, Cond.instanceMethod yX2_bestCells]
def wsL_law0_r11 : List Cond := [Cond.selects RX2 yX2_bestCells yX2_bestCells, Cond.code yX2_bestCells cX2_bestCells 3 (some .int), Cond.constantLong RX2 40 (1000000), Cond.methodLink RX2 42 yX4_fill, Cond.methodLink RX2 36 yX4_put, Cond.instanceMethod yX4_put, Cond.selects RX4 yX4_put yX4_put, Cond.code yX4_put cX4_put 4 none, Cond.methodLink RX2 46 yX4_at, Cond.instanceMethod yX4_at, Cond.selects RX4 yX4_at yX4_at, Cond.code yX4_at cX4_at 2 (some .long), Cond.methodLink RX2 50 yX2_goOn, Cond.instanceMethod yX2_goOn, Cond.selects RX2 yX2_goOn yX2_goOn, Cond.code yX2_goOn cX2_goOn 12 none, Cond.methodLink RX2 53 yX2_isBetter, Cond.static yX2_isBetter, Cond.code yX2_isBetter cX2_isBetter 8 (some .boolean), Cond.methodLink RX2 57 yX4_intAt, Cond.instanceMethod yX4_intAt, Cond.selects RX4 yX4_intAt yX4_intAt, Cond.code yX4_intAt cX4_intAt 2 (some .int), Cond.methodLink RX4 13 yX4_at]
def wsL_law0_r12 : List Cond := [Cond.methodLink RL 91 yL_sample, Cond.static yL_sample, Cond.codeWith yL_sample cL_sample 3 (some .int) [(0, 5, 6, 15), (0, 5, 10, 41)], Cond.classLink RL 41 "java/lang/IllegalStateException", Cond.methodLink RL 37 yX8_sample, Cond.instanceMethod yX8_sample, Cond.selects RX8 yX8_sample yX8_sample, Cond.code yX8_sample cX8_sample 2 (some .int), Cond.classLink RX8 98 "java/lang/IllegalStateException", Cond.initialized "java/lang/IllegalStateException", Cond.constantLong RX8 90 (-40), Cond.constantLong RX8 92 (40), Cond.methodLink RX8 94 yX2_size, Cond.instanceMethod yX2_size, Cond.selects RX2 yX2_size yX2_size, Cond.code yX2_size cX2_size 1 (some .int), Cond.methodLink RX8 101 yX2_add, Cond.instanceMethod yX2_add, Cond.selects RX2 yX2_add yX2_add, Cond.code yX2_add cX2_add 2 (some .int), Cond.methodLink RL 96 yX8_isSound, Cond.instanceMethod yX8_isSound, Cond.selects RX8 yX8_isSound yX8_isSound, Cond.code yX8_isSound cX8_isSound 1 (some .boolean)]
def wsL_law0_r13 : List Cond := [Cond.methodLink RX8 286 yX3_keepsWhatWasSent, Cond.instanceMethod yX3_keepsWhatWasSent, Cond.selects RX3 yX3_keepsWhatWasSent yX3_keepsWhatWasSent, Cond.code yX3_keepsWhatWasSent cX3_keepsWhatWasSent 3 (some .boolean), Cond.methodLink RX3 145 yX4_at, Cond.methodLink RX3 80 yX4_isSet, Cond.instanceMethod yX4_isSet, Cond.selects RX4 yX4_isSet yX4_isSet, Cond.code yX4_isSet cX4_isSet 2 (some .boolean), Cond.methodLink RX3 148 yX3_tellsWhatWasSent, Cond.instanceMethod yX3_tellsWhatWasSent, Cond.selects RX3 yX3_tellsWhatWasSent yX3_tellsWhatWasSent, Cond.code yX3_tellsWhatWasSent cX3_tellsWhatWasSent 5 (some .boolean), Cond.methodLink RX3 121 yX3_newestStore, Cond.instanceMethod yX3_newestStore, Cond.selects RX3 yX3_newestStore yX3_newestStore, Cond.code yX3_newestStore cX3_newestStore 2 (some (.object "Shingletrack$Store")), Cond.methodLink RX3 76 yX6_has, Cond.instanceMethod yX6_has, Cond.selects RX6 yX6_has yX6_has, Cond.code yX6_has cX6_has 2 (some .boolean), Cond.methodLink RX6 29 yX4_at, Cond.methodLink RX3 125 yX6_wordOf, Cond.instanceMethod yX6_wordOf]
def wsL_law0_r14 : List Cond := [Cond.selects RX6 yX6_wordOf yX6_wordOf, Cond.code yX6_wordOf cX6_wordOf 2 (some .long), Cond.methodLink RX3 128 yX6_weakOf, Cond.instanceMethod yX6_weakOf, Cond.selects RX6 yX6_weakOf yX6_weakOf, Cond.code yX6_weakOf cX6_weakOf 2 (some .int), Cond.methodLink RX6 33 yX4_intAt, Cond.methodLink RX3 131 yX7_repaired, Cond.methodLink RX3 151 yX7_valueOf, Cond.methodLink RX8 289 yX3_endsHold, Cond.instanceMethod yX3_endsHold, Cond.selects RX3 yX3_endsHold yX3_endsHold, Cond.code yX3_endsHold cX3_endsHold 2 (some .boolean), Cond.methodLink RX3 155 yX3_endOf, Cond.instanceMethod yX3_endOf, Cond.selects RX3 yX3_endOf yX3_endOf, Cond.code yX3_endOf cX3_endOf 2 (some .int), Cond.methodLink RX3 68 yX4_intAt, Cond.methodLink RX8 292 yX0_holdsEachOnce, Cond.instanceMethod yX0_holdsEachOnce, Cond.selects RX0 yX0_holdsEachOnce yX0_holdsEachOnce, Cond.code yX0_holdsEachOnce cX0_holdsEachOnce 2 (some .boolean), Cond.methodLink RX0 31 yX4_intAt, Cond.methodLink RX0 27 yX0_indexOf]
def wsL_law0_r15 : List Cond := [Cond.instanceMethod yX0_indexOf, Cond.selects RX0 yX0_indexOf yX0_indexOf, Cond.code yX0_indexOf cX0_indexOf 3 (some .int), Cond.methodLink RX0 41 yX4_at, Cond.methodLink RX8 155 yX6_size, Cond.instanceMethod yX6_size, Cond.selects RX6 yX6_size yX6_size, Cond.code yX6_size cX6_size 3 (some .int), Cond.methodLink RX6 42 yX6_has]
def wsL_law0 : List Cond := (wsL_law0_r1 ++ (wsL_law0_r2 ++ (wsL_law0_r3 ++ (wsL_law0_r4 ++ (wsL_law0_r5 ++ (wsL_law0_r6 ++ (wsL_law0_r7 ++ (wsL_law0_r8 ++ (wsL_law0_r9 ++ (wsL_law0_r10 ++ (wsL_law0_r11 ++ (wsL_law0_r12 ++ (wsL_law0_r13 ++ (wsL_law0_r14 ++ wsL_law0_r15)))))))))))))) ++ wsX80 ++ wsX20 ++ wsX00 ++ wsX30 ++ wsX50 ++ wsX40 ++ wsX60 ++ ([] : List Cond)
def wsL_law : List Cond := wsL_law0 ++ (vx_at0 RX8 240 "java/lang/IllegalArgumentException" ["java/lang/RuntimeException", "java/lang/Exception"]).filter goodWord ++ (vx_at0 RX8 89 "java/util/NoSuchElementException" ["java/lang/RuntimeException", "java/lang/Exception"]).filter goodWord ++ (vx_at0 RX8 100 "java/lang/IllegalStateException" ["java/lang/RuntimeException", "java/lang/Exception"]).filter goodWord
set_option maxRecDepth 20000 in
theorem wsL_law_in0 : ∀ w ∈ wsL_law0, w ∈ lw_tbl := fun w h => (goodIn_p wsL_law0 [25, 28, 33, 39, 69, 87, 93, 101, 158, 341, 345, 411, 279, 282, 285, 298, 294, 301, 304, 420, 423, 276, 288, 308, 452, 455, 511, 514, 520, 523, 527, 462, 465, 472, 475, 212, 216, 222, 226, 230, 233, 237, 483, 489, 508, 242, 246, 251, 255, 259, 263, 268, 272, 313, 317, 322, 327, 332] (by decide +kernel) (by decide +kernel) w h).1
theorem wsL_law_x0 : ∀ w ∈ (vx_at0 RX8 240 "java/lang/IllegalArgumentException" ["java/lang/RuntimeException", "java/lang/Exception"]).filter goodWord, w ∈ lw_tbl := by decide +kernel
theorem wsL_law_x1 : ∀ w ∈ (vx_at0 RX8 89 "java/util/NoSuchElementException" ["java/lang/RuntimeException", "java/lang/Exception"]).filter goodWord, w ∈ lw_tbl := by decide +kernel
theorem wsL_law_x2 : ∀ w ∈ (vx_at0 RX8 100 "java/lang/IllegalStateException" ["java/lang/RuntimeException", "java/lang/Exception"]).filter goodWord, w ∈ lw_tbl := by decide +kernel
theorem wsL_law_in : ∀ w ∈ wsL_law, w ∈ lw_tbl := fun w h => (List.mem_append.mp h).elim (fun h => (List.mem_append.mp h).elim (fun h => (List.mem_append.mp h).elim (fun h => wsL_law_in0 w h) (fun h => wsL_law_x0 w h)) (fun h => wsL_law_x1 w h)) (fun h => wsL_law_x2 w h)
theorem inlX0 : ∀ w ∈ wsX00, w ∈ wsL_law := fun _ h => List.mem_append_left _ (List.mem_append_left _ (List.mem_append_left _ (List.mem_append_left _ (List.mem_append_left _ (List.mem_append_left _ (List.mem_append_left _ (List.mem_append_left _ (List.mem_append_right _ h))))))))
theorem inX0 : ∀ w ∈ wsX00, w ∈ lw_tbl := fun w h => wsL_law_in w (inlX0 w h)
theorem inX1 : ∀ w ∈ wsX10, w ∈ lw_tbl := by decide +kernel
theorem inlX2 : ∀ w ∈ wsX20, w ∈ wsL_law := fun _ h => List.mem_append_left _ (List.mem_append_left _ (List.mem_append_left _ (List.mem_append_left _ (List.mem_append_left _ (List.mem_append_left _ (List.mem_append_left _ (List.mem_append_left _ (List.mem_append_left _ (List.mem_append_right _ h)))))))))
theorem inX2 : ∀ w ∈ wsX20, w ∈ lw_tbl := fun w h => wsL_law_in w (inlX2 w h)
theorem inlX3 : ∀ w ∈ wsX30, w ∈ wsL_law := fun _ h => List.mem_append_left _ (List.mem_append_left _ (List.mem_append_left _ (List.mem_append_left _ (List.mem_append_left _ (List.mem_append_left _ (List.mem_append_left _ (List.mem_append_right _ h)))))))
theorem inX3 : ∀ w ∈ wsX30, w ∈ lw_tbl := fun w h => wsL_law_in w (inlX3 w h)
theorem inlX4 : ∀ w ∈ wsX40, w ∈ wsL_law := fun _ h => List.mem_append_left _ (List.mem_append_left _ (List.mem_append_left _ (List.mem_append_left _ (List.mem_append_left _ (List.mem_append_right _ h)))))
theorem inX4 : ∀ w ∈ wsX40, w ∈ lw_tbl := fun w h => wsL_law_in w (inlX4 w h)
theorem inlX5 : ∀ w ∈ wsX50, w ∈ wsL_law := fun _ h => List.mem_append_left _ (List.mem_append_left _ (List.mem_append_left _ (List.mem_append_left _ (List.mem_append_left _ (List.mem_append_left _ (List.mem_append_right _ h))))))
theorem inX5 : ∀ w ∈ wsX50, w ∈ lw_tbl := fun w h => wsL_law_in w (inlX5 w h)
theorem inlX6 : ∀ w ∈ wsX60, w ∈ wsL_law := fun _ h => List.mem_append_left _ (List.mem_append_left _ (List.mem_append_left _ (List.mem_append_left _ (List.mem_append_right _ h))))
theorem inX6 : ∀ w ∈ wsX60, w ∈ lw_tbl := fun w h => wsL_law_in w (inlX6 w h)
theorem inX7 : ∀ w ∈ wsX70, w ∈ lw_tbl := by decide +kernel
theorem inlX8 : ∀ w ∈ wsX80, w ∈ wsL_law := fun _ h => List.mem_append_left _ (List.mem_append_left _ (List.mem_append_left _ (List.mem_append_left _ (List.mem_append_left _ (List.mem_append_left _ (List.mem_append_left _ (List.mem_append_left _ (List.mem_append_left _ (List.mem_append_left _ (List.mem_append_right _ h))))))))))
theorem inX8 : ∀ w ∈ wsX80, w ∈ lw_tbl := fun w h => wsL_law_in w (inlX8 w h)
theorem inX9 : ∀ w ∈ wsX90, w ∈ lw_tbl := by decide +kernel
theorem inJx145de : ∀ w ∈ wsJx145de0, w ∈ lw_tbl := by decide +kernel
theorem inJ6 : ∀ w ∈ wsJ60, w ∈ lw_tbl := by decide +kernel
set_option maxRecDepth 20000 in
theorem ggX0_init_X4_init : GoodIn wsX0_init wsX4_init := goodIn_r _ [12, 13, 2, 3, 14, 15, 16] (by decide +kernel) (by decide +kernel)
set_option maxRecDepth 20000 in
theorem gX0_init_X4_init : GoodIn wsX0_init (wsX4_init) := ggX0_init_X4_init
theorem dX0_init_0 : decode cX0_init 0 = .ok (.aload_n 0, 1) := by decide +kernel
theorem dX0_init_1 : decode cX0_init 1 = .ok (.invokespecial 3, 3) := by decide +kernel
theorem dX0_init_4 : decode cX0_init 4 = .ok (.aload_n 0, 1) := by decide +kernel
theorem dX0_init_5 : decode cX0_init 5 = .ok (.new 9, 3) := by decide +kernel
theorem dX0_init_8 : decode cX0_init 8 = .ok (.dup, 1) := by decide +kernel
theorem dX0_init_9 : decode cX0_init 9 = .ok (.bipush 6, 2) := by decide +kernel
theorem dX0_init_11 : decode cX0_init 11 = .ok (.invokespecial 11, 3) := by decide +kernel
theorem dX0_init_14 : decode cX0_init 14 = .ok (.putfield 14, 3) := by decide +kernel
theorem dX0_init_17 : decode cX0_init 17 = .ok (.aload_n 0, 1) := by decide +kernel
theorem dX0_init_18 : decode cX0_init 18 = .ok (.new 9, 3) := by decide +kernel
theorem dX0_init_21 : decode cX0_init 21 = .ok (.dup, 1) := by decide +kernel
theorem dX0_init_22 : decode cX0_init 22 = .ok (.bipush 6, 2) := by decide +kernel
theorem dX0_init_24 : decode cX0_init 24 = .ok (.invokespecial 11, 3) := by decide +kernel
theorem dX0_init_27 : decode cX0_init 27 = .ok (.putfield 20, 3) := by decide +kernel
theorem dX0_init_30 : decode cX0_init 30 = .ok (.aload_n 0, 1) := by decide +kernel
theorem dX0_init_31 : decode cX0_init 31 = .ok (.iconst 0, 1) := by decide +kernel
theorem dX0_init_32 : decode cX0_init 32 = .ok (.putfield 23, 3) := by decide +kernel
theorem dX0_init_35 : decode cX0_init 35 = .ok (.return_, 1) := by decide +kernel
set_option maxRecDepth 20000 in
theorem ggX0_holdsEachOnce_X4_intAt : GoodIn wsX0_holdsEachOnce wsX4_intAt := goodIn_r _ [7, 8, 9, 10, 6, 11, 12, 22] (by decide +kernel) (by decide +kernel)
set_option maxRecDepth 20000 in
theorem gX0_holdsEachOnce_X4_intAt : GoodIn wsX0_holdsEachOnce (wsV RX0 31 RX4 yX4_intAt wsX4_intAt) := goodIn_app (goodIn_of _ (by decide +kernel)) ggX0_holdsEachOnce_X4_intAt
set_option maxRecDepth 20000 in
theorem ggX0_holdsEachOnce_X0_indexOf : GoodIn wsX0_holdsEachOnce wsX0_indexOf := goodIn_r _ [17, 1, 2, 18, 9, 10, 6, 11, 12, 19, 20, 21, 22] (by decide +kernel) (by decide +kernel)
set_option maxRecDepth 20000 in
theorem gX0_holdsEachOnce_X0_indexOf : GoodIn wsX0_holdsEachOnce (wsV RX0 27 RX0 yX0_indexOf wsX0_indexOf) := goodIn_app (goodIn_of _ (by decide +kernel)) ggX0_holdsEachOnce_X0_indexOf
theorem dX0_holdsEachOnce_0 : decode cX0_holdsEachOnce 0 = .ok (.iconst 0, 1) := by decide +kernel
theorem dX0_holdsEachOnce_1 : decode cX0_holdsEachOnce 1 = .ok (.istore_n 1, 1) := by decide +kernel
theorem dX0_holdsEachOnce_2 : decode cX0_holdsEachOnce 2 = .ok (.iload_n 1, 1) := by decide +kernel
theorem dX0_holdsEachOnce_3 : decode cX0_holdsEachOnce 3 = .ok (.aload_n 0, 1) := by decide +kernel
theorem dX0_holdsEachOnce_4 : decode cX0_holdsEachOnce 4 = .ok (.getfield 23, 3) := by decide +kernel
theorem dX0_holdsEachOnce_7 : decode cX0_holdsEachOnce 7 = .ok (.if_icmp .ge 27, 3) := by decide +kernel
theorem dX0_holdsEachOnce_10 : decode cX0_holdsEachOnce 10 = .ok (.aload_n 0, 1) := by decide +kernel
theorem dX0_holdsEachOnce_11 : decode cX0_holdsEachOnce 11 = .ok (.aload_n 0, 1) := by decide +kernel
theorem dX0_holdsEachOnce_12 : decode cX0_holdsEachOnce 12 = .ok (.getfield 14, 3) := by decide +kernel
theorem dX0_holdsEachOnce_15 : decode cX0_holdsEachOnce 15 = .ok (.iload_n 1, 1) := by decide +kernel
theorem dX0_holdsEachOnce_16 : decode cX0_holdsEachOnce 16 = .ok (.invokevirtual 31, 3) := by decide +kernel
theorem dX0_holdsEachOnce_19 : decode cX0_holdsEachOnce 19 = .ok (.invokevirtual 27, 3) := by decide +kernel
theorem dX0_holdsEachOnce_22 : decode cX0_holdsEachOnce 22 = .ok (.iload_n 1, 1) := by decide +kernel
theorem dX0_holdsEachOnce_23 : decode cX0_holdsEachOnce 23 = .ok (.if_icmp .eq 5, 3) := by decide +kernel
theorem dX0_holdsEachOnce_26 : decode cX0_holdsEachOnce 26 = .ok (.iconst 0, 1) := by decide +kernel
theorem dX0_holdsEachOnce_27 : decode cX0_holdsEachOnce 27 = .ok (.ireturn, 1) := by decide +kernel
theorem dX0_holdsEachOnce_28 : decode cX0_holdsEachOnce 28 = .ok (.iinc 1 1, 3) := by decide +kernel
theorem dX0_holdsEachOnce_31 : decode cX0_holdsEachOnce 31 = .ok (.goto (-29), 3) := by decide +kernel
theorem dX0_holdsEachOnce_34 : decode cX0_holdsEachOnce 34 = .ok (.iconst 1, 1) := by decide +kernel
theorem dX0_holdsEachOnce_35 : decode cX0_holdsEachOnce 35 = .ok (.ireturn, 1) := by decide +kernel
set_option maxRecDepth 20000 in
theorem ggX0_indexOf_X4_at : GoodIn wsX0_indexOf wsX4_at := goodIn_r _ [7, 8, 12] (by decide +kernel) (by decide +kernel)
set_option maxRecDepth 20000 in
theorem gX0_indexOf_X4_at : GoodIn wsX0_indexOf (wsV RX0 41 RX4 yX4_at wsX4_at) := goodIn_app (goodIn_of _ (by decide +kernel)) ggX0_indexOf_X4_at
theorem dX0_indexOf_0 : decode cX0_indexOf 0 = .ok (.iconst 0, 1) := by decide +kernel
theorem dX0_indexOf_1 : decode cX0_indexOf 1 = .ok (.istore_n 2, 1) := by decide +kernel
theorem dX0_indexOf_2 : decode cX0_indexOf 2 = .ok (.iload_n 2, 1) := by decide +kernel
theorem dX0_indexOf_3 : decode cX0_indexOf 3 = .ok (.aload_n 0, 1) := by decide +kernel
theorem dX0_indexOf_4 : decode cX0_indexOf 4 = .ok (.getfield 23, 3) := by decide +kernel
theorem dX0_indexOf_7 : decode cX0_indexOf 7 = .ok (.if_icmp .ge 25, 3) := by decide +kernel
theorem dX0_indexOf_10 : decode cX0_indexOf 10 = .ok (.aload_n 0, 1) := by decide +kernel
theorem dX0_indexOf_11 : decode cX0_indexOf 11 = .ok (.getfield 14, 3) := by decide +kernel
theorem dX0_indexOf_14 : decode cX0_indexOf 14 = .ok (.iload_n 2, 1) := by decide +kernel
theorem dX0_indexOf_15 : decode cX0_indexOf 15 = .ok (.invokevirtual 41, 3) := by decide +kernel
theorem dX0_indexOf_18 : decode cX0_indexOf 18 = .ok (.iload_n 1, 1) := by decide +kernel
theorem dX0_indexOf_19 : decode cX0_indexOf 19 = .ok (.i2l, 1) := by decide +kernel
theorem dX0_indexOf_20 : decode cX0_indexOf 20 = .ok (.lcmp, 1) := by decide +kernel
theorem dX0_indexOf_21 : decode cX0_indexOf 21 = .ok (.ifCond .ne 5, 3) := by decide +kernel
theorem dX0_indexOf_24 : decode cX0_indexOf 24 = .ok (.iload_n 2, 1) := by decide +kernel
theorem dX0_indexOf_25 : decode cX0_indexOf 25 = .ok (.ireturn, 1) := by decide +kernel
theorem dX0_indexOf_26 : decode cX0_indexOf 26 = .ok (.iinc 2 1, 3) := by decide +kernel
theorem dX0_indexOf_29 : decode cX0_indexOf 29 = .ok (.goto (-27), 3) := by decide +kernel
theorem dX0_indexOf_32 : decode cX0_indexOf 32 = .ok (.aload_n 0, 1) := by decide +kernel
theorem dX0_indexOf_33 : decode cX0_indexOf 33 = .ok (.getfield 23, 3) := by decide +kernel
theorem dX0_indexOf_36 : decode cX0_indexOf 36 = .ok (.ireturn, 1) := by decide +kernel
theorem dX1_ofByte_0 : decode cX1_ofByte 0 = .ok (.iconst 0, 1) := by decide +kernel
theorem dX1_ofByte_1 : decode cX1_ofByte 1 = .ok (.istore_n 2, 1) := by decide +kernel
theorem dX1_ofByte_2 : decode cX1_ofByte 2 = .ok (.iload_n 1, 1) := by decide +kernel
theorem dX1_ofByte_3 : decode cX1_ofByte 3 = .ok (.istore_n 3, 1) := by decide +kernel
theorem dX1_ofByte_4 : decode cX1_ofByte 4 = .ok (.bipush 7, 2) := by decide +kernel
theorem dX1_ofByte_6 : decode cX1_ofByte 6 = .ok (.istore 4, 2) := by decide +kernel
theorem dX1_ofByte_8 : decode cX1_ofByte 8 = .ok (.iload 4, 2) := by decide +kernel
theorem dX1_ofByte_10 : decode cX1_ofByte 10 = .ok (.ifCond .lt 48, 3) := by decide +kernel
theorem dX1_ofByte_13 : decode cX1_ofByte 13 = .ok (.iload_n 0, 1) := by decide +kernel
theorem dX1_ofByte_14 : decode cX1_ofByte 14 = .ok (.iload 4, 2) := by decide +kernel
theorem dX1_ofByte_16 : decode cX1_ofByte 16 = .ok (.ishr, 1) := by decide +kernel
theorem dX1_ofByte_17 : decode cX1_ofByte 17 = .ok (.iconst 1, 1) := by decide +kernel
theorem dX1_ofByte_18 : decode cX1_ofByte 18 = .ok (.iand, 1) := by decide +kernel
theorem dX1_ofByte_19 : decode cX1_ofByte 19 = .ok (.istore 5, 2) := by decide +kernel
theorem dX1_ofByte_21 : decode cX1_ofByte 21 = .ok (.iload_n 3, 1) := by decide +kernel
theorem dX1_ofByte_22 : decode cX1_ofByte 22 = .ok (.ifCond .ne 12, 3) := by decide +kernel
theorem dX1_ofByte_25 : decode cX1_ofByte 25 = .ok (.iload 5, 2) := by decide +kernel
theorem dX1_ofByte_27 : decode cX1_ofByte 27 = .ok (.ifCond .ne 7, 3) := by decide +kernel
theorem dX1_ofByte_30 : decode cX1_ofByte 30 = .ok (.iconst 1, 1) := by decide +kernel
theorem dX1_ofByte_31 : decode cX1_ofByte 31 = .ok (.goto 4, 3) := by decide +kernel
theorem dX1_ofByte_34 : decode cX1_ofByte 34 = .ok (.iconst 0, 1) := by decide +kernel
theorem dX1_ofByte_35 : decode cX1_ofByte 35 = .ok (.istore 6, 2) := by decide +kernel
theorem dX1_ofByte_37 : decode cX1_ofByte 37 = .ok (.iload_n 2, 1) := by decide +kernel
theorem dX1_ofByte_38 : decode cX1_ofByte 38 = .ok (.iconst 2, 1) := by decide +kernel
theorem dX1_ofByte_39 : decode cX1_ofByte 39 = .ok (.ishl, 1) := by decide +kernel
theorem dX1_ofByte_40 : decode cX1_ofByte 40 = .ok (.iload 6, 2) := by decide +kernel
theorem dX1_ofByte_42 : decode cX1_ofByte 42 = .ok (.iconst 1, 1) := by decide +kernel
theorem dX1_ofByte_43 : decode cX1_ofByte 43 = .ok (.ishl, 1) := by decide +kernel
theorem dX1_ofByte_44 : decode cX1_ofByte 44 = .ok (.ior, 1) := by decide +kernel
theorem dX1_ofByte_45 : decode cX1_ofByte 45 = .ok (.iload 5, 2) := by decide +kernel
theorem dX1_ofByte_47 : decode cX1_ofByte 47 = .ok (.ior, 1) := by decide +kernel
theorem dX1_ofByte_48 : decode cX1_ofByte 48 = .ok (.istore_n 2, 1) := by decide +kernel
theorem dX1_ofByte_49 : decode cX1_ofByte 49 = .ok (.iload 5, 2) := by decide +kernel
theorem dX1_ofByte_51 : decode cX1_ofByte 51 = .ok (.istore_n 3, 1) := by decide +kernel
theorem dX1_ofByte_52 : decode cX1_ofByte 52 = .ok (.iinc 4 (-1), 3) := by decide +kernel
theorem dX1_ofByte_55 : decode cX1_ofByte 55 = .ok (.goto (-47), 3) := by decide +kernel
theorem dX1_ofByte_58 : decode cX1_ofByte 58 = .ok (.iload_n 2, 1) := by decide +kernel
theorem dX1_ofByte_59 : decode cX1_ofByte 59 = .ok (.ireturn, 1) := by decide +kernel
theorem dX1_dataOf_0 : decode cX1_dataOf 0 = .ok (.iconst 0, 1) := by decide +kernel
theorem dX1_dataOf_1 : decode cX1_dataOf 1 = .ok (.istore_n 1, 1) := by decide +kernel
theorem dX1_dataOf_2 : decode cX1_dataOf 2 = .ok (.bipush 7, 2) := by decide +kernel
theorem dX1_dataOf_4 : decode cX1_dataOf 4 = .ok (.istore_n 2, 1) := by decide +kernel
theorem dX1_dataOf_5 : decode cX1_dataOf 5 = .ok (.iload_n 2, 1) := by decide +kernel
theorem dX1_dataOf_6 : decode cX1_dataOf 6 = .ok (.ifCond .lt 21, 3) := by decide +kernel
theorem dX1_dataOf_9 : decode cX1_dataOf 9 = .ok (.iload_n 1, 1) := by decide +kernel
theorem dX1_dataOf_10 : decode cX1_dataOf 10 = .ok (.iconst 1, 1) := by decide +kernel
theorem dX1_dataOf_11 : decode cX1_dataOf 11 = .ok (.ishl, 1) := by decide +kernel
theorem dX1_dataOf_12 : decode cX1_dataOf 12 = .ok (.iload_n 0, 1) := by decide +kernel
theorem dX1_dataOf_13 : decode cX1_dataOf 13 = .ok (.iconst 2, 1) := by decide +kernel
theorem dX1_dataOf_14 : decode cX1_dataOf 14 = .ok (.iload_n 2, 1) := by decide +kernel
theorem dX1_dataOf_15 : decode cX1_dataOf 15 = .ok (.imul, 1) := by decide +kernel
theorem dX1_dataOf_16 : decode cX1_dataOf 16 = .ok (.ishr, 1) := by decide +kernel
theorem dX1_dataOf_17 : decode cX1_dataOf 17 = .ok (.iconst 1, 1) := by decide +kernel
theorem dX1_dataOf_18 : decode cX1_dataOf 18 = .ok (.iand, 1) := by decide +kernel
theorem dX1_dataOf_19 : decode cX1_dataOf 19 = .ok (.ior, 1) := by decide +kernel
theorem dX1_dataOf_20 : decode cX1_dataOf 20 = .ok (.istore_n 1, 1) := by decide +kernel
theorem dX1_dataOf_21 : decode cX1_dataOf 21 = .ok (.iinc 2 (-1), 3) := by decide +kernel
theorem dX1_dataOf_24 : decode cX1_dataOf 24 = .ok (.goto (-19), 3) := by decide +kernel
theorem dX1_dataOf_27 : decode cX1_dataOf 27 = .ok (.iload_n 1, 1) := by decide +kernel
theorem dX1_dataOf_28 : decode cX1_dataOf 28 = .ok (.ireturn, 1) := by decide +kernel
set_option maxRecDepth 20000 in
theorem ggX2_init_X4_init : GoodIn wsX2_init wsX4_init := goodIn_r _ [15, 16, 2, 3, 17, 18, 19] (by decide +kernel) (by decide +kernel)
set_option maxRecDepth 20000 in
theorem gX2_init_X4_init : GoodIn wsX2_init (wsX4_init) := ggX2_init_X4_init
theorem dX2_init_0 : decode cX2_init 0 = .ok (.aload_n 0, 1) := by decide +kernel
theorem dX2_init_1 : decode cX2_init 1 = .ok (.invokespecial 3, 3) := by decide +kernel
theorem dX2_init_4 : decode cX2_init 4 = .ok (.aload_n 0, 1) := by decide +kernel
theorem dX2_init_5 : decode cX2_init 5 = .ok (.new 9, 3) := by decide +kernel
theorem dX2_init_8 : decode cX2_init 8 = .ok (.dup, 1) := by decide +kernel
theorem dX2_init_9 : decode cX2_init 9 = .ok (.bipush 12, 2) := by decide +kernel
theorem dX2_init_11 : decode cX2_init 11 = .ok (.invokespecial 11, 3) := by decide +kernel
theorem dX2_init_14 : decode cX2_init 14 = .ok (.putfield 14, 3) := by decide +kernel
theorem dX2_init_17 : decode cX2_init 17 = .ok (.aload_n 0, 1) := by decide +kernel
theorem dX2_init_18 : decode cX2_init 18 = .ok (.iconst 0, 1) := by decide +kernel
theorem dX2_init_19 : decode cX2_init 19 = .ok (.putfield 20, 3) := by decide +kernel
theorem dX2_init_22 : decode cX2_init 22 = .ok (.aload_n 0, 1) := by decide +kernel
theorem dX2_init_23 : decode cX2_init 23 = .ok (.new 9, 3) := by decide +kernel
theorem dX2_init_26 : decode cX2_init 26 = .ok (.dup, 1) := by decide +kernel
theorem dX2_init_27 : decode cX2_init 27 = .ok (.iconst 4, 1) := by decide +kernel
theorem dX2_init_28 : decode cX2_init 28 = .ok (.invokespecial 11, 3) := by decide +kernel
theorem dX2_init_31 : decode cX2_init 31 = .ok (.putfield 24, 3) := by decide +kernel
theorem dX2_init_34 : decode cX2_init 34 = .ok (.aload_n 0, 1) := by decide +kernel
theorem dX2_init_35 : decode cX2_init 35 = .ok (.new 9, 3) := by decide +kernel
theorem dX2_init_38 : decode cX2_init 38 = .ok (.dup, 1) := by decide +kernel
theorem dX2_init_39 : decode cX2_init 39 = .ok (.iconst 4, 1) := by decide +kernel
theorem dX2_init_40 : decode cX2_init 40 = .ok (.invokespecial 11, 3) := by decide +kernel
theorem dX2_init_43 : decode cX2_init 43 = .ok (.putfield 27, 3) := by decide +kernel
theorem dX2_init_46 : decode cX2_init 46 = .ok (.aload_n 0, 1) := by decide +kernel
theorem dX2_init_47 : decode cX2_init 47 = .ok (.new 9, 3) := by decide +kernel
theorem dX2_init_50 : decode cX2_init 50 = .ok (.dup, 1) := by decide +kernel
theorem dX2_init_51 : decode cX2_init 51 = .ok (.iconst 4, 1) := by decide +kernel
theorem dX2_init_52 : decode cX2_init 52 = .ok (.invokespecial 11, 3) := by decide +kernel
theorem dX2_init_55 : decode cX2_init 55 = .ok (.putfield 30, 3) := by decide +kernel
theorem dX2_init_58 : decode cX2_init 58 = .ok (.aload_n 0, 1) := by decide +kernel
theorem dX2_init_59 : decode cX2_init 59 = .ok (.new 9, 3) := by decide +kernel
theorem dX2_init_62 : decode cX2_init 62 = .ok (.dup, 1) := by decide +kernel
theorem dX2_init_63 : decode cX2_init 63 = .ok (.iconst 4, 1) := by decide +kernel
theorem dX2_init_64 : decode cX2_init 64 = .ok (.invokespecial 11, 3) := by decide +kernel
theorem dX2_init_67 : decode cX2_init 67 = .ok (.putfield 33, 3) := by decide +kernel
theorem dX2_init_70 : decode cX2_init 70 = .ok (.return_, 1) := by decide +kernel
theorem dX2_size_0 : decode cX2_size 0 = .ok (.aload_n 0, 1) := by decide +kernel
theorem dX2_size_1 : decode cX2_size 1 = .ok (.getfield 20, 3) := by decide +kernel
theorem dX2_size_4 : decode cX2_size 4 = .ok (.ireturn, 1) := by decide +kernel
set_option maxRecDepth 20000 in
theorem ggX2_add_X4_put : GoodIn wsX2_add wsX4_put := goodIn_r _ [7, 8, 15] (by decide +kernel) (by decide +kernel)
set_option maxRecDepth 20000 in
theorem gX2_add_X4_put : GoodIn wsX2_add (wsV RX2 36 RX4 yX4_put wsX4_put) := goodIn_app (goodIn_of _ (by decide +kernel)) ggX2_add_X4_put
theorem dX2_add_0 : decode cX2_add 0 = .ok (.aload_n 0, 1) := by decide +kernel
theorem dX2_add_1 : decode cX2_add 1 = .ok (.getfield 14, 3) := by decide +kernel
theorem dX2_add_4 : decode cX2_add 4 = .ok (.aload_n 0, 1) := by decide +kernel
theorem dX2_add_5 : decode cX2_add 5 = .ok (.getfield 20, 3) := by decide +kernel
theorem dX2_add_8 : decode cX2_add 8 = .ok (.iload_n 1, 1) := by decide +kernel
theorem dX2_add_9 : decode cX2_add 9 = .ok (.i2l, 1) := by decide +kernel
theorem dX2_add_10 : decode cX2_add 10 = .ok (.invokevirtual 36, 3) := by decide +kernel
theorem dX2_add_13 : decode cX2_add 13 = .ok (.aload_n 0, 1) := by decide +kernel
theorem dX2_add_14 : decode cX2_add 14 = .ok (.dup, 1) := by decide +kernel
theorem dX2_add_15 : decode cX2_add 15 = .ok (.getfield 20, 3) := by decide +kernel
theorem dX2_add_18 : decode cX2_add 18 = .ok (.iconst 1, 1) := by decide +kernel
theorem dX2_add_19 : decode cX2_add 19 = .ok (.iadd, 1) := by decide +kernel
theorem dX2_add_20 : decode cX2_add 20 = .ok (.putfield 20, 3) := by decide +kernel
theorem dX2_add_23 : decode cX2_add 23 = .ok (.aload_n 0, 1) := by decide +kernel
theorem dX2_add_24 : decode cX2_add 24 = .ok (.getfield 20, 3) := by decide +kernel
theorem dX2_add_27 : decode cX2_add 27 = .ok (.ireturn, 1) := by decide +kernel
set_option maxRecDepth 20000 in
theorem ggX2_bestCells_X4_fill : GoodIn wsX2_bestCells wsX4_fill := goodIn_r _ [10, 11, 41] (by decide +kernel) (by decide +kernel)
set_option maxRecDepth 20000 in
theorem gX2_bestCells_X4_fill : GoodIn wsX2_bestCells (wsV RX2 42 RX4 yX4_fill wsX4_fill) := goodIn_app (goodIn_of _ (by decide +kernel)) ggX2_bestCells_X4_fill
set_option maxRecDepth 20000 in
theorem ggX2_bestCells_X4_put : GoodIn wsX2_bestCells wsX4_put := goodIn_r _ [15, 11, 41] (by decide +kernel) (by decide +kernel)
set_option maxRecDepth 20000 in
theorem gX2_bestCells_X4_put : GoodIn wsX2_bestCells (wsV RX2 36 RX4 yX4_put wsX4_put) := goodIn_app (goodIn_of _ (by decide +kernel)) ggX2_bestCells_X4_put
set_option maxRecDepth 20000 in
theorem ggX2_bestCells_X4_at : GoodIn wsX2_bestCells wsX4_at := goodIn_r _ [19, 11, 41] (by decide +kernel) (by decide +kernel)
set_option maxRecDepth 20000 in
theorem gX2_bestCells_X4_at : GoodIn wsX2_bestCells (wsV RX2 46 RX4 yX4_at wsX4_at) := goodIn_app (goodIn_of _ (by decide +kernel)) ggX2_bestCells_X4_at
set_option maxRecDepth 20000 in
theorem ggX2_bestCells_X2_goOn : GoodIn wsX2_bestCells wsX2_goOn := goodIn_r _ [24, 25, 2, 26, 1, 3, 6, 7, 8, 9, 10, 11, 16, 17, 18, 19, 27, 28, 23, 29, 12, 13, 14, 15, 35, 36, 37, 38, 39, 40, 41] (by decide +kernel) (by decide +kernel)
set_option maxRecDepth 20000 in
theorem gX2_bestCells_X2_goOn : GoodIn wsX2_bestCells (wsV RX2 50 RX2 yX2_goOn wsX2_goOn) := goodIn_app (goodIn_of _ (by decide +kernel)) ggX2_bestCells_X2_goOn
set_option maxRecDepth 20000 in
theorem ggX2_bestCells_X2_isBetter : GoodIn wsX2_bestCells wsX2_isBetter := goodIn_r _ [29] (by decide +kernel) (by decide +kernel)
set_option maxRecDepth 20000 in
theorem gX2_bestCells_X2_isBetter : GoodIn wsX2_bestCells (va_wsS RX2 53 yX2_isBetter wsX2_isBetter) := goodIn_app (goodIn_of _ (by decide +kernel)) ggX2_bestCells_X2_isBetter
set_option maxRecDepth 20000 in
theorem ggX2_bestCells_X4_intAt : GoodIn wsX2_bestCells wsX4_intAt := goodIn_r _ [33, 34, 17, 18, 9, 19, 11, 41] (by decide +kernel) (by decide +kernel)
set_option maxRecDepth 20000 in
theorem gX2_bestCells_X4_intAt : GoodIn wsX2_bestCells (wsV RX2 57 RX4 yX4_intAt wsX4_intAt) := goodIn_app (goodIn_of _ (by decide +kernel)) ggX2_bestCells_X4_intAt
theorem dX2_bestCells_0 : decode cX2_bestCells 0 = .ok (.aload_n 0, 1) := by decide +kernel
theorem dX2_bestCells_1 : decode cX2_bestCells 1 = .ok (.getfield 24, 3) := by decide +kernel
theorem dX2_bestCells_4 : decode cX2_bestCells 4 = .ok (.ldc2_w 40, 3) := by decide +kernel
theorem dX2_bestCells_7 : decode cX2_bestCells 7 = .ok (.invokevirtual 42, 3) := by decide +kernel
theorem dX2_bestCells_10 : decode cX2_bestCells 10 = .ok (.aload_n 0, 1) := by decide +kernel
theorem dX2_bestCells_11 : decode cX2_bestCells 11 = .ok (.getfield 27, 3) := by decide +kernel
theorem dX2_bestCells_14 : decode cX2_bestCells 14 = .ok (.lconst 0, 1) := by decide +kernel
theorem dX2_bestCells_15 : decode cX2_bestCells 15 = .ok (.invokevirtual 42, 3) := by decide +kernel
theorem dX2_bestCells_18 : decode cX2_bestCells 18 = .ok (.aload_n 0, 1) := by decide +kernel
theorem dX2_bestCells_19 : decode cX2_bestCells 19 = .ok (.getfield 24, 3) := by decide +kernel
theorem dX2_bestCells_22 : decode cX2_bestCells 22 = .ok (.iconst 0, 1) := by decide +kernel
theorem dX2_bestCells_23 : decode cX2_bestCells 23 = .ok (.lconst 0, 1) := by decide +kernel
theorem dX2_bestCells_24 : decode cX2_bestCells 24 = .ok (.invokevirtual 36, 3) := by decide +kernel
theorem dX2_bestCells_27 : decode cX2_bestCells 27 = .ok (.iconst 0, 1) := by decide +kernel
theorem dX2_bestCells_28 : decode cX2_bestCells 28 = .ok (.istore_n 1, 1) := by decide +kernel
theorem dX2_bestCells_29 : decode cX2_bestCells 29 = .ok (.iload_n 1, 1) := by decide +kernel
theorem dX2_bestCells_30 : decode cX2_bestCells 30 = .ok (.aload_n 0, 1) := by decide +kernel
theorem dX2_bestCells_31 : decode cX2_bestCells 31 = .ok (.getfield 20, 3) := by decide +kernel
theorem dX2_bestCells_34 : decode cX2_bestCells 34 = .ok (.if_icmp .ge 21, 3) := by decide +kernel
theorem dX2_bestCells_37 : decode cX2_bestCells 37 = .ok (.aload_n 0, 1) := by decide +kernel
theorem dX2_bestCells_38 : decode cX2_bestCells 38 = .ok (.aload_n 0, 1) := by decide +kernel
theorem dX2_bestCells_39 : decode cX2_bestCells 39 = .ok (.getfield 14, 3) := by decide +kernel
theorem dX2_bestCells_42 : decode cX2_bestCells 42 = .ok (.iload_n 1, 1) := by decide +kernel
theorem dX2_bestCells_43 : decode cX2_bestCells 43 = .ok (.invokevirtual 46, 3) := by decide +kernel
theorem dX2_bestCells_46 : decode cX2_bestCells 46 = .ok (.invokevirtual 50, 3) := by decide +kernel
theorem dX2_bestCells_49 : decode cX2_bestCells 49 = .ok (.iinc 1 1, 3) := by decide +kernel
theorem dX2_bestCells_52 : decode cX2_bestCells 52 = .ok (.goto (-23), 3) := by decide +kernel
theorem dX2_bestCells_55 : decode cX2_bestCells 55 = .ok (.aload_n 0, 1) := by decide +kernel
theorem dX2_bestCells_56 : decode cX2_bestCells 56 = .ok (.iconst 0, 1) := by decide +kernel
theorem dX2_bestCells_57 : decode cX2_bestCells 57 = .ok (.putfield 20, 3) := by decide +kernel
theorem dX2_bestCells_60 : decode cX2_bestCells 60 = .ok (.iconst 0, 1) := by decide +kernel
theorem dX2_bestCells_61 : decode cX2_bestCells 61 = .ok (.istore_n 1, 1) := by decide +kernel
theorem dX2_bestCells_62 : decode cX2_bestCells 62 = .ok (.iconst 1, 1) := by decide +kernel
theorem dX2_bestCells_63 : decode cX2_bestCells 63 = .ok (.istore_n 2, 1) := by decide +kernel
theorem dX2_bestCells_64 : decode cX2_bestCells 64 = .ok (.iload_n 2, 1) := by decide +kernel
theorem dX2_bestCells_65 : decode cX2_bestCells 65 = .ok (.iconst 4, 1) := by decide +kernel
theorem dX2_bestCells_66 : decode cX2_bestCells 66 = .ok (.if_icmp .ge 49, 3) := by decide +kernel
theorem dX2_bestCells_69 : decode cX2_bestCells 69 = .ok (.aload_n 0, 1) := by decide +kernel
theorem dX2_bestCells_70 : decode cX2_bestCells 70 = .ok (.getfield 24, 3) := by decide +kernel
theorem dX2_bestCells_73 : decode cX2_bestCells 73 = .ok (.iload_n 2, 1) := by decide +kernel
theorem dX2_bestCells_74 : decode cX2_bestCells 74 = .ok (.invokevirtual 46, 3) := by decide +kernel
theorem dX2_bestCells_77 : decode cX2_bestCells 77 = .ok (.aload_n 0, 1) := by decide +kernel
theorem dX2_bestCells_78 : decode cX2_bestCells 78 = .ok (.getfield 27, 3) := by decide +kernel
theorem dX2_bestCells_81 : decode cX2_bestCells 81 = .ok (.iload_n 2, 1) := by decide +kernel
theorem dX2_bestCells_82 : decode cX2_bestCells 82 = .ok (.invokevirtual 46, 3) := by decide +kernel
theorem dX2_bestCells_85 : decode cX2_bestCells 85 = .ok (.aload_n 0, 1) := by decide +kernel
theorem dX2_bestCells_86 : decode cX2_bestCells 86 = .ok (.getfield 24, 3) := by decide +kernel
theorem dX2_bestCells_89 : decode cX2_bestCells 89 = .ok (.iload_n 1, 1) := by decide +kernel
theorem dX2_bestCells_90 : decode cX2_bestCells 90 = .ok (.invokevirtual 46, 3) := by decide +kernel
theorem dX2_bestCells_93 : decode cX2_bestCells 93 = .ok (.aload_n 0, 1) := by decide +kernel
theorem dX2_bestCells_94 : decode cX2_bestCells 94 = .ok (.getfield 27, 3) := by decide +kernel
theorem dX2_bestCells_97 : decode cX2_bestCells 97 = .ok (.iload_n 1, 1) := by decide +kernel
theorem dX2_bestCells_98 : decode cX2_bestCells 98 = .ok (.invokevirtual 46, 3) := by decide +kernel
theorem dX2_bestCells_101 : decode cX2_bestCells 101 = .ok (.invokestatic 53, 3) := by decide +kernel
theorem dX2_bestCells_104 : decode cX2_bestCells 104 = .ok (.ifCond .eq 5, 3) := by decide +kernel
theorem dX2_bestCells_107 : decode cX2_bestCells 107 = .ok (.iload_n 2, 1) := by decide +kernel
theorem dX2_bestCells_108 : decode cX2_bestCells 108 = .ok (.istore_n 1, 1) := by decide +kernel
theorem dX2_bestCells_109 : decode cX2_bestCells 109 = .ok (.iinc 2 1, 3) := by decide +kernel
theorem dX2_bestCells_112 : decode cX2_bestCells 112 = .ok (.goto (-48), 3) := by decide +kernel
theorem dX2_bestCells_115 : decode cX2_bestCells 115 = .ok (.aload_n 0, 1) := by decide +kernel
theorem dX2_bestCells_116 : decode cX2_bestCells 116 = .ok (.getfield 27, 3) := by decide +kernel
theorem dX2_bestCells_119 : decode cX2_bestCells 119 = .ok (.iload_n 1, 1) := by decide +kernel
theorem dX2_bestCells_120 : decode cX2_bestCells 120 = .ok (.invokevirtual 57, 3) := by decide +kernel
theorem dX2_bestCells_123 : decode cX2_bestCells 123 = .ok (.ireturn, 1) := by decide +kernel
set_option maxRecDepth 20000 in
theorem ggX2_goOn_X4_fill : GoodIn wsX2_goOn wsX4_fill := goodIn_r _ [10, 11, 30] (by decide +kernel) (by decide +kernel)
set_option maxRecDepth 20000 in
theorem gX2_goOn_X4_fill : GoodIn wsX2_goOn (wsV RX2 42 RX4 yX4_fill wsX4_fill) := goodIn_app (goodIn_of _ (by decide +kernel)) ggX2_goOn_X4_fill
set_option maxRecDepth 20000 in
theorem ggX2_goOn_X4_at : GoodIn wsX2_goOn wsX4_at := goodIn_r _ [15, 11, 30] (by decide +kernel) (by decide +kernel)
set_option maxRecDepth 20000 in
theorem gX2_goOn_X4_at : GoodIn wsX2_goOn (wsV RX2 46 RX4 yX4_at wsX4_at) := goodIn_app (goodIn_of _ (by decide +kernel)) ggX2_goOn_X4_at
set_option maxRecDepth 20000 in
theorem ggX2_goOn_X2_isBetter : GoodIn wsX2_goOn wsX2_isBetter := goodIn_r _ [19] (by decide +kernel) (by decide +kernel)
set_option maxRecDepth 20000 in
theorem gX2_goOn_X2_isBetter : GoodIn wsX2_goOn (va_wsS RX2 53 yX2_isBetter wsX2_isBetter) := goodIn_app (goodIn_of _ (by decide +kernel)) ggX2_goOn_X2_isBetter
set_option maxRecDepth 20000 in
theorem ggX2_goOn_X4_put : GoodIn wsX2_goOn wsX4_put := goodIn_r _ [23, 11, 30] (by decide +kernel) (by decide +kernel)
set_option maxRecDepth 20000 in
theorem gX2_goOn_X4_put : GoodIn wsX2_goOn (wsV RX2 36 RX4 yX4_put wsX4_put) := goodIn_app (goodIn_of _ (by decide +kernel)) ggX2_goOn_X4_put
theorem dX2_goOn_0 : decode cX2_goOn 0 = .ok (.aload_n 0, 1) := by decide +kernel
theorem dX2_goOn_1 : decode cX2_goOn 1 = .ok (.getfield 30, 3) := by decide +kernel
theorem dX2_goOn_4 : decode cX2_goOn 4 = .ok (.ldc2_w 40, 3) := by decide +kernel
theorem dX2_goOn_7 : decode cX2_goOn 7 = .ok (.invokevirtual 42, 3) := by decide +kernel
theorem dX2_goOn_10 : decode cX2_goOn 10 = .ok (.aload_n 0, 1) := by decide +kernel
theorem dX2_goOn_11 : decode cX2_goOn 11 = .ok (.getfield 33, 3) := by decide +kernel
theorem dX2_goOn_14 : decode cX2_goOn 14 = .ok (.lconst 0, 1) := by decide +kernel
theorem dX2_goOn_15 : decode cX2_goOn 15 = .ok (.invokevirtual 42, 3) := by decide +kernel
theorem dX2_goOn_18 : decode cX2_goOn 18 = .ok (.iconst 0, 1) := by decide +kernel
theorem dX2_goOn_19 : decode cX2_goOn 19 = .ok (.istore_n 3, 1) := by decide +kernel
theorem dX2_goOn_20 : decode cX2_goOn 20 = .ok (.iload_n 3, 1) := by decide +kernel
theorem dX2_goOn_21 : decode cX2_goOn 21 = .ok (.iconst 4, 1) := by decide +kernel
theorem dX2_goOn_22 : decode cX2_goOn 22 = .ok (.if_icmp .ge 130, 3) := by decide +kernel
theorem dX2_goOn_25 : decode cX2_goOn 25 = .ok (.iconst 0, 1) := by decide +kernel
theorem dX2_goOn_26 : decode cX2_goOn 26 = .ok (.istore 4, 2) := by decide +kernel
theorem dX2_goOn_28 : decode cX2_goOn 28 = .ok (.iload 4, 2) := by decide +kernel
theorem dX2_goOn_30 : decode cX2_goOn 30 = .ok (.iconst 2, 1) := by decide +kernel
theorem dX2_goOn_31 : decode cX2_goOn 31 = .ok (.if_icmp .ge 115, 3) := by decide +kernel
theorem dX2_goOn_34 : decode cX2_goOn 34 = .ok (.lload_n 1, 1) := by decide +kernel
theorem dX2_goOn_35 : decode cX2_goOn 35 = .ok (.bipush 10, 2) := by decide +kernel
theorem dX2_goOn_37 : decode cX2_goOn 37 = .ok (.iload 4, 2) := by decide +kernel
theorem dX2_goOn_39 : decode cX2_goOn 39 = .ok (.iload_n 3, 1) := by decide +kernel
theorem dX2_goOn_40 : decode cX2_goOn 40 = .ok (.iconst 1, 1) := by decide +kernel
theorem dX2_goOn_41 : decode cX2_goOn 41 = .ok (.ishr, 1) := by decide +kernel
theorem dX2_goOn_42 : decode cX2_goOn 42 = .ok (.isub, 1) := by decide +kernel
theorem dX2_goOn_43 : decode cX2_goOn 43 = .ok (.imul, 1) := by decide +kernel
theorem dX2_goOn_44 : decode cX2_goOn 44 = .ok (.i2l, 1) := by decide +kernel
theorem dX2_goOn_45 : decode cX2_goOn 45 = .ok (.lsub, 1) := by decide +kernel
theorem dX2_goOn_46 : decode cX2_goOn 46 = .ok (.lstore 5, 2) := by decide +kernel
theorem dX2_goOn_48 : decode cX2_goOn 48 = .ok (.aload_n 0, 1) := by decide +kernel
theorem dX2_goOn_49 : decode cX2_goOn 49 = .ok (.getfield 24, 3) := by decide +kernel
theorem dX2_goOn_52 : decode cX2_goOn 52 = .ok (.iload_n 3, 1) := by decide +kernel
theorem dX2_goOn_53 : decode cX2_goOn 53 = .ok (.invokevirtual 46, 3) := by decide +kernel
theorem dX2_goOn_56 : decode cX2_goOn 56 = .ok (.lload 5, 2) := by decide +kernel
theorem dX2_goOn_58 : decode cX2_goOn 58 = .ok (.lload 5, 2) := by decide +kernel
theorem dX2_goOn_60 : decode cX2_goOn 60 = .ok (.lmul, 1) := by decide +kernel
theorem dX2_goOn_61 : decode cX2_goOn 61 = .ok (.ladd, 1) := by decide +kernel
theorem dX2_goOn_62 : decode cX2_goOn 62 = .ok (.lstore 7, 2) := by decide +kernel
theorem dX2_goOn_64 : decode cX2_goOn 64 = .ok (.aload_n 0, 1) := by decide +kernel
theorem dX2_goOn_65 : decode cX2_goOn 65 = .ok (.getfield 27, 3) := by decide +kernel
theorem dX2_goOn_68 : decode cX2_goOn 68 = .ok (.iload_n 3, 1) := by decide +kernel
theorem dX2_goOn_69 : decode cX2_goOn 69 = .ok (.invokevirtual 46, 3) := by decide +kernel
theorem dX2_goOn_72 : decode cX2_goOn 72 = .ok (.iconst 1, 1) := by decide +kernel
theorem dX2_goOn_73 : decode cX2_goOn 73 = .ok (.lshl, 1) := by decide +kernel
theorem dX2_goOn_74 : decode cX2_goOn 74 = .ok (.iload 4, 2) := by decide +kernel
theorem dX2_goOn_76 : decode cX2_goOn 76 = .ok (.i2l, 1) := by decide +kernel
theorem dX2_goOn_77 : decode cX2_goOn 77 = .ok (.lor, 1) := by decide +kernel
theorem dX2_goOn_78 : decode cX2_goOn 78 = .ok (.lstore 9, 2) := by decide +kernel
theorem dX2_goOn_80 : decode cX2_goOn 80 = .ok (.iload_n 3, 1) := by decide +kernel
theorem dX2_goOn_81 : decode cX2_goOn 81 = .ok (.iconst 1, 1) := by decide +kernel
theorem dX2_goOn_82 : decode cX2_goOn 82 = .ok (.iand, 1) := by decide +kernel
theorem dX2_goOn_83 : decode cX2_goOn 83 = .ok (.iconst 1, 1) := by decide +kernel
theorem dX2_goOn_84 : decode cX2_goOn 84 = .ok (.ishl, 1) := by decide +kernel
theorem dX2_goOn_85 : decode cX2_goOn 85 = .ok (.iload 4, 2) := by decide +kernel
theorem dX2_goOn_87 : decode cX2_goOn 87 = .ok (.ior, 1) := by decide +kernel
theorem dX2_goOn_88 : decode cX2_goOn 88 = .ok (.istore 11, 2) := by decide +kernel
theorem dX2_goOn_90 : decode cX2_goOn 90 = .ok (.lload 7, 2) := by decide +kernel
theorem dX2_goOn_92 : decode cX2_goOn 92 = .ok (.lload 9, 2) := by decide +kernel
theorem dX2_goOn_94 : decode cX2_goOn 94 = .ok (.aload_n 0, 1) := by decide +kernel
theorem dX2_goOn_95 : decode cX2_goOn 95 = .ok (.getfield 30, 3) := by decide +kernel
theorem dX2_goOn_98 : decode cX2_goOn 98 = .ok (.iload 11, 2) := by decide +kernel
theorem dX2_goOn_100 : decode cX2_goOn 100 = .ok (.invokevirtual 46, 3) := by decide +kernel
theorem dX2_goOn_103 : decode cX2_goOn 103 = .ok (.aload_n 0, 1) := by decide +kernel
theorem dX2_goOn_104 : decode cX2_goOn 104 = .ok (.getfield 33, 3) := by decide +kernel
theorem dX2_goOn_107 : decode cX2_goOn 107 = .ok (.iload 11, 2) := by decide +kernel
theorem dX2_goOn_109 : decode cX2_goOn 109 = .ok (.invokevirtual 46, 3) := by decide +kernel
theorem dX2_goOn_112 : decode cX2_goOn 112 = .ok (.invokestatic 53, 3) := by decide +kernel
theorem dX2_goOn_115 : decode cX2_goOn 115 = .ok (.ifCond .eq 25, 3) := by decide +kernel
theorem dX2_goOn_118 : decode cX2_goOn 118 = .ok (.aload_n 0, 1) := by decide +kernel
theorem dX2_goOn_119 : decode cX2_goOn 119 = .ok (.getfield 30, 3) := by decide +kernel
theorem dX2_goOn_122 : decode cX2_goOn 122 = .ok (.iload 11, 2) := by decide +kernel
theorem dX2_goOn_124 : decode cX2_goOn 124 = .ok (.lload 7, 2) := by decide +kernel
theorem dX2_goOn_126 : decode cX2_goOn 126 = .ok (.invokevirtual 36, 3) := by decide +kernel
theorem dX2_goOn_129 : decode cX2_goOn 129 = .ok (.aload_n 0, 1) := by decide +kernel
theorem dX2_goOn_130 : decode cX2_goOn 130 = .ok (.getfield 33, 3) := by decide +kernel
theorem dX2_goOn_133 : decode cX2_goOn 133 = .ok (.iload 11, 2) := by decide +kernel
theorem dX2_goOn_135 : decode cX2_goOn 135 = .ok (.lload 9, 2) := by decide +kernel
theorem dX2_goOn_137 : decode cX2_goOn 137 = .ok (.invokevirtual 36, 3) := by decide +kernel
theorem dX2_goOn_140 : decode cX2_goOn 140 = .ok (.iinc 4 1, 3) := by decide +kernel
theorem dX2_goOn_143 : decode cX2_goOn 143 = .ok (.goto (-115), 3) := by decide +kernel
theorem dX2_goOn_146 : decode cX2_goOn 146 = .ok (.iinc 3 1, 3) := by decide +kernel
theorem dX2_goOn_149 : decode cX2_goOn 149 = .ok (.goto (-129), 3) := by decide +kernel
theorem dX2_goOn_152 : decode cX2_goOn 152 = .ok (.iconst 0, 1) := by decide +kernel
theorem dX2_goOn_153 : decode cX2_goOn 153 = .ok (.istore_n 3, 1) := by decide +kernel
theorem dX2_goOn_154 : decode cX2_goOn 154 = .ok (.iload_n 3, 1) := by decide +kernel
theorem dX2_goOn_155 : decode cX2_goOn 155 = .ok (.iconst 4, 1) := by decide +kernel
theorem dX2_goOn_156 : decode cX2_goOn 156 = .ok (.if_icmp .ge 41, 3) := by decide +kernel
theorem dX2_goOn_159 : decode cX2_goOn 159 = .ok (.aload_n 0, 1) := by decide +kernel
theorem dX2_goOn_160 : decode cX2_goOn 160 = .ok (.getfield 24, 3) := by decide +kernel
theorem dX2_goOn_163 : decode cX2_goOn 163 = .ok (.iload_n 3, 1) := by decide +kernel
theorem dX2_goOn_164 : decode cX2_goOn 164 = .ok (.aload_n 0, 1) := by decide +kernel
theorem dX2_goOn_165 : decode cX2_goOn 165 = .ok (.getfield 30, 3) := by decide +kernel
theorem dX2_goOn_168 : decode cX2_goOn 168 = .ok (.iload_n 3, 1) := by decide +kernel
theorem dX2_goOn_169 : decode cX2_goOn 169 = .ok (.invokevirtual 46, 3) := by decide +kernel
theorem dX2_goOn_172 : decode cX2_goOn 172 = .ok (.invokevirtual 36, 3) := by decide +kernel
theorem dX2_goOn_175 : decode cX2_goOn 175 = .ok (.aload_n 0, 1) := by decide +kernel
theorem dX2_goOn_176 : decode cX2_goOn 176 = .ok (.getfield 27, 3) := by decide +kernel
theorem dX2_goOn_179 : decode cX2_goOn 179 = .ok (.iload_n 3, 1) := by decide +kernel
theorem dX2_goOn_180 : decode cX2_goOn 180 = .ok (.aload_n 0, 1) := by decide +kernel
theorem dX2_goOn_181 : decode cX2_goOn 181 = .ok (.getfield 33, 3) := by decide +kernel
theorem dX2_goOn_184 : decode cX2_goOn 184 = .ok (.iload_n 3, 1) := by decide +kernel
theorem dX2_goOn_185 : decode cX2_goOn 185 = .ok (.invokevirtual 46, 3) := by decide +kernel
theorem dX2_goOn_188 : decode cX2_goOn 188 = .ok (.invokevirtual 36, 3) := by decide +kernel
theorem dX2_goOn_191 : decode cX2_goOn 191 = .ok (.iinc 3 1, 3) := by decide +kernel
theorem dX2_goOn_194 : decode cX2_goOn 194 = .ok (.goto (-40), 3) := by decide +kernel
theorem dX2_goOn_197 : decode cX2_goOn 197 = .ok (.return_, 1) := by decide +kernel
theorem dX2_isBetter_0 : decode cX2_isBetter 0 = .ok (.lload_n 0, 1) := by decide +kernel
theorem dX2_isBetter_1 : decode cX2_isBetter 1 = .ok (.lload 4, 2) := by decide +kernel
theorem dX2_isBetter_3 : decode cX2_isBetter 3 = .ok (.lcmp, 1) := by decide +kernel
theorem dX2_isBetter_4 : decode cX2_isBetter 4 = .ok (.ifCond .lt 17, 3) := by decide +kernel
theorem dX2_isBetter_7 : decode cX2_isBetter 7 = .ok (.lload_n 0, 1) := by decide +kernel
theorem dX2_isBetter_8 : decode cX2_isBetter 8 = .ok (.lload 4, 2) := by decide +kernel
theorem dX2_isBetter_10 : decode cX2_isBetter 10 = .ok (.lcmp, 1) := by decide +kernel
theorem dX2_isBetter_11 : decode cX2_isBetter 11 = .ok (.ifCond .ne 14, 3) := by decide +kernel
theorem dX2_isBetter_14 : decode cX2_isBetter 14 = .ok (.lload_n 2, 1) := by decide +kernel
theorem dX2_isBetter_15 : decode cX2_isBetter 15 = .ok (.lload 6, 2) := by decide +kernel
theorem dX2_isBetter_17 : decode cX2_isBetter 17 = .ok (.lcmp, 1) := by decide +kernel
theorem dX2_isBetter_18 : decode cX2_isBetter 18 = .ok (.ifCond .ge 7, 3) := by decide +kernel
theorem dX2_isBetter_21 : decode cX2_isBetter 21 = .ok (.iconst 1, 1) := by decide +kernel
theorem dX2_isBetter_22 : decode cX2_isBetter 22 = .ok (.goto 4, 3) := by decide +kernel
theorem dX2_isBetter_25 : decode cX2_isBetter 25 = .ok (.iconst 0, 1) := by decide +kernel
theorem dX2_isBetter_26 : decode cX2_isBetter 26 = .ok (.ireturn, 1) := by decide +kernel
set_option maxRecDepth 20000 in
theorem ggX3_init_X6_init : GoodIn wsX3_init wsX6_init := goodIn_r _ [26, 27, 2, 3, 28, 10, 11, 29, 30, 31, 32, 33, 34, 35, 36, 37, 38, 39, 40, 41, 59, 44, 45] (by decide +kernel) (by decide +kernel)
set_option maxRecDepth 20000 in
theorem gX3_init_X6_init : GoodIn wsX3_init (wsX6_init) := ggX3_init_X6_init
set_option maxRecDepth 20000 in
theorem ggX3_init_X4_init : GoodIn wsX3_init wsX4_init := goodIn_r _ [34, 35, 2, 3, 36, 37, 59] (by decide +kernel) (by decide +kernel)
set_option maxRecDepth 20000 in
theorem gX3_init_X4_init : GoodIn wsX3_init (wsX4_init) := ggX3_init_X4_init
set_option maxRecDepth 20000 in
theorem ggX3_init_X4_fill : GoodIn wsX3_init wsX4_fill := goodIn_r _ [41, 37, 59] (by decide +kernel) (by decide +kernel)
set_option maxRecDepth 20000 in
theorem gX3_init_X4_fill : GoodIn wsX3_init (wsV RX3 64 RX4 yX4_fill wsX4_fill) := goodIn_app (goodIn_of _ (by decide +kernel)) ggX3_init_X4_fill
theorem dX3_init_0 : decode cX3_init 0 = .ok (.aload_n 0, 1) := by decide +kernel
theorem dX3_init_1 : decode cX3_init 1 = .ok (.invokespecial 3, 3) := by decide +kernel
theorem dX3_init_4 : decode cX3_init 4 = .ok (.aload_n 0, 1) := by decide +kernel
theorem dX3_init_5 : decode cX3_init 5 = .ok (.new 9, 3) := by decide +kernel
theorem dX3_init_8 : decode cX3_init 8 = .ok (.dup, 1) := by decide +kernel
theorem dX3_init_9 : decode cX3_init 9 = .ok (.invokespecial 11, 3) := by decide +kernel
theorem dX3_init_12 : decode cX3_init 12 = .ok (.putfield 12, 3) := by decide +kernel
theorem dX3_init_15 : decode cX3_init 15 = .ok (.aload_n 0, 1) := by decide +kernel
theorem dX3_init_16 : decode cX3_init 16 = .ok (.new 9, 3) := by decide +kernel
theorem dX3_init_19 : decode cX3_init 19 = .ok (.dup, 1) := by decide +kernel
theorem dX3_init_20 : decode cX3_init 20 = .ok (.invokespecial 11, 3) := by decide +kernel
theorem dX3_init_23 : decode cX3_init 23 = .ok (.putfield 18, 3) := by decide +kernel
theorem dX3_init_26 : decode cX3_init 26 = .ok (.aload_n 0, 1) := by decide +kernel
theorem dX3_init_27 : decode cX3_init 27 = .ok (.new 21, 3) := by decide +kernel
theorem dX3_init_30 : decode cX3_init 30 = .ok (.dup, 1) := by decide +kernel
theorem dX3_init_31 : decode cX3_init 31 = .ok (.iconst 3, 1) := by decide +kernel
theorem dX3_init_32 : decode cX3_init 32 = .ok (.invokespecial 23, 3) := by decide +kernel
theorem dX3_init_35 : decode cX3_init 35 = .ok (.putfield 26, 3) := by decide +kernel
theorem dX3_init_38 : decode cX3_init 38 = .ok (.aload_n 0, 1) := by decide +kernel
theorem dX3_init_39 : decode cX3_init 39 = .ok (.new 21, 3) := by decide +kernel
theorem dX3_init_42 : decode cX3_init 42 = .ok (.dup, 1) := by decide +kernel
theorem dX3_init_43 : decode cX3_init 43 = .ok (.bipush 60, 2) := by decide +kernel
theorem dX3_init_45 : decode cX3_init 45 = .ok (.invokespecial 23, 3) := by decide +kernel
theorem dX3_init_48 : decode cX3_init 48 = .ok (.putfield 30, 3) := by decide +kernel
theorem dX3_init_51 : decode cX3_init 51 = .ok (.aload_n 0, 1) := by decide +kernel
theorem dX3_init_52 : decode cX3_init 52 = .ok (.new 21, 3) := by decide +kernel
theorem dX3_init_55 : decode cX3_init 55 = .ok (.dup, 1) := by decide +kernel
theorem dX3_init_56 : decode cX3_init 56 = .ok (.bipush 60, 2) := by decide +kernel
theorem dX3_init_58 : decode cX3_init 58 = .ok (.invokespecial 23, 3) := by decide +kernel
theorem dX3_init_61 : decode cX3_init 61 = .ok (.putfield 33, 3) := by decide +kernel
theorem dX3_init_64 : decode cX3_init 64 = .ok (.aload_n 0, 1) := by decide +kernel
theorem dX3_init_65 : decode cX3_init 65 = .ok (.new 21, 3) := by decide +kernel
theorem dX3_init_68 : decode cX3_init 68 = .ok (.dup, 1) := by decide +kernel
theorem dX3_init_69 : decode cX3_init 69 = .ok (.bipush 60, 2) := by decide +kernel
theorem dX3_init_71 : decode cX3_init 71 = .ok (.invokespecial 23, 3) := by decide +kernel
theorem dX3_init_74 : decode cX3_init 74 = .ok (.putfield 36, 3) := by decide +kernel
theorem dX3_init_77 : decode cX3_init 77 = .ok (.aload_n 0, 1) := by decide +kernel
theorem dX3_init_78 : decode cX3_init 78 = .ok (.new 21, 3) := by decide +kernel
theorem dX3_init_81 : decode cX3_init 81 = .ok (.dup, 1) := by decide +kernel
theorem dX3_init_82 : decode cX3_init 82 = .ok (.bipush 60, 2) := by decide +kernel
theorem dX3_init_84 : decode cX3_init 84 = .ok (.invokespecial 23, 3) := by decide +kernel
theorem dX3_init_87 : decode cX3_init 87 = .ok (.putfield 39, 3) := by decide +kernel
theorem dX3_init_90 : decode cX3_init 90 = .ok (.aload_n 0, 1) := by decide +kernel
theorem dX3_init_91 : decode cX3_init 91 = .ok (.new 21, 3) := by decide +kernel
theorem dX3_init_94 : decode cX3_init 94 = .ok (.dup, 1) := by decide +kernel
theorem dX3_init_95 : decode cX3_init 95 = .ok (.bipush 60, 2) := by decide +kernel
theorem dX3_init_97 : decode cX3_init 97 = .ok (.invokespecial 23, 3) := by decide +kernel
theorem dX3_init_100 : decode cX3_init 100 = .ok (.putfield 42, 3) := by decide +kernel
theorem dX3_init_103 : decode cX3_init 103 = .ok (.aload_n 0, 1) := by decide +kernel
theorem dX3_init_104 : decode cX3_init 104 = .ok (.iconst 0, 1) := by decide +kernel
theorem dX3_init_105 : decode cX3_init 105 = .ok (.putfield 45, 3) := by decide +kernel
theorem dX3_init_108 : decode cX3_init 108 = .ok (.aload_n 0, 1) := by decide +kernel
theorem dX3_init_109 : decode cX3_init 109 = .ok (.iconst 0, 1) := by decide +kernel
theorem dX3_init_110 : decode cX3_init 110 = .ok (.putfield 49, 3) := by decide +kernel
theorem dX3_init_113 : decode cX3_init 113 = .ok (.aload_n 0, 1) := by decide +kernel
theorem dX3_init_114 : decode cX3_init 114 = .ok (.iconst 0, 1) := by decide +kernel
theorem dX3_init_115 : decode cX3_init 115 = .ok (.putfield 53, 3) := by decide +kernel
theorem dX3_init_118 : decode cX3_init 118 = .ok (.aload_n 0, 1) := by decide +kernel
theorem dX3_init_119 : decode cX3_init 119 = .ok (.iconst 0, 1) := by decide +kernel
theorem dX3_init_120 : decode cX3_init 120 = .ok (.putfield 56, 3) := by decide +kernel
theorem dX3_init_123 : decode cX3_init 123 = .ok (.aload_n 0, 1) := by decide +kernel
theorem dX3_init_124 : decode cX3_init 124 = .ok (.iconst 0, 1) := by decide +kernel
theorem dX3_init_125 : decode cX3_init 125 = .ok (.putfield 59, 3) := by decide +kernel
theorem dX3_init_128 : decode cX3_init 128 = .ok (.aload_n 0, 1) := by decide +kernel
theorem dX3_init_129 : decode cX3_init 129 = .ok (.getfield 39, 3) := by decide +kernel
theorem dX3_init_132 : decode cX3_init 132 = .ok (.ldc2_w 62, 3) := by decide +kernel
theorem dX3_init_135 : decode cX3_init 135 = .ok (.invokevirtual 64, 3) := by decide +kernel
theorem dX3_init_138 : decode cX3_init 138 = .ok (.return_, 1) := by decide +kernel
set_option maxRecDepth 20000 in
theorem ggX3_endOf_X4_intAt : GoodIn wsX3_endOf wsX4_intAt := goodIn_r _ [6, 7, 8, 9, 5, 10, 11, 25] (by decide +kernel) (by decide +kernel)
set_option maxRecDepth 20000 in
theorem gX3_endOf_X4_intAt : GoodIn wsX3_endOf (wsV RX3 68 RX4 yX4_intAt wsX4_intAt) := goodIn_app (goodIn_of _ (by decide +kernel)) ggX3_endOf_X4_intAt
theorem dX3_endOf_0 : decode cX3_endOf 0 = .ok (.aload_n 0, 1) := by decide +kernel
theorem dX3_endOf_1 : decode cX3_endOf 1 = .ok (.getfield 26, 3) := by decide +kernel
theorem dX3_endOf_4 : decode cX3_endOf 4 = .ok (.iload_n 1, 1) := by decide +kernel
theorem dX3_endOf_5 : decode cX3_endOf 5 = .ok (.invokevirtual 68, 3) := by decide +kernel
theorem dX3_endOf_8 : decode cX3_endOf 8 = .ok (.ireturn, 1) := by decide +kernel
set_option maxRecDepth 20000 in
theorem ggX3_newestStore_X6_has : GoodIn wsX3_newestStore wsX6_has := goodIn_r _ [7, 8, 9, 10, 11, 12, 13, 14, 15, 29, 30, 31] (by decide +kernel) (by decide +kernel)
set_option maxRecDepth 20000 in
theorem gX3_newestStore_X6_has : GoodIn wsX3_newestStore (wsV RX3 76 RX6 yX6_has wsX6_has) := goodIn_app (goodIn_of _ (by decide +kernel)) ggX3_newestStore_X6_has
theorem dX3_newestStore_0 : decode cX3_newestStore 0 = .ok (.aload_n 0, 1) := by decide +kernel
theorem dX3_newestStore_1 : decode cX3_newestStore 1 = .ok (.getfield 18, 3) := by decide +kernel
theorem dX3_newestStore_4 : decode cX3_newestStore 4 = .ok (.iload_n 1, 1) := by decide +kernel
theorem dX3_newestStore_5 : decode cX3_newestStore 5 = .ok (.invokevirtual 76, 3) := by decide +kernel
theorem dX3_newestStore_8 : decode cX3_newestStore 8 = .ok (.ifCond .eq 10, 3) := by decide +kernel
theorem dX3_newestStore_11 : decode cX3_newestStore 11 = .ok (.aload_n 0, 1) := by decide +kernel
theorem dX3_newestStore_12 : decode cX3_newestStore 12 = .ok (.getfield 18, 3) := by decide +kernel
theorem dX3_newestStore_15 : decode cX3_newestStore 15 = .ok (.goto 7, 3) := by decide +kernel
theorem dX3_newestStore_18 : decode cX3_newestStore 18 = .ok (.aload_n 0, 1) := by decide +kernel
theorem dX3_newestStore_19 : decode cX3_newestStore 19 = .ok (.getfield 12, 3) := by decide +kernel
theorem dX3_newestStore_22 : decode cX3_newestStore 22 = .ok (.areturn, 1) := by decide +kernel
set_option maxRecDepth 20000 in
theorem ggX3_keepsWhatWasSent_X4_at : GoodIn wsX3_keepsWhatWasSent wsX4_at := goodIn_r _ [9, 10, 99] (by decide +kernel) (by decide +kernel)
set_option maxRecDepth 20000 in
theorem gX3_keepsWhatWasSent_X4_at : GoodIn wsX3_keepsWhatWasSent (wsV RX3 145 RX4 yX4_at wsX4_at) := goodIn_app (goodIn_of _ (by decide +kernel)) ggX3_keepsWhatWasSent_X4_at
set_option maxRecDepth 20000 in
theorem ggX3_keepsWhatWasSent_X4_isSet : GoodIn wsX3_keepsWhatWasSent wsX4_isSet := goodIn_r _ [14, 15, 6, 7, 8, 9, 10, 99] (by decide +kernel) (by decide +kernel)
set_option maxRecDepth 20000 in
theorem gX3_keepsWhatWasSent_X4_isSet : GoodIn wsX3_keepsWhatWasSent (wsV RX3 80 RX4 yX4_isSet wsX4_isSet) := goodIn_app (goodIn_of _ (by decide +kernel)) ggX3_keepsWhatWasSent_X4_isSet
set_option maxRecDepth 20000 in
theorem ggX3_keepsWhatWasSent_X3_tellsWhatWasSent : GoodIn wsX3_keepsWhatWasSent wsX3_tellsWhatWasSent := goodIn_r _ [20, 2, 1, 21, 22, 23, 19, 24, 25, 26, 27, 28, 29, 30, 31, 32, 33, 34, 6, 7, 8, 9, 10, 35, 36, 37, 38, 39, 40, 41, 42, 43, 44, 45, 46, 47, 15, 48, 49, 50, 51, 52, 53, 54, 55, 56, 57, 58, 59, 60, 61, 62, 63, 64, 65, 66, 67, 68, 69, 70, 71, 72, 73, 74, 75, 76, 77, 78, 79, 80, 81, 82, 83, 84, 85, 5, 86, 87, 88, 89, 90, 91, 92, 93, 94, 95, 96, 97, 98, 100, 101, 99] (by decide +kernel) (by decide +kernel)
set_option maxRecDepth 20000 in
theorem gX3_keepsWhatWasSent_X3_tellsWhatWasSent : GoodIn wsX3_keepsWhatWasSent (wsV RX3 148 RX3 yX3_tellsWhatWasSent wsX3_tellsWhatWasSent) := goodIn_app (goodIn_of _ (by decide +kernel)) ggX3_keepsWhatWasSent_X3_tellsWhatWasSent
theorem dX3_keepsWhatWasSent_0 : decode cX3_keepsWhatWasSent 0 = .ok (.iconst 0, 1) := by decide +kernel
theorem dX3_keepsWhatWasSent_1 : decode cX3_keepsWhatWasSent 1 = .ok (.istore_n 1, 1) := by decide +kernel
theorem dX3_keepsWhatWasSent_2 : decode cX3_keepsWhatWasSent 2 = .ok (.iload_n 1, 1) := by decide +kernel
theorem dX3_keepsWhatWasSent_3 : decode cX3_keepsWhatWasSent 3 = .ok (.bipush 60, 2) := by decide +kernel
theorem dX3_keepsWhatWasSent_5 : decode cX3_keepsWhatWasSent 5 = .ok (.if_icmp .ge 66, 3) := by decide +kernel
theorem dX3_keepsWhatWasSent_8 : decode cX3_keepsWhatWasSent 8 = .ok (.aload_n 0, 1) := by decide +kernel
theorem dX3_keepsWhatWasSent_9 : decode cX3_keepsWhatWasSent 9 = .ok (.getfield 39, 3) := by decide +kernel
theorem dX3_keepsWhatWasSent_12 : decode cX3_keepsWhatWasSent 12 = .ok (.iload_n 1, 1) := by decide +kernel
theorem dX3_keepsWhatWasSent_13 : decode cX3_keepsWhatWasSent 13 = .ok (.invokevirtual 145, 3) := by decide +kernel
theorem dX3_keepsWhatWasSent_16 : decode cX3_keepsWhatWasSent 16 = .ok (.ldc2_w 62, 3) := by decide +kernel
theorem dX3_keepsWhatWasSent_19 : decode cX3_keepsWhatWasSent 19 = .ok (.lcmp, 1) := by decide +kernel
theorem dX3_keepsWhatWasSent_20 : decode cX3_keepsWhatWasSent 20 = .ok (.ifCond .eq 29, 3) := by decide +kernel
theorem dX3_keepsWhatWasSent_23 : decode cX3_keepsWhatWasSent 23 = .ok (.aload_n 0, 1) := by decide +kernel
theorem dX3_keepsWhatWasSent_24 : decode cX3_keepsWhatWasSent 24 = .ok (.getfield 36, 3) := by decide +kernel
theorem dX3_keepsWhatWasSent_27 : decode cX3_keepsWhatWasSent 27 = .ok (.iload_n 1, 1) := by decide +kernel
theorem dX3_keepsWhatWasSent_28 : decode cX3_keepsWhatWasSent 28 = .ok (.invokevirtual 80, 3) := by decide +kernel
theorem dX3_keepsWhatWasSent_31 : decode cX3_keepsWhatWasSent 31 = .ok (.ifCond .ne 18, 3) := by decide +kernel
theorem dX3_keepsWhatWasSent_34 : decode cX3_keepsWhatWasSent 34 = .ok (.aload_n 0, 1) := by decide +kernel
theorem dX3_keepsWhatWasSent_35 : decode cX3_keepsWhatWasSent 35 = .ok (.getfield 42, 3) := by decide +kernel
theorem dX3_keepsWhatWasSent_38 : decode cX3_keepsWhatWasSent 38 = .ok (.iload_n 1, 1) := by decide +kernel
theorem dX3_keepsWhatWasSent_39 : decode cX3_keepsWhatWasSent 39 = .ok (.invokevirtual 80, 3) := by decide +kernel
theorem dX3_keepsWhatWasSent_42 : decode cX3_keepsWhatWasSent 42 = .ok (.ifCond .ne 7, 3) := by decide +kernel
theorem dX3_keepsWhatWasSent_45 : decode cX3_keepsWhatWasSent 45 = .ok (.iconst 1, 1) := by decide +kernel
theorem dX3_keepsWhatWasSent_46 : decode cX3_keepsWhatWasSent 46 = .ok (.goto 4, 3) := by decide +kernel
theorem dX3_keepsWhatWasSent_49 : decode cX3_keepsWhatWasSent 49 = .ok (.iconst 0, 1) := by decide +kernel
theorem dX3_keepsWhatWasSent_50 : decode cX3_keepsWhatWasSent 50 = .ok (.istore_n 2, 1) := by decide +kernel
theorem dX3_keepsWhatWasSent_51 : decode cX3_keepsWhatWasSent 51 = .ok (.iload_n 2, 1) := by decide +kernel
theorem dX3_keepsWhatWasSent_52 : decode cX3_keepsWhatWasSent 52 = .ok (.ifCond .eq 13, 3) := by decide +kernel
theorem dX3_keepsWhatWasSent_55 : decode cX3_keepsWhatWasSent 55 = .ok (.aload_n 0, 1) := by decide +kernel
theorem dX3_keepsWhatWasSent_56 : decode cX3_keepsWhatWasSent 56 = .ok (.iload_n 1, 1) := by decide +kernel
theorem dX3_keepsWhatWasSent_57 : decode cX3_keepsWhatWasSent 57 = .ok (.invokevirtual 148, 3) := by decide +kernel
theorem dX3_keepsWhatWasSent_60 : decode cX3_keepsWhatWasSent 60 = .ok (.ifCond .ne 5, 3) := by decide +kernel
theorem dX3_keepsWhatWasSent_63 : decode cX3_keepsWhatWasSent 63 = .ok (.iconst 0, 1) := by decide +kernel
theorem dX3_keepsWhatWasSent_64 : decode cX3_keepsWhatWasSent 64 = .ok (.ireturn, 1) := by decide +kernel
theorem dX3_keepsWhatWasSent_65 : decode cX3_keepsWhatWasSent 65 = .ok (.iinc 1 1, 3) := by decide +kernel
theorem dX3_keepsWhatWasSent_68 : decode cX3_keepsWhatWasSent 68 = .ok (.goto (-66), 3) := by decide +kernel
theorem dX3_keepsWhatWasSent_71 : decode cX3_keepsWhatWasSent 71 = .ok (.iconst 1, 1) := by decide +kernel
theorem dX3_keepsWhatWasSent_72 : decode cX3_keepsWhatWasSent 72 = .ok (.ireturn, 1) := by decide +kernel
set_option maxRecDepth 20000 in
theorem ggX3_tellsWhatWasSent_X3_newestStore : GoodIn wsX3_tellsWhatWasSent wsX3_newestStore := goodIn_r _ [7, 8, 9, 10, 11, 12, 13, 14, 15, 16, 17, 18, 19, 20, 21, 22, 76, 77, 78, 79, 80, 81, 82, 83, 84, 85, 86, 87, 88, 89, 90, 91] (by decide +kernel) (by decide +kernel)
set_option maxRecDepth 20000 in
theorem gX3_tellsWhatWasSent_X3_newestStore : GoodIn wsX3_tellsWhatWasSent (wsV RX3 121 RX3 yX3_newestStore wsX3_newestStore) := goodIn_app (goodIn_of _ (by decide +kernel)) ggX3_tellsWhatWasSent_X3_newestStore
set_option maxRecDepth 20000 in
theorem ggX3_tellsWhatWasSent_X6_wordOf : GoodIn wsX3_tellsWhatWasSent wsX6_wordOf := goodIn_r _ [26, 15, 17, 18, 19, 20, 21, 22, 89, 90, 91] (by decide +kernel) (by decide +kernel)
set_option maxRecDepth 20000 in
theorem gX3_tellsWhatWasSent_X6_wordOf : GoodIn wsX3_tellsWhatWasSent (wsV RX3 125 RX6 yX6_wordOf wsX6_wordOf) := goodIn_app (goodIn_of _ (by decide +kernel)) ggX3_tellsWhatWasSent_X6_wordOf
set_option maxRecDepth 20000 in
theorem ggX3_tellsWhatWasSent_X6_weakOf : GoodIn wsX3_tellsWhatWasSent wsX6_weakOf := goodIn_r _ [30, 31, 32, 33, 34, 20, 35, 36, 18, 19, 21, 22, 89, 90, 91] (by decide +kernel) (by decide +kernel)
set_option maxRecDepth 20000 in
theorem gX3_tellsWhatWasSent_X6_weakOf : GoodIn wsX3_tellsWhatWasSent (wsV RX3 128 RX6 yX6_weakOf wsX6_weakOf) := goodIn_app (goodIn_of _ (by decide +kernel)) ggX3_tellsWhatWasSent_X6_weakOf
set_option maxRecDepth 20000 in
theorem ggX3_tellsWhatWasSent_X7_repaired : GoodIn wsX3_tellsWhatWasSent wsX7_repaired := goodIn_r _ [40, 41, 42, 43, 39, 44, 45, 46, 47, 48, 49, 50, 51, 52, 53, 54, 55, 56, 57, 58, 59, 60, 61, 62, 63, 64, 65, 66, 67, 68, 69, 70] (by decide +kernel) (by decide +kernel)
set_option maxRecDepth 20000 in
theorem gX3_tellsWhatWasSent_X7_repaired : GoodIn wsX3_tellsWhatWasSent (va_wsS RX3 131 yX7_repaired wsX7_repaired) := goodIn_app (goodIn_of _ (by decide +kernel)) ggX3_tellsWhatWasSent_X7_repaired
set_option maxRecDepth 20000 in
theorem ggX3_tellsWhatWasSent_X6_has : GoodIn wsX3_tellsWhatWasSent wsX6_has := goodIn_r _ [14, 15, 16, 17, 18, 19, 20, 21, 22, 89, 90, 91] (by decide +kernel) (by decide +kernel)
set_option maxRecDepth 20000 in
theorem gX3_tellsWhatWasSent_X6_has : GoodIn wsX3_tellsWhatWasSent (wsV RX3 76 RX6 yX6_has wsX6_has) := goodIn_app (goodIn_of _ (by decide +kernel)) ggX3_tellsWhatWasSent_X6_has
set_option maxRecDepth 20000 in
theorem ggX3_tellsWhatWasSent_X7_valueOf : GoodIn wsX3_tellsWhatWasSent wsX7_valueOf := goodIn_r _ [73, 74] (by decide +kernel) (by decide +kernel)
set_option maxRecDepth 20000 in
theorem gX3_tellsWhatWasSent_X7_valueOf : GoodIn wsX3_tellsWhatWasSent (va_wsS RX3 151 yX7_valueOf wsX7_valueOf) := goodIn_app (goodIn_of _ (by decide +kernel)) ggX3_tellsWhatWasSent_X7_valueOf
set_option maxRecDepth 20000 in
theorem ggX3_tellsWhatWasSent_X4_at : GoodIn wsX3_tellsWhatWasSent wsX4_at := goodIn_r _ [21, 22, 91] (by decide +kernel) (by decide +kernel)
set_option maxRecDepth 20000 in
theorem gX3_tellsWhatWasSent_X4_at : GoodIn wsX3_tellsWhatWasSent (wsV RX3 145 RX4 yX4_at wsX4_at) := goodIn_app (goodIn_of _ (by decide +kernel)) ggX3_tellsWhatWasSent_X4_at
theorem dX3_tellsWhatWasSent_0 : decode cX3_tellsWhatWasSent 0 = .ok (.aload_n 0, 1) := by decide +kernel
theorem dX3_tellsWhatWasSent_1 : decode cX3_tellsWhatWasSent 1 = .ok (.iload_n 1, 1) := by decide +kernel
theorem dX3_tellsWhatWasSent_2 : decode cX3_tellsWhatWasSent 2 = .ok (.invokevirtual 121, 3) := by decide +kernel
theorem dX3_tellsWhatWasSent_5 : decode cX3_tellsWhatWasSent 5 = .ok (.astore_n 2, 1) := by decide +kernel
theorem dX3_tellsWhatWasSent_6 : decode cX3_tellsWhatWasSent 6 = .ok (.aload_n 2, 1) := by decide +kernel
theorem dX3_tellsWhatWasSent_7 : decode cX3_tellsWhatWasSent 7 = .ok (.iload_n 1, 1) := by decide +kernel
theorem dX3_tellsWhatWasSent_8 : decode cX3_tellsWhatWasSent 8 = .ok (.invokevirtual 125, 3) := by decide +kernel
theorem dX3_tellsWhatWasSent_11 : decode cX3_tellsWhatWasSent 11 = .ok (.aload_n 2, 1) := by decide +kernel
theorem dX3_tellsWhatWasSent_12 : decode cX3_tellsWhatWasSent 12 = .ok (.iload_n 1, 1) := by decide +kernel
theorem dX3_tellsWhatWasSent_13 : decode cX3_tellsWhatWasSent 13 = .ok (.invokevirtual 128, 3) := by decide +kernel
theorem dX3_tellsWhatWasSent_16 : decode cX3_tellsWhatWasSent 16 = .ok (.invokestatic 131, 3) := by decide +kernel
theorem dX3_tellsWhatWasSent_19 : decode cX3_tellsWhatWasSent 19 = .ok (.lstore_n 3, 1) := by decide +kernel
theorem dX3_tellsWhatWasSent_20 : decode cX3_tellsWhatWasSent 20 = .ok (.aload_n 2, 1) := by decide +kernel
theorem dX3_tellsWhatWasSent_21 : decode cX3_tellsWhatWasSent 21 = .ok (.iload_n 1, 1) := by decide +kernel
theorem dX3_tellsWhatWasSent_22 : decode cX3_tellsWhatWasSent 22 = .ok (.invokevirtual 76, 3) := by decide +kernel
theorem dX3_tellsWhatWasSent_25 : decode cX3_tellsWhatWasSent 25 = .ok (.ifCond .eq 32, 3) := by decide +kernel
theorem dX3_tellsWhatWasSent_28 : decode cX3_tellsWhatWasSent 28 = .ok (.lload_n 3, 1) := by decide +kernel
theorem dX3_tellsWhatWasSent_29 : decode cX3_tellsWhatWasSent 29 = .ok (.ldc2_w 62, 3) := by decide +kernel
theorem dX3_tellsWhatWasSent_32 : decode cX3_tellsWhatWasSent 32 = .ok (.lcmp, 1) := by decide +kernel
theorem dX3_tellsWhatWasSent_33 : decode cX3_tellsWhatWasSent 33 = .ok (.ifCond .eq 24, 3) := by decide +kernel
theorem dX3_tellsWhatWasSent_36 : decode cX3_tellsWhatWasSent 36 = .ok (.lload_n 3, 1) := by decide +kernel
theorem dX3_tellsWhatWasSent_37 : decode cX3_tellsWhatWasSent 37 = .ok (.invokestatic 151, 3) := by decide +kernel
theorem dX3_tellsWhatWasSent_40 : decode cX3_tellsWhatWasSent 40 = .ok (.i2l, 1) := by decide +kernel
theorem dX3_tellsWhatWasSent_41 : decode cX3_tellsWhatWasSent 41 = .ok (.aload_n 0, 1) := by decide +kernel
theorem dX3_tellsWhatWasSent_42 : decode cX3_tellsWhatWasSent 42 = .ok (.getfield 39, 3) := by decide +kernel
theorem dX3_tellsWhatWasSent_45 : decode cX3_tellsWhatWasSent 45 = .ok (.iload_n 1, 1) := by decide +kernel
theorem dX3_tellsWhatWasSent_46 : decode cX3_tellsWhatWasSent 46 = .ok (.invokevirtual 145, 3) := by decide +kernel
theorem dX3_tellsWhatWasSent_49 : decode cX3_tellsWhatWasSent 49 = .ok (.lcmp, 1) := by decide +kernel
theorem dX3_tellsWhatWasSent_50 : decode cX3_tellsWhatWasSent 50 = .ok (.ifCond .ne 7, 3) := by decide +kernel
theorem dX3_tellsWhatWasSent_53 : decode cX3_tellsWhatWasSent 53 = .ok (.iconst 1, 1) := by decide +kernel
theorem dX3_tellsWhatWasSent_54 : decode cX3_tellsWhatWasSent 54 = .ok (.goto 4, 3) := by decide +kernel
theorem dX3_tellsWhatWasSent_57 : decode cX3_tellsWhatWasSent 57 = .ok (.iconst 0, 1) := by decide +kernel
theorem dX3_tellsWhatWasSent_58 : decode cX3_tellsWhatWasSent 58 = .ok (.ireturn, 1) := by decide +kernel
set_option maxRecDepth 20000 in
theorem ggX3_endsHold_X6_has : GoodIn wsX3_endsHold wsX6_has := goodIn_r _ [6, 7, 8, 9, 10, 11, 12, 13, 14, 39, 40, 41] (by decide +kernel) (by decide +kernel)
set_option maxRecDepth 20000 in
theorem gX3_endsHold_X6_has : GoodIn wsX3_endsHold (wsV RX3 76 RX6 yX6_has wsX6_has) := goodIn_app (goodIn_of _ (by decide +kernel)) ggX3_endsHold_X6_has
set_option maxRecDepth 20000 in
theorem ggX3_endsHold_X3_endOf : GoodIn wsX3_endsHold wsX3_endOf := goodIn_r _ [19, 20, 21, 22, 23, 12, 24, 25, 10, 11, 13, 14, 26, 27, 28, 29, 30, 31, 32, 33, 34, 35, 36, 37, 38, 41] (by decide +kernel) (by decide +kernel)
set_option maxRecDepth 20000 in
theorem gX3_endsHold_X3_endOf : GoodIn wsX3_endsHold (wsV RX3 155 RX3 yX3_endOf wsX3_endOf) := goodIn_app (goodIn_of _ (by decide +kernel)) ggX3_endsHold_X3_endOf
theorem dX3_endsHold_0 : decode cX3_endsHold 0 = .ok (.iconst 0, 1) := by decide +kernel
theorem dX3_endsHold_1 : decode cX3_endsHold 1 = .ok (.istore_n 1, 1) := by decide +kernel
theorem dX3_endsHold_2 : decode cX3_endsHold 2 = .ok (.iload_n 1, 1) := by decide +kernel
theorem dX3_endsHold_3 : decode cX3_endsHold 3 = .ok (.bipush 60, 2) := by decide +kernel
theorem dX3_endsHold_5 : decode cX3_endsHold 5 = .ok (.if_icmp .ge 37, 3) := by decide +kernel
theorem dX3_endsHold_8 : decode cX3_endsHold 8 = .ok (.aload_n 0, 1) := by decide +kernel
theorem dX3_endsHold_9 : decode cX3_endsHold 9 = .ok (.getfield 12, 3) := by decide +kernel
theorem dX3_endsHold_12 : decode cX3_endsHold 12 = .ok (.iload_n 1, 1) := by decide +kernel
theorem dX3_endsHold_13 : decode cX3_endsHold 13 = .ok (.invokevirtual 76, 3) := by decide +kernel
theorem dX3_endsHold_16 : decode cX3_endsHold 16 = .ok (.ifCond .eq 20, 3) := by decide +kernel
theorem dX3_endsHold_19 : decode cX3_endsHold 19 = .ok (.iload_n 1, 1) := by decide +kernel
theorem dX3_endsHold_20 : decode cX3_endsHold 20 = .ok (.bipush 20, 2) := by decide +kernel
theorem dX3_endsHold_22 : decode cX3_endsHold 22 = .ok (.irem, 1) := by decide +kernel
theorem dX3_endsHold_23 : decode cX3_endsHold 23 = .ok (.aload_n 0, 1) := by decide +kernel
theorem dX3_endsHold_24 : decode cX3_endsHold 24 = .ok (.iload_n 1, 1) := by decide +kernel
theorem dX3_endsHold_25 : decode cX3_endsHold 25 = .ok (.bipush 20, 2) := by decide +kernel
theorem dX3_endsHold_27 : decode cX3_endsHold 27 = .ok (.idiv, 1) := by decide +kernel
theorem dX3_endsHold_28 : decode cX3_endsHold 28 = .ok (.invokevirtual 155, 3) := by decide +kernel
theorem dX3_endsHold_31 : decode cX3_endsHold 31 = .ok (.if_icmp .lt 5, 3) := by decide +kernel
theorem dX3_endsHold_34 : decode cX3_endsHold 34 = .ok (.iconst 0, 1) := by decide +kernel
theorem dX3_endsHold_35 : decode cX3_endsHold 35 = .ok (.ireturn, 1) := by decide +kernel
theorem dX3_endsHold_36 : decode cX3_endsHold 36 = .ok (.iinc 1 1, 3) := by decide +kernel
theorem dX3_endsHold_39 : decode cX3_endsHold 39 = .ok (.goto (-37), 3) := by decide +kernel
theorem dX3_endsHold_42 : decode cX3_endsHold 42 = .ok (.iconst 1, 1) := by decide +kernel
theorem dX3_endsHold_43 : decode cX3_endsHold 43 = .ok (.ireturn, 1) := by decide +kernel
theorem dX4_init_0 : decode cX4_init 0 = .ok (.aload_n 0, 1) := by decide +kernel
theorem dX4_init_1 : decode cX4_init 1 = .ok (.invokespecial 1, 3) := by decide +kernel
theorem dX4_init_4 : decode cX4_init 4 = .ok (.aload_n 0, 1) := by decide +kernel
theorem dX4_init_5 : decode cX4_init 5 = .ok (.iload_n 1, 1) := by decide +kernel
theorem dX4_init_6 : decode cX4_init 6 = .ok (.ifCond .ge 7, 3) := by decide +kernel
theorem dX4_init_9 : decode cX4_init 9 = .ok (.iconst 0, 1) := by decide +kernel
theorem dX4_init_10 : decode cX4_init 10 = .ok (.goto 4, 3) := by decide +kernel
theorem dX4_init_13 : decode cX4_init 13 = .ok (.iload_n 1, 1) := by decide +kernel
theorem dX4_init_14 : decode cX4_init 14 = .ok (.newarray .long, 2) := by decide +kernel
theorem dX4_init_16 : decode cX4_init 16 = .ok (.putfield 7, 3) := by decide +kernel
theorem dX4_init_19 : decode cX4_init 19 = .ok (.return_, 1) := by decide +kernel
theorem dX4_at_0 : decode cX4_at 0 = .ok (.iload_n 1, 1) := by decide +kernel
theorem dX4_at_1 : decode cX4_at 1 = .ok (.ifCond .lt 21, 3) := by decide +kernel
theorem dX4_at_4 : decode cX4_at 4 = .ok (.iload_n 1, 1) := by decide +kernel
theorem dX4_at_5 : decode cX4_at 5 = .ok (.aload_n 0, 1) := by decide +kernel
theorem dX4_at_6 : decode cX4_at 6 = .ok (.getfield 7, 3) := by decide +kernel
theorem dX4_at_9 : decode cX4_at 9 = .ok (.arraylength, 1) := by decide +kernel
theorem dX4_at_10 : decode cX4_at 10 = .ok (.if_icmp .ge 12, 3) := by decide +kernel
theorem dX4_at_13 : decode cX4_at 13 = .ok (.aload_n 0, 1) := by decide +kernel
theorem dX4_at_14 : decode cX4_at 14 = .ok (.getfield 7, 3) := by decide +kernel
theorem dX4_at_17 : decode cX4_at 17 = .ok (.iload_n 1, 1) := by decide +kernel
theorem dX4_at_18 : decode cX4_at 18 = .ok (.laload, 1) := by decide +kernel
theorem dX4_at_19 : decode cX4_at 19 = .ok (.goto 4, 3) := by decide +kernel
theorem dX4_at_22 : decode cX4_at 22 = .ok (.lconst 0, 1) := by decide +kernel
theorem dX4_at_23 : decode cX4_at 23 = .ok (.lreturn, 1) := by decide +kernel
set_option maxRecDepth 20000 in
theorem ggX4_intAt_X4_at : GoodIn wsX4_intAt wsX4_at := goodIn_r _ [5, 6, 7] (by decide +kernel) (by decide +kernel)
set_option maxRecDepth 20000 in
theorem gX4_intAt_X4_at : GoodIn wsX4_intAt (wsV RX4 13 RX4 yX4_at wsX4_at) := goodIn_app (goodIn_of _ (by decide +kernel)) ggX4_intAt_X4_at
theorem dX4_intAt_0 : decode cX4_intAt 0 = .ok (.aload_n 0, 1) := by decide +kernel
theorem dX4_intAt_1 : decode cX4_intAt 1 = .ok (.iload_n 1, 1) := by decide +kernel
theorem dX4_intAt_2 : decode cX4_intAt 2 = .ok (.invokevirtual 13, 3) := by decide +kernel
theorem dX4_intAt_5 : decode cX4_intAt 5 = .ok (.l2i, 1) := by decide +kernel
theorem dX4_intAt_6 : decode cX4_intAt 6 = .ok (.ireturn, 1) := by decide +kernel
theorem dX4_put_0 : decode cX4_put 0 = .ok (.iload_n 1, 1) := by decide +kernel
theorem dX4_put_1 : decode cX4_put 1 = .ok (.ifCond .lt 19, 3) := by decide +kernel
theorem dX4_put_4 : decode cX4_put 4 = .ok (.iload_n 1, 1) := by decide +kernel
theorem dX4_put_5 : decode cX4_put 5 = .ok (.aload_n 0, 1) := by decide +kernel
theorem dX4_put_6 : decode cX4_put 6 = .ok (.getfield 7, 3) := by decide +kernel
theorem dX4_put_9 : decode cX4_put 9 = .ok (.arraylength, 1) := by decide +kernel
theorem dX4_put_10 : decode cX4_put 10 = .ok (.if_icmp .ge 10, 3) := by decide +kernel
theorem dX4_put_13 : decode cX4_put 13 = .ok (.aload_n 0, 1) := by decide +kernel
theorem dX4_put_14 : decode cX4_put 14 = .ok (.getfield 7, 3) := by decide +kernel
theorem dX4_put_17 : decode cX4_put 17 = .ok (.iload_n 1, 1) := by decide +kernel
theorem dX4_put_18 : decode cX4_put 18 = .ok (.lload_n 2, 1) := by decide +kernel
theorem dX4_put_19 : decode cX4_put 19 = .ok (.lastore, 1) := by decide +kernel
theorem dX4_put_20 : decode cX4_put 20 = .ok (.return_, 1) := by decide +kernel
theorem dX4_fill_0 : decode cX4_fill 0 = .ok (.iconst 0, 1) := by decide +kernel
theorem dX4_fill_1 : decode cX4_fill 1 = .ok (.istore_n 3, 1) := by decide +kernel
theorem dX4_fill_2 : decode cX4_fill 2 = .ok (.iload_n 3, 1) := by decide +kernel
theorem dX4_fill_3 : decode cX4_fill 3 = .ok (.aload_n 0, 1) := by decide +kernel
theorem dX4_fill_4 : decode cX4_fill 4 = .ok (.getfield 7, 3) := by decide +kernel
theorem dX4_fill_7 : decode cX4_fill 7 = .ok (.arraylength, 1) := by decide +kernel
theorem dX4_fill_8 : decode cX4_fill 8 = .ok (.if_icmp .ge 16, 3) := by decide +kernel
theorem dX4_fill_11 : decode cX4_fill 11 = .ok (.aload_n 0, 1) := by decide +kernel
theorem dX4_fill_12 : decode cX4_fill 12 = .ok (.getfield 7, 3) := by decide +kernel
theorem dX4_fill_15 : decode cX4_fill 15 = .ok (.iload_n 3, 1) := by decide +kernel
theorem dX4_fill_16 : decode cX4_fill 16 = .ok (.lload_n 1, 1) := by decide +kernel
theorem dX4_fill_17 : decode cX4_fill 17 = .ok (.lastore, 1) := by decide +kernel
theorem dX4_fill_18 : decode cX4_fill 18 = .ok (.iinc 3 1, 3) := by decide +kernel
theorem dX4_fill_21 : decode cX4_fill 21 = .ok (.goto (-19), 3) := by decide +kernel
theorem dX4_fill_24 : decode cX4_fill 24 = .ok (.return_, 1) := by decide +kernel
set_option maxRecDepth 20000 in
theorem ggX4_isSet_X4_at : GoodIn wsX4_isSet wsX4_at := goodIn_r _ [5, 6, 7] (by decide +kernel) (by decide +kernel)
set_option maxRecDepth 20000 in
theorem gX4_isSet_X4_at : GoodIn wsX4_isSet (wsV RX4 13 RX4 yX4_at wsX4_at) := goodIn_app (goodIn_of _ (by decide +kernel)) ggX4_isSet_X4_at
theorem dX4_isSet_0 : decode cX4_isSet 0 = .ok (.aload_n 0, 1) := by decide +kernel
theorem dX4_isSet_1 : decode cX4_isSet 1 = .ok (.iload_n 1, 1) := by decide +kernel
theorem dX4_isSet_2 : decode cX4_isSet 2 = .ok (.invokevirtual 13, 3) := by decide +kernel
theorem dX4_isSet_5 : decode cX4_isSet 5 = .ok (.lconst 0, 1) := by decide +kernel
theorem dX4_isSet_6 : decode cX4_isSet 6 = .ok (.lcmp, 1) := by decide +kernel
theorem dX4_isSet_7 : decode cX4_isSet 7 = .ok (.ifCond .eq 7, 3) := by decide +kernel
theorem dX4_isSet_10 : decode cX4_isSet 10 = .ok (.iconst 1, 1) := by decide +kernel
theorem dX4_isSet_11 : decode cX4_isSet 11 = .ok (.goto 4, 3) := by decide +kernel
theorem dX4_isSet_14 : decode cX4_isSet 14 = .ok (.iconst 0, 1) := by decide +kernel
theorem dX4_isSet_15 : decode cX4_isSet 15 = .ok (.ireturn, 1) := by decide +kernel
set_option maxRecDepth 20000 in
theorem ggX5_init_X4_init : GoodIn wsX5_init wsX4_init := goodIn_r _ [16, 17, 2, 3, 18, 19, 20] (by decide +kernel) (by decide +kernel)
set_option maxRecDepth 20000 in
theorem gX5_init_X4_init : GoodIn wsX5_init (wsX4_init) := ggX5_init_X4_init
theorem dX5_init_0 : decode cX5_init 0 = .ok (.aload_n 0, 1) := by decide +kernel
theorem dX5_init_1 : decode cX5_init 1 = .ok (.invokespecial 3, 3) := by decide +kernel
theorem dX5_init_4 : decode cX5_init 4 = .ok (.aload_n 0, 1) := by decide +kernel
theorem dX5_init_5 : decode cX5_init 5 = .ok (.new 9, 3) := by decide +kernel
theorem dX5_init_8 : decode cX5_init 8 = .ok (.dup, 1) := by decide +kernel
theorem dX5_init_9 : decode cX5_init 9 = .ok (.bipush 8, 2) := by decide +kernel
theorem dX5_init_11 : decode cX5_init 11 = .ok (.invokespecial 11, 3) := by decide +kernel
theorem dX5_init_14 : decode cX5_init 14 = .ok (.putfield 14, 3) := by decide +kernel
theorem dX5_init_17 : decode cX5_init 17 = .ok (.aload_n 0, 1) := by decide +kernel
theorem dX5_init_18 : decode cX5_init 18 = .ok (.new 9, 3) := by decide +kernel
theorem dX5_init_21 : decode cX5_init 21 = .ok (.dup, 1) := by decide +kernel
theorem dX5_init_22 : decode cX5_init 22 = .ok (.bipush 8, 2) := by decide +kernel
theorem dX5_init_24 : decode cX5_init 24 = .ok (.invokespecial 11, 3) := by decide +kernel
theorem dX5_init_27 : decode cX5_init 27 = .ok (.putfield 20, 3) := by decide +kernel
theorem dX5_init_30 : decode cX5_init 30 = .ok (.aload_n 0, 1) := by decide +kernel
theorem dX5_init_31 : decode cX5_init 31 = .ok (.iconst 0, 1) := by decide +kernel
theorem dX5_init_32 : decode cX5_init 32 = .ok (.putfield 23, 3) := by decide +kernel
theorem dX5_init_35 : decode cX5_init 35 = .ok (.aload_n 0, 1) := by decide +kernel
theorem dX5_init_36 : decode cX5_init 36 = .ok (.iconst 0, 1) := by decide +kernel
theorem dX5_init_37 : decode cX5_init 37 = .ok (.putfield 27, 3) := by decide +kernel
theorem dX5_init_40 : decode cX5_init 40 = .ok (.aload_n 0, 1) := by decide +kernel
theorem dX5_init_41 : decode cX5_init 41 = .ok (.iconst 0, 1) := by decide +kernel
theorem dX5_init_42 : decode cX5_init 42 = .ok (.putfield 30, 3) := by decide +kernel
theorem dX5_init_45 : decode cX5_init 45 = .ok (.aload_n 0, 1) := by decide +kernel
theorem dX5_init_46 : decode cX5_init 46 = .ok (.iconst 0, 1) := by decide +kernel
theorem dX5_init_47 : decode cX5_init 47 = .ok (.putfield 33, 3) := by decide +kernel
theorem dX5_init_50 : decode cX5_init 50 = .ok (.aload_n 0, 1) := by decide +kernel
theorem dX5_init_51 : decode cX5_init 51 = .ok (.iconst 0, 1) := by decide +kernel
theorem dX5_init_52 : decode cX5_init 52 = .ok (.putfield 36, 3) := by decide +kernel
theorem dX5_init_55 : decode cX5_init 55 = .ok (.return_, 1) := by decide +kernel
set_option maxRecDepth 20000 in
theorem ggX6_init_X4_init : GoodIn wsX6_init wsX4_init := goodIn_r _ [12, 13, 2, 3, 14, 15, 20] (by decide +kernel) (by decide +kernel)
set_option maxRecDepth 20000 in
theorem gX6_init_X4_init : GoodIn wsX6_init (wsX4_init) := ggX6_init_X4_init
set_option maxRecDepth 20000 in
theorem ggX6_init_X4_fill : GoodIn wsX6_init wsX4_fill := goodIn_r _ [19, 15, 20] (by decide +kernel) (by decide +kernel)
set_option maxRecDepth 20000 in
theorem gX6_init_X4_fill : GoodIn wsX6_init (wsV RX6 25 RX4 yX4_fill wsX4_fill) := goodIn_app (goodIn_of _ (by decide +kernel)) ggX6_init_X4_fill
theorem dX6_init_0 : decode cX6_init 0 = .ok (.aload_n 0, 1) := by decide +kernel
theorem dX6_init_1 : decode cX6_init 1 = .ok (.invokespecial 3, 3) := by decide +kernel
theorem dX6_init_4 : decode cX6_init 4 = .ok (.aload_n 0, 1) := by decide +kernel
theorem dX6_init_5 : decode cX6_init 5 = .ok (.new 9, 3) := by decide +kernel
theorem dX6_init_8 : decode cX6_init 8 = .ok (.dup, 1) := by decide +kernel
theorem dX6_init_9 : decode cX6_init 9 = .ok (.bipush 60, 2) := by decide +kernel
theorem dX6_init_11 : decode cX6_init 11 = .ok (.invokespecial 11, 3) := by decide +kernel
theorem dX6_init_14 : decode cX6_init 14 = .ok (.putfield 14, 3) := by decide +kernel
theorem dX6_init_17 : decode cX6_init 17 = .ok (.aload_n 0, 1) := by decide +kernel
theorem dX6_init_18 : decode cX6_init 18 = .ok (.new 9, 3) := by decide +kernel
theorem dX6_init_21 : decode cX6_init 21 = .ok (.dup, 1) := by decide +kernel
theorem dX6_init_22 : decode cX6_init 22 = .ok (.bipush 60, 2) := by decide +kernel
theorem dX6_init_24 : decode cX6_init 24 = .ok (.invokespecial 11, 3) := by decide +kernel
theorem dX6_init_27 : decode cX6_init 27 = .ok (.putfield 20, 3) := by decide +kernel
theorem dX6_init_30 : decode cX6_init 30 = .ok (.aload_n 0, 1) := by decide +kernel
theorem dX6_init_31 : decode cX6_init 31 = .ok (.getfield 14, 3) := by decide +kernel
theorem dX6_init_34 : decode cX6_init 34 = .ok (.ldc2_w 23, 3) := by decide +kernel
theorem dX6_init_37 : decode cX6_init 37 = .ok (.invokevirtual 25, 3) := by decide +kernel
theorem dX6_init_40 : decode cX6_init 40 = .ok (.return_, 1) := by decide +kernel
set_option maxRecDepth 20000 in
theorem ggX6_has_X4_at : GoodIn wsX6_has wsX4_at := goodIn_r _ [7, 8, 11] (by decide +kernel) (by decide +kernel)
set_option maxRecDepth 20000 in
theorem gX6_has_X4_at : GoodIn wsX6_has (wsV RX6 29 RX4 yX4_at wsX4_at) := goodIn_app (goodIn_of _ (by decide +kernel)) ggX6_has_X4_at
theorem dX6_has_0 : decode cX6_has 0 = .ok (.aload_n 0, 1) := by decide +kernel
theorem dX6_has_1 : decode cX6_has 1 = .ok (.getfield 14, 3) := by decide +kernel
theorem dX6_has_4 : decode cX6_has 4 = .ok (.iload_n 1, 1) := by decide +kernel
theorem dX6_has_5 : decode cX6_has 5 = .ok (.invokevirtual 29, 3) := by decide +kernel
theorem dX6_has_8 : decode cX6_has 8 = .ok (.ldc2_w 23, 3) := by decide +kernel
theorem dX6_has_11 : decode cX6_has 11 = .ok (.lcmp, 1) := by decide +kernel
theorem dX6_has_12 : decode cX6_has 12 = .ok (.ifCond .eq 7, 3) := by decide +kernel
theorem dX6_has_15 : decode cX6_has 15 = .ok (.iconst 1, 1) := by decide +kernel
theorem dX6_has_16 : decode cX6_has 16 = .ok (.goto 4, 3) := by decide +kernel
theorem dX6_has_19 : decode cX6_has 19 = .ok (.iconst 0, 1) := by decide +kernel
theorem dX6_has_20 : decode cX6_has 20 = .ok (.ireturn, 1) := by decide +kernel
set_option maxRecDepth 20000 in
theorem ggX6_wordOf_X4_at : GoodIn wsX6_wordOf wsX4_at := goodIn_r _ [6, 7, 10] (by decide +kernel) (by decide +kernel)
set_option maxRecDepth 20000 in
theorem gX6_wordOf_X4_at : GoodIn wsX6_wordOf (wsV RX6 29 RX4 yX4_at wsX4_at) := goodIn_app (goodIn_of _ (by decide +kernel)) ggX6_wordOf_X4_at
theorem dX6_wordOf_0 : decode cX6_wordOf 0 = .ok (.aload_n 0, 1) := by decide +kernel
theorem dX6_wordOf_1 : decode cX6_wordOf 1 = .ok (.getfield 14, 3) := by decide +kernel
theorem dX6_wordOf_4 : decode cX6_wordOf 4 = .ok (.iload_n 1, 1) := by decide +kernel
theorem dX6_wordOf_5 : decode cX6_wordOf 5 = .ok (.invokevirtual 29, 3) := by decide +kernel
theorem dX6_wordOf_8 : decode cX6_wordOf 8 = .ok (.lreturn, 1) := by decide +kernel
set_option maxRecDepth 20000 in
theorem ggX6_weakOf_X4_intAt : GoodIn wsX6_weakOf wsX4_intAt := goodIn_r _ [6, 7, 8, 9, 5, 10, 11, 14] (by decide +kernel) (by decide +kernel)
set_option maxRecDepth 20000 in
theorem gX6_weakOf_X4_intAt : GoodIn wsX6_weakOf (wsV RX6 33 RX4 yX4_intAt wsX4_intAt) := goodIn_app (goodIn_of _ (by decide +kernel)) ggX6_weakOf_X4_intAt
theorem dX6_weakOf_0 : decode cX6_weakOf 0 = .ok (.aload_n 0, 1) := by decide +kernel
theorem dX6_weakOf_1 : decode cX6_weakOf 1 = .ok (.getfield 20, 3) := by decide +kernel
theorem dX6_weakOf_4 : decode cX6_weakOf 4 = .ok (.iload_n 1, 1) := by decide +kernel
theorem dX6_weakOf_5 : decode cX6_weakOf 5 = .ok (.invokevirtual 33, 3) := by decide +kernel
theorem dX6_weakOf_8 : decode cX6_weakOf 8 = .ok (.ireturn, 1) := by decide +kernel
set_option maxRecDepth 20000 in
theorem ggX6_size_X6_has : GoodIn wsX6_size wsX6_has := goodIn_r _ [5, 6, 7, 8, 9, 10, 11, 12, 13, 14, 15, 16] (by decide +kernel) (by decide +kernel)
set_option maxRecDepth 20000 in
theorem gX6_size_X6_has : GoodIn wsX6_size (wsV RX6 42 RX6 yX6_has wsX6_has) := goodIn_app (goodIn_of _ (by decide +kernel)) ggX6_size_X6_has
theorem dX6_size_0 : decode cX6_size 0 = .ok (.iconst 0, 1) := by decide +kernel
theorem dX6_size_1 : decode cX6_size 1 = .ok (.istore_n 1, 1) := by decide +kernel
theorem dX6_size_2 : decode cX6_size 2 = .ok (.iconst 0, 1) := by decide +kernel
theorem dX6_size_3 : decode cX6_size 3 = .ok (.istore_n 2, 1) := by decide +kernel
theorem dX6_size_4 : decode cX6_size 4 = .ok (.iload_n 2, 1) := by decide +kernel
theorem dX6_size_5 : decode cX6_size 5 = .ok (.bipush 60, 2) := by decide +kernel
theorem dX6_size_7 : decode cX6_size 7 = .ok (.if_icmp .ge 20, 3) := by decide +kernel
theorem dX6_size_10 : decode cX6_size 10 = .ok (.aload_n 0, 1) := by decide +kernel
theorem dX6_size_11 : decode cX6_size 11 = .ok (.iload_n 2, 1) := by decide +kernel
theorem dX6_size_12 : decode cX6_size 12 = .ok (.invokevirtual 42, 3) := by decide +kernel
theorem dX6_size_15 : decode cX6_size 15 = .ok (.ifCond .eq 6, 3) := by decide +kernel
theorem dX6_size_18 : decode cX6_size 18 = .ok (.iinc 1 1, 3) := by decide +kernel
theorem dX6_size_21 : decode cX6_size 21 = .ok (.iinc 2 1, 3) := by decide +kernel
theorem dX6_size_24 : decode cX6_size 24 = .ok (.goto (-20), 3) := by decide +kernel
theorem dX6_size_27 : decode cX6_size 27 = .ok (.iload_n 1, 1) := by decide +kernel
theorem dX6_size_28 : decode cX6_size 28 = .ok (.ireturn, 1) := by decide +kernel
theorem dX7_nibble_0 : decode cX7_nibble 0 = .ok (.lload_n 0, 1) := by decide +kernel
theorem dX7_nibble_1 : decode cX7_nibble 1 = .ok (.iconst 4, 1) := by decide +kernel
theorem dX7_nibble_2 : decode cX7_nibble 2 = .ok (.iload_n 2, 1) := by decide +kernel
theorem dX7_nibble_3 : decode cX7_nibble 3 = .ok (.imul, 1) := by decide +kernel
theorem dX7_nibble_4 : decode cX7_nibble 4 = .ok (.lushr, 1) := by decide +kernel
theorem dX7_nibble_5 : decode cX7_nibble 5 = .ok (.l2i, 1) := by decide +kernel
theorem dX7_nibble_6 : decode cX7_nibble 6 = .ok (.bipush 15, 2) := by decide +kernel
theorem dX7_nibble_8 : decode cX7_nibble 8 = .ok (.iand, 1) := by decide +kernel
theorem dX7_nibble_9 : decode cX7_nibble 9 = .ok (.ireturn, 1) := by decide +kernel
theorem dX7_turned_0 : decode cX7_turned 0 = .ok (.lload_n 0, 1) := by decide +kernel
theorem dX7_turned_1 : decode cX7_turned 1 = .ok (.iload_n 3, 1) := by decide +kernel
theorem dX7_turned_2 : decode cX7_turned 2 = .ok (.i2l, 1) := by decide +kernel
theorem dX7_turned_3 : decode cX7_turned 3 = .ok (.iconst 4, 1) := by decide +kernel
theorem dX7_turned_4 : decode cX7_turned 4 = .ok (.iload_n 2, 1) := by decide +kernel
theorem dX7_turned_5 : decode cX7_turned 5 = .ok (.imul, 1) := by decide +kernel
theorem dX7_turned_6 : decode cX7_turned 6 = .ok (.lshl, 1) := by decide +kernel
theorem dX7_turned_7 : decode cX7_turned 7 = .ok (.lxor, 1) := by decide +kernel
theorem dX7_turned_8 : decode cX7_turned 8 = .ok (.lreturn, 1) := by decide +kernel
set_option maxRecDepth 20000 in
theorem ggX7_of_X7_sumsOf : GoodIn wsX7_of wsX7_sumsOf := goodIn_r _ [4, 5, 6, 3, 7, 8, 9, 10] (by decide +kernel) (by decide +kernel)
set_option maxRecDepth 20000 in
theorem gX7_of_X7_sumsOf : GoodIn wsX7_of (va_wsS RX7 9 yX7_sumsOf wsX7_sumsOf) := goodIn_app (goodIn_of _ (by decide +kernel)) ggX7_of_X7_sumsOf
set_option maxRecDepth 20000 in
theorem ggX7_of_X7_filled : GoodIn wsX7_of wsX7_filled := goodIn_r _ [13, 14, 15, 3, 16, 17, 8, 9, 10, 5, 6, 7, 1, 2, 4, 18, 19, 20, 21, 22, 23] (by decide +kernel) (by decide +kernel)
set_option maxRecDepth 20000 in
theorem gX7_of_X7_filled : GoodIn wsX7_of (va_wsS RX7 15 yX7_filled wsX7_filled) := goodIn_app (goodIn_of _ (by decide +kernel)) ggX7_of_X7_filled
theorem dX7_of_0 : decode cX7_of 0 = .ok (.iload_n 0, 1) := by decide +kernel
theorem dX7_of_1 : decode cX7_of 1 = .ok (.i2l, 1) := by decide +kernel
theorem dX7_of_2 : decode cX7_of 2 = .ok (.iload_n 0, 1) := by decide +kernel
theorem dX7_of_3 : decode cX7_of 3 = .ok (.i2l, 1) := by decide +kernel
theorem dX7_of_4 : decode cX7_of 4 = .ok (.invokestatic 9, 3) := by decide +kernel
theorem dX7_of_7 : decode cX7_of 7 = .ok (.sipush 240, 3) := by decide +kernel
theorem dX7_of_10 : decode cX7_of 10 = .ok (.invokestatic 15, 3) := by decide +kernel
theorem dX7_of_13 : decode cX7_of 13 = .ok (.lreturn, 1) := by decide +kernel
theorem dX7_valueOf_0 : decode cX7_valueOf 0 = .ok (.lload_n 0, 1) := by decide +kernel
theorem dX7_valueOf_1 : decode cX7_valueOf 1 = .ok (.ldc2_w 19, 3) := by decide +kernel
theorem dX7_valueOf_4 : decode cX7_valueOf 4 = .ok (.land, 1) := by decide +kernel
theorem dX7_valueOf_5 : decode cX7_valueOf 5 = .ok (.l2i, 1) := by decide +kernel
theorem dX7_valueOf_6 : decode cX7_valueOf 6 = .ok (.ireturn, 1) := by decide +kernel
set_option maxRecDepth 20000 in
theorem ggX7_differences_X7_nibble : GoodIn wsX7_differences wsX7_nibble := goodIn_r _ [4] (by decide +kernel) (by decide +kernel)
set_option maxRecDepth 20000 in
theorem gX7_differences_X7_nibble : GoodIn wsX7_differences (va_wsS RX7 21 yX7_nibble wsX7_nibble) := goodIn_app (goodIn_of _ (by decide +kernel)) ggX7_differences_X7_nibble
theorem dX7_differences_0 : decode cX7_differences 0 = .ok (.iconst 0, 1) := by decide +kernel
theorem dX7_differences_1 : decode cX7_differences 1 = .ok (.istore 4, 2) := by decide +kernel
theorem dX7_differences_3 : decode cX7_differences 3 = .ok (.iconst 0, 1) := by decide +kernel
theorem dX7_differences_4 : decode cX7_differences 4 = .ok (.istore 5, 2) := by decide +kernel
theorem dX7_differences_6 : decode cX7_differences 6 = .ok (.iload 5, 2) := by decide +kernel
theorem dX7_differences_8 : decode cX7_differences 8 = .ok (.bipush 8, 2) := by decide +kernel
theorem dX7_differences_10 : decode cX7_differences 10 = .ok (.if_icmp .ge 27, 3) := by decide +kernel
theorem dX7_differences_13 : decode cX7_differences 13 = .ok (.lload_n 0, 1) := by decide +kernel
theorem dX7_differences_14 : decode cX7_differences 14 = .ok (.iload 5, 2) := by decide +kernel
theorem dX7_differences_16 : decode cX7_differences 16 = .ok (.invokestatic 21, 3) := by decide +kernel
theorem dX7_differences_19 : decode cX7_differences 19 = .ok (.lload_n 2, 1) := by decide +kernel
theorem dX7_differences_20 : decode cX7_differences 20 = .ok (.iload 5, 2) := by decide +kernel
theorem dX7_differences_22 : decode cX7_differences 22 = .ok (.invokestatic 21, 3) := by decide +kernel
theorem dX7_differences_25 : decode cX7_differences 25 = .ok (.if_icmp .eq 6, 3) := by decide +kernel
theorem dX7_differences_28 : decode cX7_differences 28 = .ok (.iinc 4 1, 3) := by decide +kernel
theorem dX7_differences_31 : decode cX7_differences 31 = .ok (.iinc 5 1, 3) := by decide +kernel
theorem dX7_differences_34 : decode cX7_differences 34 = .ok (.goto (-28), 3) := by decide +kernel
theorem dX7_differences_37 : decode cX7_differences 37 = .ok (.iload 4, 2) := by decide +kernel
theorem dX7_differences_39 : decode cX7_differences 39 = .ok (.ireturn, 1) := by decide +kernel
set_option maxRecDepth 20000 in
theorem ggX7_repaired_X7_sumsOf : GoodIn wsX7_repaired wsX7_sumsOf := goodIn_r _ [5, 6, 7, 4, 8, 9, 10, 11] (by decide +kernel) (by decide +kernel)
set_option maxRecDepth 20000 in
theorem gX7_repaired_X7_sumsOf : GoodIn wsX7_repaired (va_wsS RX7 9 yX7_sumsOf wsX7_sumsOf) := goodIn_app (goodIn_of _ (by decide +kernel)) ggX7_repaired_X7_sumsOf
set_option maxRecDepth 20000 in
theorem ggX7_repaired_J6_bitCount_0f7a4 : GoodIn wsX7_repaired wsJ6_bitCount_0f7a4 := goodIn_r _ [15, 16, 17, 18] (by decide +kernel) (by decide +kernel)
set_option maxRecDepth 20000 in
theorem gX7_repaired_J6_bitCount_0f7a4 : GoodIn wsX7_repaired (va_wsS RX7 25 yJ6_bitCount_0f7a4 wsJ6_bitCount_0f7a4) := goodIn_app (goodIn_of _ (by decide +kernel)) ggX7_repaired_J6_bitCount_0f7a4
set_option maxRecDepth 20000 in
theorem ggX7_repaired_X7_sumsWithout : GoodIn wsX7_repaired wsX7_sumsWithout := goodIn_r _ [21, 22, 9, 10, 4, 11, 6, 7, 8] (by decide +kernel) (by decide +kernel)
set_option maxRecDepth 20000 in
theorem gX7_repaired_X7_sumsWithout : GoodIn wsX7_repaired (va_wsS RX7 31 yX7_sumsWithout wsX7_sumsWithout) := goodIn_app (goodIn_of _ (by decide +kernel)) ggX7_repaired_X7_sumsWithout
set_option maxRecDepth 20000 in
theorem ggX7_repaired_X7_filled : GoodIn wsX7_repaired wsX7_filled := goodIn_r _ [25, 19, 20, 4, 21, 22, 9, 10, 11, 6, 7, 8, 2, 3, 5, 26, 27, 28, 29, 30, 31] (by decide +kernel) (by decide +kernel)
set_option maxRecDepth 20000 in
theorem gX7_repaired_X7_filled : GoodIn wsX7_repaired (va_wsS RX7 15 yX7_filled wsX7_filled) := goodIn_app (goodIn_of _ (by decide +kernel)) ggX7_repaired_X7_filled
theorem dX7_repaired_0 : decode cX7_repaired 0 = .ok (.lload_n 0, 1) := by decide +kernel
theorem dX7_repaired_1 : decode cX7_repaired 1 = .ok (.invokestatic 9, 3) := by decide +kernel
theorem dX7_repaired_4 : decode cX7_repaired 4 = .ok (.istore_n 3, 1) := by decide +kernel
theorem dX7_repaired_5 : decode cX7_repaired 5 = .ok (.iload_n 2, 1) := by decide +kernel
theorem dX7_repaired_6 : decode cX7_repaired 6 = .ok (.invokestatic 25, 3) := by decide +kernel
theorem dX7_repaired_9 : decode cX7_repaired 9 = .ok (.istore 4, 2) := by decide +kernel
theorem dX7_repaired_11 : decode cX7_repaired 11 = .ok (.iconst 0, 1) := by decide +kernel
theorem dX7_repaired_12 : decode cX7_repaired 12 = .ok (.istore 5, 2) := by decide +kernel
theorem dX7_repaired_14 : decode cX7_repaired 14 = .ok (.iload 5, 2) := by decide +kernel
theorem dX7_repaired_16 : decode cX7_repaired 16 = .ok (.sipush 256, 3) := by decide +kernel
theorem dX7_repaired_19 : decode cX7_repaired 19 = .ok (.if_icmp .ge 63, 3) := by decide +kernel
theorem dX7_repaired_22 : decode cX7_repaired 22 = .ok (.iconst 2, 1) := by decide +kernel
theorem dX7_repaired_23 : decode cX7_repaired 23 = .ok (.iload 5, 2) := by decide +kernel
theorem dX7_repaired_25 : decode cX7_repaired 25 = .ok (.invokestatic 25, 3) := by decide +kernel
theorem dX7_repaired_28 : decode cX7_repaired 28 = .ok (.imul, 1) := by decide +kernel
theorem dX7_repaired_29 : decode cX7_repaired 29 = .ok (.iload 4, 2) := by decide +kernel
theorem dX7_repaired_31 : decode cX7_repaired 31 = .ok (.iadd, 1) := by decide +kernel
theorem dX7_repaired_32 : decode cX7_repaired 32 = .ok (.iconst 4, 1) := by decide +kernel
theorem dX7_repaired_33 : decode cX7_repaired 33 = .ok (.if_icmp .gt 7, 3) := by decide +kernel
theorem dX7_repaired_36 : decode cX7_repaired 36 = .ok (.iconst 1, 1) := by decide +kernel
theorem dX7_repaired_37 : decode cX7_repaired 37 = .ok (.goto 4, 3) := by decide +kernel
theorem dX7_repaired_40 : decode cX7_repaired 40 = .ok (.iconst 0, 1) := by decide +kernel
theorem dX7_repaired_41 : decode cX7_repaired 41 = .ok (.istore 6, 2) := by decide +kernel
theorem dX7_repaired_43 : decode cX7_repaired 43 = .ok (.iload 6, 2) := by decide +kernel
theorem dX7_repaired_45 : decode cX7_repaired 45 = .ok (.ifCond .eq 31, 3) := by decide +kernel
theorem dX7_repaired_48 : decode cX7_repaired 48 = .ok (.iload 5, 2) := by decide +kernel
theorem dX7_repaired_50 : decode cX7_repaired 50 = .ok (.iload_n 2, 1) := by decide +kernel
theorem dX7_repaired_51 : decode cX7_repaired 51 = .ok (.iand, 1) := by decide +kernel
theorem dX7_repaired_52 : decode cX7_repaired 52 = .ok (.ifCond .ne 24, 3) := by decide +kernel
theorem dX7_repaired_55 : decode cX7_repaired 55 = .ok (.iload_n 3, 1) := by decide +kernel
theorem dX7_repaired_56 : decode cX7_repaired 56 = .ok (.iload 5, 2) := by decide +kernel
theorem dX7_repaired_58 : decode cX7_repaired 58 = .ok (.iload_n 2, 1) := by decide +kernel
theorem dX7_repaired_59 : decode cX7_repaired 59 = .ok (.ior, 1) := by decide +kernel
theorem dX7_repaired_60 : decode cX7_repaired 60 = .ok (.invokestatic 31, 3) := by decide +kernel
theorem dX7_repaired_63 : decode cX7_repaired 63 = .ok (.ifCond .ne 13, 3) := by decide +kernel
theorem dX7_repaired_66 : decode cX7_repaired 66 = .ok (.lload_n 0, 1) := by decide +kernel
theorem dX7_repaired_67 : decode cX7_repaired 67 = .ok (.iload_n 3, 1) := by decide +kernel
theorem dX7_repaired_68 : decode cX7_repaired 68 = .ok (.iload 5, 2) := by decide +kernel
theorem dX7_repaired_70 : decode cX7_repaired 70 = .ok (.iload_n 2, 1) := by decide +kernel
theorem dX7_repaired_71 : decode cX7_repaired 71 = .ok (.ior, 1) := by decide +kernel
theorem dX7_repaired_72 : decode cX7_repaired 72 = .ok (.invokestatic 15, 3) := by decide +kernel
theorem dX7_repaired_75 : decode cX7_repaired 75 = .ok (.lreturn, 1) := by decide +kernel
theorem dX7_repaired_76 : decode cX7_repaired 76 = .ok (.iinc 5 1, 3) := by decide +kernel
theorem dX7_repaired_79 : decode cX7_repaired 79 = .ok (.goto (-65), 3) := by decide +kernel
theorem dX7_repaired_82 : decode cX7_repaired 82 = .ok (.ldc2_w 35, 3) := by decide +kernel
theorem dX7_repaired_85 : decode cX7_repaired 85 = .ok (.lreturn, 1) := by decide +kernel
set_option maxRecDepth 20000 in
theorem ggX7_sumsOf_X7_times : GoodIn wsX7_sumsOf wsX7_times := goodIn_r _ [4] (by decide +kernel) (by decide +kernel)
set_option maxRecDepth 20000 in
theorem gX7_sumsOf_X7_times : GoodIn wsX7_sumsOf (va_wsS RX7 37 yX7_times wsX7_times) := goodIn_app (goodIn_of _ (by decide +kernel)) ggX7_sumsOf_X7_times
set_option maxRecDepth 20000 in
theorem ggX7_sumsOf_X7_nibble : GoodIn wsX7_sumsOf wsX7_nibble := goodIn_r _ [7] (by decide +kernel) (by decide +kernel)
set_option maxRecDepth 20000 in
theorem gX7_sumsOf_X7_nibble : GoodIn wsX7_sumsOf (va_wsS RX7 21 yX7_nibble wsX7_nibble) := goodIn_app (goodIn_of _ (by decide +kernel)) ggX7_sumsOf_X7_nibble
theorem dX7_sumsOf_0 : decode cX7_sumsOf 0 = .ok (.iconst 0, 1) := by decide +kernel
theorem dX7_sumsOf_1 : decode cX7_sumsOf 1 = .ok (.istore_n 2, 1) := by decide +kernel
theorem dX7_sumsOf_2 : decode cX7_sumsOf 2 = .ok (.iconst 0, 1) := by decide +kernel
theorem dX7_sumsOf_3 : decode cX7_sumsOf 3 = .ok (.istore_n 3, 1) := by decide +kernel
theorem dX7_sumsOf_4 : decode cX7_sumsOf 4 = .ok (.iload_n 3, 1) := by decide +kernel
theorem dX7_sumsOf_5 : decode cX7_sumsOf 5 = .ok (.iconst 4, 1) := by decide +kernel
theorem dX7_sumsOf_6 : decode cX7_sumsOf 6 = .ok (.if_icmp .ge 53, 3) := by decide +kernel
theorem dX7_sumsOf_9 : decode cX7_sumsOf 9 = .ok (.iconst 0, 1) := by decide +kernel
theorem dX7_sumsOf_10 : decode cX7_sumsOf 10 = .ok (.istore 4, 2) := by decide +kernel
theorem dX7_sumsOf_12 : decode cX7_sumsOf 12 = .ok (.bipush 7, 2) := by decide +kernel
theorem dX7_sumsOf_14 : decode cX7_sumsOf 14 = .ok (.istore 5, 2) := by decide +kernel
theorem dX7_sumsOf_16 : decode cX7_sumsOf 16 = .ok (.iload 5, 2) := by decide +kernel
theorem dX7_sumsOf_18 : decode cX7_sumsOf 18 = .ok (.ifCond .lt 26, 3) := by decide +kernel
theorem dX7_sumsOf_21 : decode cX7_sumsOf 21 = .ok (.iload 4, 2) := by decide +kernel
theorem dX7_sumsOf_23 : decode cX7_sumsOf 23 = .ok (.iconst 1, 1) := by decide +kernel
theorem dX7_sumsOf_24 : decode cX7_sumsOf 24 = .ok (.iload_n 3, 1) := by decide +kernel
theorem dX7_sumsOf_25 : decode cX7_sumsOf 25 = .ok (.ishl, 1) := by decide +kernel
theorem dX7_sumsOf_26 : decode cX7_sumsOf 26 = .ok (.invokestatic 37, 3) := by decide +kernel
theorem dX7_sumsOf_29 : decode cX7_sumsOf 29 = .ok (.lload_n 0, 1) := by decide +kernel
theorem dX7_sumsOf_30 : decode cX7_sumsOf 30 = .ok (.iload 5, 2) := by decide +kernel
theorem dX7_sumsOf_32 : decode cX7_sumsOf 32 = .ok (.invokestatic 21, 3) := by decide +kernel
theorem dX7_sumsOf_35 : decode cX7_sumsOf 35 = .ok (.ixor, 1) := by decide +kernel
theorem dX7_sumsOf_36 : decode cX7_sumsOf 36 = .ok (.istore 4, 2) := by decide +kernel
theorem dX7_sumsOf_38 : decode cX7_sumsOf 38 = .ok (.iinc 5 (-1), 3) := by decide +kernel
theorem dX7_sumsOf_41 : decode cX7_sumsOf 41 = .ok (.goto (-25), 3) := by decide +kernel
theorem dX7_sumsOf_44 : decode cX7_sumsOf 44 = .ok (.iload_n 2, 1) := by decide +kernel
theorem dX7_sumsOf_45 : decode cX7_sumsOf 45 = .ok (.iload 4, 2) := by decide +kernel
theorem dX7_sumsOf_47 : decode cX7_sumsOf 47 = .ok (.iconst 4, 1) := by decide +kernel
theorem dX7_sumsOf_48 : decode cX7_sumsOf 48 = .ok (.iload_n 3, 1) := by decide +kernel
theorem dX7_sumsOf_49 : decode cX7_sumsOf 49 = .ok (.imul, 1) := by decide +kernel
theorem dX7_sumsOf_50 : decode cX7_sumsOf 50 = .ok (.ishl, 1) := by decide +kernel
theorem dX7_sumsOf_51 : decode cX7_sumsOf 51 = .ok (.ior, 1) := by decide +kernel
theorem dX7_sumsOf_52 : decode cX7_sumsOf 52 = .ok (.istore_n 2, 1) := by decide +kernel
theorem dX7_sumsOf_53 : decode cX7_sumsOf 53 = .ok (.iinc 3 1, 3) := by decide +kernel
theorem dX7_sumsOf_56 : decode cX7_sumsOf 56 = .ok (.goto (-52), 3) := by decide +kernel
theorem dX7_sumsOf_59 : decode cX7_sumsOf 59 = .ok (.iload_n 2, 1) := by decide +kernel
theorem dX7_sumsOf_60 : decode cX7_sumsOf 60 = .ok (.ireturn, 1) := by decide +kernel
set_option maxRecDepth 20000 in
theorem ggX7_filled_X7_sumsWithout : GoodIn wsX7_filled wsX7_sumsWithout := goodIn_r _ [4, 5, 6, 7, 3, 8, 9, 10, 11] (by decide +kernel) (by decide +kernel)
set_option maxRecDepth 20000 in
theorem gX7_filled_X7_sumsWithout : GoodIn wsX7_filled (va_wsS RX7 31 yX7_sumsWithout wsX7_sumsWithout) := goodIn_app (goodIn_of _ (by decide +kernel)) ggX7_filled_X7_sumsWithout
set_option maxRecDepth 20000 in
theorem ggX7_filled_X7_sumsOf : GoodIn wsX7_filled wsX7_sumsOf := goodIn_r _ [14, 9, 10, 3, 11, 6, 7, 8] (by decide +kernel) (by decide +kernel)
set_option maxRecDepth 20000 in
theorem gX7_filled_X7_sumsOf : GoodIn wsX7_filled (va_wsS RX7 9 yX7_sumsOf wsX7_sumsOf) := goodIn_app (goodIn_of _ (by decide +kernel)) ggX7_filled_X7_sumsOf
set_option maxRecDepth 20000 in
theorem ggX7_filled_X7_quotient : GoodIn wsX7_filled wsX7_quotient := goodIn_r _ [17, 9, 10, 3, 11] (by decide +kernel) (by decide +kernel)
set_option maxRecDepth 20000 in
theorem gX7_filled_X7_quotient : GoodIn wsX7_filled (va_wsS RX7 40 yX7_quotient wsX7_quotient) := goodIn_app (goodIn_of _ (by decide +kernel)) ggX7_filled_X7_quotient
set_option maxRecDepth 20000 in
theorem ggX7_filled_X7_turned : GoodIn wsX7_filled wsX7_turned := goodIn_r _ [20] (by decide +kernel) (by decide +kernel)
set_option maxRecDepth 20000 in
theorem gX7_filled_X7_turned : GoodIn wsX7_filled (va_wsS RX7 43 yX7_turned wsX7_turned) := goodIn_app (goodIn_of _ (by decide +kernel)) ggX7_filled_X7_turned
theorem dX7_filled_0 : decode cX7_filled 0 = .ok (.lload_n 0, 1) := by decide +kernel
theorem dX7_filled_1 : decode cX7_filled 1 = .ok (.lstore 4, 2) := by decide +kernel
theorem dX7_filled_3 : decode cX7_filled 3 = .ok (.iconst 0, 1) := by decide +kernel
theorem dX7_filled_4 : decode cX7_filled 4 = .ok (.istore 6, 2) := by decide +kernel
theorem dX7_filled_6 : decode cX7_filled 6 = .ok (.iload 6, 2) := by decide +kernel
theorem dX7_filled_8 : decode cX7_filled 8 = .ok (.bipush 8, 2) := by decide +kernel
theorem dX7_filled_10 : decode cX7_filled 10 = .ok (.if_icmp .ge 75, 3) := by decide +kernel
theorem dX7_filled_13 : decode cX7_filled 13 = .ok (.iload_n 3, 1) := by decide +kernel
theorem dX7_filled_14 : decode cX7_filled 14 = .ok (.iload 6, 2) := by decide +kernel
theorem dX7_filled_16 : decode cX7_filled 16 = .ok (.ishr, 1) := by decide +kernel
theorem dX7_filled_17 : decode cX7_filled 17 = .ok (.iconst 1, 1) := by decide +kernel
theorem dX7_filled_18 : decode cX7_filled 18 = .ok (.iand, 1) := by decide +kernel
theorem dX7_filled_19 : decode cX7_filled 19 = .ok (.iconst 1, 1) := by decide +kernel
theorem dX7_filled_20 : decode cX7_filled 20 = .ok (.if_icmp .ne 59, 3) := by decide +kernel
theorem dX7_filled_23 : decode cX7_filled 23 = .ok (.iload_n 3, 1) := by decide +kernel
theorem dX7_filled_24 : decode cX7_filled 24 = .ok (.iconst 1, 1) := by decide +kernel
theorem dX7_filled_25 : decode cX7_filled 25 = .ok (.iload 6, 2) := by decide +kernel
theorem dX7_filled_27 : decode cX7_filled 27 = .ok (.ishl, 1) := by decide +kernel
theorem dX7_filled_28 : decode cX7_filled 28 = .ok (.iconst (-1), 1) := by decide +kernel
theorem dX7_filled_29 : decode cX7_filled 29 = .ok (.ixor, 1) := by decide +kernel
theorem dX7_filled_30 : decode cX7_filled 30 = .ok (.iand, 1) := by decide +kernel
theorem dX7_filled_31 : decode cX7_filled 31 = .ok (.istore 7, 2) := by decide +kernel
theorem dX7_filled_33 : decode cX7_filled 33 = .ok (.iload_n 2, 1) := by decide +kernel
theorem dX7_filled_34 : decode cX7_filled 34 = .ok (.iload 7, 2) := by decide +kernel
theorem dX7_filled_36 : decode cX7_filled 36 = .ok (.invokestatic 31, 3) := by decide +kernel
theorem dX7_filled_39 : decode cX7_filled 39 = .ok (.bipush 15, 2) := by decide +kernel
theorem dX7_filled_41 : decode cX7_filled 41 = .ok (.iand, 1) := by decide +kernel
theorem dX7_filled_42 : decode cX7_filled 42 = .ok (.istore 8, 2) := by decide +kernel
theorem dX7_filled_44 : decode cX7_filled 44 = .ok (.lconst 1, 1) := by decide +kernel
theorem dX7_filled_45 : decode cX7_filled 45 = .ok (.iconst 4, 1) := by decide +kernel
theorem dX7_filled_46 : decode cX7_filled 46 = .ok (.iload 6, 2) := by decide +kernel
theorem dX7_filled_48 : decode cX7_filled 48 = .ok (.imul, 1) := by decide +kernel
theorem dX7_filled_49 : decode cX7_filled 49 = .ok (.lshl, 1) := by decide +kernel
theorem dX7_filled_50 : decode cX7_filled 50 = .ok (.invokestatic 9, 3) := by decide +kernel
theorem dX7_filled_53 : decode cX7_filled 53 = .ok (.iload 7, 2) := by decide +kernel
theorem dX7_filled_55 : decode cX7_filled 55 = .ok (.invokestatic 31, 3) := by decide +kernel
theorem dX7_filled_58 : decode cX7_filled 58 = .ok (.bipush 15, 2) := by decide +kernel
theorem dX7_filled_60 : decode cX7_filled 60 = .ok (.iand, 1) := by decide +kernel
theorem dX7_filled_61 : decode cX7_filled 61 = .ok (.istore 9, 2) := by decide +kernel
theorem dX7_filled_63 : decode cX7_filled 63 = .ok (.lload 4, 2) := by decide +kernel
theorem dX7_filled_65 : decode cX7_filled 65 = .ok (.iload 6, 2) := by decide +kernel
theorem dX7_filled_67 : decode cX7_filled 67 = .ok (.iload 8, 2) := by decide +kernel
theorem dX7_filled_69 : decode cX7_filled 69 = .ok (.iload 9, 2) := by decide +kernel
theorem dX7_filled_71 : decode cX7_filled 71 = .ok (.invokestatic 40, 3) := by decide +kernel
theorem dX7_filled_74 : decode cX7_filled 74 = .ok (.invokestatic 43, 3) := by decide +kernel
theorem dX7_filled_77 : decode cX7_filled 77 = .ok (.lstore 4, 2) := by decide +kernel
theorem dX7_filled_79 : decode cX7_filled 79 = .ok (.iinc 6 1, 3) := by decide +kernel
theorem dX7_filled_82 : decode cX7_filled 82 = .ok (.goto (-76), 3) := by decide +kernel
theorem dX7_filled_85 : decode cX7_filled 85 = .ok (.lload 4, 2) := by decide +kernel
theorem dX7_filled_87 : decode cX7_filled 87 = .ok (.lreturn, 1) := by decide +kernel
set_option maxRecDepth 20000 in
theorem ggX7_sumsWithout_X7_nibble : GoodIn wsX7_sumsWithout wsX7_nibble := goodIn_r _ [5] (by decide +kernel) (by decide +kernel)
set_option maxRecDepth 20000 in
theorem gX7_sumsWithout_X7_nibble : GoodIn wsX7_sumsWithout (va_wsS RX7 21 yX7_nibble wsX7_nibble) := goodIn_app (goodIn_of _ (by decide +kernel)) ggX7_sumsWithout_X7_nibble
set_option maxRecDepth 20000 in
theorem ggX7_sumsWithout_X7_times : GoodIn wsX7_sumsWithout wsX7_times := goodIn_r _ [8] (by decide +kernel) (by decide +kernel)
set_option maxRecDepth 20000 in
theorem gX7_sumsWithout_X7_times : GoodIn wsX7_sumsWithout (va_wsS RX7 37 yX7_times wsX7_times) := goodIn_app (goodIn_of _ (by decide +kernel)) ggX7_sumsWithout_X7_times
theorem dX7_sumsWithout_0 : decode cX7_sumsWithout 0 = .ok (.iload_n 0, 1) := by decide +kernel
theorem dX7_sumsWithout_1 : decode cX7_sumsWithout 1 = .ok (.istore_n 2, 1) := by decide +kernel
theorem dX7_sumsWithout_2 : decode cX7_sumsWithout 2 = .ok (.iconst 4, 1) := by decide +kernel
theorem dX7_sumsWithout_3 : decode cX7_sumsWithout 3 = .ok (.istore_n 3, 1) := by decide +kernel
theorem dX7_sumsWithout_4 : decode cX7_sumsWithout 4 = .ok (.iconst 0, 1) := by decide +kernel
theorem dX7_sumsWithout_5 : decode cX7_sumsWithout 5 = .ok (.istore 4, 2) := by decide +kernel
theorem dX7_sumsWithout_7 : decode cX7_sumsWithout 7 = .ok (.iload 4, 2) := by decide +kernel
theorem dX7_sumsWithout_9 : decode cX7_sumsWithout 9 = .ok (.bipush 8, 2) := by decide +kernel
theorem dX7_sumsWithout_11 : decode cX7_sumsWithout 11 = .ok (.if_icmp .ge 85, 3) := by decide +kernel
theorem dX7_sumsWithout_14 : decode cX7_sumsWithout 14 = .ok (.iload_n 1, 1) := by decide +kernel
theorem dX7_sumsWithout_15 : decode cX7_sumsWithout 15 = .ok (.iload 4, 2) := by decide +kernel
theorem dX7_sumsWithout_17 : decode cX7_sumsWithout 17 = .ok (.ishr, 1) := by decide +kernel
theorem dX7_sumsWithout_18 : decode cX7_sumsWithout 18 = .ok (.iconst 1, 1) := by decide +kernel
theorem dX7_sumsWithout_19 : decode cX7_sumsWithout 19 = .ok (.iand, 1) := by decide +kernel
theorem dX7_sumsWithout_20 : decode cX7_sumsWithout 20 = .ok (.iconst 1, 1) := by decide +kernel
theorem dX7_sumsWithout_21 : decode cX7_sumsWithout 21 = .ok (.if_icmp .ne 69, 3) := by decide +kernel
theorem dX7_sumsWithout_24 : decode cX7_sumsWithout 24 = .ok (.iinc 3 (-1), 3) := by decide +kernel
theorem dX7_sumsWithout_27 : decode cX7_sumsWithout 27 = .ok (.ldc2_w 46, 3) := by decide +kernel
theorem dX7_sumsWithout_30 : decode cX7_sumsWithout 30 = .ok (.iload 4, 2) := by decide +kernel
theorem dX7_sumsWithout_32 : decode cX7_sumsWithout 32 = .ok (.invokestatic 21, 3) := by decide +kernel
theorem dX7_sumsWithout_35 : decode cX7_sumsWithout 35 = .ok (.istore 5, 2) := by decide +kernel
theorem dX7_sumsWithout_37 : decode cX7_sumsWithout 37 = .ok (.iconst 0, 1) := by decide +kernel
theorem dX7_sumsWithout_38 : decode cX7_sumsWithout 38 = .ok (.istore 6, 2) := by decide +kernel
theorem dX7_sumsWithout_40 : decode cX7_sumsWithout 40 = .ok (.iconst 0, 1) := by decide +kernel
theorem dX7_sumsWithout_41 : decode cX7_sumsWithout 41 = .ok (.istore 7, 2) := by decide +kernel
theorem dX7_sumsWithout_43 : decode cX7_sumsWithout 43 = .ok (.iload 7, 2) := by decide +kernel
theorem dX7_sumsWithout_45 : decode cX7_sumsWithout 45 = .ok (.iload_n 3, 1) := by decide +kernel
theorem dX7_sumsWithout_46 : decode cX7_sumsWithout 46 = .ok (.if_icmp .ge 41, 3) := by decide +kernel
theorem dX7_sumsWithout_49 : decode cX7_sumsWithout 49 = .ok (.iload 6, 2) := by decide +kernel
theorem dX7_sumsWithout_51 : decode cX7_sumsWithout 51 = .ok (.iload_n 2, 1) := by decide +kernel
theorem dX7_sumsWithout_52 : decode cX7_sumsWithout 52 = .ok (.i2l, 1) := by decide +kernel
theorem dX7_sumsWithout_53 : decode cX7_sumsWithout 53 = .ok (.iload 7, 2) := by decide +kernel
theorem dX7_sumsWithout_55 : decode cX7_sumsWithout 55 = .ok (.iconst 1, 1) := by decide +kernel
theorem dX7_sumsWithout_56 : decode cX7_sumsWithout 56 = .ok (.iadd, 1) := by decide +kernel
theorem dX7_sumsWithout_57 : decode cX7_sumsWithout 57 = .ok (.invokestatic 21, 3) := by decide +kernel
theorem dX7_sumsWithout_60 : decode cX7_sumsWithout 60 = .ok (.iload_n 2, 1) := by decide +kernel
theorem dX7_sumsWithout_61 : decode cX7_sumsWithout 61 = .ok (.i2l, 1) := by decide +kernel
theorem dX7_sumsWithout_62 : decode cX7_sumsWithout 62 = .ok (.iload 7, 2) := by decide +kernel
theorem dX7_sumsWithout_64 : decode cX7_sumsWithout 64 = .ok (.invokestatic 21, 3) := by decide +kernel
theorem dX7_sumsWithout_67 : decode cX7_sumsWithout 67 = .ok (.iload 5, 2) := by decide +kernel
theorem dX7_sumsWithout_69 : decode cX7_sumsWithout 69 = .ok (.invokestatic 37, 3) := by decide +kernel
theorem dX7_sumsWithout_72 : decode cX7_sumsWithout 72 = .ok (.ixor, 1) := by decide +kernel
theorem dX7_sumsWithout_73 : decode cX7_sumsWithout 73 = .ok (.iconst 4, 1) := by decide +kernel
theorem dX7_sumsWithout_74 : decode cX7_sumsWithout 74 = .ok (.iload 7, 2) := by decide +kernel
theorem dX7_sumsWithout_76 : decode cX7_sumsWithout 76 = .ok (.imul, 1) := by decide +kernel
theorem dX7_sumsWithout_77 : decode cX7_sumsWithout 77 = .ok (.ishl, 1) := by decide +kernel
theorem dX7_sumsWithout_78 : decode cX7_sumsWithout 78 = .ok (.ior, 1) := by decide +kernel
theorem dX7_sumsWithout_79 : decode cX7_sumsWithout 79 = .ok (.istore 6, 2) := by decide +kernel
theorem dX7_sumsWithout_81 : decode cX7_sumsWithout 81 = .ok (.iinc 7 1, 3) := by decide +kernel
theorem dX7_sumsWithout_84 : decode cX7_sumsWithout 84 = .ok (.goto (-41), 3) := by decide +kernel
theorem dX7_sumsWithout_87 : decode cX7_sumsWithout 87 = .ok (.iload 6, 2) := by decide +kernel
theorem dX7_sumsWithout_89 : decode cX7_sumsWithout 89 = .ok (.istore_n 2, 1) := by decide +kernel
theorem dX7_sumsWithout_90 : decode cX7_sumsWithout 90 = .ok (.iinc 4 1, 3) := by decide +kernel
theorem dX7_sumsWithout_93 : decode cX7_sumsWithout 93 = .ok (.goto (-86), 3) := by decide +kernel
theorem dX7_sumsWithout_96 : decode cX7_sumsWithout 96 = .ok (.iload_n 2, 1) := by decide +kernel
theorem dX7_sumsWithout_97 : decode cX7_sumsWithout 97 = .ok (.ireturn, 1) := by decide +kernel
theorem dX7_times_0 : decode cX7_times 0 = .ok (.iconst 0, 1) := by decide +kernel
theorem dX7_times_1 : decode cX7_times 1 = .ok (.istore_n 2, 1) := by decide +kernel
theorem dX7_times_2 : decode cX7_times 2 = .ok (.iconst 0, 1) := by decide +kernel
theorem dX7_times_3 : decode cX7_times 3 = .ok (.istore_n 3, 1) := by decide +kernel
theorem dX7_times_4 : decode cX7_times 4 = .ok (.iload_n 3, 1) := by decide +kernel
theorem dX7_times_5 : decode cX7_times 5 = .ok (.iconst 4, 1) := by decide +kernel
theorem dX7_times_6 : decode cX7_times 6 = .ok (.if_icmp .ge 24, 3) := by decide +kernel
theorem dX7_times_9 : decode cX7_times 9 = .ok (.iload_n 1, 1) := by decide +kernel
theorem dX7_times_10 : decode cX7_times 10 = .ok (.iload_n 3, 1) := by decide +kernel
theorem dX7_times_11 : decode cX7_times 11 = .ok (.ishr, 1) := by decide +kernel
theorem dX7_times_12 : decode cX7_times 12 = .ok (.iconst 1, 1) := by decide +kernel
theorem dX7_times_13 : decode cX7_times 13 = .ok (.iand, 1) := by decide +kernel
theorem dX7_times_14 : decode cX7_times 14 = .ok (.iconst 1, 1) := by decide +kernel
theorem dX7_times_15 : decode cX7_times 15 = .ok (.if_icmp .ne 9, 3) := by decide +kernel
theorem dX7_times_18 : decode cX7_times 18 = .ok (.iload_n 2, 1) := by decide +kernel
theorem dX7_times_19 : decode cX7_times 19 = .ok (.iload_n 0, 1) := by decide +kernel
theorem dX7_times_20 : decode cX7_times 20 = .ok (.iload_n 3, 1) := by decide +kernel
theorem dX7_times_21 : decode cX7_times 21 = .ok (.ishl, 1) := by decide +kernel
theorem dX7_times_22 : decode cX7_times 22 = .ok (.ixor, 1) := by decide +kernel
theorem dX7_times_23 : decode cX7_times 23 = .ok (.istore_n 2, 1) := by decide +kernel
theorem dX7_times_24 : decode cX7_times 24 = .ok (.iinc 3 1, 3) := by decide +kernel
theorem dX7_times_27 : decode cX7_times 27 = .ok (.goto (-23), 3) := by decide +kernel
theorem dX7_times_30 : decode cX7_times 30 = .ok (.bipush 6, 2) := by decide +kernel
theorem dX7_times_32 : decode cX7_times 32 = .ok (.istore_n 3, 1) := by decide +kernel
theorem dX7_times_33 : decode cX7_times 33 = .ok (.iload_n 3, 1) := by decide +kernel
theorem dX7_times_34 : decode cX7_times 34 = .ok (.iconst 4, 1) := by decide +kernel
theorem dX7_times_35 : decode cX7_times 35 = .ok (.if_icmp .lt 27, 3) := by decide +kernel
theorem dX7_times_38 : decode cX7_times 38 = .ok (.iload_n 2, 1) := by decide +kernel
theorem dX7_times_39 : decode cX7_times 39 = .ok (.iload_n 3, 1) := by decide +kernel
theorem dX7_times_40 : decode cX7_times 40 = .ok (.ishr, 1) := by decide +kernel
theorem dX7_times_41 : decode cX7_times 41 = .ok (.iconst 1, 1) := by decide +kernel
theorem dX7_times_42 : decode cX7_times 42 = .ok (.iand, 1) := by decide +kernel
theorem dX7_times_43 : decode cX7_times 43 = .ok (.iconst 1, 1) := by decide +kernel
theorem dX7_times_44 : decode cX7_times 44 = .ok (.if_icmp .ne 12, 3) := by decide +kernel
theorem dX7_times_47 : decode cX7_times 47 = .ok (.iload_n 2, 1) := by decide +kernel
theorem dX7_times_48 : decode cX7_times 48 = .ok (.bipush 19, 2) := by decide +kernel
theorem dX7_times_50 : decode cX7_times 50 = .ok (.iload_n 3, 1) := by decide +kernel
theorem dX7_times_51 : decode cX7_times 51 = .ok (.iconst 4, 1) := by decide +kernel
theorem dX7_times_52 : decode cX7_times 52 = .ok (.isub, 1) := by decide +kernel
theorem dX7_times_53 : decode cX7_times 53 = .ok (.ishl, 1) := by decide +kernel
theorem dX7_times_54 : decode cX7_times 54 = .ok (.ixor, 1) := by decide +kernel
theorem dX7_times_55 : decode cX7_times 55 = .ok (.istore_n 2, 1) := by decide +kernel
theorem dX7_times_56 : decode cX7_times 56 = .ok (.iinc 3 (-1), 3) := by decide +kernel
theorem dX7_times_59 : decode cX7_times 59 = .ok (.goto (-26), 3) := by decide +kernel
theorem dX7_times_62 : decode cX7_times 62 = .ok (.iload_n 2, 1) := by decide +kernel
theorem dX7_times_63 : decode cX7_times 63 = .ok (.ireturn, 1) := by decide +kernel
set_option maxRecDepth 20000 in
theorem ggX7_quotient_X7_times : GoodIn wsX7_quotient wsX7_times := goodIn_r _ [4] (by decide +kernel) (by decide +kernel)
set_option maxRecDepth 20000 in
theorem gX7_quotient_X7_times : GoodIn wsX7_quotient (va_wsS RX7 37 yX7_times wsX7_times) := goodIn_app (goodIn_of _ (by decide +kernel)) ggX7_quotient_X7_times
theorem dX7_quotient_0 : decode cX7_quotient 0 = .ok (.iconst 0, 1) := by decide +kernel
theorem dX7_quotient_1 : decode cX7_quotient 1 = .ok (.istore_n 2, 1) := by decide +kernel
theorem dX7_quotient_2 : decode cX7_quotient 2 = .ok (.iload_n 2, 1) := by decide +kernel
theorem dX7_quotient_3 : decode cX7_quotient 3 = .ok (.bipush 16, 2) := by decide +kernel
theorem dX7_quotient_5 : decode cX7_quotient 5 = .ok (.if_icmp .ge 20, 3) := by decide +kernel
theorem dX7_quotient_8 : decode cX7_quotient 8 = .ok (.iload_n 2, 1) := by decide +kernel
theorem dX7_quotient_9 : decode cX7_quotient 9 = .ok (.iload_n 1, 1) := by decide +kernel
theorem dX7_quotient_10 : decode cX7_quotient 10 = .ok (.invokestatic 37, 3) := by decide +kernel
theorem dX7_quotient_13 : decode cX7_quotient 13 = .ok (.iload_n 0, 1) := by decide +kernel
theorem dX7_quotient_14 : decode cX7_quotient 14 = .ok (.if_icmp .ne 5, 3) := by decide +kernel
theorem dX7_quotient_17 : decode cX7_quotient 17 = .ok (.iload_n 2, 1) := by decide +kernel
theorem dX7_quotient_18 : decode cX7_quotient 18 = .ok (.ireturn, 1) := by decide +kernel
theorem dX7_quotient_19 : decode cX7_quotient 19 = .ok (.iinc 2 1, 3) := by decide +kernel
theorem dX7_quotient_22 : decode cX7_quotient 22 = .ok (.goto (-20), 3) := by decide +kernel
theorem dX7_quotient_25 : decode cX7_quotient 25 = .ok (.iconst 0, 1) := by decide +kernel
theorem dX7_quotient_26 : decode cX7_quotient 26 = .ok (.ireturn, 1) := by decide +kernel
set_option maxRecDepth 20000 in
theorem ggX8_init_X2_init : GoodIn wsX8_init wsX2_init := goodIn_r _ [25, 26, 2, 3, 27, 28, 29, 30, 31, 32, 33, 34, 35, 36, 37, 38, 39, 40, 41, 136, 99, 100, 101, 102, 103, 104] (by decide +kernel) (by decide +kernel)
set_option maxRecDepth 20000 in
theorem gX8_init_X2_init_n11 : GoodIn wsX8_init (wsX2_init) := ggX8_init_X2_init
set_option maxRecDepth 20000 in
theorem ggX8_init_X0_init : GoodIn wsX8_init wsX0_init := goodIn_r _ [43, 44, 2, 3, 45, 28, 29, 46, 47, 48, 49, 37, 38, 39, 40, 41, 136, 113, 114, 115] (by decide +kernel) (by decide +kernel)
set_option maxRecDepth 20000 in
theorem gX8_init_X0_init_n18 : GoodIn wsX8_init (wsX0_init) := ggX8_init_X0_init
set_option maxRecDepth 20000 in
theorem ggX8_init_X3_init : GoodIn wsX8_init wsX3_init := goodIn_r _ [52, 53, 2, 3, 54, 55, 56, 57, 58, 59, 28, 29, 60, 61, 62, 63, 64, 65, 66, 67, 68, 69, 70, 71, 72, 73, 74, 75, 76, 77, 78, 79, 80, 37, 38, 39, 40, 41, 81, 82, 83, 84, 85, 86, 137, 138, 116, 117, 118, 119, 120, 121, 122, 123, 124, 125, 126, 127, 128, 136] (by decide +kernel) (by decide +kernel)
set_option maxRecDepth 20000 in
theorem gX8_init_X3_init : GoodIn wsX8_init (wsX3_init) := ggX8_init_X3_init
set_option maxRecDepth 20000 in
theorem ggX8_init_X5_init : GoodIn wsX8_init wsX5_init := goodIn_r _ [88, 89, 2, 3, 90, 28, 29, 91, 92, 93, 94, 95, 96, 97, 98, 37, 38, 39, 40, 41, 136, 129, 130, 131, 132, 133, 134, 135] (by decide +kernel) (by decide +kernel)
set_option maxRecDepth 20000 in
theorem gX8_init_X5_init_n32 : GoodIn wsX8_init (wsX5_init) := ggX8_init_X5_init
theorem dX8_init_0 : decode cX8_init 0 = .ok (.aload_n 0, 1) := by decide +kernel
theorem dX8_init_1 : decode cX8_init 1 = .ok (.invokespecial 3, 3) := by decide +kernel
theorem dX8_init_4 : decode cX8_init 4 = .ok (.aload_n 0, 1) := by decide +kernel
theorem dX8_init_5 : decode cX8_init 5 = .ok (.new 9, 3) := by decide +kernel
theorem dX8_init_8 : decode cX8_init 8 = .ok (.dup, 1) := by decide +kernel
theorem dX8_init_9 : decode cX8_init 9 = .ok (.invokespecial 11, 3) := by decide +kernel
theorem dX8_init_12 : decode cX8_init 12 = .ok (.putfield 12, 3) := by decide +kernel
theorem dX8_init_15 : decode cX8_init 15 = .ok (.aload_n 0, 1) := by decide +kernel
theorem dX8_init_16 : decode cX8_init 16 = .ok (.new 16, 3) := by decide +kernel
theorem dX8_init_19 : decode cX8_init 19 = .ok (.dup, 1) := by decide +kernel
theorem dX8_init_20 : decode cX8_init 20 = .ok (.invokespecial 18, 3) := by decide +kernel
theorem dX8_init_23 : decode cX8_init 23 = .ok (.putfield 19, 3) := by decide +kernel
theorem dX8_init_26 : decode cX8_init 26 = .ok (.aload_n 0, 1) := by decide +kernel
theorem dX8_init_27 : decode cX8_init 27 = .ok (.new 23, 3) := by decide +kernel
theorem dX8_init_30 : decode cX8_init 30 = .ok (.dup, 1) := by decide +kernel
theorem dX8_init_31 : decode cX8_init 31 = .ok (.invokespecial 25, 3) := by decide +kernel
theorem dX8_init_34 : decode cX8_init 34 = .ok (.putfield 26, 3) := by decide +kernel
theorem dX8_init_37 : decode cX8_init 37 = .ok (.aload_n 0, 1) := by decide +kernel
theorem dX8_init_38 : decode cX8_init 38 = .ok (.new 30, 3) := by decide +kernel
theorem dX8_init_41 : decode cX8_init 41 = .ok (.dup, 1) := by decide +kernel
theorem dX8_init_42 : decode cX8_init 42 = .ok (.invokespecial 32, 3) := by decide +kernel
theorem dX8_init_45 : decode cX8_init 45 = .ok (.putfield 33, 3) := by decide +kernel
theorem dX8_init_48 : decode cX8_init 48 = .ok (.aload_n 0, 1) := by decide +kernel
theorem dX8_init_49 : decode cX8_init 49 = .ok (.iconst 0, 1) := by decide +kernel
theorem dX8_init_50 : decode cX8_init 50 = .ok (.putfield 37, 3) := by decide +kernel
theorem dX8_init_53 : decode cX8_init 53 = .ok (.aload_n 0, 1) := by decide +kernel
theorem dX8_init_54 : decode cX8_init 54 = .ok (.bipush 20, 2) := by decide +kernel
theorem dX8_init_56 : decode cX8_init 56 = .ok (.putfield 41, 3) := by decide +kernel
theorem dX8_init_59 : decode cX8_init 59 = .ok (.aload_n 0, 1) := by decide +kernel
theorem dX8_init_60 : decode cX8_init 60 = .ok (.iconst 0, 1) := by decide +kernel
theorem dX8_init_61 : decode cX8_init 61 = .ok (.putfield 45, 3) := by decide +kernel
theorem dX8_init_64 : decode cX8_init 64 = .ok (.aload_n 0, 1) := by decide +kernel
theorem dX8_init_65 : decode cX8_init 65 = .ok (.iconst 0, 1) := by decide +kernel
theorem dX8_init_66 : decode cX8_init 66 = .ok (.putfield 48, 3) := by decide +kernel
theorem dX8_init_69 : decode cX8_init 69 = .ok (.return_, 1) := by decide +kernel
set_option maxRecDepth 20000 in
theorem ggX8_word_X8_checkRange : GoodIn wsX8_word wsX8_checkRange := goodIn_ca (goodIn_r _ [5, 6, 7] (by decide +kernel) (by decide +kernel)) (goodIn_sub (fun _ h => List.mem_cons_of_mem _ (List.mem_append_right _ h)) (by decide +kernel))
set_option maxRecDepth 20000 in
theorem gX8_word_X8_checkRange : GoodIn wsX8_word (va_wsS RX8 53 yX8_checkRange wsX8_checkRange) := goodIn_app (goodIn_of _ (by decide +kernel)) ggX8_word_X8_checkRange
set_option maxRecDepth 20000 in
theorem ggX8_word_X7_of : GoodIn wsX8_word wsX7_of := goodIn_r _ [11, 12, 13, 10, 14, 15, 16, 17, 18, 19, 20, 21, 22, 23, 24, 25, 26, 27, 28, 29, 30, 31, 32, 33] (by decide +kernel) (by decide +kernel)
set_option maxRecDepth 20000 in
theorem gX8_word_X7_of : GoodIn wsX8_word (va_wsS RX8 57 yX7_of wsX7_of) := goodIn_app (goodIn_of _ (by decide +kernel)) ggX8_word_X7_of
theorem dX8_word_0 : decode cX8_word 0 = .ok (.iload_n 1, 1) := by decide +kernel
theorem dX8_word_1 : decode cX8_word 1 = .ok (.i2l, 1) := by decide +kernel
theorem dX8_word_2 : decode cX8_word 2 = .ok (.lconst 0, 1) := by decide +kernel
theorem dX8_word_3 : decode cX8_word 3 = .ok (.ldc2_w 51, 3) := by decide +kernel
theorem dX8_word_6 : decode cX8_word 6 = .ok (.invokestatic 53, 3) := by decide +kernel
theorem dX8_word_9 : decode cX8_word 9 = .ok (.iload_n 1, 1) := by decide +kernel
theorem dX8_word_10 : decode cX8_word 10 = .ok (.invokestatic 57, 3) := by decide +kernel
theorem dX8_word_13 : decode cX8_word 13 = .ok (.lreturn, 1) := by decide +kernel
set_option maxRecDepth 20000 in
theorem ggX8_mend_X8_repairedOrThrow : GoodIn wsX8_mend wsX8_repairedOrThrow := goodIn_ca (goodIn_ca (goodIn_r _ [4, 5, 6, 7, 8, 9, 10, 11, 3, 12, 13, 14, 15, 16, 17, 18, 19, 20, 21, 22, 23, 24, 25, 26, 27, 28, 29, 30, 31, 32, 33, 34, 35, 36, 37, 38, 39, 40, 41, 42, 43, 44, 45, 46, 47, 48] (by decide +kernel) (by decide +kernel)) (goodIn_sub (fun _ h => List.mem_cons_of_mem _ (List.mem_append_left _ (List.mem_append_right _ h))) (by decide +kernel))) (goodIn_sub (fun _ h => List.mem_cons_of_mem _ (List.mem_append_right _ h)) (by decide +kernel))
set_option maxRecDepth 20000 in
theorem gX8_mend_X8_repairedOrThrow : GoodIn wsX8_mend (va_wsS RX8 63 yX8_repairedOrThrow wsX8_repairedOrThrow) := goodIn_app (goodIn_of _ (by decide +kernel)) ggX8_mend_X8_repairedOrThrow
set_option maxRecDepth 20000 in
theorem ggX8_mend_X7_valueOf : GoodIn wsX8_mend wsX7_valueOf := goodIn_r _ [51, 52] (by decide +kernel) (by decide +kernel)
set_option maxRecDepth 20000 in
theorem gX8_mend_X7_valueOf : GoodIn wsX8_mend (va_wsS RX8 67 yX7_valueOf wsX7_valueOf) := goodIn_app (goodIn_of _ (by decide +kernel)) ggX8_mend_X7_valueOf
theorem dX8_mend_0 : decode cX8_mend 0 = .ok (.lload_n 1, 1) := by decide +kernel
theorem dX8_mend_1 : decode cX8_mend 1 = .ok (.iload_n 3, 1) := by decide +kernel
theorem dX8_mend_2 : decode cX8_mend 2 = .ok (.invokestatic 63, 3) := by decide +kernel
theorem dX8_mend_5 : decode cX8_mend 5 = .ok (.invokestatic 67, 3) := by decide +kernel
theorem dX8_mend_8 : decode cX8_mend 8 = .ok (.ireturn, 1) := by decide +kernel
set_option maxRecDepth 20000 in
theorem ggX8_mended_X8_repairedOrThrow : GoodIn wsX8_mended wsX8_repairedOrThrow := goodIn_ca (goodIn_ca (goodIn_r _ [4, 5, 6, 7, 8, 9, 10, 11, 3, 12, 13, 14, 15, 16, 17, 18, 19, 20, 21, 22, 23, 24, 25, 26, 27, 28, 29, 30, 31, 32, 33, 34, 35, 36, 37, 38, 39, 40, 41, 42, 43, 44, 45, 46, 47, 48] (by decide +kernel) (by decide +kernel)) (goodIn_sub (fun _ h => List.mem_cons_of_mem _ (List.mem_append_left _ (List.mem_append_right _ h))) (by decide +kernel))) (goodIn_sub (fun _ h => List.mem_cons_of_mem _ (List.mem_append_right _ h)) (by decide +kernel))
set_option maxRecDepth 20000 in
theorem gX8_mended_X8_repairedOrThrow : GoodIn wsX8_mended (va_wsS RX8 63 yX8_repairedOrThrow wsX8_repairedOrThrow) := goodIn_app (goodIn_of _ (by decide +kernel)) ggX8_mended_X8_repairedOrThrow
set_option maxRecDepth 20000 in
theorem ggX8_mended_X7_differences : GoodIn wsX8_mended wsX7_differences := goodIn_r _ [51, 26, 27, 17, 28] (by decide +kernel) (by decide +kernel)
set_option maxRecDepth 20000 in
theorem gX8_mended_X7_differences : GoodIn wsX8_mended (va_wsS RX8 71 yX7_differences wsX7_differences) := goodIn_app (goodIn_of _ (by decide +kernel)) ggX8_mended_X7_differences
theorem dX8_mended_0 : decode cX8_mended 0 = .ok (.lload_n 1, 1) := by decide +kernel
theorem dX8_mended_1 : decode cX8_mended 1 = .ok (.lload_n 1, 1) := by decide +kernel
theorem dX8_mended_2 : decode cX8_mended 2 = .ok (.iload_n 3, 1) := by decide +kernel
theorem dX8_mended_3 : decode cX8_mended 3 = .ok (.invokestatic 63, 3) := by decide +kernel
theorem dX8_mended_6 : decode cX8_mended 6 = .ok (.invokestatic 71, 3) := by decide +kernel
theorem dX8_mended_9 : decode cX8_mended 9 = .ok (.ireturn, 1) := by decide +kernel
set_option maxRecDepth 20000 in
theorem ggX8_encode_X8_checkRange : GoodIn wsX8_encode wsX8_checkRange := goodIn_ca (goodIn_r _ [5, 6, 7] (by decide +kernel) (by decide +kernel)) (goodIn_sub (fun _ h => List.mem_cons_of_mem _ (List.mem_append_right _ h)) (by decide +kernel))
set_option maxRecDepth 20000 in
theorem gX8_encode_X8_checkRange : GoodIn wsX8_encode (va_wsS RX8 53 yX8_checkRange wsX8_checkRange) := goodIn_app (goodIn_of _ (by decide +kernel)) ggX8_encode_X8_checkRange
set_option maxRecDepth 20000 in
theorem ggX8_encode_X1_ofByte : GoodIn wsX8_encode wsX1_ofByte := goodIn_r _ [11] (by decide +kernel) (by decide +kernel)
set_option maxRecDepth 20000 in
theorem gX8_encode_X1_ofByte : GoodIn wsX8_encode (va_wsS RX8 77 yX1_ofByte wsX1_ofByte) := goodIn_app (goodIn_of _ (by decide +kernel)) ggX8_encode_X1_ofByte
theorem dX8_encode_0 : decode cX8_encode 0 = .ok (.iload_n 1, 1) := by decide +kernel
theorem dX8_encode_1 : decode cX8_encode 1 = .ok (.i2l, 1) := by decide +kernel
theorem dX8_encode_2 : decode cX8_encode 2 = .ok (.lconst 0, 1) := by decide +kernel
theorem dX8_encode_3 : decode cX8_encode 3 = .ok (.ldc2_w 75, 3) := by decide +kernel
theorem dX8_encode_6 : decode cX8_encode 6 = .ok (.invokestatic 53, 3) := by decide +kernel
theorem dX8_encode_9 : decode cX8_encode 9 = .ok (.iload_n 2, 1) := by decide +kernel
theorem dX8_encode_10 : decode cX8_encode 10 = .ok (.i2l, 1) := by decide +kernel
theorem dX8_encode_11 : decode cX8_encode 11 = .ok (.lconst 0, 1) := by decide +kernel
theorem dX8_encode_12 : decode cX8_encode 12 = .ok (.lconst 1, 1) := by decide +kernel
theorem dX8_encode_13 : decode cX8_encode 13 = .ok (.invokestatic 53, 3) := by decide +kernel
theorem dX8_encode_16 : decode cX8_encode 16 = .ok (.iload_n 1, 1) := by decide +kernel
theorem dX8_encode_17 : decode cX8_encode 17 = .ok (.iload_n 2, 1) := by decide +kernel
theorem dX8_encode_18 : decode cX8_encode 18 = .ok (.invokestatic 77, 3) := by decide +kernel
theorem dX8_encode_21 : decode cX8_encode 21 = .ok (.ireturn, 1) := by decide +kernel
set_option maxRecDepth 20000 in
theorem ggX8_decode_X8_checkRange : GoodIn wsX8_decode wsX8_checkRange := goodIn_ca (goodIn_r _ [7, 8, 9] (by decide +kernel) (by decide +kernel)) (goodIn_sub (fun _ h => List.mem_cons_of_mem _ (List.mem_append_right _ h)) (by decide +kernel))
set_option maxRecDepth 20000 in
theorem gX8_decode_X8_checkRange : GoodIn wsX8_decode (va_wsS RX8 53 yX8_checkRange wsX8_checkRange) := goodIn_app (goodIn_of _ (by decide +kernel)) ggX8_decode_X8_checkRange
set_option maxRecDepth 20000 in
theorem ggX8_decode_X1_dataOf : GoodIn wsX8_decode wsX1_dataOf := goodIn_r _ [13] (by decide +kernel) (by decide +kernel)
set_option maxRecDepth 20000 in
theorem gX8_decode_X1_dataOf : GoodIn wsX8_decode (va_wsS RX8 83 yX1_dataOf wsX1_dataOf) := goodIn_app (goodIn_of _ (by decide +kernel)) ggX8_decode_X1_dataOf
set_option maxRecDepth 20000 in
theorem ggX8_decode_X1_ofByte : GoodIn wsX8_decode wsX1_ofByte := goodIn_r _ [16] (by decide +kernel) (by decide +kernel)
set_option maxRecDepth 20000 in
theorem gX8_decode_X1_ofByte : GoodIn wsX8_decode (va_wsS RX8 77 yX1_ofByte wsX1_ofByte) := goodIn_app (goodIn_of _ (by decide +kernel)) ggX8_decode_X1_ofByte
theorem dX8_decode_0 : decode cX8_decode 0 = .ok (.iload_n 1, 1) := by decide +kernel
theorem dX8_decode_1 : decode cX8_decode 1 = .ok (.i2l, 1) := by decide +kernel
theorem dX8_decode_2 : decode cX8_decode 2 = .ok (.lconst 0, 1) := by decide +kernel
theorem dX8_decode_3 : decode cX8_decode 3 = .ok (.ldc2_w 51, 3) := by decide +kernel
theorem dX8_decode_6 : decode cX8_decode 6 = .ok (.invokestatic 53, 3) := by decide +kernel
theorem dX8_decode_9 : decode cX8_decode 9 = .ok (.iload_n 2, 1) := by decide +kernel
theorem dX8_decode_10 : decode cX8_decode 10 = .ok (.i2l, 1) := by decide +kernel
theorem dX8_decode_11 : decode cX8_decode 11 = .ok (.lconst 0, 1) := by decide +kernel
theorem dX8_decode_12 : decode cX8_decode 12 = .ok (.lconst 1, 1) := by decide +kernel
theorem dX8_decode_13 : decode cX8_decode 13 = .ok (.invokestatic 53, 3) := by decide +kernel
theorem dX8_decode_16 : decode cX8_decode 16 = .ok (.iload_n 1, 1) := by decide +kernel
theorem dX8_decode_17 : decode cX8_decode 17 = .ok (.invokestatic 83, 3) := by decide +kernel
theorem dX8_decode_20 : decode cX8_decode 20 = .ok (.istore_n 3, 1) := by decide +kernel
theorem dX8_decode_21 : decode cX8_decode 21 = .ok (.iload_n 3, 1) := by decide +kernel
theorem dX8_decode_22 : decode cX8_decode 22 = .ok (.iload_n 2, 1) := by decide +kernel
theorem dX8_decode_23 : decode cX8_decode 23 = .ok (.invokestatic 77, 3) := by decide +kernel
theorem dX8_decode_26 : decode cX8_decode 26 = .ok (.iload_n 1, 1) := by decide +kernel
theorem dX8_decode_27 : decode cX8_decode 27 = .ok (.if_icmp .eq 11, 3) := by decide +kernel
theorem dX8_decode_30 : decode cX8_decode 30 = .ok (.new 87, 3) := by decide +kernel
theorem dX8_decode_33 : decode cX8_decode 33 = .ok (.dup, 1) := by decide +kernel
theorem dX8_decode_34 : decode cX8_decode 34 = .ok (.invokespecial 89, 3) := by decide +kernel
theorem dX8_decode_37 : decode cX8_decode 37 = .ok (.athrow, 1) := by decide +kernel
theorem dX8_decode_38 : decode cX8_decode 38 = .ok (.iload_n 3, 1) := by decide +kernel
theorem dX8_decode_39 : decode cX8_decode 39 = .ok (.ireturn, 1) := by decide +kernel
set_option maxRecDepth 20000 in
theorem ggX8_sample_X8_checkRange : GoodIn wsX8_sample wsX8_checkRange := goodIn_ca (goodIn_r _ [9, 10, 11] (by decide +kernel) (by decide +kernel)) (goodIn_sub (fun _ h => List.mem_cons_of_mem _ (List.mem_append_right _ h)) (by decide +kernel))
set_option maxRecDepth 20000 in
theorem gX8_sample_X8_checkRange : GoodIn wsX8_sample (va_wsS RX8 53 yX8_checkRange wsX8_checkRange) := goodIn_app (goodIn_of _ (by decide +kernel)) ggX8_sample_X8_checkRange
set_option maxRecDepth 20000 in
theorem ggX8_sample_X2_size : GoodIn wsX8_sample wsX2_size := goodIn_r _ [16, 17, 37, 38, 39, 40, 41, 42] (by decide +kernel) (by decide +kernel)
set_option maxRecDepth 20000 in
theorem gX8_sample_X2_size : GoodIn wsX8_sample (wsV RX8 94 RX2 yX2_size wsX2_size) := goodIn_app (goodIn_of _ (by decide +kernel)) ggX8_sample_X2_size
set_option maxRecDepth 20000 in
theorem ggX8_sample_X2_add : GoodIn wsX8_sample wsX2_add := goodIn_r _ [21, 22, 17, 23, 24, 25, 26, 27, 28, 37, 38, 39, 40, 41, 42, 43] (by decide +kernel) (by decide +kernel)
set_option maxRecDepth 20000 in
theorem gX8_sample_X2_add : GoodIn wsX8_sample (wsV RX8 101 RX2 yX2_add wsX2_add) := goodIn_app (goodIn_of _ (by decide +kernel)) ggX8_sample_X2_add
theorem dX8_sample_0 : decode cX8_sample 0 = .ok (.iload_n 1, 1) := by decide +kernel
theorem dX8_sample_1 : decode cX8_sample 1 = .ok (.i2l, 1) := by decide +kernel
theorem dX8_sample_2 : decode cX8_sample 2 = .ok (.ldc2_w 90, 3) := by decide +kernel
theorem dX8_sample_5 : decode cX8_sample 5 = .ok (.ldc2_w 92, 3) := by decide +kernel
theorem dX8_sample_8 : decode cX8_sample 8 = .ok (.invokestatic 53, 3) := by decide +kernel
theorem dX8_sample_11 : decode cX8_sample 11 = .ok (.aload_n 0, 1) := by decide +kernel
theorem dX8_sample_12 : decode cX8_sample 12 = .ok (.getfield 12, 3) := by decide +kernel
theorem dX8_sample_15 : decode cX8_sample 15 = .ok (.invokevirtual 94, 3) := by decide +kernel
theorem dX8_sample_18 : decode cX8_sample 18 = .ok (.bipush 12, 2) := by decide +kernel
theorem dX8_sample_20 : decode cX8_sample 20 = .ok (.if_icmp .lt 11, 3) := by decide +kernel
theorem dX8_sample_23 : decode cX8_sample 23 = .ok (.new 98, 3) := by decide +kernel
theorem dX8_sample_26 : decode cX8_sample 26 = .ok (.dup, 1) := by decide +kernel
theorem dX8_sample_27 : decode cX8_sample 27 = .ok (.invokespecial 100, 3) := by decide +kernel
theorem dX8_sample_30 : decode cX8_sample 30 = .ok (.athrow, 1) := by decide +kernel
theorem dX8_sample_31 : decode cX8_sample 31 = .ok (.aload_n 0, 1) := by decide +kernel
theorem dX8_sample_32 : decode cX8_sample 32 = .ok (.getfield 12, 3) := by decide +kernel
theorem dX8_sample_35 : decode cX8_sample 35 = .ok (.iload_n 1, 1) := by decide +kernel
theorem dX8_sample_36 : decode cX8_sample 36 = .ok (.invokevirtual 101, 3) := by decide +kernel
theorem dX8_sample_39 : decode cX8_sample 39 = .ok (.ireturn, 1) := by decide +kernel
set_option maxRecDepth 20000 in
theorem ggX8_guess_X2_bestCells : GoodIn wsX8_guess wsX2_bestCells := goodIn_r _ [6, 7, 8, 9, 10, 11, 12, 13, 14, 15, 16, 17, 18, 19, 20, 21, 22, 23, 24, 25, 26, 27, 28, 5, 29, 30, 31, 32, 33, 34, 35, 36, 37, 38, 39, 48, 49, 50, 51, 52, 53, 54] (by decide +kernel) (by decide +kernel)
set_option maxRecDepth 20000 in
theorem gX8_guess_X2_bestCells : GoodIn wsX8_guess (wsV RX8 104 RX2 yX2_bestCells wsX2_bestCells) := goodIn_app (goodIn_of _ (by decide +kernel)) ggX8_guess_X2_bestCells
theorem dX8_guess_0 : decode cX8_guess 0 = .ok (.aload_n 0, 1) := by decide +kernel
theorem dX8_guess_1 : decode cX8_guess 1 = .ok (.getfield 12, 3) := by decide +kernel
theorem dX8_guess_4 : decode cX8_guess 4 = .ok (.invokevirtual 104, 3) := by decide +kernel
theorem dX8_guess_7 : decode cX8_guess 7 = .ok (.ireturn, 1) := by decide +kernel
set_option maxRecDepth 20000 in
theorem ggX8_isSound_X3_keepsWhatWasSent : GoodIn wsX8_isSound wsX3_keepsWhatWasSent := goodIn_r _ [7, 8, 9, 10, 11, 12, 13, 14, 15, 16, 17, 18, 19, 20, 21, 22, 23, 24, 25, 6, 26, 27, 28, 29, 30, 31, 32, 33, 34, 35, 36, 37, 38, 39, 40, 41, 42, 43, 44, 45, 46, 47, 48, 49, 50, 51, 52, 53, 54, 55, 56, 57, 58, 59, 60, 61, 62, 63, 64, 65, 66, 67, 68, 69, 70, 71, 72, 73, 74, 75, 76, 77, 78, 79, 80, 81, 82, 83, 84, 85, 86, 87, 88, 89, 90, 91, 128, 129, 130, 131, 132, 133, 134, 135, 136, 137, 138, 139, 140, 141, 142, 143] (by decide +kernel) (by decide +kernel)
set_option maxRecDepth 20000 in
theorem gX8_isSound_X3_keepsWhatWasSent : GoodIn wsX8_isSound (wsV RX8 286 RX3 yX3_keepsWhatWasSent wsX3_keepsWhatWasSent) := goodIn_app (goodIn_of _ (by decide +kernel)) ggX8_isSound_X3_keepsWhatWasSent
set_option maxRecDepth 20000 in
theorem ggX8_isSound_X3_endsHold : GoodIn wsX8_isSound wsX3_endsHold := goodIn_r _ [95, 32, 33, 34, 35, 36, 37, 38, 39, 40, 13, 14, 15, 16, 17, 96, 97, 98, 6, 99, 100, 101, 51, 52, 53, 22, 128, 129, 130, 131, 132, 133, 134, 135, 136, 137, 138, 139, 140, 142, 143, 141] (by decide +kernel) (by decide +kernel)
set_option maxRecDepth 20000 in
theorem gX8_isSound_X3_endsHold : GoodIn wsX8_isSound (wsV RX8 289 RX3 yX3_endsHold wsX3_endsHold) := goodIn_app (goodIn_of _ (by decide +kernel)) ggX8_isSound_X3_endsHold
set_option maxRecDepth 20000 in
theorem ggX8_isSound_X0_holdsEachOnce : GoodIn wsX8_isSound wsX0_holdsEachOnce := goodIn_r _ [106, 107, 108, 109, 51, 52, 15, 53, 22, 13, 14, 16, 17, 110, 111, 112, 105, 113, 114, 144, 145, 146, 141] (by decide +kernel) (by decide +kernel)
set_option maxRecDepth 20000 in
theorem gX8_isSound_X0_holdsEachOnce : GoodIn wsX8_isSound (wsV RX8 292 RX0 yX0_holdsEachOnce wsX0_holdsEachOnce) := goodIn_app (goodIn_of _ (by decide +kernel)) ggX8_isSound_X0_holdsEachOnce
set_option maxRecDepth 20000 in
theorem ggX8_isSound_X6_size : GoodIn wsX8_isSound wsX6_size := goodIn_r _ [118, 119, 34, 35, 36, 37, 38, 39, 40, 13, 14, 15, 16, 17, 142, 143, 141] (by decide +kernel) (by decide +kernel)
set_option maxRecDepth 20000 in
theorem gX8_isSound_X6_size : GoodIn wsX8_isSound (wsV RX8 155 RX6 yX6_size wsX6_size) := goodIn_app (goodIn_of _ (by decide +kernel)) ggX8_isSound_X6_size
theorem dX8_isSound_0 : decode cX8_isSound 0 = .ok (.aload_n 0, 1) := by decide +kernel
theorem dX8_isSound_1 : decode cX8_isSound 1 = .ok (.getfield 26, 3) := by decide +kernel
theorem dX8_isSound_4 : decode cX8_isSound 4 = .ok (.invokevirtual 286, 3) := by decide +kernel
theorem dX8_isSound_7 : decode cX8_isSound 7 = .ok (.ifCond .eq 42, 3) := by decide +kernel
theorem dX8_isSound_10 : decode cX8_isSound 10 = .ok (.aload_n 0, 1) := by decide +kernel
theorem dX8_isSound_11 : decode cX8_isSound 11 = .ok (.getfield 26, 3) := by decide +kernel
theorem dX8_isSound_14 : decode cX8_isSound 14 = .ok (.invokevirtual 289, 3) := by decide +kernel
theorem dX8_isSound_17 : decode cX8_isSound 17 = .ok (.ifCond .eq 32, 3) := by decide +kernel
theorem dX8_isSound_20 : decode cX8_isSound 20 = .ok (.aload_n 0, 1) := by decide +kernel
theorem dX8_isSound_21 : decode cX8_isSound 21 = .ok (.getfield 19, 3) := by decide +kernel
theorem dX8_isSound_24 : decode cX8_isSound 24 = .ok (.invokevirtual 292, 3) := by decide +kernel
theorem dX8_isSound_27 : decode cX8_isSound 27 = .ok (.ifCond .eq 22, 3) := by decide +kernel
theorem dX8_isSound_30 : decode cX8_isSound 30 = .ok (.aload_n 0, 1) := by decide +kernel
theorem dX8_isSound_31 : decode cX8_isSound 31 = .ok (.getfield 26, 3) := by decide +kernel
theorem dX8_isSound_34 : decode cX8_isSound 34 = .ok (.getfield 151, 3) := by decide +kernel
theorem dX8_isSound_37 : decode cX8_isSound 37 = .ok (.invokevirtual 155, 3) := by decide +kernel
theorem dX8_isSound_40 : decode cX8_isSound 40 = .ok (.bipush 10, 2) := by decide +kernel
theorem dX8_isSound_42 : decode cX8_isSound 42 = .ok (.if_icmp .gt 7, 3) := by decide +kernel
theorem dX8_isSound_45 : decode cX8_isSound 45 = .ok (.iconst 1, 1) := by decide +kernel
theorem dX8_isSound_46 : decode cX8_isSound 46 = .ok (.goto 4, 3) := by decide +kernel
theorem dX8_isSound_49 : decode cX8_isSound 49 = .ok (.iconst 0, 1) := by decide +kernel
theorem dX8_isSound_50 : decode cX8_isSound 50 = .ok (.ireturn, 1) := by decide +kernel
theorem dX8_checkRange_0 : decode cX8_checkRange 0 = .ok (.lload_n 0, 1) := by decide +kernel
theorem dX8_checkRange_1 : decode cX8_checkRange 1 = .ok (.lload_n 2, 1) := by decide +kernel
theorem dX8_checkRange_2 : decode cX8_checkRange 2 = .ok (.lcmp, 1) := by decide +kernel
theorem dX8_checkRange_3 : decode cX8_checkRange 3 = .ok (.ifCond .lt 10, 3) := by decide +kernel
theorem dX8_checkRange_6 : decode cX8_checkRange 6 = .ok (.lload_n 0, 1) := by decide +kernel
theorem dX8_checkRange_7 : decode cX8_checkRange 7 = .ok (.lload 4, 2) := by decide +kernel
theorem dX8_checkRange_9 : decode cX8_checkRange 9 = .ok (.lcmp, 1) := by decide +kernel
theorem dX8_checkRange_10 : decode cX8_checkRange 10 = .ok (.ifCond .le 11, 3) := by decide +kernel
theorem dX8_checkRange_13 : decode cX8_checkRange 13 = .ok (.new 238, 3) := by decide +kernel
theorem dX8_checkRange_16 : decode cX8_checkRange 16 = .ok (.dup, 1) := by decide +kernel
theorem dX8_checkRange_17 : decode cX8_checkRange 17 = .ok (.invokespecial 240, 3) := by decide +kernel
theorem dX8_checkRange_20 : decode cX8_checkRange 20 = .ok (.athrow, 1) := by decide +kernel
theorem dX8_checkRange_21 : decode cX8_checkRange 21 = .ok (.return_, 1) := by decide +kernel
set_option maxRecDepth 20000 in
theorem ggX8_repairedOrThrow_X8_checkRange : GoodIn wsX8_repairedOrThrow wsX8_checkRange := goodIn_ca (goodIn_r _ [9, 10, 11] (by decide +kernel) (by decide +kernel)) (goodIn_sub (fun _ h => List.mem_cons_of_mem _ (List.mem_append_right _ h)) (by decide +kernel))
set_option maxRecDepth 20000 in
theorem gX8_repairedOrThrow_X8_checkRange : GoodIn wsX8_repairedOrThrow (va_wsS RX8 53 yX8_checkRange wsX8_checkRange) := goodIn_app (goodIn_of _ (by decide +kernel)) ggX8_repairedOrThrow_X8_checkRange
set_option maxRecDepth 20000 in
theorem ggX8_repairedOrThrow_X7_repaired : GoodIn wsX8_repairedOrThrow wsX7_repaired := goodIn_r _ [15, 16, 17, 18, 14, 19, 20, 21, 22, 23, 24, 25, 26, 27, 28, 29, 30, 31, 32, 33, 34, 35, 36, 37, 38, 39, 40, 41, 42, 43, 44, 45] (by decide +kernel) (by decide +kernel)
set_option maxRecDepth 20000 in
theorem gX8_repairedOrThrow_X7_repaired : GoodIn wsX8_repairedOrThrow (va_wsS RX8 300 yX7_repaired wsX7_repaired) := goodIn_app (goodIn_of _ (by decide +kernel)) ggX8_repairedOrThrow_X7_repaired
theorem dX8_repairedOrThrow_0 : decode cX8_repairedOrThrow 0 = .ok (.lload_n 0, 1) := by decide +kernel
theorem dX8_repairedOrThrow_1 : decode cX8_repairedOrThrow 1 = .ok (.lconst 0, 1) := by decide +kernel
theorem dX8_repairedOrThrow_2 : decode cX8_repairedOrThrow 2 = .ok (.ldc2_w 298, 3) := by decide +kernel
theorem dX8_repairedOrThrow_5 : decode cX8_repairedOrThrow 5 = .ok (.invokestatic 53, 3) := by decide +kernel
theorem dX8_repairedOrThrow_8 : decode cX8_repairedOrThrow 8 = .ok (.iload_n 2, 1) := by decide +kernel
theorem dX8_repairedOrThrow_9 : decode cX8_repairedOrThrow 9 = .ok (.i2l, 1) := by decide +kernel
theorem dX8_repairedOrThrow_10 : decode cX8_repairedOrThrow 10 = .ok (.lconst 0, 1) := by decide +kernel
theorem dX8_repairedOrThrow_11 : decode cX8_repairedOrThrow 11 = .ok (.ldc2_w 75, 3) := by decide +kernel
theorem dX8_repairedOrThrow_14 : decode cX8_repairedOrThrow 14 = .ok (.invokestatic 53, 3) := by decide +kernel
theorem dX8_repairedOrThrow_17 : decode cX8_repairedOrThrow 17 = .ok (.lload_n 0, 1) := by decide +kernel
theorem dX8_repairedOrThrow_18 : decode cX8_repairedOrThrow 18 = .ok (.iload_n 2, 1) := by decide +kernel
theorem dX8_repairedOrThrow_19 : decode cX8_repairedOrThrow 19 = .ok (.invokestatic 300, 3) := by decide +kernel
theorem dX8_repairedOrThrow_22 : decode cX8_repairedOrThrow 22 = .ok (.lstore_n 3, 1) := by decide +kernel
theorem dX8_repairedOrThrow_23 : decode cX8_repairedOrThrow 23 = .ok (.lload_n 3, 1) := by decide +kernel
theorem dX8_repairedOrThrow_24 : decode cX8_repairedOrThrow 24 = .ok (.ldc2_w 303, 3) := by decide +kernel
theorem dX8_repairedOrThrow_27 : decode cX8_repairedOrThrow 27 = .ok (.lcmp, 1) := by decide +kernel
theorem dX8_repairedOrThrow_28 : decode cX8_repairedOrThrow 28 = .ok (.ifCond .ne 11, 3) := by decide +kernel
theorem dX8_repairedOrThrow_31 : decode cX8_repairedOrThrow 31 = .ok (.new 87, 3) := by decide +kernel
theorem dX8_repairedOrThrow_34 : decode cX8_repairedOrThrow 34 = .ok (.dup, 1) := by decide +kernel
theorem dX8_repairedOrThrow_35 : decode cX8_repairedOrThrow 35 = .ok (.invokespecial 89, 3) := by decide +kernel
theorem dX8_repairedOrThrow_38 : decode cX8_repairedOrThrow 38 = .ok (.athrow, 1) := by decide +kernel
theorem dX8_repairedOrThrow_39 : decode cX8_repairedOrThrow 39 = .ok (.lload_n 3, 1) := by decide +kernel
theorem dX8_repairedOrThrow_40 : decode cX8_repairedOrThrow 40 = .ok (.lreturn, 1) := by decide +kernel
theorem dJ6_bitCount_0f7a4_0 : decode cJ6_bitCount_0f7a4 0 = .ok (.iload_n 0, 1) := by decide +kernel
theorem dJ6_bitCount_0f7a4_1 : decode cJ6_bitCount_0f7a4 1 = .ok (.iload_n 0, 1) := by decide +kernel
theorem dJ6_bitCount_0f7a4_2 : decode cJ6_bitCount_0f7a4 2 = .ok (.iconst 1, 1) := by decide +kernel
theorem dJ6_bitCount_0f7a4_3 : decode cJ6_bitCount_0f7a4 3 = .ok (.iushr, 1) := by decide +kernel
theorem dJ6_bitCount_0f7a4_4 : decode cJ6_bitCount_0f7a4 4 = .ok (.ldc_w 265, 3) := by decide +kernel
theorem dJ6_bitCount_0f7a4_7 : decode cJ6_bitCount_0f7a4 7 = .ok (.iand, 1) := by decide +kernel
theorem dJ6_bitCount_0f7a4_8 : decode cJ6_bitCount_0f7a4 8 = .ok (.isub, 1) := by decide +kernel
theorem dJ6_bitCount_0f7a4_9 : decode cJ6_bitCount_0f7a4 9 = .ok (.istore_n 0, 1) := by decide +kernel
theorem dJ6_bitCount_0f7a4_10 : decode cJ6_bitCount_0f7a4 10 = .ok (.iload_n 0, 1) := by decide +kernel
theorem dJ6_bitCount_0f7a4_11 : decode cJ6_bitCount_0f7a4 11 = .ok (.ldc_w 266, 3) := by decide +kernel
theorem dJ6_bitCount_0f7a4_14 : decode cJ6_bitCount_0f7a4 14 = .ok (.iand, 1) := by decide +kernel
theorem dJ6_bitCount_0f7a4_15 : decode cJ6_bitCount_0f7a4 15 = .ok (.iload_n 0, 1) := by decide +kernel
theorem dJ6_bitCount_0f7a4_16 : decode cJ6_bitCount_0f7a4 16 = .ok (.iconst 2, 1) := by decide +kernel
theorem dJ6_bitCount_0f7a4_17 : decode cJ6_bitCount_0f7a4 17 = .ok (.iushr, 1) := by decide +kernel
theorem dJ6_bitCount_0f7a4_18 : decode cJ6_bitCount_0f7a4 18 = .ok (.ldc_w 266, 3) := by decide +kernel
theorem dJ6_bitCount_0f7a4_21 : decode cJ6_bitCount_0f7a4 21 = .ok (.iand, 1) := by decide +kernel
theorem dJ6_bitCount_0f7a4_22 : decode cJ6_bitCount_0f7a4 22 = .ok (.iadd, 1) := by decide +kernel
theorem dJ6_bitCount_0f7a4_23 : decode cJ6_bitCount_0f7a4 23 = .ok (.istore_n 0, 1) := by decide +kernel
theorem dJ6_bitCount_0f7a4_24 : decode cJ6_bitCount_0f7a4 24 = .ok (.iload_n 0, 1) := by decide +kernel
theorem dJ6_bitCount_0f7a4_25 : decode cJ6_bitCount_0f7a4 25 = .ok (.iload_n 0, 1) := by decide +kernel
theorem dJ6_bitCount_0f7a4_26 : decode cJ6_bitCount_0f7a4 26 = .ok (.iconst 4, 1) := by decide +kernel
theorem dJ6_bitCount_0f7a4_27 : decode cJ6_bitCount_0f7a4 27 = .ok (.iushr, 1) := by decide +kernel
theorem dJ6_bitCount_0f7a4_28 : decode cJ6_bitCount_0f7a4 28 = .ok (.iadd, 1) := by decide +kernel
theorem dJ6_bitCount_0f7a4_29 : decode cJ6_bitCount_0f7a4 29 = .ok (.ldc_w 267, 3) := by decide +kernel
theorem dJ6_bitCount_0f7a4_32 : decode cJ6_bitCount_0f7a4 32 = .ok (.iand, 1) := by decide +kernel
theorem dJ6_bitCount_0f7a4_33 : decode cJ6_bitCount_0f7a4 33 = .ok (.istore_n 0, 1) := by decide +kernel
theorem dJ6_bitCount_0f7a4_34 : decode cJ6_bitCount_0f7a4 34 = .ok (.iload_n 0, 1) := by decide +kernel
theorem dJ6_bitCount_0f7a4_35 : decode cJ6_bitCount_0f7a4 35 = .ok (.iload_n 0, 1) := by decide +kernel
theorem dJ6_bitCount_0f7a4_36 : decode cJ6_bitCount_0f7a4 36 = .ok (.bipush 8, 2) := by decide +kernel
theorem dJ6_bitCount_0f7a4_38 : decode cJ6_bitCount_0f7a4 38 = .ok (.iushr, 1) := by decide +kernel
theorem dJ6_bitCount_0f7a4_39 : decode cJ6_bitCount_0f7a4 39 = .ok (.iadd, 1) := by decide +kernel
theorem dJ6_bitCount_0f7a4_40 : decode cJ6_bitCount_0f7a4 40 = .ok (.istore_n 0, 1) := by decide +kernel
theorem dJ6_bitCount_0f7a4_41 : decode cJ6_bitCount_0f7a4 41 = .ok (.iload_n 0, 1) := by decide +kernel
theorem dJ6_bitCount_0f7a4_42 : decode cJ6_bitCount_0f7a4 42 = .ok (.iload_n 0, 1) := by decide +kernel
theorem dJ6_bitCount_0f7a4_43 : decode cJ6_bitCount_0f7a4 43 = .ok (.bipush 16, 2) := by decide +kernel
theorem dJ6_bitCount_0f7a4_45 : decode cJ6_bitCount_0f7a4 45 = .ok (.iushr, 1) := by decide +kernel
theorem dJ6_bitCount_0f7a4_46 : decode cJ6_bitCount_0f7a4 46 = .ok (.iadd, 1) := by decide +kernel
theorem dJ6_bitCount_0f7a4_47 : decode cJ6_bitCount_0f7a4 47 = .ok (.istore_n 0, 1) := by decide +kernel
theorem dJ6_bitCount_0f7a4_48 : decode cJ6_bitCount_0f7a4 48 = .ok (.iload_n 0, 1) := by decide +kernel
theorem dJ6_bitCount_0f7a4_49 : decode cJ6_bitCount_0f7a4 49 = .ok (.bipush 63, 2) := by decide +kernel
theorem dJ6_bitCount_0f7a4_51 : decode cJ6_bitCount_0f7a4 51 = .ok (.iand, 1) := by decide +kernel
theorem dJ6_bitCount_0f7a4_52 : decode cJ6_bitCount_0f7a4 52 = .ok (.ireturn, 1) := by decide +kernel
theorem dL_cell_0 : decode cL_cell 0 = .ok (.ldc 7, 2) := by decide +kernel
theorem dL_cell_2 : decode cL_cell 2 = .ok (.iload_n 1, 1) := by decide +kernel
theorem dL_cell_3 : decode cL_cell 3 = .ok (.aload_n 0, 1) := by decide +kernel
theorem dL_cell_4 : decode cL_cell 4 = .ok (.arraylength, 1) := by decide +kernel
theorem dL_cell_5 : decode cL_cell 5 = .ok (.if_icmp .ge 9, 3) := by decide +kernel
theorem dL_cell_8 : decode cL_cell 8 = .ok (.aload_n 0, 1) := by decide +kernel
theorem dL_cell_9 : decode cL_cell 9 = .ok (.iload_n 1, 1) := by decide +kernel
theorem dL_cell_10 : decode cL_cell 10 = .ok (.iaload, 1) := by decide +kernel
theorem dL_cell_11 : decode cL_cell 11 = .ok (.goto 4, 3) := by decide +kernel
theorem dL_cell_14 : decode cL_cell 14 = .ok (.iconst 0, 1) := by decide +kernel
theorem dL_cell_15 : decode cL_cell 15 = .ok (.sipush 1009, 3) := by decide +kernel
theorem dL_cell_18 : decode cL_cell 18 = .ok (.iload_n 1, 1) := by decide +kernel
theorem dL_cell_19 : decode cL_cell 19 = .ok (.imul, 1) := by decide +kernel
theorem dL_cell_20 : decode cL_cell 20 = .ok (.iadd, 1) := by decide +kernel
theorem dL_cell_21 : decode cL_cell 21 = .ok (.imul, 1) := by decide +kernel
theorem dL_cell_22 : decode cL_cell 22 = .ok (.sipush 12345, 3) := by decide +kernel
theorem dL_cell_25 : decode cL_cell 25 = .ok (.iadd, 1) := by decide +kernel
theorem dL_cell_26 : decode cL_cell 26 = .ok (.istore_n 2, 1) := by decide +kernel
theorem dL_cell_27 : decode cL_cell 27 = .ok (.iload_n 2, 1) := by decide +kernel
theorem dL_cell_28 : decode cL_cell 28 = .ok (.iload_n 2, 1) := by decide +kernel
theorem dL_cell_29 : decode cL_cell 29 = .ok (.bipush 13, 2) := by decide +kernel
theorem dL_cell_31 : decode cL_cell 31 = .ok (.iushr, 1) := by decide +kernel
theorem dL_cell_32 : decode cL_cell 32 = .ok (.ixor, 1) := by decide +kernel
theorem dL_cell_33 : decode cL_cell 33 = .ok (.ldc 8, 2) := by decide +kernel
theorem dL_cell_35 : decode cL_cell 35 = .ok (.imul, 1) := by decide +kernel
theorem dL_cell_36 : decode cL_cell 36 = .ok (.istore_n 2, 1) := by decide +kernel
theorem dL_cell_37 : decode cL_cell 37 = .ok (.iload_n 2, 1) := by decide +kernel
theorem dL_cell_38 : decode cL_cell 38 = .ok (.iload_n 2, 1) := by decide +kernel
theorem dL_cell_39 : decode cL_cell 39 = .ok (.bipush 16, 2) := by decide +kernel
theorem dL_cell_41 : decode cL_cell 41 = .ok (.iushr, 1) := by decide +kernel
theorem dL_cell_42 : decode cL_cell 42 = .ok (.ixor, 1) := by decide +kernel
theorem dL_cell_43 : decode cL_cell 43 = .ok (.ireturn, 1) := by decide +kernel
set_option maxRecDepth 20000 in
theorem ggL_word_X8_word : GoodIn wsL_word wsX8_word := goodIn_ca (goodIn_r _ [7, 8, 9, 10, 6, 11, 12, 13, 14, 15, 16, 17, 18, 19, 20, 21, 22, 23, 24, 25, 26, 27, 28, 29, 30, 31, 32, 33, 34, 35, 36, 37, 38, 39] (by decide +kernel) (by decide +kernel)) (goodIn_sub (fun _ h => List.mem_cons_of_mem _ (List.mem_append_right _ h)) (by decide +kernel))
set_option maxRecDepth 20000 in
theorem gL_word_X8_word : GoodIn wsL_word (wsV RL 9 RX8 yX8_word wsX8_word) := goodIn_app (goodIn_of _ (by decide +kernel)) ggL_word_X8_word
theorem dL_word_0 : decode cL_word 0 = .ok (.aload_n 0, 1) := by decide +kernel
theorem dL_word_1 : decode cL_word 1 = .ok (.iload_n 1, 1) := by decide +kernel
theorem dL_word_2 : decode cL_word 2 = .ok (.invokevirtual 9, 3) := by decide +kernel
theorem dL_word_5 : decode cL_word 5 = .ok (.lreturn, 1) := by decide +kernel
theorem dL_word_6 : decode cL_word 6 = .ok (.astore_n 2, 1) := by decide +kernel
theorem dL_word_7 : decode cL_word 7 = .ok (.ldc2_w 17, 3) := by decide +kernel
theorem dL_word_10 : decode cL_word 10 = .ok (.lreturn, 1) := by decide +kernel
set_option maxRecDepth 20000 in
theorem ggL_mend_X8_mend : GoodIn wsL_mend wsX8_mend := goodIn_ca (goodIn_ca (goodIn_r _ [9, 10, 11, 8, 12, 13, 14, 15, 16, 17, 18, 19, 20, 21, 22, 23, 24, 25, 26, 27, 28, 29, 30, 31, 32, 33, 34, 35, 36, 37, 38, 39, 40, 41, 42, 43, 44, 45, 46, 47, 48, 49, 50, 51, 52, 53, 54, 55, 56, 57, 58, 59, 60] (by decide +kernel) (by decide +kernel)) (goodIn_sub (fun _ h => List.mem_cons_of_mem _ (List.mem_append_left _ (List.mem_append_right _ h))) (by decide +kernel))) (goodIn_sub (fun _ h => List.mem_cons_of_mem _ (List.mem_append_right _ h)) (by decide +kernel))
set_option maxRecDepth 20000 in
theorem gL_mend_X8_mend : GoodIn wsL_mend (wsV RL 19 RX8 yX8_mend wsX8_mend) := goodIn_app (goodIn_of _ (by decide +kernel)) ggL_mend_X8_mend
theorem dL_mend_0 : decode cL_mend 0 = .ok (.aload_n 0, 1) := by decide +kernel
theorem dL_mend_1 : decode cL_mend 1 = .ok (.lload_n 1, 1) := by decide +kernel
theorem dL_mend_2 : decode cL_mend 2 = .ok (.iload_n 3, 1) := by decide +kernel
theorem dL_mend_3 : decode cL_mend 3 = .ok (.invokevirtual 19, 3) := by decide +kernel
theorem dL_mend_6 : decode cL_mend 6 = .ok (.ireturn, 1) := by decide +kernel
theorem dL_mend_7 : decode cL_mend 7 = .ok (.astore 4, 2) := by decide +kernel
theorem dL_mend_9 : decode cL_mend 9 = .ok (.ldc 23, 2) := by decide +kernel
theorem dL_mend_11 : decode cL_mend 11 = .ok (.ireturn, 1) := by decide +kernel
theorem dL_mend_12 : decode cL_mend 12 = .ok (.astore 4, 2) := by decide +kernel
theorem dL_mend_14 : decode cL_mend 14 = .ok (.ldc 26, 2) := by decide +kernel
theorem dL_mend_16 : decode cL_mend 16 = .ok (.ireturn, 1) := by decide +kernel
set_option maxRecDepth 20000 in
theorem ggL_mended_X8_mended : GoodIn wsL_mended wsX8_mended := goodIn_ca (goodIn_ca (goodIn_r _ [9, 10, 11, 8, 12, 13, 14, 15, 16, 17, 18, 19, 20, 21, 22, 23, 24, 25, 26, 27, 28, 29, 30, 31, 32, 33, 34, 35, 36, 37, 38, 39, 40, 41, 42, 43, 44, 45, 46, 47, 48, 49, 50, 51, 52, 53, 54, 55, 56, 57, 58, 59] (by decide +kernel) (by decide +kernel)) (goodIn_sub (fun _ h => List.mem_cons_of_mem _ (List.mem_append_left _ (List.mem_append_right _ h))) (by decide +kernel))) (goodIn_sub (fun _ h => List.mem_cons_of_mem _ (List.mem_append_right _ h)) (by decide +kernel))
set_option maxRecDepth 20000 in
theorem gL_mended_X8_mended : GoodIn wsL_mended (wsV RL 27 RX8 yX8_mended wsX8_mended) := goodIn_app (goodIn_of _ (by decide +kernel)) ggL_mended_X8_mended
theorem dL_mended_0 : decode cL_mended 0 = .ok (.aload_n 0, 1) := by decide +kernel
theorem dL_mended_1 : decode cL_mended 1 = .ok (.lload_n 1, 1) := by decide +kernel
theorem dL_mended_2 : decode cL_mended 2 = .ok (.iload_n 3, 1) := by decide +kernel
theorem dL_mended_3 : decode cL_mended 3 = .ok (.invokevirtual 27, 3) := by decide +kernel
theorem dL_mended_6 : decode cL_mended 6 = .ok (.ireturn, 1) := by decide +kernel
theorem dL_mended_7 : decode cL_mended 7 = .ok (.astore 4, 2) := by decide +kernel
theorem dL_mended_9 : decode cL_mended 9 = .ok (.ldc 23, 2) := by decide +kernel
theorem dL_mended_11 : decode cL_mended 11 = .ok (.ireturn, 1) := by decide +kernel
theorem dL_mended_12 : decode cL_mended 12 = .ok (.astore 4, 2) := by decide +kernel
theorem dL_mended_14 : decode cL_mended 14 = .ok (.ldc 26, 2) := by decide +kernel
theorem dL_mended_16 : decode cL_mended 16 = .ok (.ireturn, 1) := by decide +kernel
set_option maxRecDepth 20000 in
theorem ggL_encode_X8_encode : GoodIn wsL_encode wsX8_encode := goodIn_ca (goodIn_r _ [7, 8, 9, 10, 6, 11, 12, 13, 14, 15, 16, 17] (by decide +kernel) (by decide +kernel)) (goodIn_sub (fun _ h => List.mem_cons_of_mem _ (List.mem_append_right _ h)) (by decide +kernel))
set_option maxRecDepth 20000 in
theorem gL_encode_X8_encode : GoodIn wsL_encode (wsV RL 30 RX8 yX8_encode wsX8_encode) := goodIn_app (goodIn_of _ (by decide +kernel)) ggL_encode_X8_encode
theorem dL_encode_0 : decode cL_encode 0 = .ok (.aload_n 0, 1) := by decide +kernel
theorem dL_encode_1 : decode cL_encode 1 = .ok (.iload_n 1, 1) := by decide +kernel
theorem dL_encode_2 : decode cL_encode 2 = .ok (.iload_n 2, 1) := by decide +kernel
theorem dL_encode_3 : decode cL_encode 3 = .ok (.invokevirtual 30, 3) := by decide +kernel
theorem dL_encode_6 : decode cL_encode 6 = .ok (.ireturn, 1) := by decide +kernel
theorem dL_encode_7 : decode cL_encode 7 = .ok (.astore_n 3, 1) := by decide +kernel
theorem dL_encode_8 : decode cL_encode 8 = .ok (.ldc 23, 2) := by decide +kernel
theorem dL_encode_10 : decode cL_encode 10 = .ok (.ireturn, 1) := by decide +kernel
set_option maxRecDepth 20000 in
theorem ggL_decode_X8_decode : GoodIn wsL_decode wsX8_decode := goodIn_ca (goodIn_ca (goodIn_r _ [9, 10, 11, 12, 13, 14, 8, 15, 16, 17, 18, 19, 20, 21, 22, 23, 24] (by decide +kernel) (by decide +kernel)) (goodIn_sub (fun _ h => List.mem_cons_of_mem _ (List.mem_append_left _ (List.mem_append_right _ h))) (by decide +kernel))) (goodIn_sub (fun _ h => List.mem_cons_of_mem _ (List.mem_append_right _ h)) (by decide +kernel))
set_option maxRecDepth 20000 in
theorem gL_decode_X8_decode : GoodIn wsL_decode (wsV RL 34 RX8 yX8_decode wsX8_decode) := goodIn_app (goodIn_of _ (by decide +kernel)) ggL_decode_X8_decode
theorem dL_decode_0 : decode cL_decode 0 = .ok (.aload_n 0, 1) := by decide +kernel
theorem dL_decode_1 : decode cL_decode 1 = .ok (.iload_n 1, 1) := by decide +kernel
theorem dL_decode_2 : decode cL_decode 2 = .ok (.iload_n 2, 1) := by decide +kernel
theorem dL_decode_3 : decode cL_decode 3 = .ok (.invokevirtual 34, 3) := by decide +kernel
theorem dL_decode_6 : decode cL_decode 6 = .ok (.ireturn, 1) := by decide +kernel
theorem dL_decode_7 : decode cL_decode 7 = .ok (.astore_n 3, 1) := by decide +kernel
theorem dL_decode_8 : decode cL_decode 8 = .ok (.ldc 23, 2) := by decide +kernel
theorem dL_decode_10 : decode cL_decode 10 = .ok (.ireturn, 1) := by decide +kernel
theorem dL_decode_11 : decode cL_decode 11 = .ok (.astore_n 3, 1) := by decide +kernel
theorem dL_decode_12 : decode cL_decode 12 = .ok (.ldc 26, 2) := by decide +kernel
theorem dL_decode_14 : decode cL_decode 14 = .ok (.ireturn, 1) := by decide +kernel
set_option maxRecDepth 20000 in
theorem ggL_sample_X8_sample : GoodIn wsL_sample wsX8_sample := goodIn_ca (goodIn_ca (goodIn_r _ [9, 10, 11, 12, 13, 14, 15, 16, 8, 17, 18, 19, 20, 21, 22, 23, 24, 25, 26, 27, 28, 29, 30, 31, 32, 33, 34, 35, 36, 37, 38, 39, 40, 41, 42, 43, 44, 45, 46, 47, 48, 49, 50, 51] (by decide +kernel) (by decide +kernel)) (goodIn_sub (fun _ h => List.mem_cons_of_mem _ (List.mem_append_left _ (List.mem_append_right _ h))) (by decide +kernel))) (goodIn_sub (fun _ h => List.mem_cons_of_mem _ (List.mem_append_right _ h)) (by decide +kernel))
set_option maxRecDepth 20000 in
theorem gL_sample_X8_sample : GoodIn wsL_sample (wsV RL 37 RX8 yX8_sample wsX8_sample) := goodIn_app (goodIn_of _ (by decide +kernel)) ggL_sample_X8_sample
theorem dL_sample_0 : decode cL_sample 0 = .ok (.aload_n 0, 1) := by decide +kernel
theorem dL_sample_1 : decode cL_sample 1 = .ok (.iload_n 1, 1) := by decide +kernel
theorem dL_sample_2 : decode cL_sample 2 = .ok (.invokevirtual 37, 3) := by decide +kernel
theorem dL_sample_5 : decode cL_sample 5 = .ok (.ireturn, 1) := by decide +kernel
theorem dL_sample_6 : decode cL_sample 6 = .ok (.astore_n 2, 1) := by decide +kernel
theorem dL_sample_7 : decode cL_sample 7 = .ok (.ldc 23, 2) := by decide +kernel
theorem dL_sample_9 : decode cL_sample 9 = .ok (.ireturn, 1) := by decide +kernel
theorem dL_sample_10 : decode cL_sample 10 = .ok (.astore_n 2, 1) := by decide +kernel
theorem dL_sample_11 : decode cL_sample 11 = .ok (.ldc 26, 2) := by decide +kernel
theorem dL_sample_13 : decode cL_sample 13 = .ok (.ireturn, 1) := by decide +kernel
set_option maxRecDepth 20000 in
theorem ggL_in_L_cell : GoodIn wsL_in wsL_cell := goodIn_r _ [5, 6, 7] (by decide +kernel) (by decide +kernel)
set_option maxRecDepth 20000 in
theorem gL_in_L_cell : GoodIn wsL_in (va_wsS RL 43 yL_cell wsL_cell) := goodIn_app (goodIn_of _ (by decide +kernel)) ggL_in_L_cell
theorem dL_in_0 : decode cL_in 0 = .ok (.aload_n 0, 1) := by decide +kernel
theorem dL_in_1 : decode cL_in 1 = .ok (.iload_n 1, 1) := by decide +kernel
theorem dL_in_2 : decode cL_in 2 = .ok (.invokestatic 43, 3) := by decide +kernel
theorem dL_in_5 : decode cL_in 5 = .ok (.ldc 49, 2) := by decide +kernel
theorem dL_in_7 : decode cL_in 7 = .ok (.iand, 1) := by decide +kernel
theorem dL_in_8 : decode cL_in 8 = .ok (.iload_n 2, 1) := by decide +kernel
theorem dL_in_9 : decode cL_in 9 = .ok (.irem, 1) := by decide +kernel
theorem dL_in_10 : decode cL_in 10 = .ok (.ireturn, 1) := by decide +kernel
theorem dL_product_0 : decode cL_product 0 = .ok (.iconst 0, 1) := by decide +kernel
theorem dL_product_1 : decode cL_product 1 = .ok (.istore_n 2, 1) := by decide +kernel
theorem dL_product_2 : decode cL_product 2 = .ok (.iload_n 0, 1) := by decide +kernel
theorem dL_product_3 : decode cL_product 3 = .ok (.istore_n 3, 1) := by decide +kernel
theorem dL_product_4 : decode cL_product 4 = .ok (.iconst 0, 1) := by decide +kernel
theorem dL_product_5 : decode cL_product 5 = .ok (.istore 4, 2) := by decide +kernel
theorem dL_product_7 : decode cL_product 7 = .ok (.iload 4, 2) := by decide +kernel
theorem dL_product_9 : decode cL_product 9 = .ok (.iconst 4, 1) := by decide +kernel
theorem dL_product_10 : decode cL_product 10 = .ok (.if_icmp .ge 39, 3) := by decide +kernel
theorem dL_product_13 : decode cL_product 13 = .ok (.iload_n 2, 1) := by decide +kernel
theorem dL_product_14 : decode cL_product 14 = .ok (.iload_n 1, 1) := by decide +kernel
theorem dL_product_15 : decode cL_product 15 = .ok (.iload 4, 2) := by decide +kernel
theorem dL_product_17 : decode cL_product 17 = .ok (.ishr, 1) := by decide +kernel
theorem dL_product_18 : decode cL_product 18 = .ok (.iconst 1, 1) := by decide +kernel
theorem dL_product_19 : decode cL_product 19 = .ok (.iand, 1) := by decide +kernel
theorem dL_product_20 : decode cL_product 20 = .ok (.iload_n 3, 1) := by decide +kernel
theorem dL_product_21 : decode cL_product 21 = .ok (.imul, 1) := by decide +kernel
theorem dL_product_22 : decode cL_product 22 = .ok (.ixor, 1) := by decide +kernel
theorem dL_product_23 : decode cL_product 23 = .ok (.istore_n 2, 1) := by decide +kernel
theorem dL_product_24 : decode cL_product 24 = .ok (.iload_n 3, 1) := by decide +kernel
theorem dL_product_25 : decode cL_product 25 = .ok (.bipush 8, 2) := by decide +kernel
theorem dL_product_27 : decode cL_product 27 = .ok (.if_icmp .ge 9, 3) := by decide +kernel
theorem dL_product_30 : decode cL_product 30 = .ok (.iconst 2, 1) := by decide +kernel
theorem dL_product_31 : decode cL_product 31 = .ok (.iload_n 3, 1) := by decide +kernel
theorem dL_product_32 : decode cL_product 32 = .ok (.imul, 1) := by decide +kernel
theorem dL_product_33 : decode cL_product 33 = .ok (.goto 9, 3) := by decide +kernel
theorem dL_product_36 : decode cL_product 36 = .ok (.iconst 2, 1) := by decide +kernel
theorem dL_product_37 : decode cL_product 37 = .ok (.iload_n 3, 1) := by decide +kernel
theorem dL_product_38 : decode cL_product 38 = .ok (.imul, 1) := by decide +kernel
theorem dL_product_39 : decode cL_product 39 = .ok (.bipush 19, 2) := by decide +kernel
theorem dL_product_41 : decode cL_product 41 = .ok (.ixor, 1) := by decide +kernel
theorem dL_product_42 : decode cL_product 42 = .ok (.istore_n 3, 1) := by decide +kernel
theorem dL_product_43 : decode cL_product 43 = .ok (.iinc 4 1, 3) := by decide +kernel
theorem dL_product_46 : decode cL_product 46 = .ok (.goto (-39), 3) := by decide +kernel
theorem dL_product_49 : decode cL_product 49 = .ok (.iload_n 2, 1) := by decide +kernel
theorem dL_product_50 : decode cL_product 50 = .ok (.ireturn, 1) := by decide +kernel
theorem dL_nibble_0 : decode cL_nibble 0 = .ok (.lload_n 0, 1) := by decide +kernel
theorem dL_nibble_1 : decode cL_nibble 1 = .ok (.iconst 4, 1) := by decide +kernel
theorem dL_nibble_2 : decode cL_nibble 2 = .ok (.iload_n 2, 1) := by decide +kernel
theorem dL_nibble_3 : decode cL_nibble 3 = .ok (.imul, 1) := by decide +kernel
theorem dL_nibble_4 : decode cL_nibble 4 = .ok (.lshr, 1) := by decide +kernel
theorem dL_nibble_5 : decode cL_nibble 5 = .ok (.ldc2_w 50, 3) := by decide +kernel
theorem dL_nibble_8 : decode cL_nibble 8 = .ok (.land, 1) := by decide +kernel
theorem dL_nibble_9 : decode cL_nibble 9 = .ok (.l2i, 1) := by decide +kernel
theorem dL_nibble_10 : decode cL_nibble 10 = .ok (.ireturn, 1) := by decide +kernel
set_option maxRecDepth 20000 in
theorem ggL_isWord_L_nibble : GoodIn wsL_isWord wsL_nibble := goodIn_r _ [4, 5] (by decide +kernel) (by decide +kernel)
set_option maxRecDepth 20000 in
theorem gL_isWord_L_nibble : GoodIn wsL_isWord (va_wsS RL 52 yL_nibble wsL_nibble) := goodIn_app (goodIn_of _ (by decide +kernel)) ggL_isWord_L_nibble
set_option maxRecDepth 20000 in
theorem ggL_isWord_L_product : GoodIn wsL_isWord wsL_product := goodIn_r _ [8] (by decide +kernel) (by decide +kernel)
set_option maxRecDepth 20000 in
theorem gL_isWord_L_product : GoodIn wsL_isWord (va_wsS RL 55 yL_product wsL_product) := goodIn_app (goodIn_of _ (by decide +kernel)) ggL_isWord_L_product
theorem dL_isWord_0 : decode cL_isWord 0 = .ok (.iconst 1, 1) := by decide +kernel
theorem dL_isWord_1 : decode cL_isWord 1 = .ok (.istore_n 2, 1) := by decide +kernel
theorem dL_isWord_2 : decode cL_isWord 2 = .ok (.iconst 1, 1) := by decide +kernel
theorem dL_isWord_3 : decode cL_isWord 3 = .ok (.istore_n 3, 1) := by decide +kernel
theorem dL_isWord_4 : decode cL_isWord 4 = .ok (.iconst 0, 1) := by decide +kernel
theorem dL_isWord_5 : decode cL_isWord 5 = .ok (.istore 4, 2) := by decide +kernel
theorem dL_isWord_7 : decode cL_isWord 7 = .ok (.iload 4, 2) := by decide +kernel
theorem dL_isWord_9 : decode cL_isWord 9 = .ok (.iconst 4, 1) := by decide +kernel
theorem dL_isWord_10 : decode cL_isWord 10 = .ok (.if_icmp .ge 74, 3) := by decide +kernel
theorem dL_isWord_13 : decode cL_isWord 13 = .ok (.iconst 0, 1) := by decide +kernel
theorem dL_isWord_14 : decode cL_isWord 14 = .ok (.istore 5, 2) := by decide +kernel
theorem dL_isWord_16 : decode cL_isWord 16 = .ok (.iconst 1, 1) := by decide +kernel
theorem dL_isWord_17 : decode cL_isWord 17 = .ok (.istore 6, 2) := by decide +kernel
theorem dL_isWord_19 : decode cL_isWord 19 = .ok (.iconst 0, 1) := by decide +kernel
theorem dL_isWord_20 : decode cL_isWord 20 = .ok (.istore 7, 2) := by decide +kernel
theorem dL_isWord_22 : decode cL_isWord 22 = .ok (.iload 7, 2) := by decide +kernel
theorem dL_isWord_24 : decode cL_isWord 24 = .ok (.bipush 8, 2) := by decide +kernel
theorem dL_isWord_26 : decode cL_isWord 26 = .ok (.if_icmp .ge 33, 3) := by decide +kernel
theorem dL_isWord_29 : decode cL_isWord 29 = .ok (.iload 5, 2) := by decide +kernel
theorem dL_isWord_31 : decode cL_isWord 31 = .ok (.lload_n 0, 1) := by decide +kernel
theorem dL_isWord_32 : decode cL_isWord 32 = .ok (.iload 7, 2) := by decide +kernel
theorem dL_isWord_34 : decode cL_isWord 34 = .ok (.invokestatic 52, 3) := by decide +kernel
theorem dL_isWord_37 : decode cL_isWord 37 = .ok (.iload 6, 2) := by decide +kernel
theorem dL_isWord_39 : decode cL_isWord 39 = .ok (.invokestatic 55, 3) := by decide +kernel
theorem dL_isWord_42 : decode cL_isWord 42 = .ok (.ixor, 1) := by decide +kernel
theorem dL_isWord_43 : decode cL_isWord 43 = .ok (.istore 5, 2) := by decide +kernel
theorem dL_isWord_45 : decode cL_isWord 45 = .ok (.iload 6, 2) := by decide +kernel
theorem dL_isWord_47 : decode cL_isWord 47 = .ok (.iload_n 3, 1) := by decide +kernel
theorem dL_isWord_48 : decode cL_isWord 48 = .ok (.invokestatic 55, 3) := by decide +kernel
theorem dL_isWord_51 : decode cL_isWord 51 = .ok (.istore 6, 2) := by decide +kernel
theorem dL_isWord_53 : decode cL_isWord 53 = .ok (.iinc 7 1, 3) := by decide +kernel
theorem dL_isWord_56 : decode cL_isWord 56 = .ok (.goto (-34), 3) := by decide +kernel
theorem dL_isWord_59 : decode cL_isWord 59 = .ok (.iload_n 2, 1) := by decide +kernel
theorem dL_isWord_60 : decode cL_isWord 60 = .ok (.iload 5, 2) := by decide +kernel
theorem dL_isWord_62 : decode cL_isWord 62 = .ok (.ifCond .ne 7, 3) := by decide +kernel
theorem dL_isWord_65 : decode cL_isWord 65 = .ok (.iconst 1, 1) := by decide +kernel
theorem dL_isWord_66 : decode cL_isWord 66 = .ok (.goto 4, 3) := by decide +kernel
theorem dL_isWord_69 : decode cL_isWord 69 = .ok (.iconst 0, 1) := by decide +kernel
theorem dL_isWord_70 : decode cL_isWord 70 = .ok (.iand, 1) := by decide +kernel
theorem dL_isWord_71 : decode cL_isWord 71 = .ok (.istore_n 2, 1) := by decide +kernel
theorem dL_isWord_72 : decode cL_isWord 72 = .ok (.iload_n 3, 1) := by decide +kernel
theorem dL_isWord_73 : decode cL_isWord 73 = .ok (.iconst 2, 1) := by decide +kernel
theorem dL_isWord_74 : decode cL_isWord 74 = .ok (.invokestatic 55, 3) := by decide +kernel
theorem dL_isWord_77 : decode cL_isWord 77 = .ok (.istore_n 3, 1) := by decide +kernel
theorem dL_isWord_78 : decode cL_isWord 78 = .ok (.iinc 4 1, 3) := by decide +kernel
theorem dL_isWord_81 : decode cL_isWord 81 = .ok (.goto (-74), 3) := by decide +kernel
theorem dL_isWord_84 : decode cL_isWord 84 = .ok (.iload_n 2, 1) := by decide +kernel
theorem dL_isWord_85 : decode cL_isWord 85 = .ok (.ireturn, 1) := by decide +kernel
set_option maxRecDepth 20000 in
theorem ggL_law_X8_init : GoodIn wsL_law wsX8_init := goodIn_r _ [14, 15, 16, 17, 18, 19, 20, 21, 22, 23, 24, 25, 26, 27, 28, 29, 30, 31, 32, 33, 34, 35, 36, 37, 38, 39, 40, 41, 42, 43, 44, 45, 46, 47, 48, 49, 50, 51, 52, 53, 54, 55, 56, 57, 58, 59, 60, 61, 62, 63, 64, 65, 66, 67, 68, 69, 70, 71, 72, 73, 74, 75, 76, 77, 78, 79, 80, 81, 82, 83, 84, 85, 86, 87, 88, 89, 90, 91, 92, 93, 94, 95, 96, 97, 98, 99, 100, 101, 102, 103, 104, 105, 106, 107, 108, 109, 110, 111, 112, 353, 354, 355, 356, 357, 358, 345, 346, 347, 348, 349, 350, 351, 352, 359, 360, 361, 362, 363, 364, 365, 366, 367, 368, 369, 370, 371, 372, 373, 374, 375, 376, 377, 378, 379, 380, 381, 382, 383, 384] (by decide +kernel) (by decide +kernel)
set_option maxRecDepth 20000 in
theorem gL_law_X8_init : GoodIn wsL_law (wsX8_init) := ggL_law_X8_init
set_option maxRecDepth 20000 in
theorem ggL_law_L_word : GoodIn wsL_law wsL_word := goodIn_ca (goodIn_r _ [116, 117, 4, 118, 119, 120, 2, 121, 122, 123, 124, 125, 126, 127, 128, 129, 130, 131, 132, 133, 134, 135, 136, 137, 138, 139, 140, 141, 142, 143, 144, 145, 146, 147, 148, 149, 150, 151, 152, 153] (by decide +kernel) (by decide +kernel)) (goodIn_sub (fun _ h => List.mem_append_left _ (List.mem_append_left _ (List.mem_append_right _ h))) (by decide +kernel))
set_option maxRecDepth 20000 in
theorem gL_law_L_word : GoodIn wsL_law (va_wsS RL 60 yL_word wsL_word) := goodIn_app (goodIn_of _ (by decide +kernel)) ggL_law_L_word
set_option maxRecDepth 20000 in
theorem ggL_law_L_mend : GoodIn wsL_law wsL_mend := goodIn_ca (goodIn_ca (goodIn_r _ [156, 117, 157, 6, 9, 158, 159, 160, 2, 161, 162, 163, 164, 165, 166, 167, 168, 169, 123, 124, 125, 126, 127, 170, 171, 130, 172, 173, 132, 133, 134, 135, 136, 137, 138, 139, 140, 174, 175, 176, 177, 178, 179, 180, 144, 145, 146, 147, 141, 142, 143, 148, 149, 150, 151, 152, 153, 181, 182, 183, 184] (by decide +kernel) (by decide +kernel)) (goodIn_sub (fun _ h => List.mem_append_left _ (List.mem_append_right _ h)) (by decide +kernel))) (goodIn_sub (fun _ h => List.mem_append_left _ (List.mem_append_left _ (List.mem_append_right _ h))) (by decide +kernel))
set_option maxRecDepth 20000 in
theorem gL_law_L_mend : GoodIn wsL_law (va_wsS RL 65 yL_mend wsL_mend) := goodIn_app (goodIn_of _ (by decide +kernel)) ggL_law_L_mend
set_option maxRecDepth 20000 in
theorem ggL_law_L_mended : GoodIn wsL_law wsL_mended := goodIn_ca (goodIn_ca (goodIn_r _ [187, 117, 157, 6, 9, 188, 189, 190, 2, 191, 162, 163, 164, 165, 166, 167, 168, 169, 123, 124, 125, 126, 127, 170, 171, 130, 172, 173, 132, 133, 134, 135, 136, 137, 138, 139, 140, 174, 175, 176, 177, 178, 179, 180, 144, 145, 146, 147, 141, 142, 143, 148, 149, 150, 151, 152, 153, 192, 193, 194] (by decide +kernel) (by decide +kernel)) (goodIn_sub (fun _ h => List.mem_append_left _ (List.mem_append_right _ h)) (by decide +kernel))) (goodIn_sub (fun _ h => List.mem_append_left _ (List.mem_append_left _ (List.mem_append_right _ h))) (by decide +kernel))
set_option maxRecDepth 20000 in
theorem gL_law_L_mended : GoodIn wsL_law (va_wsS RL 68 yL_mended wsL_mended) := goodIn_app (goodIn_of _ (by decide +kernel)) ggL_law_L_mended
set_option maxRecDepth 20000 in
theorem ggL_law_L_in : GoodIn wsL_law wsL_in := goodIn_r _ [197, 11, 198, 199, 115, 200, 201, 202] (by decide +kernel) (by decide +kernel)
set_option maxRecDepth 20000 in
theorem gL_law_L_in : GoodIn wsL_law (va_wsS RL 70 yL_in wsL_in) := goodIn_app (goodIn_of _ (by decide +kernel)) ggL_law_L_in
set_option maxRecDepth 20000 in
theorem ggL_law_L_isWord : GoodIn wsL_law wsL_isWord := goodIn_r _ [205, 206, 207, 115, 208, 209, 210, 211, 212] (by decide +kernel) (by decide +kernel)
set_option maxRecDepth 20000 in
theorem gL_law_L_isWord : GoodIn wsL_law (va_wsS RL 74 yL_isWord wsL_isWord) := goodIn_app (goodIn_of _ (by decide +kernel)) ggL_law_L_isWord
set_option maxRecDepth 20000 in
theorem ggL_law_L_encode : GoodIn wsL_law wsL_encode := goodIn_ca (goodIn_r _ [215, 117, 6, 216, 217, 218, 2, 219, 168, 123, 124, 125, 126, 127, 220, 221, 222, 223] (by decide +kernel) (by decide +kernel)) (goodIn_sub (fun _ h => List.mem_append_left _ (List.mem_append_left _ (List.mem_append_right _ h))) (by decide +kernel))
set_option maxRecDepth 20000 in
theorem gL_law_L_encode : GoodIn wsL_law (va_wsS RL 82 yL_encode wsL_encode) := goodIn_app (goodIn_of _ (by decide +kernel)) ggL_law_L_encode
set_option maxRecDepth 20000 in
theorem ggL_law_L_decode : GoodIn wsL_law wsL_decode := goodIn_ca (goodIn_ca (goodIn_r _ [226, 117, 157, 6, 9, 227, 228, 229, 2, 230, 165, 166, 122, 123, 124, 125, 126, 127, 231, 232, 222, 233, 220, 221, 223] (by decide +kernel) (by decide +kernel)) (goodIn_sub (fun _ h => List.mem_append_left _ (List.mem_append_right _ h)) (by decide +kernel))) (goodIn_sub (fun _ h => List.mem_append_left _ (List.mem_append_left _ (List.mem_append_right _ h))) (by decide +kernel))
set_option maxRecDepth 20000 in
theorem gL_law_L_decode : GoodIn wsL_law (va_wsS RL 85 yL_decode wsL_decode) := goodIn_app (goodIn_of _ (by decide +kernel)) ggL_law_L_decode
set_option maxRecDepth 20000 in
theorem ggL_law_X8_guess : GoodIn wsL_law wsX8_guess := goodIn_r _ [237, 21, 238, 239, 240, 20, 241, 46, 242, 47, 45, 44, 243, 96, 97, 43, 98, 55, 244, 245, 246, 247, 248, 249, 250, 251, 252, 253, 254, 255, 48, 49, 256, 257, 258, 259, 260, 261, 262, 263, 345, 346, 347, 348, 349, 350, 351, 352, 353, 354, 355, 356, 357, 358, 382] (by decide +kernel) (by decide +kernel)
set_option maxRecDepth 20000 in
theorem gL_law_X8_guess : GoodIn wsL_law (wsV RL 87 RX8 yX8_guess wsX8_guess) := goodIn_app (goodIn_of _ (by decide +kernel)) ggL_law_X8_guess
set_option maxRecDepth 20000 in
theorem ggL_law_L_sample : GoodIn wsL_law wsL_sample := goodIn_ca (goodIn_ca (goodIn_r _ [266, 117, 267, 6, 9, 268, 269, 270, 2, 271, 272, 273, 274, 275, 21, 123, 124, 125, 126, 127, 276, 277, 278, 20, 279, 45, 280, 281, 282, 283, 44, 244, 245, 246, 43, 247, 55, 345, 346, 347, 348, 349, 350, 351, 352, 353, 354, 355, 356, 357, 358, 382] (by decide +kernel) (by decide +kernel)) (goodIn_sub (fun _ h => List.mem_append_right _ h) (by decide +kernel))) (goodIn_sub (fun _ h => List.mem_append_left _ (List.mem_append_left _ (List.mem_append_right _ h))) (by decide +kernel))
set_option maxRecDepth 20000 in
theorem gL_law_L_sample : GoodIn wsL_law (va_wsS RL 91 yL_sample wsL_sample) := goodIn_app (goodIn_of _ (by decide +kernel)) ggL_law_L_sample
set_option maxRecDepth 20000 in
theorem ggL_law_X8_isSound : GoodIn wsL_law wsX8_isSound := goodIn_r _ [287, 29, 25, 288, 289, 290, 28, 291, 78, 85, 77, 79, 292, 249, 250, 43, 251, 55, 293, 294, 295, 296, 263, 297, 298, 299, 300, 301, 302, 303, 304, 72, 71, 305, 306, 307, 70, 308, 91, 93, 309, 310, 311, 312, 313, 314, 315, 316, 317, 92, 318, 260, 261, 262, 319, 171, 130, 172, 173, 132, 133, 134, 135, 136, 137, 138, 139, 140, 174, 175, 176, 177, 178, 179, 180, 144, 145, 146, 147, 141, 142, 143, 148, 149, 150, 151, 152, 153, 320, 182, 183, 184, 321, 322, 323, 324, 325, 326, 327, 328, 74, 329, 330, 331, 332, 24, 333, 62, 60, 334, 335, 336, 337, 338, 339, 340, 341, 342, 343, 344, 345, 346, 347, 348, 349, 350, 351, 352, 362, 363, 364, 365, 366, 367, 368, 369, 370, 371, 372, 373, 374, 382, 383, 384, 359, 360, 361] (by decide +kernel) (by decide +kernel)
set_option maxRecDepth 20000 in
theorem gL_law_X8_isSound : GoodIn wsL_law (wsV RL 96 RX8 yX8_isSound wsX8_isSound) := goodIn_app (goodIn_of _ (by decide +kernel)) ggL_law_X8_isSound
abbrev vwCl : List vw_C := [(RX0, TX0, 3), (RX2, TX2, 6), (RX3, TX3, 13), (RX4, TX4, 1), (RX5, TX5, 7), (RX6, TX6, 2), (RX8, TX8, 8)]
