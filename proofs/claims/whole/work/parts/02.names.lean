/-! ===== BEGIN words of one list among another's, by their places ===== -/
theorem goodIn_r {big : List Cond} (ws : List Cond) (ps : List Nat) (hp : ws = ps.filterMap (fun i => big[i]?)) (h : ws.all goodWord = true) : GoodIn big ws := by
  intro w hw
  have h1 := List.all_eq_true.mp h w hw
  rw [hp] at hw
  obtain ⟨i, -, hi⟩ := List.mem_filterMap.mp hw
  have hm : w ∈ big := by first | exact List.mem_of_getElem? hi | exact List.getElem?_mem hi
  exact ⟨hm, good_of_word h1⟩
theorem goodIn_app {big a b : List Cond} (ha : GoodIn big a) (hb : GoodIn big b) : GoodIn big (a ++ b) := fun w h => (List.mem_append.mp h).elim (ha w) (hb w)
theorem goodIn_ca {big a b : List Cond} {c : Cond} (ha : GoodIn big (c :: a)) (hb : GoodIn big b) : GoodIn big (c :: (a ++ b)) := fun w h => (List.mem_cons.mp h).elim (fun e => ha w (List.mem_cons.mpr (Or.inl e))) (fun h => (List.mem_append.mp h).elim (fun h => ha w (List.mem_cons.mpr (Or.inr h))) (hb w))
theorem goodIn_sub {big ws : List Cond} (hm : ∀ w ∈ ws, w ∈ big) (h : ws.all goodWord = true) : GoodIn big ws := fun w hw => ⟨hm w hw, good_of_word (List.all_eq_true.mp h w hw)⟩
/-! ===== END ===== -/

/-! ===== BEGIN printed: names, fields, word lists, decode rows ===== -/
def RX0 : String := "StreamSums"
def TX0 : u_T := fun k => match k with
  | 0 => ("StreamSums", "bytes", "[B", true)
  | 1 => ("StreamSums", "eightSteps", "[I", true)
  | 2 => ("StreamSums", "count", "I", false)
  | 3 => ("StreamSums", "narrowSeed", "I", false)
  | _ => ("StreamSums", "wideSeed", "J", false)
def tyX0 : Nat → FieldType := fun k => match k with
  | 0 => .array .byte
  | 1 => .array .int
  | 2 => .int
  | 3 => .int
  | _ => .long
abbrev wsX00 : List Cond := u_ws RX0 TX0 5
theorem nmX0 : ∀ a, a < 5 → ∀ b, b < 5 → a ≠ b → (TX0 a).2.1 ≠ (TX0 b).2.1 := by decide +kernel
theorem tyX0_ok : ∀ k, k < 5 → parseFieldDescriptor (TX0 k).2.2.1 = some (tyX0 k) := by decide +kernel
abbrev cX0_init : ByteArray := prog_1_method_1_code
def yX0_init : MethodName := ⟨RX0, "<init>", "()V"⟩
abbrev cX0_begin : ByteArray := prog_1_method_2_code
def yX0_begin : MethodName := ⟨RX0, "begin", "(IJ)V"⟩
abbrev cX0_write : ByteArray := prog_1_method_3_code
def yX0_write : MethodName := ⟨RX0, "write", "(JI)Z"⟩
abbrev cX0_again : ByteArray := prog_1_method_4_code
def yX0_again : MethodName := ⟨RX0, "again", "(II)Z"⟩
abbrev cX0_size : ByteArray := prog_1_method_5_code
def yX0_size : MethodName := ⟨RX0, "size", "()I"⟩
abbrev cX0_byteAt : ByteArray := prog_1_method_6_code
def yX0_byteAt : MethodName := ⟨RX0, "byteAt", "(I)I"⟩
abbrev cX0_narrow : ByteArray := prog_1_method_7_code
def yX0_narrow : MethodName := ⟨RX0, "narrow", "()I"⟩
abbrev cX0_wide : ByteArray := prog_1_method_8_code
def yX0_wide : MethodName := ⟨RX0, "wide", "()J"⟩
abbrev cX0_poly : ByteArray := prog_1_method_9_code
def yX0_poly : MethodName := ⟨RX0, "poly", "()I"⟩
abbrev cX0_narrowOf : ByteArray := prog_1_method_10_code
def yX0_narrowOf : MethodName := ⟨RX0, "narrowOf", "(III)I"⟩
abbrev cX0_wideOf : ByteArray := prog_1_method_11_code
def yX0_wideOf : MethodName := ⟨RX0, "wideOf", "(IIJ)J"⟩
abbrev cX0_polyOf : ByteArray := prog_1_method_12_code
def yX0_polyOf : MethodName := ⟨RX0, "polyOf", "(II)I"⟩
abbrev cX0_masked : ByteArray := prog_1_method_13_code
def yX0_masked : MethodName := ⟨RX0, "masked", "(IZ)I"⟩
abbrev cX0_joined : ByteArray := prog_1_method_14_code
def yX0_joined : MethodName := ⟨RX0, "joined", "(IIJ)I"⟩
abbrev cX0_cut : ByteArray := prog_1_method_15_code
def yX0_cut : MethodName := ⟨RX0, "cut", "(IIJ)I"⟩
abbrev cX0_forged : ByteArray := prog_1_method_16_code
def yX0_forged : MethodName := ⟨RX0, "forged", "(I)I"⟩
abbrev cX0_mended : ByteArray := prog_1_method_17_code
def yX0_mended : MethodName := ⟨RX0, "mended", "(II)I"⟩
abbrev cX0_append : ByteArray := prog_1_method_18_code
def yX0_append : MethodName := ⟨RX0, "append", "(I)V"⟩
abbrev cX0_isPart : ByteArray := prog_1_method_19_code
def yX0_isPart : MethodName := ⟨RX0, "isPart", "(II)Z"⟩
abbrev cX0_word : ByteArray := prog_1_method_20_code
def yX0_word : MethodName := ⟨RX0, "word", "(I)I"⟩
abbrev cX0_unsignedWord : ByteArray := prog_1_method_21_code
def yX0_unsignedWord : MethodName := ⟨RX0, "unsignedWord", "(I)J"⟩
abbrev cX0_longWord : ByteArray := prog_1_method_22_code
def yX0_longWord : MethodName := ⟨RX0, "longWord", "(I)J"⟩
abbrev cX0_rotated : ByteArray := prog_1_method_23_code
def yX0_rotated : MethodName := ⟨RX0, "rotated", "(II)I"⟩
abbrev cX0_rotatedLong : ByteArray := prog_1_method_24_code
def yX0_rotatedLong : MethodName := ⟨RX0, "rotatedLong", "(JI)J"⟩
abbrev cX0_narrowSum : ByteArray := prog_1_method_25_code
def yX0_narrowSum : MethodName := ⟨RX0, "narrowSum", "(III)I"⟩
abbrev cX0_narrowOfLanes : ByteArray := prog_1_method_26_code
def yX0_narrowOfLanes : MethodName := ⟨RX0, "narrowOfLanes", "(III)I"⟩
abbrev cX0_narrowLane : ByteArray := prog_1_method_27_code
def yX0_narrowLane : MethodName := ⟨RX0, "narrowLane", "(II)I"⟩
abbrev cX0_narrowStirred : ByteArray := prog_1_method_28_code
def yX0_narrowStirred : MethodName := ⟨RX0, "narrowStirred", "(I)I"⟩
abbrev cX0_wideSum : ByteArray := prog_1_method_29_code
def yX0_wideSum : MethodName := ⟨RX0, "wideSum", "(IIJ)J"⟩
abbrev cX0_wideOfLanes : ByteArray := prog_1_method_30_code
def yX0_wideOfLanes : MethodName := ⟨RX0, "wideOfLanes", "(IIJ)J"⟩
abbrev cX0_wideLane : ByteArray := prog_1_method_31_code
def yX0_wideLane : MethodName := ⟨RX0, "wideLane", "(JJ)J"⟩
abbrev cX0_withLane : ByteArray := prog_1_method_32_code
def yX0_withLane : MethodName := ⟨RX0, "withLane", "(JJ)J"⟩
abbrev cX0_wideStirred : ByteArray := prog_1_method_33_code
def yX0_wideStirred : MethodName := ⟨RX0, "wideStirred", "(J)J"⟩
abbrev cX0_polySum : ByteArray := prog_1_method_34_code
def yX0_polySum : MethodName := ⟨RX0, "polySum", "(II)I"⟩
abbrev cX0_movedOn : ByteArray := prog_1_method_35_code
def yX0_movedOn : MethodName := ⟨RX0, "movedOn", "(II)I"⟩
abbrev cX0_movedBack : ByteArray := prog_1_method_36_code
def yX0_movedBack : MethodName := ⟨RX0, "movedBack", "(II)I"⟩
abbrev cX0_product : ByteArray := prog_1_method_37_code
def yX0_product : MethodName := ⟨RX0, "product", "(II)I"⟩
abbrev cX0_power : ByteArray := prog_1_method_38_code
def yX0_power : MethodName := ⟨RX0, "power", "(IJ)I"⟩
abbrev cX0_fourBetween : ByteArray := prog_1_method_39_code
def yX0_fourBetween : MethodName := ⟨RX0, "fourBetween", "(II)I"⟩
abbrev cX0_turnedRound : ByteArray := prog_1_method_40_code
def yX0_turnedRound : MethodName := ⟨RX0, "turnedRound", "(I)I"⟩
def RX1 : String := "StreamSumsModel"
def TX1 : u_T := fun k => match k with
  | 0 => ("StreamSumsModel", "row", "[B", true)
  | 1 => ("StreamSumsModel", "length", "I", false)
  | 2 => ("StreamSumsModel", "seedNarrow", "I", false)
  | _ => ("StreamSumsModel", "seedWide", "J", false)
def tyX1 : Nat → FieldType := fun k => match k with
  | 0 => .array .byte
  | 1 => .int
  | 2 => .int
  | _ => .long
abbrev wsX10 : List Cond := u_ws RX1 TX1 4
theorem nmX1 : ∀ a, a < 4 → ∀ b, b < 4 → a ≠ b → (TX1 a).2.1 ≠ (TX1 b).2.1 := by decide +kernel
theorem tyX1_ok : ∀ k, k < 4 → parseFieldDescriptor (TX1 k).2.2.1 = some (tyX1 k) := by decide +kernel
abbrev cX1_init : ByteArray := prog_3_method_1_code
def yX1_init : MethodName := ⟨RX1, "<init>", "()V"⟩
abbrev cX1_begin : ByteArray := prog_3_method_2_code
def yX1_begin : MethodName := ⟨RX1, "begin", "(IJ)V"⟩
abbrev cX1_write : ByteArray := prog_3_method_3_code
def yX1_write : MethodName := ⟨RX1, "write", "(JI)Z"⟩
abbrev cX1_again : ByteArray := prog_3_method_4_code
def yX1_again : MethodName := ⟨RX1, "again", "(II)Z"⟩
abbrev cX1_size : ByteArray := prog_3_method_5_code
def yX1_size : MethodName := ⟨RX1, "size", "()I"⟩
abbrev cX1_at : ByteArray := prog_3_method_6_code
def yX1_at : MethodName := ⟨RX1, "at", "(I)I"⟩
abbrev cX1_byteAt : ByteArray := prog_3_method_7_code
def yX1_byteAt : MethodName := ⟨RX1, "byteAt", "(I)I"⟩
def RL : String := "StreamSumsLaw"
abbrev cL_law : ByteArray := code
def yL_law : MethodName := ⟨RL, "law", "([I)Z"⟩
def wsX0_movedOn : List Cond := .code yX0_movedOn cX0_movedOn 3 (some .int) :: ([.constant RX0 137 (-2097792136)])
def wsX0_init : List Cond := .code yX0_init cX0_init 2 none :: ([.methodLink RX0 1 objectInit, .instanceMethod objectInit, .code objectInit ⟨#[0xb1]⟩ 1 none, .constant RX0 9 (65536), .arrayClass .byte, .fieldLink RX0 10 "StreamSums" "bytes" "[B", .arrayClass .int, .fieldLink RX0 14 "StreamSums" "eightSteps" "[I", .fieldLink RX0 22 "StreamSums" "count" "I", .fieldLink RX0 26 "StreamSums" "narrowSeed" "I", .fieldLink RX0 29 "StreamSums" "wideSeed" "J", .methodLink RX0 18 yX0_movedOn, .static yX0_movedOn, .initialized RX0, .code yX0_movedOn cX0_movedOn 3 (some .int), .constant RX0 137 (-2097792136)] ++ wsX00)
def wsX0_begin : List Cond := .code yX0_begin cX0_begin 4 none :: ([.fieldLink RX0 22 "StreamSums" "count" "I", .fieldLink RX0 26 "StreamSums" "narrowSeed" "I", .fieldLink RX0 29 "StreamSums" "wideSeed" "J"] ++ wsX00)
def wsX0_append : List Cond := .code yX0_append cX0_append 2 none :: ([.fieldLink RX0 22 "StreamSums" "count" "I", .constant RX0 9 (65536), .fieldLink RX0 10 "StreamSums" "bytes" "[B"] ++ wsX00)
def wsX0_write : List Cond := .code yX0_write cX0_write 5 (some .boolean) :: ([.constant RX0 9 (65536), .fieldLink RX0 22 "StreamSums" "count" "I", .methodLink RX0 33 yX0_append, .instanceMethod yX0_append, .selects RX0 yX0_append yX0_append, .initialized RX0, .code yX0_append cX0_append 2 none, .fieldLink RX0 10 "StreamSums" "bytes" "[B"] ++ wsX00)
def wsX0_byteAt : List Cond := .code yX0_byteAt cX0_byteAt 2 (some .int) :: ([.fieldLink RX0 22 "StreamSums" "count" "I", .fieldLink RX0 10 "StreamSums" "bytes" "[B"] ++ wsX00)
def wsX0_again : List Cond := .code yX0_again cX0_again 7 (some .boolean) :: ([.fieldLink RX0 22 "StreamSums" "count" "I", .constant RX0 9 (65536), .methodLink RX0 37 yX0_byteAt, .instanceMethod yX0_byteAt, .selects RX0 yX0_byteAt yX0_byteAt, .initialized RX0, .code yX0_byteAt cX0_byteAt 2 (some .int), .fieldLink RX0 10 "StreamSums" "bytes" "[B", .methodLink RX0 33 yX0_append, .instanceMethod yX0_append, .selects RX0 yX0_append yX0_append, .code yX0_append cX0_append 2 none] ++ wsX00)
def wsX0_size : List Cond := .code yX0_size cX0_size 1 (some .int) :: ([.fieldLink RX0 22 "StreamSums" "count" "I"] ++ wsX00)
def wsX0_word : List Cond := .code yX0_word cX0_word 2 (some .int) :: ([.constant RX0 82 (65532), .fieldLink RX0 10 "StreamSums" "bytes" "[B"] ++ wsX00)
def wsX0_rotated : List Cond := .code yX0_rotated cX0_rotated 2 (some .int) :: ([])
def wsX0_narrowLane : List Cond := .code yX0_narrowLane cX0_narrowLane 2 (some .int) :: ([.constant RX0 102 (-2048144777), .constant RX0 98 (-1640531535), .methodLink RX0 57 yX0_rotated, .static yX0_rotated, .initialized RX0, .code yX0_rotated cX0_rotated 2 (some .int)])
def wsX0_narrowOfLanes : List Cond := .code yX0_narrowOfLanes cX0_narrowOfLanes 9 (some .int) :: ([.constant RX0 98 (-1640531535), .constant RX0 102 (-2048144777), .methodLink RX0 83 yX0_word, .instanceMethod yX0_word, .selects RX0 yX0_word yX0_word, .initialized RX0, .code yX0_word cX0_word 2 (some .int), .constant RX0 82 (65532), .fieldLink RX0 10 "StreamSums" "bytes" "[B", .methodLink RX0 103 yX0_narrowLane, .static yX0_narrowLane, .code yX0_narrowLane cX0_narrowLane 2 (some .int), .methodLink RX0 57 yX0_rotated, .static yX0_rotated, .code yX0_rotated cX0_rotated 2 (some .int)] ++ wsX00)
def wsX0_narrowStirred : List Cond := .code yX0_narrowStirred cX0_narrowStirred 1 (some .int) :: ([.constant RX0 102 (-2048144777), .constant RX0 96 (-1028477379)])
def wsX0_narrowSum_r1 : List Cond := [Cond.constant RX0 95 (374761393), Cond.constant RX0 96 (-1028477379), Cond.constant RX0 97 (668265263), Cond.constant RX0 98 (-1640531535), Cond.methodLink RX0 92 yX0_narrowOfLanes, Cond.instanceMethod yX0_narrowOfLanes, Cond.selects RX0 yX0_narrowOfLanes yX0_narrowOfLanes, Cond.initialized RX0, Cond.code yX0_narrowOfLanes cX0_narrowOfLanes 9 (some .int), Cond.constant RX0 102 (-2048144777), Cond.methodLink RX0 83 yX0_word, Cond.instanceMethod yX0_word, Cond.selects RX0 yX0_word yX0_word, Cond.code yX0_word cX0_word 2 (some .int), Cond.constant RX0 82 (65532), Cond.fieldLink RX0 10 "StreamSums" "bytes" "[B", Cond.methodLink RX0 103 yX0_narrowLane, Cond.static yX0_narrowLane, Cond.code yX0_narrowLane cX0_narrowLane 2 (some .int), Cond.methodLink RX0 57 yX0_rotated, Cond.static yX0_rotated, Cond.code yX0_rotated cX0_rotated 2 (some .int), Cond.methodLink RX0 37 yX0_byteAt, Cond.instanceMethod yX0_byteAt]
def wsX0_narrowSum_r2 : List Cond := [Cond.selects RX0 yX0_byteAt yX0_byteAt, Cond.code yX0_byteAt cX0_byteAt 2 (some .int), Cond.fieldLink RX0 22 "StreamSums" "count" "I", Cond.methodLink RX0 99 yX0_narrowStirred, Cond.static yX0_narrowStirred, Cond.code yX0_narrowStirred cX0_narrowStirred 1 (some .int)]
def wsX0_narrowSum : List Cond := .code yX0_narrowSum cX0_narrowSum 7 (some .int) :: ((wsX0_narrowSum_r1 ++ wsX0_narrowSum_r2) ++ wsX00)
def wsX0_narrow_r1 : List Cond := [Cond.fieldLink RX0 22 "StreamSums" "count" "I", Cond.fieldLink RX0 26 "StreamSums" "narrowSeed" "I", Cond.methodLink RX0 41 yX0_narrowSum, Cond.instanceMethod yX0_narrowSum, Cond.selects RX0 yX0_narrowSum yX0_narrowSum, Cond.initialized RX0, Cond.code yX0_narrowSum cX0_narrowSum 7 (some .int), Cond.constant RX0 95 (374761393), Cond.constant RX0 96 (-1028477379), Cond.constant RX0 97 (668265263), Cond.constant RX0 98 (-1640531535), Cond.methodLink RX0 92 yX0_narrowOfLanes, Cond.instanceMethod yX0_narrowOfLanes, Cond.selects RX0 yX0_narrowOfLanes yX0_narrowOfLanes, Cond.code yX0_narrowOfLanes cX0_narrowOfLanes 9 (some .int), Cond.constant RX0 102 (-2048144777), Cond.methodLink RX0 83 yX0_word, Cond.instanceMethod yX0_word, Cond.selects RX0 yX0_word yX0_word, Cond.code yX0_word cX0_word 2 (some .int), Cond.constant RX0 82 (65532), Cond.fieldLink RX0 10 "StreamSums" "bytes" "[B", Cond.methodLink RX0 103 yX0_narrowLane, Cond.static yX0_narrowLane]
def wsX0_narrow_r2 : List Cond := [Cond.code yX0_narrowLane cX0_narrowLane 2 (some .int), Cond.methodLink RX0 57 yX0_rotated, Cond.static yX0_rotated, Cond.code yX0_rotated cX0_rotated 2 (some .int), Cond.methodLink RX0 37 yX0_byteAt, Cond.instanceMethod yX0_byteAt, Cond.selects RX0 yX0_byteAt yX0_byteAt, Cond.code yX0_byteAt cX0_byteAt 2 (some .int), Cond.methodLink RX0 99 yX0_narrowStirred, Cond.static yX0_narrowStirred, Cond.code yX0_narrowStirred cX0_narrowStirred 1 (some .int)]
def wsX0_narrow : List Cond := .code yX0_narrow cX0_narrow 1 (some .int) :: ((wsX0_narrow_r1 ++ wsX0_narrow_r2) ++ wsX00)
def wsX0_unsignedWord : List Cond := .code yX0_unsignedWord cX0_unsignedWord 2 (some .long) :: ([.constantLong RX0 86 (4294967295), .methodLink RX0 83 yX0_word, .instanceMethod yX0_word, .selects RX0 yX0_word yX0_word, .initialized RX0, .code yX0_word cX0_word 2 (some .int), .constant RX0 82 (65532), .fieldLink RX0 10 "StreamSums" "bytes" "[B"] ++ wsX00)
def wsX0_longWord : List Cond := .code yX0_longWord cX0_longWord 2 (some .long) :: ([.methodLink RX0 88 yX0_unsignedWord, .instanceMethod yX0_unsignedWord, .selects RX0 yX0_unsignedWord yX0_unsignedWord, .initialized RX0, .code yX0_unsignedWord cX0_unsignedWord 2 (some .long), .constantLong RX0 86 (4294967295), .methodLink RX0 83 yX0_word, .instanceMethod yX0_word, .selects RX0 yX0_word yX0_word, .code yX0_word cX0_word 2 (some .int), .constant RX0 82 (65532), .fieldLink RX0 10 "StreamSums" "bytes" "[B"] ++ wsX00)
def wsX0_rotatedLong : List Cond := .code yX0_rotatedLong cX0_rotatedLong 3 (some .long) :: ([])
def wsX0_wideLane : List Cond := .code yX0_wideLane cX0_wideLane 4 (some .long) :: ([.constantLong RX0 126 (-4417276706812531889), .constantLong RX0 122 (-7046029288634856825), .methodLink RX0 118 yX0_rotatedLong, .static yX0_rotatedLong, .initialized RX0, .code yX0_rotatedLong cX0_rotatedLong 3 (some .long)])
def wsX0_withLane : List Cond := .code yX0_withLane cX0_withLane 4 (some .long) :: ([.constantLong RX0 122 (-7046029288634856825), .constantLong RX0 124 (-8796714831421723037), .methodLink RX0 114 yX0_wideLane, .static yX0_wideLane, .initialized RX0, .code yX0_wideLane cX0_wideLane 4 (some .long), .constantLong RX0 126 (-4417276706812531889), .methodLink RX0 118 yX0_rotatedLong, .static yX0_rotatedLong, .code yX0_rotatedLong cX0_rotatedLong 3 (some .long)])
def wsX0_wideOfLanes_r1 : List Cond := [Cond.constantLong RX0 122 (-7046029288634856825), Cond.constantLong RX0 126 (-4417276706812531889), Cond.methodLink RX0 111 yX0_longWord, Cond.instanceMethod yX0_longWord, Cond.selects RX0 yX0_longWord yX0_longWord, Cond.initialized RX0, Cond.code yX0_longWord cX0_longWord 2 (some .long), Cond.methodLink RX0 88 yX0_unsignedWord, Cond.instanceMethod yX0_unsignedWord, Cond.selects RX0 yX0_unsignedWord yX0_unsignedWord, Cond.code yX0_unsignedWord cX0_unsignedWord 2 (some .long), Cond.constantLong RX0 86 (4294967295), Cond.methodLink RX0 83 yX0_word, Cond.instanceMethod yX0_word, Cond.selects RX0 yX0_word yX0_word, Cond.code yX0_word cX0_word 2 (some .int), Cond.constant RX0 82 (65532), Cond.fieldLink RX0 10 "StreamSums" "bytes" "[B", Cond.methodLink RX0 114 yX0_wideLane, Cond.static yX0_wideLane, Cond.code yX0_wideLane cX0_wideLane 4 (some .long), Cond.methodLink RX0 118 yX0_rotatedLong, Cond.static yX0_rotatedLong, Cond.code yX0_rotatedLong cX0_rotatedLong 3 (some .long)]
def wsX0_wideOfLanes_r2 : List Cond := [Cond.methodLink RX0 134 yX0_withLane, Cond.static yX0_withLane, Cond.code yX0_withLane cX0_withLane 4 (some .long), Cond.constantLong RX0 124 (-8796714831421723037)]
def wsX0_wideOfLanes : List Cond := .code yX0_wideOfLanes cX0_wideOfLanes 15 (some .long) :: ((wsX0_wideOfLanes_r1 ++ wsX0_wideOfLanes_r2) ++ wsX00)
def wsX0_wideStirred : List Cond := .code yX0_wideStirred cX0_wideStirred 2 (some .long) :: ([.constantLong RX0 126 (-4417276706812531889), .constantLong RX0 128 (1609587929392839161)])
def wsX0_wideSum_r1 : List Cond := [Cond.constantLong RX0 109 (2870177450012600261), Cond.constantLong RX0 122 (-7046029288634856825), Cond.constantLong RX0 124 (-8796714831421723037), Cond.constantLong RX0 126 (-4417276706812531889), Cond.constantLong RX0 128 (1609587929392839161), Cond.methodLink RX0 106 yX0_wideOfLanes, Cond.instanceMethod yX0_wideOfLanes, Cond.selects RX0 yX0_wideOfLanes yX0_wideOfLanes, Cond.initialized RX0, Cond.code yX0_wideOfLanes cX0_wideOfLanes 15 (some .long), Cond.methodLink RX0 111 yX0_longWord, Cond.instanceMethod yX0_longWord, Cond.selects RX0 yX0_longWord yX0_longWord, Cond.code yX0_longWord cX0_longWord 2 (some .long), Cond.methodLink RX0 88 yX0_unsignedWord, Cond.instanceMethod yX0_unsignedWord, Cond.selects RX0 yX0_unsignedWord yX0_unsignedWord, Cond.code yX0_unsignedWord cX0_unsignedWord 2 (some .long), Cond.constantLong RX0 86 (4294967295), Cond.methodLink RX0 83 yX0_word, Cond.instanceMethod yX0_word, Cond.selects RX0 yX0_word yX0_word, Cond.code yX0_word cX0_word 2 (some .int), Cond.constant RX0 82 (65532)]
def wsX0_wideSum_r2 : List Cond := [Cond.fieldLink RX0 10 "StreamSums" "bytes" "[B", Cond.methodLink RX0 114 yX0_wideLane, Cond.static yX0_wideLane, Cond.code yX0_wideLane cX0_wideLane 4 (some .long), Cond.methodLink RX0 118 yX0_rotatedLong, Cond.static yX0_rotatedLong, Cond.code yX0_rotatedLong cX0_rotatedLong 3 (some .long), Cond.methodLink RX0 134 yX0_withLane, Cond.static yX0_withLane, Cond.code yX0_withLane cX0_withLane 4 (some .long), Cond.methodLink RX0 37 yX0_byteAt, Cond.instanceMethod yX0_byteAt, Cond.selects RX0 yX0_byteAt yX0_byteAt, Cond.code yX0_byteAt cX0_byteAt 2 (some .int), Cond.fieldLink RX0 22 "StreamSums" "count" "I", Cond.methodLink RX0 130 yX0_wideStirred, Cond.static yX0_wideStirred, Cond.code yX0_wideStirred cX0_wideStirred 2 (some .long)]
def wsX0_wideSum : List Cond := .code yX0_wideSum cX0_wideSum 9 (some .long) :: ((wsX0_wideSum_r1 ++ wsX0_wideSum_r2) ++ wsX00)
def wsX0_wide_r1 : List Cond := [Cond.fieldLink RX0 22 "StreamSums" "count" "I", Cond.fieldLink RX0 29 "StreamSums" "wideSeed" "J", Cond.methodLink RX0 45 yX0_wideSum, Cond.instanceMethod yX0_wideSum, Cond.selects RX0 yX0_wideSum yX0_wideSum, Cond.initialized RX0, Cond.code yX0_wideSum cX0_wideSum 9 (some .long), Cond.constantLong RX0 109 (2870177450012600261), Cond.constantLong RX0 122 (-7046029288634856825), Cond.constantLong RX0 124 (-8796714831421723037), Cond.constantLong RX0 126 (-4417276706812531889), Cond.constantLong RX0 128 (1609587929392839161), Cond.methodLink RX0 106 yX0_wideOfLanes, Cond.instanceMethod yX0_wideOfLanes, Cond.selects RX0 yX0_wideOfLanes yX0_wideOfLanes, Cond.code yX0_wideOfLanes cX0_wideOfLanes 15 (some .long), Cond.methodLink RX0 111 yX0_longWord, Cond.instanceMethod yX0_longWord, Cond.selects RX0 yX0_longWord yX0_longWord, Cond.code yX0_longWord cX0_longWord 2 (some .long), Cond.methodLink RX0 88 yX0_unsignedWord, Cond.instanceMethod yX0_unsignedWord, Cond.selects RX0 yX0_unsignedWord yX0_unsignedWord, Cond.code yX0_unsignedWord cX0_unsignedWord 2 (some .long)]
def wsX0_wide_r2 : List Cond := [Cond.constantLong RX0 86 (4294967295), Cond.methodLink RX0 83 yX0_word, Cond.instanceMethod yX0_word, Cond.selects RX0 yX0_word yX0_word, Cond.code yX0_word cX0_word 2 (some .int), Cond.constant RX0 82 (65532), Cond.fieldLink RX0 10 "StreamSums" "bytes" "[B", Cond.methodLink RX0 114 yX0_wideLane, Cond.static yX0_wideLane, Cond.code yX0_wideLane cX0_wideLane 4 (some .long), Cond.methodLink RX0 118 yX0_rotatedLong, Cond.static yX0_rotatedLong, Cond.code yX0_rotatedLong cX0_rotatedLong 3 (some .long), Cond.methodLink RX0 134 yX0_withLane, Cond.static yX0_withLane, Cond.code yX0_withLane cX0_withLane 4 (some .long), Cond.methodLink RX0 37 yX0_byteAt, Cond.instanceMethod yX0_byteAt, Cond.selects RX0 yX0_byteAt yX0_byteAt, Cond.code yX0_byteAt cX0_byteAt 2 (some .int), Cond.methodLink RX0 130 yX0_wideStirred, Cond.static yX0_wideStirred, Cond.code yX0_wideStirred cX0_wideStirred 2 (some .long)]
def wsX0_wide : List Cond := .code yX0_wide cX0_wide 1 (some .long) :: ((wsX0_wide_r1 ++ wsX0_wide_r2) ++ wsX00)
def wsX0_polySum : List Cond := .code yX0_polySum cX0_polySum 5 (some .int) :: ([.fieldLink RX0 14 "StreamSums" "eightSteps" "[I", .methodLink RX0 37 yX0_byteAt, .instanceMethod yX0_byteAt, .selects RX0 yX0_byteAt yX0_byteAt, .initialized RX0, .code yX0_byteAt cX0_byteAt 2 (some .int), .fieldLink RX0 22 "StreamSums" "count" "I", .fieldLink RX0 10 "StreamSums" "bytes" "[B"] ++ wsX00)
def wsX0_poly : List Cond := .code yX0_poly cX0_poly 1 (some .int) :: ([.fieldLink RX0 22 "StreamSums" "count" "I", .methodLink RX0 49 yX0_polySum, .instanceMethod yX0_polySum, .selects RX0 yX0_polySum yX0_polySum, .initialized RX0, .code yX0_polySum cX0_polySum 5 (some .int), .fieldLink RX0 14 "StreamSums" "eightSteps" "[I", .methodLink RX0 37 yX0_byteAt, .instanceMethod yX0_byteAt, .selects RX0 yX0_byteAt yX0_byteAt, .code yX0_byteAt cX0_byteAt 2 (some .int), .fieldLink RX0 10 "StreamSums" "bytes" "[B"] ++ wsX00)
def wsX0_isPart : List Cond := .code yX0_isPart cX0_isPart 3 (some .boolean) :: ([.fieldLink RX0 22 "StreamSums" "count" "I"] ++ wsX00)
def wsX0_narrowOf_r1 : List Cond := [Cond.methodLink RX0 52 yX0_isPart, Cond.instanceMethod yX0_isPart, Cond.selects RX0 yX0_isPart yX0_isPart, Cond.initialized RX0, Cond.code yX0_isPart cX0_isPart 3 (some .boolean), Cond.fieldLink RX0 22 "StreamSums" "count" "I", Cond.methodLink RX0 41 yX0_narrowSum, Cond.instanceMethod yX0_narrowSum, Cond.selects RX0 yX0_narrowSum yX0_narrowSum, Cond.code yX0_narrowSum cX0_narrowSum 7 (some .int), Cond.constant RX0 95 (374761393), Cond.constant RX0 96 (-1028477379), Cond.constant RX0 97 (668265263), Cond.constant RX0 98 (-1640531535), Cond.methodLink RX0 92 yX0_narrowOfLanes, Cond.instanceMethod yX0_narrowOfLanes, Cond.selects RX0 yX0_narrowOfLanes yX0_narrowOfLanes, Cond.code yX0_narrowOfLanes cX0_narrowOfLanes 9 (some .int), Cond.constant RX0 102 (-2048144777), Cond.methodLink RX0 83 yX0_word, Cond.instanceMethod yX0_word, Cond.selects RX0 yX0_word yX0_word, Cond.code yX0_word cX0_word 2 (some .int), Cond.constant RX0 82 (65532)]
def wsX0_narrowOf_r2 : List Cond := [Cond.fieldLink RX0 10 "StreamSums" "bytes" "[B", Cond.methodLink RX0 103 yX0_narrowLane, Cond.static yX0_narrowLane, Cond.code yX0_narrowLane cX0_narrowLane 2 (some .int), Cond.methodLink RX0 57 yX0_rotated, Cond.static yX0_rotated, Cond.code yX0_rotated cX0_rotated 2 (some .int), Cond.methodLink RX0 37 yX0_byteAt, Cond.instanceMethod yX0_byteAt, Cond.selects RX0 yX0_byteAt yX0_byteAt, Cond.code yX0_byteAt cX0_byteAt 2 (some .int), Cond.methodLink RX0 99 yX0_narrowStirred, Cond.static yX0_narrowStirred, Cond.code yX0_narrowStirred cX0_narrowStirred 1 (some .int)]
def wsX0_narrowOf : List Cond := .code yX0_narrowOf cX0_narrowOf 4 (some .int) :: ((wsX0_narrowOf_r1 ++ wsX0_narrowOf_r2) ++ wsX00)
def wsX0_wideOf_r1 : List Cond := [Cond.methodLink RX0 52 yX0_isPart, Cond.instanceMethod yX0_isPart, Cond.selects RX0 yX0_isPart yX0_isPart, Cond.initialized RX0, Cond.code yX0_isPart cX0_isPart 3 (some .boolean), Cond.fieldLink RX0 22 "StreamSums" "count" "I", Cond.methodLink RX0 45 yX0_wideSum, Cond.instanceMethod yX0_wideSum, Cond.selects RX0 yX0_wideSum yX0_wideSum, Cond.code yX0_wideSum cX0_wideSum 9 (some .long), Cond.constantLong RX0 109 (2870177450012600261), Cond.constantLong RX0 122 (-7046029288634856825), Cond.constantLong RX0 124 (-8796714831421723037), Cond.constantLong RX0 126 (-4417276706812531889), Cond.constantLong RX0 128 (1609587929392839161), Cond.methodLink RX0 106 yX0_wideOfLanes, Cond.instanceMethod yX0_wideOfLanes, Cond.selects RX0 yX0_wideOfLanes yX0_wideOfLanes, Cond.code yX0_wideOfLanes cX0_wideOfLanes 15 (some .long), Cond.methodLink RX0 111 yX0_longWord, Cond.instanceMethod yX0_longWord, Cond.selects RX0 yX0_longWord yX0_longWord, Cond.code yX0_longWord cX0_longWord 2 (some .long), Cond.methodLink RX0 88 yX0_unsignedWord]
def wsX0_wideOf_r2 : List Cond := [Cond.instanceMethod yX0_unsignedWord, Cond.selects RX0 yX0_unsignedWord yX0_unsignedWord, Cond.code yX0_unsignedWord cX0_unsignedWord 2 (some .long), Cond.constantLong RX0 86 (4294967295), Cond.methodLink RX0 83 yX0_word, Cond.instanceMethod yX0_word, Cond.selects RX0 yX0_word yX0_word, Cond.code yX0_word cX0_word 2 (some .int), Cond.constant RX0 82 (65532), Cond.fieldLink RX0 10 "StreamSums" "bytes" "[B", Cond.methodLink RX0 114 yX0_wideLane, Cond.static yX0_wideLane, Cond.code yX0_wideLane cX0_wideLane 4 (some .long), Cond.methodLink RX0 118 yX0_rotatedLong, Cond.static yX0_rotatedLong, Cond.code yX0_rotatedLong cX0_rotatedLong 3 (some .long), Cond.methodLink RX0 134 yX0_withLane, Cond.static yX0_withLane, Cond.code yX0_withLane cX0_withLane 4 (some .long), Cond.methodLink RX0 37 yX0_byteAt, Cond.instanceMethod yX0_byteAt, Cond.selects RX0 yX0_byteAt yX0_byteAt, Cond.code yX0_byteAt cX0_byteAt 2 (some .int), Cond.methodLink RX0 130 yX0_wideStirred]
def wsX0_wideOf_r3 : List Cond := [Cond.static yX0_wideStirred, Cond.code yX0_wideStirred cX0_wideStirred 2 (some .long)]
def wsX0_wideOf : List Cond := .code yX0_wideOf cX0_wideOf 5 (some .long) :: ((wsX0_wideOf_r1 ++ (wsX0_wideOf_r2 ++ wsX0_wideOf_r3)) ++ wsX00)
def wsX0_polyOf : List Cond := .code yX0_polyOf cX0_polyOf 3 (some .int) :: ([.methodLink RX0 52 yX0_isPart, .instanceMethod yX0_isPart, .selects RX0 yX0_isPart yX0_isPart, .initialized RX0, .code yX0_isPart cX0_isPart 3 (some .boolean), .fieldLink RX0 22 "StreamSums" "count" "I", .methodLink RX0 49 yX0_polySum, .instanceMethod yX0_polySum, .selects RX0 yX0_polySum yX0_polySum, .code yX0_polySum cX0_polySum 5 (some .int), .fieldLink RX0 14 "StreamSums" "eightSteps" "[I", .methodLink RX0 37 yX0_byteAt, .instanceMethod yX0_byteAt, .selects RX0 yX0_byteAt yX0_byteAt, .code yX0_byteAt cX0_byteAt 2 (some .int), .fieldLink RX0 10 "StreamSums" "bytes" "[B"] ++ wsX00)
def wsX0_masked : List Cond := .code yX0_masked cX0_masked 3 (some .int) :: ([.constant RX0 56 (-1568478504), .methodLink RX0 57 yX0_rotated, .static yX0_rotated, .initialized RX0, .code yX0_rotated cX0_rotated 2 (some .int)])
def wsX0_product : List Cond := .code yX0_product cX0_product 4 (some .int) :: ([.methodLink RX0 18 yX0_movedOn, .static yX0_movedOn, .initialized RX0, .code yX0_movedOn cX0_movedOn 3 (some .int), .constant RX0 137 (-2097792136)])
def wsX0_power : List Cond := .code yX0_power cX0_power 5 (some .int) :: ([.constant RX0 60 (-2147483648), .methodLink RX0 65 yX0_product, .static yX0_product, .initialized RX0, .code yX0_product cX0_product 4 (some .int), .methodLink RX0 18 yX0_movedOn, .static yX0_movedOn, .code yX0_movedOn cX0_movedOn 3 (some .int), .constant RX0 137 (-2097792136)])
def wsX0_joined : List Cond := .code yX0_joined cX0_joined 5 (some .int) :: ([.constant RX0 60 (-2147483648), .methodLink RX0 18 yX0_movedOn, .static yX0_movedOn, .initialized RX0, .code yX0_movedOn cX0_movedOn 3 (some .int), .constant RX0 137 (-2097792136), .methodLink RX0 61 yX0_power, .static yX0_power, .code yX0_power cX0_power 5 (some .int), .methodLink RX0 65 yX0_product, .static yX0_product, .code yX0_product cX0_product 4 (some .int)])
def wsX0_movedBack : List Cond := .code yX0_movedBack cX0_movedBack 3 (some .int) :: ([.constant RX0 137 (-2097792136)])
def wsX0_cut : List Cond := .code yX0_cut cX0_cut 5 (some .int) :: ([.constant RX0 60 (-2147483648), .methodLink RX0 68 yX0_movedBack, .static yX0_movedBack, .initialized RX0, .code yX0_movedBack cX0_movedBack 3 (some .int), .constant RX0 137 (-2097792136), .methodLink RX0 61 yX0_power, .static yX0_power, .code yX0_power cX0_power 5 (some .int), .methodLink RX0 65 yX0_product, .static yX0_product, .code yX0_product cX0_product 4 (some .int), .methodLink RX0 18 yX0_movedOn, .static yX0_movedOn, .code yX0_movedOn cX0_movedOn 3 (some .int)])
def wsX0_turnedRound : List Cond := .code yX0_turnedRound cX0_turnedRound 1 (some .int) :: ([.constant RX0 141 (65280)])
def wsX0_fourBetween : List Cond := .code yX0_fourBetween cX0_fourBetween 2 (some .int) :: ([.methodLink RX0 68 yX0_movedBack, .static yX0_movedBack, .initialized RX0, .code yX0_movedBack cX0_movedBack 3 (some .int), .constant RX0 137 (-2097792136), .methodLink RX0 138 yX0_turnedRound, .static yX0_turnedRound, .code yX0_turnedRound cX0_turnedRound 1 (some .int), .constant RX0 141 (65280)])
def wsX0_forged_r1 : List Cond := [Cond.methodLink RX0 71 yX0_poly, Cond.instanceMethod yX0_poly, Cond.selects RX0 yX0_poly yX0_poly, Cond.initialized RX0, Cond.code yX0_poly cX0_poly 1 (some .int), Cond.fieldLink RX0 22 "StreamSums" "count" "I", Cond.methodLink RX0 49 yX0_polySum, Cond.instanceMethod yX0_polySum, Cond.selects RX0 yX0_polySum yX0_polySum, Cond.code yX0_polySum cX0_polySum 5 (some .int), Cond.fieldLink RX0 14 "StreamSums" "eightSteps" "[I", Cond.methodLink RX0 37 yX0_byteAt, Cond.instanceMethod yX0_byteAt, Cond.selects RX0 yX0_byteAt yX0_byteAt, Cond.code yX0_byteAt cX0_byteAt 2 (some .int), Cond.fieldLink RX0 10 "StreamSums" "bytes" "[B", Cond.methodLink RX0 75 yX0_fourBetween, Cond.static yX0_fourBetween, Cond.code yX0_fourBetween cX0_fourBetween 2 (some .int), Cond.methodLink RX0 68 yX0_movedBack, Cond.static yX0_movedBack, Cond.code yX0_movedBack cX0_movedBack 3 (some .int), Cond.constant RX0 137 (-2097792136), Cond.methodLink RX0 138 yX0_turnedRound]
def wsX0_forged_r2 : List Cond := [Cond.static yX0_turnedRound, Cond.code yX0_turnedRound cX0_turnedRound 1 (some .int), Cond.constant RX0 141 (65280)]
def wsX0_forged : List Cond := .code yX0_forged cX0_forged 2 (some .int) :: ((wsX0_forged_r1 ++ wsX0_forged_r2) ++ wsX00)
def wsX0_mended_r1 : List Cond := [Cond.fieldLink RX0 22 "StreamSums" "count" "I", Cond.methodLink RX0 49 yX0_polySum, Cond.instanceMethod yX0_polySum, Cond.selects RX0 yX0_polySum yX0_polySum, Cond.initialized RX0, Cond.code yX0_polySum cX0_polySum 5 (some .int), Cond.fieldLink RX0 14 "StreamSums" "eightSteps" "[I", Cond.methodLink RX0 37 yX0_byteAt, Cond.instanceMethod yX0_byteAt, Cond.selects RX0 yX0_byteAt yX0_byteAt, Cond.code yX0_byteAt cX0_byteAt 2 (some .int), Cond.fieldLink RX0 10 "StreamSums" "bytes" "[B", Cond.methodLink RX0 78 yX0_cut, Cond.instanceMethod yX0_cut, Cond.selects RX0 yX0_cut yX0_cut, Cond.code yX0_cut cX0_cut 5 (some .int), Cond.constant RX0 60 (-2147483648), Cond.methodLink RX0 68 yX0_movedBack, Cond.static yX0_movedBack, Cond.code yX0_movedBack cX0_movedBack 3 (some .int), Cond.constant RX0 137 (-2097792136), Cond.methodLink RX0 61 yX0_power, Cond.static yX0_power, Cond.code yX0_power cX0_power 5 (some .int)]
def wsX0_mended_r2 : List Cond := [Cond.methodLink RX0 65 yX0_product, Cond.static yX0_product, Cond.code yX0_product cX0_product 4 (some .int), Cond.methodLink RX0 18 yX0_movedOn, Cond.static yX0_movedOn, Cond.code yX0_movedOn cX0_movedOn 3 (some .int), Cond.methodLink RX0 75 yX0_fourBetween, Cond.static yX0_fourBetween, Cond.code yX0_fourBetween cX0_fourBetween 2 (some .int), Cond.methodLink RX0 138 yX0_turnedRound, Cond.static yX0_turnedRound, Cond.code yX0_turnedRound cX0_turnedRound 1 (some .int), Cond.constant RX0 141 (65280)]
def wsX0_mended : List Cond := .code yX0_mended cX0_mended 5 (some .int) :: ((wsX0_mended_r1 ++ wsX0_mended_r2) ++ wsX00)
def wsL_law_r1 : List Cond := [Cond.classLink RL 7 RX0, Cond.instantiable RX0 5, Cond.initialized RX0, Cond.classLink RL 10 RX1, Cond.instantiable RX1 4, Cond.initialized RX1, Cond.methodLink RL 9 yX0_init, Cond.instanceMethod yX0_init, Cond.code yX0_init cX0_init 2 none, Cond.methodLink RX0 1 objectInit, Cond.instanceMethod objectInit, Cond.code objectInit ⟨#[0xb1]⟩ 1 none, Cond.constant RX0 9 (65536), Cond.arrayClass .byte, Cond.fieldLink RX0 10 "StreamSums" "bytes" "[B", Cond.arrayClass .int, Cond.fieldLink RX0 14 "StreamSums" "eightSteps" "[I", Cond.fieldLink RX0 22 "StreamSums" "count" "I", Cond.fieldLink RX0 26 "StreamSums" "narrowSeed" "I", Cond.fieldLink RX0 29 "StreamSums" "wideSeed" "J", Cond.methodLink RX0 18 yX0_movedOn, Cond.static yX0_movedOn, Cond.code yX0_movedOn cX0_movedOn 3 (some .int), Cond.constant RX0 137 (-2097792136)]
def wsL_law_r2 : List Cond := [Cond.methodLink RL 12 yX1_init, Cond.instanceMethod yX1_init, Cond.code yX1_init cX1_init 1 none, Cond.methodLink RX1 1 objectInit, Cond.constant RX1 7 (65536), Cond.fieldLink RX1 8 "StreamSumsModel" "row" "[B", Cond.methodLink RL 15 yX0_begin, Cond.instanceMethod yX0_begin, Cond.selects RX0 yX0_begin yX0_begin, Cond.code yX0_begin cX0_begin 4 none, Cond.methodLink RL 19 yX1_begin, Cond.instanceMethod yX1_begin, Cond.selects RX1 yX1_begin yX1_begin, Cond.code yX1_begin cX1_begin 4 none, Cond.fieldLink RX1 14 "StreamSumsModel" "length" "I", Cond.fieldLink RX1 18 "StreamSumsModel" "seedNarrow" "I", Cond.fieldLink RX1 21 "StreamSumsModel" "seedWide" "J", Cond.methodLink RL 20 yX0_write, Cond.instanceMethod yX0_write, Cond.selects RX0 yX0_write yX0_write, Cond.code yX0_write cX0_write 5 (some .boolean), Cond.methodLink RX0 33 yX0_append, Cond.instanceMethod yX0_append, Cond.selects RX0 yX0_append yX0_append]
def wsL_law_r3 : List Cond := [Cond.code yX0_append cX0_append 2 none, Cond.methodLink RL 24 yX1_write, Cond.instanceMethod yX1_write, Cond.selects RX1 yX1_write yX1_write, Cond.code yX1_write cX1_write 5 (some .boolean), Cond.methodLink RL 25 yX0_again, Cond.instanceMethod yX0_again, Cond.selects RX0 yX0_again yX0_again, Cond.code yX0_again cX0_again 7 (some .boolean), Cond.methodLink RX0 37 yX0_byteAt, Cond.instanceMethod yX0_byteAt, Cond.selects RX0 yX0_byteAt yX0_byteAt, Cond.code yX0_byteAt cX0_byteAt 2 (some .int), Cond.methodLink RL 29 yX1_again, Cond.instanceMethod yX1_again, Cond.selects RX1 yX1_again yX1_again, Cond.code yX1_again cX1_again 5 (some .boolean), Cond.constantLong RX1 25 (65536), Cond.methodLink RL 30 yX0_size, Cond.instanceMethod yX0_size, Cond.selects RX0 yX0_size yX0_size, Cond.code yX0_size cX0_size 1 (some .int), Cond.methodLink RL 34 yX1_size, Cond.instanceMethod yX1_size]
def wsL_law_r4 : List Cond := [Cond.selects RX1 yX1_size yX1_size, Cond.code yX1_size cX1_size 1 (some .int), Cond.methodLink RL 35 yX0_byteAt, Cond.methodLink RL 39 yX1_byteAt, Cond.instanceMethod yX1_byteAt, Cond.selects RX1 yX1_byteAt yX1_byteAt, Cond.code yX1_byteAt cX1_byteAt 2 (some .int), Cond.methodLink RX1 27 yX1_at, Cond.instanceMethod yX1_at, Cond.selects RX1 yX1_at yX1_at, Cond.code yX1_at cX1_at 2 (some .int), Cond.methodLink RL 40 yX0_narrow, Cond.instanceMethod yX0_narrow, Cond.selects RX0 yX0_narrow yX0_narrow, Cond.code yX0_narrow cX0_narrow 1 (some .int), Cond.methodLink RX0 41 yX0_narrowSum, Cond.instanceMethod yX0_narrowSum, Cond.selects RX0 yX0_narrowSum yX0_narrowSum, Cond.code yX0_narrowSum cX0_narrowSum 7 (some .int), Cond.constant RX0 95 (374761393), Cond.constant RX0 96 (-1028477379), Cond.constant RX0 97 (668265263), Cond.constant RX0 98 (-1640531535), Cond.methodLink RX0 92 yX0_narrowOfLanes]
def wsL_law_r5 : List Cond := [Cond.instanceMethod yX0_narrowOfLanes, Cond.selects RX0 yX0_narrowOfLanes yX0_narrowOfLanes, Cond.code yX0_narrowOfLanes cX0_narrowOfLanes 9 (some .int), Cond.constant RX0 102 (-2048144777), Cond.methodLink RX0 83 yX0_word, Cond.instanceMethod yX0_word, Cond.selects RX0 yX0_word yX0_word, Cond.code yX0_word cX0_word 2 (some .int), Cond.constant RX0 82 (65532), Cond.methodLink RX0 103 yX0_narrowLane, Cond.static yX0_narrowLane, Cond.code yX0_narrowLane cX0_narrowLane 2 (some .int), Cond.methodLink RX0 57 yX0_rotated, Cond.static yX0_rotated, Cond.code yX0_rotated cX0_rotated 2 (some .int), Cond.methodLink RX0 99 yX0_narrowStirred, Cond.static yX0_narrowStirred, Cond.code yX0_narrowStirred cX0_narrowStirred 1 (some .int), Cond.methodLink RL 44 yX0_wide, Cond.instanceMethod yX0_wide, Cond.selects RX0 yX0_wide yX0_wide, Cond.code yX0_wide cX0_wide 1 (some .long), Cond.methodLink RX0 45 yX0_wideSum, Cond.instanceMethod yX0_wideSum]
def wsL_law_r6 : List Cond := [Cond.selects RX0 yX0_wideSum yX0_wideSum, Cond.code yX0_wideSum cX0_wideSum 9 (some .long), Cond.constantLong RX0 109 (2870177450012600261), Cond.constantLong RX0 122 (-7046029288634856825), Cond.constantLong RX0 124 (-8796714831421723037), Cond.constantLong RX0 126 (-4417276706812531889), Cond.constantLong RX0 128 (1609587929392839161), Cond.methodLink RX0 106 yX0_wideOfLanes, Cond.instanceMethod yX0_wideOfLanes, Cond.selects RX0 yX0_wideOfLanes yX0_wideOfLanes, Cond.code yX0_wideOfLanes cX0_wideOfLanes 15 (some .long), Cond.methodLink RX0 111 yX0_longWord, Cond.instanceMethod yX0_longWord, Cond.selects RX0 yX0_longWord yX0_longWord, Cond.code yX0_longWord cX0_longWord 2 (some .long), Cond.methodLink RX0 88 yX0_unsignedWord, Cond.instanceMethod yX0_unsignedWord, Cond.selects RX0 yX0_unsignedWord yX0_unsignedWord, Cond.code yX0_unsignedWord cX0_unsignedWord 2 (some .long), Cond.constantLong RX0 86 (4294967295), Cond.methodLink RX0 114 yX0_wideLane, Cond.static yX0_wideLane, Cond.code yX0_wideLane cX0_wideLane 4 (some .long), Cond.methodLink RX0 118 yX0_rotatedLong]
def wsL_law_r7 : List Cond := [Cond.static yX0_rotatedLong, Cond.code yX0_rotatedLong cX0_rotatedLong 3 (some .long), Cond.methodLink RX0 134 yX0_withLane, Cond.static yX0_withLane, Cond.code yX0_withLane cX0_withLane 4 (some .long), Cond.methodLink RX0 130 yX0_wideStirred, Cond.static yX0_wideStirred, Cond.code yX0_wideStirred cX0_wideStirred 2 (some .long), Cond.methodLink RL 49 yX0_poly, Cond.instanceMethod yX0_poly, Cond.selects RX0 yX0_poly yX0_poly, Cond.code yX0_poly cX0_poly 1 (some .int), Cond.methodLink RX0 49 yX0_polySum, Cond.instanceMethod yX0_polySum, Cond.selects RX0 yX0_polySum yX0_polySum, Cond.code yX0_polySum cX0_polySum 5 (some .int), Cond.methodLink RL 53 yX0_narrowOf, Cond.instanceMethod yX0_narrowOf, Cond.selects RX0 yX0_narrowOf yX0_narrowOf, Cond.code yX0_narrowOf cX0_narrowOf 4 (some .int), Cond.methodLink RX0 52 yX0_isPart, Cond.instanceMethod yX0_isPart, Cond.selects RX0 yX0_isPart yX0_isPart, Cond.code yX0_isPart cX0_isPart 3 (some .boolean)]
def wsL_law_r8 : List Cond := [Cond.methodLink RL 58 yX0_wideOf, Cond.instanceMethod yX0_wideOf, Cond.selects RX0 yX0_wideOf yX0_wideOf, Cond.code yX0_wideOf cX0_wideOf 5 (some .long), Cond.methodLink RL 63 yX0_polyOf, Cond.instanceMethod yX0_polyOf, Cond.selects RX0 yX0_polyOf yX0_polyOf, Cond.code yX0_polyOf cX0_polyOf 3 (some .int), Cond.methodLink RL 68 yX0_masked, Cond.instanceMethod yX0_masked, Cond.selects RX0 yX0_masked yX0_masked, Cond.code yX0_masked cX0_masked 3 (some .int), Cond.constant RX0 56 (-1568478504), Cond.methodLink RL 73 yX0_joined, Cond.instanceMethod yX0_joined, Cond.selects RX0 yX0_joined yX0_joined, Cond.code yX0_joined cX0_joined 5 (some .int), Cond.constant RX0 60 (-2147483648), Cond.methodLink RX0 61 yX0_power, Cond.static yX0_power, Cond.code yX0_power cX0_power 5 (some .int), Cond.methodLink RX0 65 yX0_product, Cond.static yX0_product, Cond.code yX0_product cX0_product 4 (some .int)]
def wsL_law_r9 : List Cond := [Cond.methodLink RL 78 yX0_cut, Cond.instanceMethod yX0_cut, Cond.selects RX0 yX0_cut yX0_cut, Cond.code yX0_cut cX0_cut 5 (some .int), Cond.methodLink RX0 68 yX0_movedBack, Cond.static yX0_movedBack, Cond.code yX0_movedBack cX0_movedBack 3 (some .int), Cond.methodLink RL 82 yX0_forged, Cond.instanceMethod yX0_forged, Cond.selects RX0 yX0_forged yX0_forged, Cond.code yX0_forged cX0_forged 2 (some .int), Cond.methodLink RX0 71 yX0_poly, Cond.methodLink RX0 75 yX0_fourBetween, Cond.static yX0_fourBetween, Cond.code yX0_fourBetween cX0_fourBetween 2 (some .int), Cond.methodLink RX0 138 yX0_turnedRound, Cond.static yX0_turnedRound, Cond.code yX0_turnedRound cX0_turnedRound 1 (some .int), Cond.constant RX0 141 (65280), Cond.methodLink RL 86 yX0_mended, Cond.instanceMethod yX0_mended, Cond.selects RX0 yX0_mended yX0_mended, Cond.code yX0_mended cX0_mended 5 (some .int), Cond.methodLink RX0 78 yX0_cut]
def wsL_law : List Cond := (wsL_law_r1 ++ (wsL_law_r2 ++ (wsL_law_r3 ++ (wsL_law_r4 ++ (wsL_law_r5 ++ (wsL_law_r6 ++ (wsL_law_r7 ++ (wsL_law_r8 ++ wsL_law_r9)))))))) ++ wsX00 ++ wsX10 ++ ([] : List Cond)
set_option maxRecDepth 20000 in
theorem wsL_law_in : ∀ w ∈ wsL_law, w ∈ lw_tbl := fun w h => (goodIn_p wsL_law [26, 29, 33, 215, 56, 234, 60, 64, 238, 68, 72, 242, 76, 247, 251, 255, 81, 85, 89, 95, 99, 102, 108, 112, 116, 120, 126, 130, 134, 137, 140, 146, 150, 154, 158, 162, 166, 170, 174, 179, 183, 186, 190, 193, 197, 201, 204, 209] (by decide +kernel) (by decide +kernel) w h).1
theorem inlX0 : ∀ w ∈ wsX00, w ∈ wsL_law := fun _ h => List.mem_append_left _ (List.mem_append_left _ (List.mem_append_right _ h))
theorem inX0 : ∀ w ∈ wsX00, w ∈ lw_tbl := fun w h => wsL_law_in w (inlX0 w h)
theorem inlX1 : ∀ w ∈ wsX10, w ∈ wsL_law := fun _ h => List.mem_append_left _ (List.mem_append_right _ h)
theorem inX1 : ∀ w ∈ wsX10, w ∈ lw_tbl := fun w h => wsL_law_in w (inlX1 w h)
set_option maxRecDepth 20000 in
theorem ggX0_init_X0_movedOn : GoodIn wsX0_init wsX0_movedOn := goodIn_r _ [15, 16] (by decide +kernel) (by decide +kernel)
set_option maxRecDepth 20000 in
theorem gX0_init_X0_movedOn : GoodIn wsX0_init (va_wsS RX0 18 yX0_movedOn wsX0_movedOn) := goodIn_app (goodIn_of _ (by decide +kernel)) ggX0_init_X0_movedOn
theorem dX0_init_0 : decode cX0_init 0 = .ok (.aload_n 0, 1) := by decide +kernel
theorem dX0_init_1 : decode cX0_init 1 = .ok (.invokespecial 1, 3) := by decide +kernel
theorem dX0_init_4 : decode cX0_init 4 = .ok (.aload_n 0, 1) := by decide +kernel
theorem dX0_init_5 : decode cX0_init 5 = .ok (.ldc 9, 2) := by decide +kernel
theorem dX0_init_7 : decode cX0_init 7 = .ok (.newarray .byte, 2) := by decide +kernel
theorem dX0_init_9 : decode cX0_init 9 = .ok (.putfield 10, 3) := by decide +kernel
theorem dX0_init_12 : decode cX0_init 12 = .ok (.aload_n 0, 1) := by decide +kernel
theorem dX0_init_13 : decode cX0_init 13 = .ok (.sipush 256, 3) := by decide +kernel
theorem dX0_init_16 : decode cX0_init 16 = .ok (.newarray .int, 2) := by decide +kernel
theorem dX0_init_18 : decode cX0_init 18 = .ok (.putfield 14, 3) := by decide +kernel
theorem dX0_init_21 : decode cX0_init 21 = .ok (.iconst 0, 1) := by decide +kernel
theorem dX0_init_22 : decode cX0_init 22 = .ok (.istore_n 1, 1) := by decide +kernel
theorem dX0_init_23 : decode cX0_init 23 = .ok (.iload_n 1, 1) := by decide +kernel
theorem dX0_init_24 : decode cX0_init 24 = .ok (.sipush 256, 3) := by decide +kernel
theorem dX0_init_27 : decode cX0_init 27 = .ok (.if_icmp .ge 21, 3) := by decide +kernel
theorem dX0_init_30 : decode cX0_init 30 = .ok (.aload_n 0, 1) := by decide +kernel
theorem dX0_init_31 : decode cX0_init 31 = .ok (.getfield 14, 3) := by decide +kernel
theorem dX0_init_34 : decode cX0_init 34 = .ok (.iload_n 1, 1) := by decide +kernel
theorem dX0_init_35 : decode cX0_init 35 = .ok (.iload_n 1, 1) := by decide +kernel
theorem dX0_init_36 : decode cX0_init 36 = .ok (.bipush 8, 2) := by decide +kernel
theorem dX0_init_38 : decode cX0_init 38 = .ok (.invokestatic 18, 3) := by decide +kernel
theorem dX0_init_41 : decode cX0_init 41 = .ok (.iastore, 1) := by decide +kernel
theorem dX0_init_42 : decode cX0_init 42 = .ok (.iinc 1 1, 3) := by decide +kernel
theorem dX0_init_45 : decode cX0_init 45 = .ok (.goto (-22), 3) := by decide +kernel
theorem dX0_init_48 : decode cX0_init 48 = .ok (.aload_n 0, 1) := by decide +kernel
theorem dX0_init_49 : decode cX0_init 49 = .ok (.iconst 0, 1) := by decide +kernel
theorem dX0_init_50 : decode cX0_init 50 = .ok (.putfield 22, 3) := by decide +kernel
theorem dX0_init_53 : decode cX0_init 53 = .ok (.aload_n 0, 1) := by decide +kernel
theorem dX0_init_54 : decode cX0_init 54 = .ok (.iconst 0, 1) := by decide +kernel
theorem dX0_init_55 : decode cX0_init 55 = .ok (.putfield 26, 3) := by decide +kernel
theorem dX0_init_58 : decode cX0_init 58 = .ok (.aload_n 0, 1) := by decide +kernel
theorem dX0_init_59 : decode cX0_init 59 = .ok (.lconst 0, 1) := by decide +kernel
theorem dX0_init_60 : decode cX0_init 60 = .ok (.putfield 29, 3) := by decide +kernel
theorem dX0_init_63 : decode cX0_init 63 = .ok (.return_, 1) := by decide +kernel
theorem dX0_begin_0 : decode cX0_begin 0 = .ok (.aload_n 0, 1) := by decide +kernel
theorem dX0_begin_1 : decode cX0_begin 1 = .ok (.iconst 0, 1) := by decide +kernel
theorem dX0_begin_2 : decode cX0_begin 2 = .ok (.putfield 22, 3) := by decide +kernel
theorem dX0_begin_5 : decode cX0_begin 5 = .ok (.aload_n 0, 1) := by decide +kernel
theorem dX0_begin_6 : decode cX0_begin 6 = .ok (.iload_n 1, 1) := by decide +kernel
theorem dX0_begin_7 : decode cX0_begin 7 = .ok (.putfield 26, 3) := by decide +kernel
theorem dX0_begin_10 : decode cX0_begin 10 = .ok (.aload_n 0, 1) := by decide +kernel
theorem dX0_begin_11 : decode cX0_begin 11 = .ok (.lload_n 2, 1) := by decide +kernel
theorem dX0_begin_12 : decode cX0_begin 12 = .ok (.putfield 29, 3) := by decide +kernel
theorem dX0_begin_15 : decode cX0_begin 15 = .ok (.return_, 1) := by decide +kernel
set_option maxRecDepth 20000 in
theorem ggX0_write_X0_append : GoodIn wsX0_write wsX0_append := goodIn_r _ [7, 2, 1, 8, 9, 10, 11, 12, 13] (by decide +kernel) (by decide +kernel)
set_option maxRecDepth 20000 in
theorem gX0_write_X0_append : GoodIn wsX0_write (wsV RX0 33 RX0 yX0_append wsX0_append) := goodIn_app (goodIn_of _ (by decide +kernel)) ggX0_write_X0_append
theorem dX0_write_0 : decode cX0_write 0 = .ok (.iload_n 3, 1) := by decide +kernel
theorem dX0_write_1 : decode cX0_write 1 = .ok (.iconst 1, 1) := by decide +kernel
theorem dX0_write_2 : decode cX0_write 2 = .ok (.if_icmp .lt 20, 3) := by decide +kernel
theorem dX0_write_5 : decode cX0_write 5 = .ok (.iload_n 3, 1) := by decide +kernel
theorem dX0_write_6 : decode cX0_write 6 = .ok (.bipush 8, 2) := by decide +kernel
theorem dX0_write_8 : decode cX0_write 8 = .ok (.if_icmp .gt 14, 3) := by decide +kernel
theorem dX0_write_11 : decode cX0_write 11 = .ok (.iload_n 3, 1) := by decide +kernel
theorem dX0_write_12 : decode cX0_write 12 = .ok (.ldc 9, 2) := by decide +kernel
theorem dX0_write_14 : decode cX0_write 14 = .ok (.aload_n 0, 1) := by decide +kernel
theorem dX0_write_15 : decode cX0_write 15 = .ok (.getfield 22, 3) := by decide +kernel
theorem dX0_write_18 : decode cX0_write 18 = .ok (.isub, 1) := by decide +kernel
theorem dX0_write_19 : decode cX0_write 19 = .ok (.if_icmp .le 5, 3) := by decide +kernel
theorem dX0_write_22 : decode cX0_write 22 = .ok (.iconst 0, 1) := by decide +kernel
theorem dX0_write_23 : decode cX0_write 23 = .ok (.ireturn, 1) := by decide +kernel
theorem dX0_write_24 : decode cX0_write 24 = .ok (.iconst 0, 1) := by decide +kernel
theorem dX0_write_25 : decode cX0_write 25 = .ok (.istore 4, 2) := by decide +kernel
theorem dX0_write_27 : decode cX0_write 27 = .ok (.iload 4, 2) := by decide +kernel
theorem dX0_write_29 : decode cX0_write 29 = .ok (.iload_n 3, 1) := by decide +kernel
theorem dX0_write_30 : decode cX0_write 30 = .ok (.if_icmp .ge 24, 3) := by decide +kernel
theorem dX0_write_33 : decode cX0_write 33 = .ok (.aload_n 0, 1) := by decide +kernel
theorem dX0_write_34 : decode cX0_write 34 = .ok (.lload_n 1, 1) := by decide +kernel
theorem dX0_write_35 : decode cX0_write 35 = .ok (.bipush 56, 2) := by decide +kernel
theorem dX0_write_37 : decode cX0_write 37 = .ok (.bipush 8, 2) := by decide +kernel
theorem dX0_write_39 : decode cX0_write 39 = .ok (.iload 4, 2) := by decide +kernel
theorem dX0_write_41 : decode cX0_write 41 = .ok (.imul, 1) := by decide +kernel
theorem dX0_write_42 : decode cX0_write 42 = .ok (.isub, 1) := by decide +kernel
theorem dX0_write_43 : decode cX0_write 43 = .ok (.lushr, 1) := by decide +kernel
theorem dX0_write_44 : decode cX0_write 44 = .ok (.l2i, 1) := by decide +kernel
theorem dX0_write_45 : decode cX0_write 45 = .ok (.invokevirtual 33, 3) := by decide +kernel
theorem dX0_write_48 : decode cX0_write 48 = .ok (.iinc 4 1, 3) := by decide +kernel
theorem dX0_write_51 : decode cX0_write 51 = .ok (.goto (-24), 3) := by decide +kernel
theorem dX0_write_54 : decode cX0_write 54 = .ok (.iconst 1, 1) := by decide +kernel
theorem dX0_write_55 : decode cX0_write 55 = .ok (.ireturn, 1) := by decide +kernel
set_option maxRecDepth 20000 in
theorem ggX0_again_X0_byteAt : GoodIn wsX0_again wsX0_byteAt := goodIn_r _ [7, 1, 8, 13, 14, 15, 16, 17] (by decide +kernel) (by decide +kernel)
set_option maxRecDepth 20000 in
theorem gX0_again_X0_byteAt : GoodIn wsX0_again (wsV RX0 37 RX0 yX0_byteAt wsX0_byteAt) := goodIn_app (goodIn_of _ (by decide +kernel)) ggX0_again_X0_byteAt
set_option maxRecDepth 20000 in
theorem ggX0_again_X0_append : GoodIn wsX0_again wsX0_append := goodIn_r _ [12, 1, 2, 8, 13, 14, 15, 16, 17] (by decide +kernel) (by decide +kernel)
set_option maxRecDepth 20000 in
theorem gX0_again_X0_append : GoodIn wsX0_again (wsV RX0 33 RX0 yX0_append wsX0_append) := goodIn_app (goodIn_of _ (by decide +kernel)) ggX0_again_X0_append
theorem dX0_again_0 : decode cX0_again 0 = .ok (.iload_n 1, 1) := by decide +kernel
theorem dX0_again_1 : decode cX0_again 1 = .ok (.iconst 1, 1) := by decide +kernel
theorem dX0_again_2 : decode cX0_again 2 = .ok (.if_icmp .lt 15, 3) := by decide +kernel
theorem dX0_again_5 : decode cX0_again 5 = .ok (.iload_n 1, 1) := by decide +kernel
theorem dX0_again_6 : decode cX0_again 6 = .ok (.aload_n 0, 1) := by decide +kernel
theorem dX0_again_7 : decode cX0_again 7 = .ok (.getfield 22, 3) := by decide +kernel
theorem dX0_again_10 : decode cX0_again 10 = .ok (.if_icmp .gt 7, 3) := by decide +kernel
theorem dX0_again_13 : decode cX0_again 13 = .ok (.iload_n 2, 1) := by decide +kernel
theorem dX0_again_14 : decode cX0_again 14 = .ok (.ifCond .ge 5, 3) := by decide +kernel
theorem dX0_again_17 : decode cX0_again 17 = .ok (.iconst 0, 1) := by decide +kernel
theorem dX0_again_18 : decode cX0_again 18 = .ok (.ireturn, 1) := by decide +kernel
theorem dX0_again_19 : decode cX0_again 19 = .ok (.iload_n 1, 1) := by decide +kernel
theorem dX0_again_20 : decode cX0_again 20 = .ok (.i2l, 1) := by decide +kernel
theorem dX0_again_21 : decode cX0_again 21 = .ok (.iload_n 2, 1) := by decide +kernel
theorem dX0_again_22 : decode cX0_again 22 = .ok (.i2l, 1) := by decide +kernel
theorem dX0_again_23 : decode cX0_again 23 = .ok (.lmul, 1) := by decide +kernel
theorem dX0_again_24 : decode cX0_again 24 = .ok (.lstore_n 3, 1) := by decide +kernel
theorem dX0_again_25 : decode cX0_again 25 = .ok (.lload_n 3, 1) := by decide +kernel
theorem dX0_again_26 : decode cX0_again 26 = .ok (.ldc 9, 2) := by decide +kernel
theorem dX0_again_28 : decode cX0_again 28 = .ok (.aload_n 0, 1) := by decide +kernel
theorem dX0_again_29 : decode cX0_again 29 = .ok (.getfield 22, 3) := by decide +kernel
theorem dX0_again_32 : decode cX0_again 32 = .ok (.isub, 1) := by decide +kernel
theorem dX0_again_33 : decode cX0_again 33 = .ok (.i2l, 1) := by decide +kernel
theorem dX0_again_34 : decode cX0_again 34 = .ok (.lcmp, 1) := by decide +kernel
theorem dX0_again_35 : decode cX0_again 35 = .ok (.ifCond .le 5, 3) := by decide +kernel
theorem dX0_again_38 : decode cX0_again 38 = .ok (.iconst 0, 1) := by decide +kernel
theorem dX0_again_39 : decode cX0_again 39 = .ok (.ireturn, 1) := by decide +kernel
theorem dX0_again_40 : decode cX0_again 40 = .ok (.lconst 0, 1) := by decide +kernel
theorem dX0_again_41 : decode cX0_again 41 = .ok (.lstore 5, 2) := by decide +kernel
theorem dX0_again_43 : decode cX0_again 43 = .ok (.lload 5, 2) := by decide +kernel
theorem dX0_again_45 : decode cX0_again 45 = .ok (.lload_n 3, 1) := by decide +kernel
theorem dX0_again_46 : decode cX0_again 46 = .ok (.lcmp, 1) := by decide +kernel
theorem dX0_again_47 : decode cX0_again 47 = .ok (.ifCond .ge 26, 3) := by decide +kernel
theorem dX0_again_50 : decode cX0_again 50 = .ok (.aload_n 0, 1) := by decide +kernel
theorem dX0_again_51 : decode cX0_again 51 = .ok (.aload_n 0, 1) := by decide +kernel
theorem dX0_again_52 : decode cX0_again 52 = .ok (.aload_n 0, 1) := by decide +kernel
theorem dX0_again_53 : decode cX0_again 53 = .ok (.getfield 22, 3) := by decide +kernel
theorem dX0_again_56 : decode cX0_again 56 = .ok (.iload_n 1, 1) := by decide +kernel
theorem dX0_again_57 : decode cX0_again 57 = .ok (.isub, 1) := by decide +kernel
theorem dX0_again_58 : decode cX0_again 58 = .ok (.invokevirtual 37, 3) := by decide +kernel
theorem dX0_again_61 : decode cX0_again 61 = .ok (.invokevirtual 33, 3) := by decide +kernel
theorem dX0_again_64 : decode cX0_again 64 = .ok (.lload 5, 2) := by decide +kernel
theorem dX0_again_66 : decode cX0_again 66 = .ok (.lconst 1, 1) := by decide +kernel
theorem dX0_again_67 : decode cX0_again 67 = .ok (.ladd, 1) := by decide +kernel
theorem dX0_again_68 : decode cX0_again 68 = .ok (.lstore 5, 2) := by decide +kernel
theorem dX0_again_70 : decode cX0_again 70 = .ok (.goto (-27), 3) := by decide +kernel
theorem dX0_again_73 : decode cX0_again 73 = .ok (.iconst 1, 1) := by decide +kernel
theorem dX0_again_74 : decode cX0_again 74 = .ok (.ireturn, 1) := by decide +kernel
theorem dX0_size_0 : decode cX0_size 0 = .ok (.aload_n 0, 1) := by decide +kernel
theorem dX0_size_1 : decode cX0_size 1 = .ok (.getfield 22, 3) := by decide +kernel
theorem dX0_size_4 : decode cX0_size 4 = .ok (.ireturn, 1) := by decide +kernel
theorem dX0_byteAt_0 : decode cX0_byteAt 0 = .ok (.iload_n 1, 1) := by decide +kernel
theorem dX0_byteAt_1 : decode cX0_byteAt 1 = .ok (.ifCond .lt 24, 3) := by decide +kernel
theorem dX0_byteAt_4 : decode cX0_byteAt 4 = .ok (.iload_n 1, 1) := by decide +kernel
theorem dX0_byteAt_5 : decode cX0_byteAt 5 = .ok (.aload_n 0, 1) := by decide +kernel
theorem dX0_byteAt_6 : decode cX0_byteAt 6 = .ok (.getfield 22, 3) := by decide +kernel
theorem dX0_byteAt_9 : decode cX0_byteAt 9 = .ok (.if_icmp .ge 16, 3) := by decide +kernel
theorem dX0_byteAt_12 : decode cX0_byteAt 12 = .ok (.aload_n 0, 1) := by decide +kernel
theorem dX0_byteAt_13 : decode cX0_byteAt 13 = .ok (.getfield 10, 3) := by decide +kernel
theorem dX0_byteAt_16 : decode cX0_byteAt 16 = .ok (.iload_n 1, 1) := by decide +kernel
theorem dX0_byteAt_17 : decode cX0_byteAt 17 = .ok (.baload, 1) := by decide +kernel
theorem dX0_byteAt_18 : decode cX0_byteAt 18 = .ok (.sipush 255, 3) := by decide +kernel
theorem dX0_byteAt_21 : decode cX0_byteAt 21 = .ok (.iand, 1) := by decide +kernel
theorem dX0_byteAt_22 : decode cX0_byteAt 22 = .ok (.goto 4, 3) := by decide +kernel
theorem dX0_byteAt_25 : decode cX0_byteAt 25 = .ok (.iconst (-1), 1) := by decide +kernel
theorem dX0_byteAt_26 : decode cX0_byteAt 26 = .ok (.ireturn, 1) := by decide +kernel
set_option maxRecDepth 20000 in
theorem ggX0_narrow_X0_narrowSum : GoodIn wsX0_narrow wsX0_narrowSum := goodIn_r _ [7, 8, 9, 10, 11, 12, 13, 14, 6, 15, 16, 17, 18, 19, 20, 21, 22, 23, 24, 25, 26, 27, 28, 29, 30, 31, 32, 1, 33, 34, 35, 36, 37, 38, 39, 40] (by decide +kernel) (by decide +kernel)
set_option maxRecDepth 20000 in
theorem gX0_narrow_X0_narrowSum : GoodIn wsX0_narrow (wsV RX0 41 RX0 yX0_narrowSum wsX0_narrowSum) := goodIn_app (goodIn_of _ (by decide +kernel)) ggX0_narrow_X0_narrowSum
theorem dX0_narrow_0 : decode cX0_narrow 0 = .ok (.aload_n 0, 1) := by decide +kernel
theorem dX0_narrow_1 : decode cX0_narrow 1 = .ok (.iconst 0, 1) := by decide +kernel
theorem dX0_narrow_2 : decode cX0_narrow 2 = .ok (.aload_n 0, 1) := by decide +kernel
theorem dX0_narrow_3 : decode cX0_narrow 3 = .ok (.getfield 22, 3) := by decide +kernel
theorem dX0_narrow_6 : decode cX0_narrow 6 = .ok (.aload_n 0, 1) := by decide +kernel
theorem dX0_narrow_7 : decode cX0_narrow 7 = .ok (.getfield 26, 3) := by decide +kernel
theorem dX0_narrow_10 : decode cX0_narrow 10 = .ok (.invokevirtual 41, 3) := by decide +kernel
theorem dX0_narrow_13 : decode cX0_narrow 13 = .ok (.ireturn, 1) := by decide +kernel
set_option maxRecDepth 20000 in
theorem ggX0_wide_X0_wideSum : GoodIn wsX0_wide wsX0_wideSum := goodIn_r _ [7, 8, 9, 10, 11, 12, 13, 14, 15, 6, 16, 17, 18, 19, 20, 21, 22, 23, 24, 25, 26, 27, 28, 29, 30, 31, 32, 33, 34, 35, 36, 37, 38, 39, 40, 41, 42, 43, 44, 1, 45, 46, 47, 48, 49, 50, 51, 52] (by decide +kernel) (by decide +kernel)
set_option maxRecDepth 20000 in
theorem gX0_wide_X0_wideSum : GoodIn wsX0_wide (wsV RX0 45 RX0 yX0_wideSum wsX0_wideSum) := goodIn_app (goodIn_of _ (by decide +kernel)) ggX0_wide_X0_wideSum
theorem dX0_wide_0 : decode cX0_wide 0 = .ok (.aload_n 0, 1) := by decide +kernel
theorem dX0_wide_1 : decode cX0_wide 1 = .ok (.iconst 0, 1) := by decide +kernel
theorem dX0_wide_2 : decode cX0_wide 2 = .ok (.aload_n 0, 1) := by decide +kernel
theorem dX0_wide_3 : decode cX0_wide 3 = .ok (.getfield 22, 3) := by decide +kernel
theorem dX0_wide_6 : decode cX0_wide 6 = .ok (.aload_n 0, 1) := by decide +kernel
theorem dX0_wide_7 : decode cX0_wide 7 = .ok (.getfield 29, 3) := by decide +kernel
theorem dX0_wide_10 : decode cX0_wide 10 = .ok (.invokevirtual 45, 3) := by decide +kernel
theorem dX0_wide_13 : decode cX0_wide 13 = .ok (.lreturn, 1) := by decide +kernel
set_option maxRecDepth 20000 in
theorem ggX0_poly_X0_polySum : GoodIn wsX0_poly wsX0_polySum := goodIn_r _ [6, 7, 8, 9, 10, 5, 11, 1, 12, 13, 14, 15, 16, 17] (by decide +kernel) (by decide +kernel)
set_option maxRecDepth 20000 in
theorem gX0_poly_X0_polySum : GoodIn wsX0_poly (wsV RX0 49 RX0 yX0_polySum wsX0_polySum) := goodIn_app (goodIn_of _ (by decide +kernel)) ggX0_poly_X0_polySum
theorem dX0_poly_0 : decode cX0_poly 0 = .ok (.aload_n 0, 1) := by decide +kernel
theorem dX0_poly_1 : decode cX0_poly 1 = .ok (.iconst 0, 1) := by decide +kernel
theorem dX0_poly_2 : decode cX0_poly 2 = .ok (.aload_n 0, 1) := by decide +kernel
theorem dX0_poly_3 : decode cX0_poly 3 = .ok (.getfield 22, 3) := by decide +kernel
theorem dX0_poly_6 : decode cX0_poly 6 = .ok (.invokevirtual 49, 3) := by decide +kernel
theorem dX0_poly_9 : decode cX0_poly 9 = .ok (.ireturn, 1) := by decide +kernel
set_option maxRecDepth 20000 in
theorem ggX0_narrowOf_X0_isPart : GoodIn wsX0_narrowOf wsX0_isPart := goodIn_r _ [5, 6, 39, 40, 41, 42, 43] (by decide +kernel) (by decide +kernel)
set_option maxRecDepth 20000 in
theorem gX0_narrowOf_X0_isPart : GoodIn wsX0_narrowOf (wsV RX0 52 RX0 yX0_isPart wsX0_isPart) := goodIn_app (goodIn_of _ (by decide +kernel)) ggX0_narrowOf_X0_isPart
set_option maxRecDepth 20000 in
theorem ggX0_narrowOf_X0_narrowSum : GoodIn wsX0_narrowOf wsX0_narrowSum := goodIn_r _ [10, 11, 12, 13, 14, 15, 16, 17, 4, 18, 19, 20, 21, 22, 23, 24, 25, 26, 27, 28, 29, 30, 31, 32, 33, 34, 35, 6, 36, 37, 38, 39, 40, 41, 42, 43] (by decide +kernel) (by decide +kernel)
set_option maxRecDepth 20000 in
theorem gX0_narrowOf_X0_narrowSum : GoodIn wsX0_narrowOf (wsV RX0 41 RX0 yX0_narrowSum wsX0_narrowSum) := goodIn_app (goodIn_of _ (by decide +kernel)) ggX0_narrowOf_X0_narrowSum
theorem dX0_narrowOf_0 : decode cX0_narrowOf 0 = .ok (.aload_n 0, 1) := by decide +kernel
theorem dX0_narrowOf_1 : decode cX0_narrowOf 1 = .ok (.iload_n 1, 1) := by decide +kernel
theorem dX0_narrowOf_2 : decode cX0_narrowOf 2 = .ok (.iload_n 2, 1) := by decide +kernel
theorem dX0_narrowOf_3 : decode cX0_narrowOf 3 = .ok (.invokevirtual 52, 3) := by decide +kernel
theorem dX0_narrowOf_6 : decode cX0_narrowOf 6 = .ok (.ifCond .eq 13, 3) := by decide +kernel
theorem dX0_narrowOf_9 : decode cX0_narrowOf 9 = .ok (.aload_n 0, 1) := by decide +kernel
theorem dX0_narrowOf_10 : decode cX0_narrowOf 10 = .ok (.iload_n 1, 1) := by decide +kernel
theorem dX0_narrowOf_11 : decode cX0_narrowOf 11 = .ok (.iload_n 2, 1) := by decide +kernel
theorem dX0_narrowOf_12 : decode cX0_narrowOf 12 = .ok (.iload_n 3, 1) := by decide +kernel
theorem dX0_narrowOf_13 : decode cX0_narrowOf 13 = .ok (.invokevirtual 41, 3) := by decide +kernel
theorem dX0_narrowOf_16 : decode cX0_narrowOf 16 = .ok (.goto 10, 3) := by decide +kernel
theorem dX0_narrowOf_19 : decode cX0_narrowOf 19 = .ok (.aload_n 0, 1) := by decide +kernel
theorem dX0_narrowOf_20 : decode cX0_narrowOf 20 = .ok (.iconst 0, 1) := by decide +kernel
theorem dX0_narrowOf_21 : decode cX0_narrowOf 21 = .ok (.iconst 0, 1) := by decide +kernel
theorem dX0_narrowOf_22 : decode cX0_narrowOf 22 = .ok (.iload_n 3, 1) := by decide +kernel
theorem dX0_narrowOf_23 : decode cX0_narrowOf 23 = .ok (.invokevirtual 41, 3) := by decide +kernel
theorem dX0_narrowOf_26 : decode cX0_narrowOf 26 = .ok (.ireturn, 1) := by decide +kernel
set_option maxRecDepth 20000 in
theorem ggX0_wideOf_X0_isPart : GoodIn wsX0_wideOf wsX0_isPart := goodIn_r _ [5, 6, 51, 52, 53, 54, 55] (by decide +kernel) (by decide +kernel)
set_option maxRecDepth 20000 in
theorem gX0_wideOf_X0_isPart : GoodIn wsX0_wideOf (wsV RX0 52 RX0 yX0_isPart wsX0_isPart) := goodIn_app (goodIn_of _ (by decide +kernel)) ggX0_wideOf_X0_isPart
set_option maxRecDepth 20000 in
theorem ggX0_wideOf_X0_wideSum : GoodIn wsX0_wideOf wsX0_wideSum := goodIn_r _ [10, 11, 12, 13, 14, 15, 16, 17, 18, 4, 19, 20, 21, 22, 23, 24, 25, 26, 27, 28, 29, 30, 31, 32, 33, 34, 35, 36, 37, 38, 39, 40, 41, 42, 43, 44, 45, 46, 47, 6, 48, 49, 50, 51, 52, 53, 54, 55] (by decide +kernel) (by decide +kernel)
set_option maxRecDepth 20000 in
theorem gX0_wideOf_X0_wideSum : GoodIn wsX0_wideOf (wsV RX0 45 RX0 yX0_wideSum wsX0_wideSum) := goodIn_app (goodIn_of _ (by decide +kernel)) ggX0_wideOf_X0_wideSum
theorem dX0_wideOf_0 : decode cX0_wideOf 0 = .ok (.aload_n 0, 1) := by decide +kernel
theorem dX0_wideOf_1 : decode cX0_wideOf 1 = .ok (.iload_n 1, 1) := by decide +kernel
theorem dX0_wideOf_2 : decode cX0_wideOf 2 = .ok (.iload_n 2, 1) := by decide +kernel
theorem dX0_wideOf_3 : decode cX0_wideOf 3 = .ok (.invokevirtual 52, 3) := by decide +kernel
theorem dX0_wideOf_6 : decode cX0_wideOf 6 = .ok (.ifCond .eq 13, 3) := by decide +kernel
theorem dX0_wideOf_9 : decode cX0_wideOf 9 = .ok (.aload_n 0, 1) := by decide +kernel
theorem dX0_wideOf_10 : decode cX0_wideOf 10 = .ok (.iload_n 1, 1) := by decide +kernel
theorem dX0_wideOf_11 : decode cX0_wideOf 11 = .ok (.iload_n 2, 1) := by decide +kernel
theorem dX0_wideOf_12 : decode cX0_wideOf 12 = .ok (.lload_n 3, 1) := by decide +kernel
theorem dX0_wideOf_13 : decode cX0_wideOf 13 = .ok (.invokevirtual 45, 3) := by decide +kernel
theorem dX0_wideOf_16 : decode cX0_wideOf 16 = .ok (.goto 10, 3) := by decide +kernel
theorem dX0_wideOf_19 : decode cX0_wideOf 19 = .ok (.aload_n 0, 1) := by decide +kernel
theorem dX0_wideOf_20 : decode cX0_wideOf 20 = .ok (.iconst 0, 1) := by decide +kernel
theorem dX0_wideOf_21 : decode cX0_wideOf 21 = .ok (.iconst 0, 1) := by decide +kernel
theorem dX0_wideOf_22 : decode cX0_wideOf 22 = .ok (.lload_n 3, 1) := by decide +kernel
theorem dX0_wideOf_23 : decode cX0_wideOf 23 = .ok (.invokevirtual 45, 3) := by decide +kernel
theorem dX0_wideOf_26 : decode cX0_wideOf 26 = .ok (.lreturn, 1) := by decide +kernel
set_option maxRecDepth 20000 in
theorem ggX0_polyOf_X0_isPart : GoodIn wsX0_polyOf wsX0_isPart := goodIn_r _ [5, 6, 17, 18, 19, 20, 21] (by decide +kernel) (by decide +kernel)
set_option maxRecDepth 20000 in
theorem gX0_polyOf_X0_isPart : GoodIn wsX0_polyOf (wsV RX0 52 RX0 yX0_isPart wsX0_isPart) := goodIn_app (goodIn_of _ (by decide +kernel)) ggX0_polyOf_X0_isPart
set_option maxRecDepth 20000 in
theorem ggX0_polyOf_X0_polySum : GoodIn wsX0_polyOf wsX0_polySum := goodIn_r _ [10, 11, 12, 13, 14, 4, 15, 6, 16, 17, 18, 19, 20, 21] (by decide +kernel) (by decide +kernel)
set_option maxRecDepth 20000 in
theorem gX0_polyOf_X0_polySum : GoodIn wsX0_polyOf (wsV RX0 49 RX0 yX0_polySum wsX0_polySum) := goodIn_app (goodIn_of _ (by decide +kernel)) ggX0_polyOf_X0_polySum
theorem dX0_polyOf_0 : decode cX0_polyOf 0 = .ok (.aload_n 0, 1) := by decide +kernel
theorem dX0_polyOf_1 : decode cX0_polyOf 1 = .ok (.iload_n 1, 1) := by decide +kernel
theorem dX0_polyOf_2 : decode cX0_polyOf 2 = .ok (.iload_n 2, 1) := by decide +kernel
theorem dX0_polyOf_3 : decode cX0_polyOf 3 = .ok (.invokevirtual 52, 3) := by decide +kernel
theorem dX0_polyOf_6 : decode cX0_polyOf 6 = .ok (.ifCond .eq 12, 3) := by decide +kernel
theorem dX0_polyOf_9 : decode cX0_polyOf 9 = .ok (.aload_n 0, 1) := by decide +kernel
theorem dX0_polyOf_10 : decode cX0_polyOf 10 = .ok (.iload_n 1, 1) := by decide +kernel
theorem dX0_polyOf_11 : decode cX0_polyOf 11 = .ok (.iload_n 2, 1) := by decide +kernel
theorem dX0_polyOf_12 : decode cX0_polyOf 12 = .ok (.invokevirtual 49, 3) := by decide +kernel
theorem dX0_polyOf_15 : decode cX0_polyOf 15 = .ok (.goto 9, 3) := by decide +kernel
theorem dX0_polyOf_18 : decode cX0_polyOf 18 = .ok (.aload_n 0, 1) := by decide +kernel
theorem dX0_polyOf_19 : decode cX0_polyOf 19 = .ok (.iconst 0, 1) := by decide +kernel
theorem dX0_polyOf_20 : decode cX0_polyOf 20 = .ok (.iconst 0, 1) := by decide +kernel
theorem dX0_polyOf_21 : decode cX0_polyOf 21 = .ok (.invokevirtual 49, 3) := by decide +kernel
theorem dX0_polyOf_24 : decode cX0_polyOf 24 = .ok (.ireturn, 1) := by decide +kernel
set_option maxRecDepth 20000 in
theorem ggX0_masked_X0_rotated : GoodIn wsX0_masked wsX0_rotated := goodIn_r _ [5] (by decide +kernel) (by decide +kernel)
set_option maxRecDepth 20000 in
theorem gX0_masked_X0_rotated : GoodIn wsX0_masked (va_wsS RX0 57 yX0_rotated wsX0_rotated) := goodIn_app (goodIn_of _ (by decide +kernel)) ggX0_masked_X0_rotated
theorem dX0_masked_0 : decode cX0_masked 0 = .ok (.iload_n 2, 1) := by decide +kernel
theorem dX0_masked_1 : decode cX0_masked 1 = .ok (.ifCond .eq 15, 3) := by decide +kernel
theorem dX0_masked_4 : decode cX0_masked 4 = .ok (.iload_n 1, 1) := by decide +kernel
theorem dX0_masked_5 : decode cX0_masked 5 = .ok (.ldc 56, 2) := by decide +kernel
theorem dX0_masked_7 : decode cX0_masked 7 = .ok (.isub, 1) := by decide +kernel
theorem dX0_masked_8 : decode cX0_masked 8 = .ok (.bipush 15, 2) := by decide +kernel
theorem dX0_masked_10 : decode cX0_masked 10 = .ok (.invokestatic 57, 3) := by decide +kernel
theorem dX0_masked_13 : decode cX0_masked 13 = .ok (.goto 12, 3) := by decide +kernel
theorem dX0_masked_16 : decode cX0_masked 16 = .ok (.iload_n 1, 1) := by decide +kernel
theorem dX0_masked_17 : decode cX0_masked 17 = .ok (.bipush 17, 2) := by decide +kernel
theorem dX0_masked_19 : decode cX0_masked 19 = .ok (.invokestatic 57, 3) := by decide +kernel
theorem dX0_masked_22 : decode cX0_masked 22 = .ok (.ldc 56, 2) := by decide +kernel
theorem dX0_masked_24 : decode cX0_masked 24 = .ok (.iadd, 1) := by decide +kernel
theorem dX0_masked_25 : decode cX0_masked 25 = .ok (.ireturn, 1) := by decide +kernel
set_option maxRecDepth 20000 in
theorem ggX0_joined_X0_movedOn : GoodIn wsX0_joined wsX0_movedOn := goodIn_r _ [5, 6] (by decide +kernel) (by decide +kernel)
set_option maxRecDepth 20000 in
theorem gX0_joined_X0_movedOn : GoodIn wsX0_joined (va_wsS RX0 18 yX0_movedOn wsX0_movedOn) := goodIn_app (goodIn_of _ (by decide +kernel)) ggX0_joined_X0_movedOn
set_option maxRecDepth 20000 in
theorem ggX0_joined_X0_power : GoodIn wsX0_joined wsX0_power := goodIn_r _ [9, 1, 10, 11, 4, 12, 2, 3, 5, 6] (by decide +kernel) (by decide +kernel)
set_option maxRecDepth 20000 in
theorem gX0_joined_X0_power : GoodIn wsX0_joined (va_wsS RX0 61 yX0_power wsX0_power) := goodIn_app (goodIn_of _ (by decide +kernel)) ggX0_joined_X0_power
set_option maxRecDepth 20000 in
theorem ggX0_joined_X0_product : GoodIn wsX0_joined wsX0_product := goodIn_r _ [12, 2, 3, 4, 5, 6] (by decide +kernel) (by decide +kernel)
set_option maxRecDepth 20000 in
theorem gX0_joined_X0_product : GoodIn wsX0_joined (va_wsS RX0 65 yX0_product wsX0_product) := goodIn_app (goodIn_of _ (by decide +kernel)) ggX0_joined_X0_product
theorem dX0_joined_0 : decode cX0_joined 0 = .ok (.iload_n 1, 1) := by decide +kernel
theorem dX0_joined_1 : decode cX0_joined 1 = .ok (.ldc 60, 2) := by decide +kernel
theorem dX0_joined_3 : decode cX0_joined 3 = .ok (.bipush 8, 2) := by decide +kernel
theorem dX0_joined_5 : decode cX0_joined 5 = .ok (.invokestatic 18, 3) := by decide +kernel
theorem dX0_joined_8 : decode cX0_joined 8 = .ok (.lload_n 3, 1) := by decide +kernel
theorem dX0_joined_9 : decode cX0_joined 9 = .ok (.invokestatic 61, 3) := by decide +kernel
theorem dX0_joined_12 : decode cX0_joined 12 = .ok (.invokestatic 65, 3) := by decide +kernel
theorem dX0_joined_15 : decode cX0_joined 15 = .ok (.iload_n 2, 1) := by decide +kernel
theorem dX0_joined_16 : decode cX0_joined 16 = .ok (.ixor, 1) := by decide +kernel
theorem dX0_joined_17 : decode cX0_joined 17 = .ok (.ireturn, 1) := by decide +kernel
set_option maxRecDepth 20000 in
theorem ggX0_cut_X0_movedBack : GoodIn wsX0_cut wsX0_movedBack := goodIn_r _ [5, 6] (by decide +kernel) (by decide +kernel)
set_option maxRecDepth 20000 in
theorem gX0_cut_X0_movedBack : GoodIn wsX0_cut (va_wsS RX0 68 yX0_movedBack wsX0_movedBack) := goodIn_app (goodIn_of _ (by decide +kernel)) ggX0_cut_X0_movedBack
set_option maxRecDepth 20000 in
theorem ggX0_cut_X0_power : GoodIn wsX0_cut wsX0_power := goodIn_r _ [9, 1, 10, 11, 4, 12, 13, 14, 15, 6] (by decide +kernel) (by decide +kernel)
set_option maxRecDepth 20000 in
theorem gX0_cut_X0_power : GoodIn wsX0_cut (va_wsS RX0 61 yX0_power wsX0_power) := goodIn_app (goodIn_of _ (by decide +kernel)) ggX0_cut_X0_power
set_option maxRecDepth 20000 in
theorem ggX0_cut_X0_product : GoodIn wsX0_cut wsX0_product := goodIn_r _ [12, 13, 14, 4, 15, 6] (by decide +kernel) (by decide +kernel)
set_option maxRecDepth 20000 in
theorem gX0_cut_X0_product : GoodIn wsX0_cut (va_wsS RX0 65 yX0_product wsX0_product) := goodIn_app (goodIn_of _ (by decide +kernel)) ggX0_cut_X0_product
theorem dX0_cut_0 : decode cX0_cut 0 = .ok (.iload_n 1, 1) := by decide +kernel
theorem dX0_cut_1 : decode cX0_cut 1 = .ok (.iload_n 2, 1) := by decide +kernel
theorem dX0_cut_2 : decode cX0_cut 2 = .ok (.ixor, 1) := by decide +kernel
theorem dX0_cut_3 : decode cX0_cut 3 = .ok (.ldc 60, 2) := by decide +kernel
theorem dX0_cut_5 : decode cX0_cut 5 = .ok (.bipush 8, 2) := by decide +kernel
theorem dX0_cut_7 : decode cX0_cut 7 = .ok (.invokestatic 68, 3) := by decide +kernel
theorem dX0_cut_10 : decode cX0_cut 10 = .ok (.lload_n 3, 1) := by decide +kernel
theorem dX0_cut_11 : decode cX0_cut 11 = .ok (.invokestatic 61, 3) := by decide +kernel
theorem dX0_cut_14 : decode cX0_cut 14 = .ok (.invokestatic 65, 3) := by decide +kernel
theorem dX0_cut_17 : decode cX0_cut 17 = .ok (.ireturn, 1) := by decide +kernel
set_option maxRecDepth 20000 in
theorem ggX0_forged_X0_poly : GoodIn wsX0_forged wsX0_poly := goodIn_r _ [5, 6, 7, 8, 9, 4, 10, 11, 12, 13, 14, 15, 16, 28, 29, 30, 31, 32] (by decide +kernel) (by decide +kernel)
set_option maxRecDepth 20000 in
theorem gX0_forged_X0_poly : GoodIn wsX0_forged (wsV RX0 71 RX0 yX0_poly wsX0_poly) := goodIn_app (goodIn_of _ (by decide +kernel)) ggX0_forged_X0_poly
set_option maxRecDepth 20000 in
theorem ggX0_forged_X0_fourBetween : GoodIn wsX0_forged wsX0_fourBetween := goodIn_r _ [19, 20, 21, 4, 22, 23, 24, 25, 26, 27] (by decide +kernel) (by decide +kernel)
set_option maxRecDepth 20000 in
theorem gX0_forged_X0_fourBetween : GoodIn wsX0_forged (va_wsS RX0 75 yX0_fourBetween wsX0_fourBetween) := goodIn_app (goodIn_of _ (by decide +kernel)) ggX0_forged_X0_fourBetween
theorem dX0_forged_0 : decode cX0_forged 0 = .ok (.aload_n 0, 1) := by decide +kernel
theorem dX0_forged_1 : decode cX0_forged 1 = .ok (.invokevirtual 71, 3) := by decide +kernel
theorem dX0_forged_4 : decode cX0_forged 4 = .ok (.iload_n 1, 1) := by decide +kernel
theorem dX0_forged_5 : decode cX0_forged 5 = .ok (.invokestatic 75, 3) := by decide +kernel
theorem dX0_forged_8 : decode cX0_forged 8 = .ok (.ireturn, 1) := by decide +kernel
set_option maxRecDepth 20000 in
theorem ggX0_mended_X0_polySum : GoodIn wsX0_mended wsX0_polySum := goodIn_r _ [6, 7, 8, 9, 10, 5, 11, 1, 12, 38, 39, 40, 41, 42] (by decide +kernel) (by decide +kernel)
set_option maxRecDepth 20000 in
theorem gX0_mended_X0_polySum : GoodIn wsX0_mended (wsV RX0 49 RX0 yX0_polySum wsX0_polySum) := goodIn_app (goodIn_of _ (by decide +kernel)) ggX0_mended_X0_polySum
set_option maxRecDepth 20000 in
theorem ggX0_mended_X0_cut : GoodIn wsX0_mended wsX0_cut := goodIn_r _ [16, 17, 18, 19, 5, 20, 21, 22, 23, 24, 25, 26, 27, 28, 29, 30] (by decide +kernel) (by decide +kernel)
set_option maxRecDepth 20000 in
theorem gX0_mended_X0_cut : GoodIn wsX0_mended (wsV RX0 78 RX0 yX0_cut wsX0_cut) := goodIn_app (goodIn_of _ (by decide +kernel)) ggX0_mended_X0_cut
set_option maxRecDepth 20000 in
theorem ggX0_mended_X0_fourBetween : GoodIn wsX0_mended wsX0_fourBetween := goodIn_r _ [33, 18, 19, 5, 20, 21, 34, 35, 36, 37] (by decide +kernel) (by decide +kernel)
set_option maxRecDepth 20000 in
theorem gX0_mended_X0_fourBetween : GoodIn wsX0_mended (va_wsS RX0 75 yX0_fourBetween wsX0_fourBetween) := goodIn_app (goodIn_of _ (by decide +kernel)) ggX0_mended_X0_fourBetween
theorem dX0_mended_0 : decode cX0_mended 0 = .ok (.iload_n 1, 1) := by decide +kernel
theorem dX0_mended_1 : decode cX0_mended 1 = .ok (.ifCond .lt 13, 3) := by decide +kernel
theorem dX0_mended_4 : decode cX0_mended 4 = .ok (.iload_n 1, 1) := by decide +kernel
theorem dX0_mended_5 : decode cX0_mended 5 = .ok (.aload_n 0, 1) := by decide +kernel
theorem dX0_mended_6 : decode cX0_mended 6 = .ok (.getfield 22, 3) := by decide +kernel
theorem dX0_mended_9 : decode cX0_mended 9 = .ok (.iconst 4, 1) := by decide +kernel
theorem dX0_mended_10 : decode cX0_mended 10 = .ok (.isub, 1) := by decide +kernel
theorem dX0_mended_11 : decode cX0_mended 11 = .ok (.if_icmp .le 5, 3) := by decide +kernel
theorem dX0_mended_14 : decode cX0_mended 14 = .ok (.iconst 0, 1) := by decide +kernel
theorem dX0_mended_15 : decode cX0_mended 15 = .ok (.ireturn, 1) := by decide +kernel
theorem dX0_mended_16 : decode cX0_mended 16 = .ok (.iload_n 1, 1) := by decide +kernel
theorem dX0_mended_17 : decode cX0_mended 17 = .ok (.iconst 4, 1) := by decide +kernel
theorem dX0_mended_18 : decode cX0_mended 18 = .ok (.iadd, 1) := by decide +kernel
theorem dX0_mended_19 : decode cX0_mended 19 = .ok (.istore_n 3, 1) := by decide +kernel
theorem dX0_mended_20 : decode cX0_mended 20 = .ok (.aload_n 0, 1) := by decide +kernel
theorem dX0_mended_21 : decode cX0_mended 21 = .ok (.iload_n 2, 1) := by decide +kernel
theorem dX0_mended_22 : decode cX0_mended 22 = .ok (.aload_n 0, 1) := by decide +kernel
theorem dX0_mended_23 : decode cX0_mended 23 = .ok (.iload_n 3, 1) := by decide +kernel
theorem dX0_mended_24 : decode cX0_mended 24 = .ok (.aload_n 0, 1) := by decide +kernel
theorem dX0_mended_25 : decode cX0_mended 25 = .ok (.getfield 22, 3) := by decide +kernel
theorem dX0_mended_28 : decode cX0_mended 28 = .ok (.invokevirtual 49, 3) := by decide +kernel
theorem dX0_mended_31 : decode cX0_mended 31 = .ok (.aload_n 0, 1) := by decide +kernel
theorem dX0_mended_32 : decode cX0_mended 32 = .ok (.getfield 22, 3) := by decide +kernel
theorem dX0_mended_35 : decode cX0_mended 35 = .ok (.iload_n 3, 1) := by decide +kernel
theorem dX0_mended_36 : decode cX0_mended 36 = .ok (.isub, 1) := by decide +kernel
theorem dX0_mended_37 : decode cX0_mended 37 = .ok (.i2l, 1) := by decide +kernel
theorem dX0_mended_38 : decode cX0_mended 38 = .ok (.invokevirtual 78, 3) := by decide +kernel
theorem dX0_mended_41 : decode cX0_mended 41 = .ok (.istore 4, 2) := by decide +kernel
theorem dX0_mended_43 : decode cX0_mended 43 = .ok (.aload_n 0, 1) := by decide +kernel
theorem dX0_mended_44 : decode cX0_mended 44 = .ok (.iconst 0, 1) := by decide +kernel
theorem dX0_mended_45 : decode cX0_mended 45 = .ok (.iload_n 1, 1) := by decide +kernel
theorem dX0_mended_46 : decode cX0_mended 46 = .ok (.invokevirtual 49, 3) := by decide +kernel
theorem dX0_mended_49 : decode cX0_mended 49 = .ok (.iload 4, 2) := by decide +kernel
theorem dX0_mended_51 : decode cX0_mended 51 = .ok (.invokestatic 75, 3) := by decide +kernel
theorem dX0_mended_54 : decode cX0_mended 54 = .ok (.ireturn, 1) := by decide +kernel
theorem dX0_append_0 : decode cX0_append 0 = .ok (.aload_n 0, 1) := by decide +kernel
theorem dX0_append_1 : decode cX0_append 1 = .ok (.getfield 22, 3) := by decide +kernel
theorem dX0_append_4 : decode cX0_append 4 = .ok (.ldc 9, 2) := by decide +kernel
theorem dX0_append_6 : decode cX0_append 6 = .ok (.if_icmp .ge 24, 3) := by decide +kernel
theorem dX0_append_9 : decode cX0_append 9 = .ok (.aload_n 0, 1) := by decide +kernel
theorem dX0_append_10 : decode cX0_append 10 = .ok (.getfield 10, 3) := by decide +kernel
theorem dX0_append_13 : decode cX0_append 13 = .ok (.aload_n 0, 1) := by decide +kernel
theorem dX0_append_14 : decode cX0_append 14 = .ok (.getfield 22, 3) := by decide +kernel
theorem dX0_append_17 : decode cX0_append 17 = .ok (.iload_n 1, 1) := by decide +kernel
theorem dX0_append_18 : decode cX0_append 18 = .ok (.i2b, 1) := by decide +kernel
theorem dX0_append_19 : decode cX0_append 19 = .ok (.bastore, 1) := by decide +kernel
theorem dX0_append_20 : decode cX0_append 20 = .ok (.aload_n 0, 1) := by decide +kernel
theorem dX0_append_21 : decode cX0_append 21 = .ok (.dup, 1) := by decide +kernel
theorem dX0_append_22 : decode cX0_append 22 = .ok (.getfield 22, 3) := by decide +kernel
theorem dX0_append_25 : decode cX0_append 25 = .ok (.iconst 1, 1) := by decide +kernel
theorem dX0_append_26 : decode cX0_append 26 = .ok (.iadd, 1) := by decide +kernel
theorem dX0_append_27 : decode cX0_append 27 = .ok (.putfield 22, 3) := by decide +kernel
theorem dX0_append_30 : decode cX0_append 30 = .ok (.return_, 1) := by decide +kernel
theorem dX0_isPart_0 : decode cX0_isPart 0 = .ok (.iconst 0, 1) := by decide +kernel
theorem dX0_isPart_1 : decode cX0_isPart 1 = .ok (.iload_n 1, 1) := by decide +kernel
theorem dX0_isPart_2 : decode cX0_isPart 2 = .ok (.if_icmp .gt 20, 3) := by decide +kernel
theorem dX0_isPart_5 : decode cX0_isPart 5 = .ok (.iload_n 1, 1) := by decide +kernel
theorem dX0_isPart_6 : decode cX0_isPart 6 = .ok (.iload_n 2, 1) := by decide +kernel
theorem dX0_isPart_7 : decode cX0_isPart 7 = .ok (.if_icmp .gt 15, 3) := by decide +kernel
theorem dX0_isPart_10 : decode cX0_isPart 10 = .ok (.iload_n 2, 1) := by decide +kernel
theorem dX0_isPart_11 : decode cX0_isPart 11 = .ok (.aload_n 0, 1) := by decide +kernel
theorem dX0_isPart_12 : decode cX0_isPart 12 = .ok (.getfield 22, 3) := by decide +kernel
theorem dX0_isPart_15 : decode cX0_isPart 15 = .ok (.if_icmp .gt 7, 3) := by decide +kernel
theorem dX0_isPart_18 : decode cX0_isPart 18 = .ok (.iconst 1, 1) := by decide +kernel
theorem dX0_isPart_19 : decode cX0_isPart 19 = .ok (.goto 4, 3) := by decide +kernel
theorem dX0_isPart_22 : decode cX0_isPart 22 = .ok (.iconst 0, 1) := by decide +kernel
theorem dX0_isPart_23 : decode cX0_isPart 23 = .ok (.ireturn, 1) := by decide +kernel
theorem dX0_word_0 : decode cX0_word 0 = .ok (.iload_n 1, 1) := by decide +kernel
theorem dX0_word_1 : decode cX0_word 1 = .ok (.ifCond .lt 9, 3) := by decide +kernel
theorem dX0_word_4 : decode cX0_word 4 = .ok (.iload_n 1, 1) := by decide +kernel
theorem dX0_word_5 : decode cX0_word 5 = .ok (.ldc 82, 2) := by decide +kernel
theorem dX0_word_7 : decode cX0_word 7 = .ok (.if_icmp .le 5, 3) := by decide +kernel
theorem dX0_word_10 : decode cX0_word 10 = .ok (.iconst 0, 1) := by decide +kernel
theorem dX0_word_11 : decode cX0_word 11 = .ok (.ireturn, 1) := by decide +kernel
theorem dX0_word_12 : decode cX0_word 12 = .ok (.aload_n 0, 1) := by decide +kernel
theorem dX0_word_13 : decode cX0_word 13 = .ok (.getfield 10, 3) := by decide +kernel
theorem dX0_word_16 : decode cX0_word 16 = .ok (.iload_n 1, 1) := by decide +kernel
theorem dX0_word_17 : decode cX0_word 17 = .ok (.baload, 1) := by decide +kernel
theorem dX0_word_18 : decode cX0_word 18 = .ok (.sipush 255, 3) := by decide +kernel
theorem dX0_word_21 : decode cX0_word 21 = .ok (.iand, 1) := by decide +kernel
theorem dX0_word_22 : decode cX0_word 22 = .ok (.aload_n 0, 1) := by decide +kernel
theorem dX0_word_23 : decode cX0_word 23 = .ok (.getfield 10, 3) := by decide +kernel
theorem dX0_word_26 : decode cX0_word 26 = .ok (.iload_n 1, 1) := by decide +kernel
theorem dX0_word_27 : decode cX0_word 27 = .ok (.iconst 1, 1) := by decide +kernel
theorem dX0_word_28 : decode cX0_word 28 = .ok (.iadd, 1) := by decide +kernel
theorem dX0_word_29 : decode cX0_word 29 = .ok (.baload, 1) := by decide +kernel
theorem dX0_word_30 : decode cX0_word 30 = .ok (.sipush 255, 3) := by decide +kernel
theorem dX0_word_33 : decode cX0_word 33 = .ok (.iand, 1) := by decide +kernel
theorem dX0_word_34 : decode cX0_word 34 = .ok (.bipush 8, 2) := by decide +kernel
theorem dX0_word_36 : decode cX0_word 36 = .ok (.ishl, 1) := by decide +kernel
theorem dX0_word_37 : decode cX0_word 37 = .ok (.ior, 1) := by decide +kernel
theorem dX0_word_38 : decode cX0_word 38 = .ok (.aload_n 0, 1) := by decide +kernel
theorem dX0_word_39 : decode cX0_word 39 = .ok (.getfield 10, 3) := by decide +kernel
theorem dX0_word_42 : decode cX0_word 42 = .ok (.iload_n 1, 1) := by decide +kernel
theorem dX0_word_43 : decode cX0_word 43 = .ok (.iconst 2, 1) := by decide +kernel
theorem dX0_word_44 : decode cX0_word 44 = .ok (.iadd, 1) := by decide +kernel
theorem dX0_word_45 : decode cX0_word 45 = .ok (.baload, 1) := by decide +kernel
theorem dX0_word_46 : decode cX0_word 46 = .ok (.sipush 255, 3) := by decide +kernel
theorem dX0_word_49 : decode cX0_word 49 = .ok (.iand, 1) := by decide +kernel
theorem dX0_word_50 : decode cX0_word 50 = .ok (.bipush 16, 2) := by decide +kernel
theorem dX0_word_52 : decode cX0_word 52 = .ok (.ishl, 1) := by decide +kernel
theorem dX0_word_53 : decode cX0_word 53 = .ok (.ior, 1) := by decide +kernel
theorem dX0_word_54 : decode cX0_word 54 = .ok (.aload_n 0, 1) := by decide +kernel
theorem dX0_word_55 : decode cX0_word 55 = .ok (.getfield 10, 3) := by decide +kernel
theorem dX0_word_58 : decode cX0_word 58 = .ok (.iload_n 1, 1) := by decide +kernel
theorem dX0_word_59 : decode cX0_word 59 = .ok (.iconst 3, 1) := by decide +kernel
theorem dX0_word_60 : decode cX0_word 60 = .ok (.iadd, 1) := by decide +kernel
theorem dX0_word_61 : decode cX0_word 61 = .ok (.baload, 1) := by decide +kernel
theorem dX0_word_62 : decode cX0_word 62 = .ok (.sipush 255, 3) := by decide +kernel
theorem dX0_word_65 : decode cX0_word 65 = .ok (.iand, 1) := by decide +kernel
theorem dX0_word_66 : decode cX0_word 66 = .ok (.bipush 24, 2) := by decide +kernel
theorem dX0_word_68 : decode cX0_word 68 = .ok (.ishl, 1) := by decide +kernel
theorem dX0_word_69 : decode cX0_word 69 = .ok (.ior, 1) := by decide +kernel
theorem dX0_word_70 : decode cX0_word 70 = .ok (.ireturn, 1) := by decide +kernel
set_option maxRecDepth 20000 in
theorem ggX0_unsignedWord_X0_word : GoodIn wsX0_unsignedWord wsX0_word := goodIn_r _ [6, 7, 8, 9, 10, 11, 12, 13] (by decide +kernel) (by decide +kernel)
set_option maxRecDepth 20000 in
theorem gX0_unsignedWord_X0_word : GoodIn wsX0_unsignedWord (wsV RX0 83 RX0 yX0_word wsX0_word) := goodIn_app (goodIn_of _ (by decide +kernel)) ggX0_unsignedWord_X0_word
theorem dX0_unsignedWord_0 : decode cX0_unsignedWord 0 = .ok (.aload_n 0, 1) := by decide +kernel
theorem dX0_unsignedWord_1 : decode cX0_unsignedWord 1 = .ok (.iload_n 1, 1) := by decide +kernel
theorem dX0_unsignedWord_2 : decode cX0_unsignedWord 2 = .ok (.invokevirtual 83, 3) := by decide +kernel
theorem dX0_unsignedWord_5 : decode cX0_unsignedWord 5 = .ok (.i2l, 1) := by decide +kernel
theorem dX0_unsignedWord_6 : decode cX0_unsignedWord 6 = .ok (.ldc2_w 86, 3) := by decide +kernel
theorem dX0_unsignedWord_9 : decode cX0_unsignedWord 9 = .ok (.land, 1) := by decide +kernel
theorem dX0_unsignedWord_10 : decode cX0_unsignedWord 10 = .ok (.lreturn, 1) := by decide +kernel
set_option maxRecDepth 20000 in
theorem ggX0_longWord_X0_unsignedWord : GoodIn wsX0_longWord wsX0_unsignedWord := goodIn_r _ [5, 6, 7, 8, 9, 4, 10, 11, 12, 13, 14, 15, 16, 17] (by decide +kernel) (by decide +kernel)
set_option maxRecDepth 20000 in
theorem gX0_longWord_X0_unsignedWord : GoodIn wsX0_longWord (wsV RX0 88 RX0 yX0_unsignedWord wsX0_unsignedWord) := goodIn_app (goodIn_of _ (by decide +kernel)) ggX0_longWord_X0_unsignedWord
theorem dX0_longWord_0 : decode cX0_longWord 0 = .ok (.aload_n 0, 1) := by decide +kernel
theorem dX0_longWord_1 : decode cX0_longWord 1 = .ok (.iload_n 1, 1) := by decide +kernel
theorem dX0_longWord_2 : decode cX0_longWord 2 = .ok (.invokevirtual 88, 3) := by decide +kernel
theorem dX0_longWord_5 : decode cX0_longWord 5 = .ok (.aload_n 0, 1) := by decide +kernel
theorem dX0_longWord_6 : decode cX0_longWord 6 = .ok (.iload_n 1, 1) := by decide +kernel
theorem dX0_longWord_7 : decode cX0_longWord 7 = .ok (.iconst 4, 1) := by decide +kernel
theorem dX0_longWord_8 : decode cX0_longWord 8 = .ok (.iadd, 1) := by decide +kernel
theorem dX0_longWord_9 : decode cX0_longWord 9 = .ok (.invokevirtual 88, 3) := by decide +kernel
theorem dX0_longWord_12 : decode cX0_longWord 12 = .ok (.bipush 32, 2) := by decide +kernel
theorem dX0_longWord_14 : decode cX0_longWord 14 = .ok (.lshl, 1) := by decide +kernel
theorem dX0_longWord_15 : decode cX0_longWord 15 = .ok (.lor, 1) := by decide +kernel
theorem dX0_longWord_16 : decode cX0_longWord 16 = .ok (.lreturn, 1) := by decide +kernel
theorem dX0_rotated_0 : decode cX0_rotated 0 = .ok (.iload_n 0, 1) := by decide +kernel
theorem dX0_rotated_1 : decode cX0_rotated 1 = .ok (.iload_n 1, 1) := by decide +kernel
theorem dX0_rotated_2 : decode cX0_rotated 2 = .ok (.ishl, 1) := by decide +kernel
theorem dX0_rotated_3 : decode cX0_rotated 3 = .ok (.iload_n 0, 1) := by decide +kernel
theorem dX0_rotated_4 : decode cX0_rotated 4 = .ok (.bipush 32, 2) := by decide +kernel
theorem dX0_rotated_6 : decode cX0_rotated 6 = .ok (.iload_n 1, 1) := by decide +kernel
theorem dX0_rotated_7 : decode cX0_rotated 7 = .ok (.isub, 1) := by decide +kernel
theorem dX0_rotated_8 : decode cX0_rotated 8 = .ok (.iushr, 1) := by decide +kernel
theorem dX0_rotated_9 : decode cX0_rotated 9 = .ok (.ior, 1) := by decide +kernel
theorem dX0_rotated_10 : decode cX0_rotated 10 = .ok (.ireturn, 1) := by decide +kernel
theorem dX0_rotatedLong_0 : decode cX0_rotatedLong 0 = .ok (.lload_n 0, 1) := by decide +kernel
theorem dX0_rotatedLong_1 : decode cX0_rotatedLong 1 = .ok (.iload_n 2, 1) := by decide +kernel
theorem dX0_rotatedLong_2 : decode cX0_rotatedLong 2 = .ok (.lshl, 1) := by decide +kernel
theorem dX0_rotatedLong_3 : decode cX0_rotatedLong 3 = .ok (.lload_n 0, 1) := by decide +kernel
theorem dX0_rotatedLong_4 : decode cX0_rotatedLong 4 = .ok (.bipush 64, 2) := by decide +kernel
theorem dX0_rotatedLong_6 : decode cX0_rotatedLong 6 = .ok (.iload_n 2, 1) := by decide +kernel
theorem dX0_rotatedLong_7 : decode cX0_rotatedLong 7 = .ok (.isub, 1) := by decide +kernel
theorem dX0_rotatedLong_8 : decode cX0_rotatedLong 8 = .ok (.lushr, 1) := by decide +kernel
theorem dX0_rotatedLong_9 : decode cX0_rotatedLong 9 = .ok (.lor, 1) := by decide +kernel
theorem dX0_rotatedLong_10 : decode cX0_rotatedLong 10 = .ok (.lreturn, 1) := by decide +kernel
set_option maxRecDepth 20000 in
theorem ggX0_narrowSum_X0_narrowOfLanes : GoodIn wsX0_narrowSum wsX0_narrowOfLanes := goodIn_r _ [9, 4, 10, 11, 12, 13, 8, 14, 15, 16, 17, 18, 19, 20, 21, 22, 31, 32, 33, 34, 35] (by decide +kernel) (by decide +kernel)
set_option maxRecDepth 20000 in
theorem gX0_narrowSum_X0_narrowOfLanes : GoodIn wsX0_narrowSum (wsV RX0 92 RX0 yX0_narrowOfLanes wsX0_narrowOfLanes) := goodIn_app (goodIn_of _ (by decide +kernel)) ggX0_narrowSum_X0_narrowOfLanes
set_option maxRecDepth 20000 in
theorem ggX0_narrowSum_X0_word : GoodIn wsX0_narrowSum wsX0_word := goodIn_r _ [14, 15, 16, 31, 32, 33, 34, 35] (by decide +kernel) (by decide +kernel)
set_option maxRecDepth 20000 in
theorem gX0_narrowSum_X0_word : GoodIn wsX0_narrowSum (wsV RX0 83 RX0 yX0_word wsX0_word) := goodIn_app (goodIn_of _ (by decide +kernel)) ggX0_narrowSum_X0_word
set_option maxRecDepth 20000 in
theorem ggX0_narrowSum_X0_rotated : GoodIn wsX0_narrowSum wsX0_rotated := goodIn_r _ [22] (by decide +kernel) (by decide +kernel)
set_option maxRecDepth 20000 in
theorem gX0_narrowSum_X0_rotated : GoodIn wsX0_narrowSum (va_wsS RX0 57 yX0_rotated wsX0_rotated) := goodIn_app (goodIn_of _ (by decide +kernel)) ggX0_narrowSum_X0_rotated
set_option maxRecDepth 20000 in
theorem ggX0_narrowSum_X0_byteAt : GoodIn wsX0_narrowSum wsX0_byteAt := goodIn_r _ [26, 27, 16, 31, 32, 33, 34, 35] (by decide +kernel) (by decide +kernel)
set_option maxRecDepth 20000 in
theorem gX0_narrowSum_X0_byteAt : GoodIn wsX0_narrowSum (wsV RX0 37 RX0 yX0_byteAt wsX0_byteAt) := goodIn_app (goodIn_of _ (by decide +kernel)) ggX0_narrowSum_X0_byteAt
set_option maxRecDepth 20000 in
theorem ggX0_narrowSum_X0_narrowStirred : GoodIn wsX0_narrowSum wsX0_narrowStirred := goodIn_r _ [30, 10, 2] (by decide +kernel) (by decide +kernel)
set_option maxRecDepth 20000 in
theorem gX0_narrowSum_X0_narrowStirred : GoodIn wsX0_narrowSum (va_wsS RX0 99 yX0_narrowStirred wsX0_narrowStirred) := goodIn_app (goodIn_of _ (by decide +kernel)) ggX0_narrowSum_X0_narrowStirred
theorem dX0_narrowSum_0 : decode cX0_narrowSum 0 = .ok (.iload_n 2, 1) := by decide +kernel
theorem dX0_narrowSum_1 : decode cX0_narrowSum 1 = .ok (.iload_n 1, 1) := by decide +kernel
theorem dX0_narrowSum_2 : decode cX0_narrowSum 2 = .ok (.isub, 1) := by decide +kernel
theorem dX0_narrowSum_3 : decode cX0_narrowSum 3 = .ok (.istore 4, 2) := by decide +kernel
theorem dX0_narrowSum_5 : decode cX0_narrowSum 5 = .ok (.iload 4, 2) := by decide +kernel
theorem dX0_narrowSum_7 : decode cX0_narrowSum 7 = .ok (.bipush 16, 2) := by decide +kernel
theorem dX0_narrowSum_9 : decode cX0_narrowSum 9 = .ok (.if_icmp .lt 13, 3) := by decide +kernel
theorem dX0_narrowSum_12 : decode cX0_narrowSum 12 = .ok (.aload_n 0, 1) := by decide +kernel
theorem dX0_narrowSum_13 : decode cX0_narrowSum 13 = .ok (.iload_n 1, 1) := by decide +kernel
theorem dX0_narrowSum_14 : decode cX0_narrowSum 14 = .ok (.iload_n 2, 1) := by decide +kernel
theorem dX0_narrowSum_15 : decode cX0_narrowSum 15 = .ok (.iload_n 3, 1) := by decide +kernel
theorem dX0_narrowSum_16 : decode cX0_narrowSum 16 = .ok (.invokevirtual 92, 3) := by decide +kernel
theorem dX0_narrowSum_19 : decode cX0_narrowSum 19 = .ok (.goto 7, 3) := by decide +kernel
theorem dX0_narrowSum_22 : decode cX0_narrowSum 22 = .ok (.iload_n 3, 1) := by decide +kernel
theorem dX0_narrowSum_23 : decode cX0_narrowSum 23 = .ok (.ldc 95, 2) := by decide +kernel
theorem dX0_narrowSum_25 : decode cX0_narrowSum 25 = .ok (.iadd, 1) := by decide +kernel
theorem dX0_narrowSum_26 : decode cX0_narrowSum 26 = .ok (.istore 5, 2) := by decide +kernel
theorem dX0_narrowSum_28 : decode cX0_narrowSum 28 = .ok (.iload 5, 2) := by decide +kernel
theorem dX0_narrowSum_30 : decode cX0_narrowSum 30 = .ok (.iload 4, 2) := by decide +kernel
theorem dX0_narrowSum_32 : decode cX0_narrowSum 32 = .ok (.iadd, 1) := by decide +kernel
theorem dX0_narrowSum_33 : decode cX0_narrowSum 33 = .ok (.istore 5, 2) := by decide +kernel
theorem dX0_narrowSum_35 : decode cX0_narrowSum 35 = .ok (.iload_n 2, 1) := by decide +kernel
theorem dX0_narrowSum_36 : decode cX0_narrowSum 36 = .ok (.iload 4, 2) := by decide +kernel
theorem dX0_narrowSum_38 : decode cX0_narrowSum 38 = .ok (.bipush 16, 2) := by decide +kernel
theorem dX0_narrowSum_40 : decode cX0_narrowSum 40 = .ok (.irem, 1) := by decide +kernel
theorem dX0_narrowSum_41 : decode cX0_narrowSum 41 = .ok (.isub, 1) := by decide +kernel
theorem dX0_narrowSum_42 : decode cX0_narrowSum 42 = .ok (.istore 6, 2) := by decide +kernel
theorem dX0_narrowSum_44 : decode cX0_narrowSum 44 = .ok (.iload_n 2, 1) := by decide +kernel
theorem dX0_narrowSum_45 : decode cX0_narrowSum 45 = .ok (.iload 6, 2) := by decide +kernel
theorem dX0_narrowSum_47 : decode cX0_narrowSum 47 = .ok (.isub, 1) := by decide +kernel
theorem dX0_narrowSum_48 : decode cX0_narrowSum 48 = .ok (.iconst 4, 1) := by decide +kernel
theorem dX0_narrowSum_49 : decode cX0_narrowSum 49 = .ok (.if_icmp .lt 31, 3) := by decide +kernel
theorem dX0_narrowSum_52 : decode cX0_narrowSum 52 = .ok (.iload 5, 2) := by decide +kernel
theorem dX0_narrowSum_54 : decode cX0_narrowSum 54 = .ok (.aload_n 0, 1) := by decide +kernel
theorem dX0_narrowSum_55 : decode cX0_narrowSum 55 = .ok (.iload 6, 2) := by decide +kernel
theorem dX0_narrowSum_57 : decode cX0_narrowSum 57 = .ok (.invokevirtual 83, 3) := by decide +kernel
theorem dX0_narrowSum_60 : decode cX0_narrowSum 60 = .ok (.ldc 96, 2) := by decide +kernel
theorem dX0_narrowSum_62 : decode cX0_narrowSum 62 = .ok (.imul, 1) := by decide +kernel
theorem dX0_narrowSum_63 : decode cX0_narrowSum 63 = .ok (.iadd, 1) := by decide +kernel
theorem dX0_narrowSum_64 : decode cX0_narrowSum 64 = .ok (.bipush 17, 2) := by decide +kernel
theorem dX0_narrowSum_66 : decode cX0_narrowSum 66 = .ok (.invokestatic 57, 3) := by decide +kernel
theorem dX0_narrowSum_69 : decode cX0_narrowSum 69 = .ok (.ldc 97, 2) := by decide +kernel
theorem dX0_narrowSum_71 : decode cX0_narrowSum 71 = .ok (.imul, 1) := by decide +kernel
theorem dX0_narrowSum_72 : decode cX0_narrowSum 72 = .ok (.istore 5, 2) := by decide +kernel
theorem dX0_narrowSum_74 : decode cX0_narrowSum 74 = .ok (.iinc 6 4, 3) := by decide +kernel
theorem dX0_narrowSum_77 : decode cX0_narrowSum 77 = .ok (.goto (-33), 3) := by decide +kernel
theorem dX0_narrowSum_80 : decode cX0_narrowSum 80 = .ok (.iload 6, 2) := by decide +kernel
theorem dX0_narrowSum_82 : decode cX0_narrowSum 82 = .ok (.iload_n 2, 1) := by decide +kernel
theorem dX0_narrowSum_83 : decode cX0_narrowSum 83 = .ok (.if_icmp .ge 31, 3) := by decide +kernel
theorem dX0_narrowSum_86 : decode cX0_narrowSum 86 = .ok (.iload 5, 2) := by decide +kernel
theorem dX0_narrowSum_88 : decode cX0_narrowSum 88 = .ok (.aload_n 0, 1) := by decide +kernel
theorem dX0_narrowSum_89 : decode cX0_narrowSum 89 = .ok (.iload 6, 2) := by decide +kernel
theorem dX0_narrowSum_91 : decode cX0_narrowSum 91 = .ok (.invokevirtual 37, 3) := by decide +kernel
theorem dX0_narrowSum_94 : decode cX0_narrowSum 94 = .ok (.ldc 95, 2) := by decide +kernel
theorem dX0_narrowSum_96 : decode cX0_narrowSum 96 = .ok (.imul, 1) := by decide +kernel
theorem dX0_narrowSum_97 : decode cX0_narrowSum 97 = .ok (.iadd, 1) := by decide +kernel
theorem dX0_narrowSum_98 : decode cX0_narrowSum 98 = .ok (.bipush 11, 2) := by decide +kernel
theorem dX0_narrowSum_100 : decode cX0_narrowSum 100 = .ok (.invokestatic 57, 3) := by decide +kernel
theorem dX0_narrowSum_103 : decode cX0_narrowSum 103 = .ok (.ldc 98, 2) := by decide +kernel
theorem dX0_narrowSum_105 : decode cX0_narrowSum 105 = .ok (.imul, 1) := by decide +kernel
theorem dX0_narrowSum_106 : decode cX0_narrowSum 106 = .ok (.istore 5, 2) := by decide +kernel
theorem dX0_narrowSum_108 : decode cX0_narrowSum 108 = .ok (.iinc 6 1, 3) := by decide +kernel
theorem dX0_narrowSum_111 : decode cX0_narrowSum 111 = .ok (.goto (-31), 3) := by decide +kernel
theorem dX0_narrowSum_114 : decode cX0_narrowSum 114 = .ok (.iload 5, 2) := by decide +kernel
theorem dX0_narrowSum_116 : decode cX0_narrowSum 116 = .ok (.invokestatic 99, 3) := by decide +kernel
theorem dX0_narrowSum_119 : decode cX0_narrowSum 119 = .ok (.ireturn, 1) := by decide +kernel
set_option maxRecDepth 20000 in
theorem ggX0_narrowOfLanes_X0_word : GoodIn wsX0_narrowOfLanes wsX0_word := goodIn_r _ [7, 8, 9, 16, 17, 18, 19, 20] (by decide +kernel) (by decide +kernel)
set_option maxRecDepth 20000 in
theorem gX0_narrowOfLanes_X0_word : GoodIn wsX0_narrowOfLanes (wsV RX0 83 RX0 yX0_word wsX0_word) := goodIn_app (goodIn_of _ (by decide +kernel)) ggX0_narrowOfLanes_X0_word
set_option maxRecDepth 20000 in
theorem ggX0_narrowOfLanes_X0_narrowLane : GoodIn wsX0_narrowOfLanes wsX0_narrowLane := goodIn_r _ [12, 2, 1, 13, 14, 6, 15] (by decide +kernel) (by decide +kernel)
set_option maxRecDepth 20000 in
theorem gX0_narrowOfLanes_X0_narrowLane : GoodIn wsX0_narrowOfLanes (va_wsS RX0 103 yX0_narrowLane wsX0_narrowLane) := goodIn_app (goodIn_of _ (by decide +kernel)) ggX0_narrowOfLanes_X0_narrowLane
set_option maxRecDepth 20000 in
theorem ggX0_narrowOfLanes_X0_rotated : GoodIn wsX0_narrowOfLanes wsX0_rotated := goodIn_r _ [15] (by decide +kernel) (by decide +kernel)
set_option maxRecDepth 20000 in
theorem gX0_narrowOfLanes_X0_rotated : GoodIn wsX0_narrowOfLanes (va_wsS RX0 57 yX0_rotated wsX0_rotated) := goodIn_app (goodIn_of _ (by decide +kernel)) ggX0_narrowOfLanes_X0_rotated
theorem dX0_narrowOfLanes_0 : decode cX0_narrowOfLanes 0 = .ok (.iload_n 3, 1) := by decide +kernel
theorem dX0_narrowOfLanes_1 : decode cX0_narrowOfLanes 1 = .ok (.ldc 98, 2) := by decide +kernel
theorem dX0_narrowOfLanes_3 : decode cX0_narrowOfLanes 3 = .ok (.iadd, 1) := by decide +kernel
theorem dX0_narrowOfLanes_4 : decode cX0_narrowOfLanes 4 = .ok (.ldc 102, 2) := by decide +kernel
theorem dX0_narrowOfLanes_6 : decode cX0_narrowOfLanes 6 = .ok (.iadd, 1) := by decide +kernel
theorem dX0_narrowOfLanes_7 : decode cX0_narrowOfLanes 7 = .ok (.istore 4, 2) := by decide +kernel
theorem dX0_narrowOfLanes_9 : decode cX0_narrowOfLanes 9 = .ok (.iload_n 3, 1) := by decide +kernel
theorem dX0_narrowOfLanes_10 : decode cX0_narrowOfLanes 10 = .ok (.ldc 102, 2) := by decide +kernel
theorem dX0_narrowOfLanes_12 : decode cX0_narrowOfLanes 12 = .ok (.iadd, 1) := by decide +kernel
theorem dX0_narrowOfLanes_13 : decode cX0_narrowOfLanes 13 = .ok (.istore 5, 2) := by decide +kernel
theorem dX0_narrowOfLanes_15 : decode cX0_narrowOfLanes 15 = .ok (.iload_n 3, 1) := by decide +kernel
theorem dX0_narrowOfLanes_16 : decode cX0_narrowOfLanes 16 = .ok (.istore 6, 2) := by decide +kernel
theorem dX0_narrowOfLanes_18 : decode cX0_narrowOfLanes 18 = .ok (.iload_n 3, 1) := by decide +kernel
theorem dX0_narrowOfLanes_19 : decode cX0_narrowOfLanes 19 = .ok (.ldc 98, 2) := by decide +kernel
theorem dX0_narrowOfLanes_21 : decode cX0_narrowOfLanes 21 = .ok (.isub, 1) := by decide +kernel
theorem dX0_narrowOfLanes_22 : decode cX0_narrowOfLanes 22 = .ok (.istore 7, 2) := by decide +kernel
theorem dX0_narrowOfLanes_24 : decode cX0_narrowOfLanes 24 = .ok (.iload_n 1, 1) := by decide +kernel
theorem dX0_narrowOfLanes_25 : decode cX0_narrowOfLanes 25 = .ok (.istore 8, 2) := by decide +kernel
theorem dX0_narrowOfLanes_27 : decode cX0_narrowOfLanes 27 = .ok (.iload_n 2, 1) := by decide +kernel
theorem dX0_narrowOfLanes_28 : decode cX0_narrowOfLanes 28 = .ok (.iload 8, 2) := by decide +kernel
theorem dX0_narrowOfLanes_30 : decode cX0_narrowOfLanes 30 = .ok (.isub, 1) := by decide +kernel
theorem dX0_narrowOfLanes_31 : decode cX0_narrowOfLanes 31 = .ok (.bipush 16, 2) := by decide +kernel
theorem dX0_narrowOfLanes_33 : decode cX0_narrowOfLanes 33 = .ok (.if_icmp .lt 69, 3) := by decide +kernel
theorem dX0_narrowOfLanes_36 : decode cX0_narrowOfLanes 36 = .ok (.iload 4, 2) := by decide +kernel
theorem dX0_narrowOfLanes_38 : decode cX0_narrowOfLanes 38 = .ok (.aload_n 0, 1) := by decide +kernel
theorem dX0_narrowOfLanes_39 : decode cX0_narrowOfLanes 39 = .ok (.iload 8, 2) := by decide +kernel
theorem dX0_narrowOfLanes_41 : decode cX0_narrowOfLanes 41 = .ok (.invokevirtual 83, 3) := by decide +kernel
theorem dX0_narrowOfLanes_44 : decode cX0_narrowOfLanes 44 = .ok (.invokestatic 103, 3) := by decide +kernel
theorem dX0_narrowOfLanes_47 : decode cX0_narrowOfLanes 47 = .ok (.istore 4, 2) := by decide +kernel
theorem dX0_narrowOfLanes_49 : decode cX0_narrowOfLanes 49 = .ok (.iload 5, 2) := by decide +kernel
theorem dX0_narrowOfLanes_51 : decode cX0_narrowOfLanes 51 = .ok (.aload_n 0, 1) := by decide +kernel
theorem dX0_narrowOfLanes_52 : decode cX0_narrowOfLanes 52 = .ok (.iload 8, 2) := by decide +kernel
theorem dX0_narrowOfLanes_54 : decode cX0_narrowOfLanes 54 = .ok (.iconst 4, 1) := by decide +kernel
theorem dX0_narrowOfLanes_55 : decode cX0_narrowOfLanes 55 = .ok (.iadd, 1) := by decide +kernel
theorem dX0_narrowOfLanes_56 : decode cX0_narrowOfLanes 56 = .ok (.invokevirtual 83, 3) := by decide +kernel
theorem dX0_narrowOfLanes_59 : decode cX0_narrowOfLanes 59 = .ok (.invokestatic 103, 3) := by decide +kernel
theorem dX0_narrowOfLanes_62 : decode cX0_narrowOfLanes 62 = .ok (.istore 5, 2) := by decide +kernel
theorem dX0_narrowOfLanes_64 : decode cX0_narrowOfLanes 64 = .ok (.iload 6, 2) := by decide +kernel
theorem dX0_narrowOfLanes_66 : decode cX0_narrowOfLanes 66 = .ok (.aload_n 0, 1) := by decide +kernel
theorem dX0_narrowOfLanes_67 : decode cX0_narrowOfLanes 67 = .ok (.iload 8, 2) := by decide +kernel
theorem dX0_narrowOfLanes_69 : decode cX0_narrowOfLanes 69 = .ok (.bipush 8, 2) := by decide +kernel
theorem dX0_narrowOfLanes_71 : decode cX0_narrowOfLanes 71 = .ok (.iadd, 1) := by decide +kernel
theorem dX0_narrowOfLanes_72 : decode cX0_narrowOfLanes 72 = .ok (.invokevirtual 83, 3) := by decide +kernel
theorem dX0_narrowOfLanes_75 : decode cX0_narrowOfLanes 75 = .ok (.invokestatic 103, 3) := by decide +kernel
theorem dX0_narrowOfLanes_78 : decode cX0_narrowOfLanes 78 = .ok (.istore 6, 2) := by decide +kernel
theorem dX0_narrowOfLanes_80 : decode cX0_narrowOfLanes 80 = .ok (.iload 7, 2) := by decide +kernel
theorem dX0_narrowOfLanes_82 : decode cX0_narrowOfLanes 82 = .ok (.aload_n 0, 1) := by decide +kernel
theorem dX0_narrowOfLanes_83 : decode cX0_narrowOfLanes 83 = .ok (.iload 8, 2) := by decide +kernel
theorem dX0_narrowOfLanes_85 : decode cX0_narrowOfLanes 85 = .ok (.bipush 12, 2) := by decide +kernel
theorem dX0_narrowOfLanes_87 : decode cX0_narrowOfLanes 87 = .ok (.iadd, 1) := by decide +kernel
theorem dX0_narrowOfLanes_88 : decode cX0_narrowOfLanes 88 = .ok (.invokevirtual 83, 3) := by decide +kernel
theorem dX0_narrowOfLanes_91 : decode cX0_narrowOfLanes 91 = .ok (.invokestatic 103, 3) := by decide +kernel
theorem dX0_narrowOfLanes_94 : decode cX0_narrowOfLanes 94 = .ok (.istore 7, 2) := by decide +kernel
theorem dX0_narrowOfLanes_96 : decode cX0_narrowOfLanes 96 = .ok (.iinc 8 16, 3) := by decide +kernel
theorem dX0_narrowOfLanes_99 : decode cX0_narrowOfLanes 99 = .ok (.goto (-72), 3) := by decide +kernel
theorem dX0_narrowOfLanes_102 : decode cX0_narrowOfLanes 102 = .ok (.iload 4, 2) := by decide +kernel
theorem dX0_narrowOfLanes_104 : decode cX0_narrowOfLanes 104 = .ok (.iconst 1, 1) := by decide +kernel
theorem dX0_narrowOfLanes_105 : decode cX0_narrowOfLanes 105 = .ok (.invokestatic 57, 3) := by decide +kernel
theorem dX0_narrowOfLanes_108 : decode cX0_narrowOfLanes 108 = .ok (.iload 5, 2) := by decide +kernel
theorem dX0_narrowOfLanes_110 : decode cX0_narrowOfLanes 110 = .ok (.bipush 7, 2) := by decide +kernel
theorem dX0_narrowOfLanes_112 : decode cX0_narrowOfLanes 112 = .ok (.invokestatic 57, 3) := by decide +kernel
theorem dX0_narrowOfLanes_115 : decode cX0_narrowOfLanes 115 = .ok (.iadd, 1) := by decide +kernel
theorem dX0_narrowOfLanes_116 : decode cX0_narrowOfLanes 116 = .ok (.iload 6, 2) := by decide +kernel
theorem dX0_narrowOfLanes_118 : decode cX0_narrowOfLanes 118 = .ok (.bipush 12, 2) := by decide +kernel
theorem dX0_narrowOfLanes_120 : decode cX0_narrowOfLanes 120 = .ok (.invokestatic 57, 3) := by decide +kernel
theorem dX0_narrowOfLanes_123 : decode cX0_narrowOfLanes 123 = .ok (.iadd, 1) := by decide +kernel
theorem dX0_narrowOfLanes_124 : decode cX0_narrowOfLanes 124 = .ok (.iload 7, 2) := by decide +kernel
theorem dX0_narrowOfLanes_126 : decode cX0_narrowOfLanes 126 = .ok (.bipush 18, 2) := by decide +kernel
theorem dX0_narrowOfLanes_128 : decode cX0_narrowOfLanes 128 = .ok (.invokestatic 57, 3) := by decide +kernel
theorem dX0_narrowOfLanes_131 : decode cX0_narrowOfLanes 131 = .ok (.iadd, 1) := by decide +kernel
theorem dX0_narrowOfLanes_132 : decode cX0_narrowOfLanes 132 = .ok (.ireturn, 1) := by decide +kernel
set_option maxRecDepth 20000 in
theorem ggX0_narrowLane_X0_rotated : GoodIn wsX0_narrowLane wsX0_rotated := goodIn_r _ [6] (by decide +kernel) (by decide +kernel)
set_option maxRecDepth 20000 in
theorem gX0_narrowLane_X0_rotated : GoodIn wsX0_narrowLane (va_wsS RX0 57 yX0_rotated wsX0_rotated) := goodIn_app (goodIn_of _ (by decide +kernel)) ggX0_narrowLane_X0_rotated
theorem dX0_narrowLane_0 : decode cX0_narrowLane 0 = .ok (.iload_n 0, 1) := by decide +kernel
theorem dX0_narrowLane_1 : decode cX0_narrowLane 1 = .ok (.iload_n 1, 1) := by decide +kernel
theorem dX0_narrowLane_2 : decode cX0_narrowLane 2 = .ok (.ldc 102, 2) := by decide +kernel
theorem dX0_narrowLane_4 : decode cX0_narrowLane 4 = .ok (.imul, 1) := by decide +kernel
theorem dX0_narrowLane_5 : decode cX0_narrowLane 5 = .ok (.iadd, 1) := by decide +kernel
theorem dX0_narrowLane_6 : decode cX0_narrowLane 6 = .ok (.bipush 13, 2) := by decide +kernel
theorem dX0_narrowLane_8 : decode cX0_narrowLane 8 = .ok (.invokestatic 57, 3) := by decide +kernel
theorem dX0_narrowLane_11 : decode cX0_narrowLane 11 = .ok (.ldc 98, 2) := by decide +kernel
theorem dX0_narrowLane_13 : decode cX0_narrowLane 13 = .ok (.imul, 1) := by decide +kernel
theorem dX0_narrowLane_14 : decode cX0_narrowLane 14 = .ok (.ireturn, 1) := by decide +kernel
theorem dX0_narrowStirred_0 : decode cX0_narrowStirred 0 = .ok (.iload_n 0, 1) := by decide +kernel
theorem dX0_narrowStirred_1 : decode cX0_narrowStirred 1 = .ok (.iload_n 0, 1) := by decide +kernel
theorem dX0_narrowStirred_2 : decode cX0_narrowStirred 2 = .ok (.bipush 15, 2) := by decide +kernel
theorem dX0_narrowStirred_4 : decode cX0_narrowStirred 4 = .ok (.iushr, 1) := by decide +kernel
theorem dX0_narrowStirred_5 : decode cX0_narrowStirred 5 = .ok (.ixor, 1) := by decide +kernel
theorem dX0_narrowStirred_6 : decode cX0_narrowStirred 6 = .ok (.ldc 102, 2) := by decide +kernel
theorem dX0_narrowStirred_8 : decode cX0_narrowStirred 8 = .ok (.imul, 1) := by decide +kernel
theorem dX0_narrowStirred_9 : decode cX0_narrowStirred 9 = .ok (.istore_n 0, 1) := by decide +kernel
theorem dX0_narrowStirred_10 : decode cX0_narrowStirred 10 = .ok (.iload_n 0, 1) := by decide +kernel
theorem dX0_narrowStirred_11 : decode cX0_narrowStirred 11 = .ok (.iload_n 0, 1) := by decide +kernel
theorem dX0_narrowStirred_12 : decode cX0_narrowStirred 12 = .ok (.bipush 13, 2) := by decide +kernel
theorem dX0_narrowStirred_14 : decode cX0_narrowStirred 14 = .ok (.iushr, 1) := by decide +kernel
theorem dX0_narrowStirred_15 : decode cX0_narrowStirred 15 = .ok (.ixor, 1) := by decide +kernel
theorem dX0_narrowStirred_16 : decode cX0_narrowStirred 16 = .ok (.ldc 96, 2) := by decide +kernel
theorem dX0_narrowStirred_18 : decode cX0_narrowStirred 18 = .ok (.imul, 1) := by decide +kernel
theorem dX0_narrowStirred_19 : decode cX0_narrowStirred 19 = .ok (.istore_n 0, 1) := by decide +kernel
theorem dX0_narrowStirred_20 : decode cX0_narrowStirred 20 = .ok (.iload_n 0, 1) := by decide +kernel
theorem dX0_narrowStirred_21 : decode cX0_narrowStirred 21 = .ok (.iload_n 0, 1) := by decide +kernel
theorem dX0_narrowStirred_22 : decode cX0_narrowStirred 22 = .ok (.bipush 16, 2) := by decide +kernel
theorem dX0_narrowStirred_24 : decode cX0_narrowStirred 24 = .ok (.iushr, 1) := by decide +kernel
theorem dX0_narrowStirred_25 : decode cX0_narrowStirred 25 = .ok (.ixor, 1) := by decide +kernel
theorem dX0_narrowStirred_26 : decode cX0_narrowStirred 26 = .ok (.ireturn, 1) := by decide +kernel
set_option maxRecDepth 20000 in
theorem ggX0_wideSum_X0_wideOfLanes : GoodIn wsX0_wideSum wsX0_wideOfLanes := goodIn_r _ [10, 2, 4, 11, 12, 13, 9, 14, 15, 16, 17, 18, 19, 20, 21, 22, 23, 24, 25, 26, 27, 28, 29, 30, 31, 32, 33, 34, 3, 43, 44, 45, 46, 47] (by decide +kernel) (by decide +kernel)
set_option maxRecDepth 20000 in
theorem gX0_wideSum_X0_wideOfLanes : GoodIn wsX0_wideSum (wsV RX0 106 RX0 yX0_wideOfLanes wsX0_wideOfLanes) := goodIn_app (goodIn_of _ (by decide +kernel)) ggX0_wideSum_X0_wideOfLanes
set_option maxRecDepth 20000 in
theorem ggX0_wideSum_X0_longWord : GoodIn wsX0_wideSum wsX0_longWord := goodIn_r _ [14, 15, 16, 17, 9, 18, 19, 20, 21, 22, 23, 24, 25, 43, 44, 45, 46, 47] (by decide +kernel) (by decide +kernel)
set_option maxRecDepth 20000 in
theorem gX0_wideSum_X0_longWord : GoodIn wsX0_wideSum (wsV RX0 111 RX0 yX0_longWord wsX0_longWord) := goodIn_app (goodIn_of _ (by decide +kernel)) ggX0_wideSum_X0_longWord
set_option maxRecDepth 20000 in
theorem ggX0_wideSum_X0_wideLane : GoodIn wsX0_wideSum wsX0_wideLane := goodIn_r _ [28, 4, 2, 29, 30, 9, 31] (by decide +kernel) (by decide +kernel)
set_option maxRecDepth 20000 in
theorem gX0_wideSum_X0_wideLane : GoodIn wsX0_wideSum (va_wsS RX0 114 yX0_wideLane wsX0_wideLane) := goodIn_app (goodIn_of _ (by decide +kernel)) ggX0_wideSum_X0_wideLane
set_option maxRecDepth 20000 in
theorem ggX0_wideSum_X0_rotatedLong : GoodIn wsX0_wideSum wsX0_rotatedLong := goodIn_r _ [31] (by decide +kernel) (by decide +kernel)
set_option maxRecDepth 20000 in
theorem gX0_wideSum_X0_rotatedLong : GoodIn wsX0_wideSum (va_wsS RX0 118 yX0_rotatedLong wsX0_rotatedLong) := goodIn_app (goodIn_of _ (by decide +kernel)) ggX0_wideSum_X0_rotatedLong
set_option maxRecDepth 20000 in
theorem ggX0_wideSum_X0_unsignedWord : GoodIn wsX0_wideSum wsX0_unsignedWord := goodIn_r _ [18, 19, 20, 21, 22, 9, 23, 24, 25, 43, 44, 45, 46, 47] (by decide +kernel) (by decide +kernel)
set_option maxRecDepth 20000 in
theorem gX0_wideSum_X0_unsignedWord : GoodIn wsX0_wideSum (wsV RX0 88 RX0 yX0_unsignedWord wsX0_unsignedWord) := goodIn_app (goodIn_of _ (by decide +kernel)) ggX0_wideSum_X0_unsignedWord
set_option maxRecDepth 20000 in
theorem ggX0_wideSum_X0_byteAt : GoodIn wsX0_wideSum wsX0_byteAt := goodIn_r _ [38, 39, 25, 43, 44, 45, 46, 47] (by decide +kernel) (by decide +kernel)
set_option maxRecDepth 20000 in
theorem gX0_wideSum_X0_byteAt : GoodIn wsX0_wideSum (wsV RX0 37 RX0 yX0_byteAt wsX0_byteAt) := goodIn_app (goodIn_of _ (by decide +kernel)) ggX0_wideSum_X0_byteAt
set_option maxRecDepth 20000 in
theorem ggX0_wideSum_X0_wideStirred : GoodIn wsX0_wideSum wsX0_wideStirred := goodIn_r _ [42, 4, 5] (by decide +kernel) (by decide +kernel)
set_option maxRecDepth 20000 in
theorem gX0_wideSum_X0_wideStirred : GoodIn wsX0_wideSum (va_wsS RX0 130 yX0_wideStirred wsX0_wideStirred) := goodIn_app (goodIn_of _ (by decide +kernel)) ggX0_wideSum_X0_wideStirred
theorem dX0_wideSum_0 : decode cX0_wideSum 0 = .ok (.iload_n 2, 1) := by decide +kernel
theorem dX0_wideSum_1 : decode cX0_wideSum 1 = .ok (.iload_n 1, 1) := by decide +kernel
theorem dX0_wideSum_2 : decode cX0_wideSum 2 = .ok (.isub, 1) := by decide +kernel
theorem dX0_wideSum_3 : decode cX0_wideSum 3 = .ok (.istore 5, 2) := by decide +kernel
theorem dX0_wideSum_5 : decode cX0_wideSum 5 = .ok (.iload 5, 2) := by decide +kernel
theorem dX0_wideSum_7 : decode cX0_wideSum 7 = .ok (.bipush 32, 2) := by decide +kernel
theorem dX0_wideSum_9 : decode cX0_wideSum 9 = .ok (.if_icmp .lt 13, 3) := by decide +kernel
theorem dX0_wideSum_12 : decode cX0_wideSum 12 = .ok (.aload_n 0, 1) := by decide +kernel
theorem dX0_wideSum_13 : decode cX0_wideSum 13 = .ok (.iload_n 1, 1) := by decide +kernel
theorem dX0_wideSum_14 : decode cX0_wideSum 14 = .ok (.iload_n 2, 1) := by decide +kernel
theorem dX0_wideSum_15 : decode cX0_wideSum 15 = .ok (.lload_n 3, 1) := by decide +kernel
theorem dX0_wideSum_16 : decode cX0_wideSum 16 = .ok (.invokevirtual 106, 3) := by decide +kernel
theorem dX0_wideSum_19 : decode cX0_wideSum 19 = .ok (.goto 8, 3) := by decide +kernel
theorem dX0_wideSum_22 : decode cX0_wideSum 22 = .ok (.lload_n 3, 1) := by decide +kernel
theorem dX0_wideSum_23 : decode cX0_wideSum 23 = .ok (.ldc2_w 109, 3) := by decide +kernel
theorem dX0_wideSum_26 : decode cX0_wideSum 26 = .ok (.ladd, 1) := by decide +kernel
theorem dX0_wideSum_27 : decode cX0_wideSum 27 = .ok (.lstore 6, 2) := by decide +kernel
theorem dX0_wideSum_29 : decode cX0_wideSum 29 = .ok (.lload 6, 2) := by decide +kernel
theorem dX0_wideSum_31 : decode cX0_wideSum 31 = .ok (.iload 5, 2) := by decide +kernel
theorem dX0_wideSum_33 : decode cX0_wideSum 33 = .ok (.i2l, 1) := by decide +kernel
theorem dX0_wideSum_34 : decode cX0_wideSum 34 = .ok (.ladd, 1) := by decide +kernel
theorem dX0_wideSum_35 : decode cX0_wideSum 35 = .ok (.lstore 6, 2) := by decide +kernel
theorem dX0_wideSum_37 : decode cX0_wideSum 37 = .ok (.iload_n 2, 1) := by decide +kernel
theorem dX0_wideSum_38 : decode cX0_wideSum 38 = .ok (.iload 5, 2) := by decide +kernel
theorem dX0_wideSum_40 : decode cX0_wideSum 40 = .ok (.bipush 32, 2) := by decide +kernel
theorem dX0_wideSum_42 : decode cX0_wideSum 42 = .ok (.irem, 1) := by decide +kernel
theorem dX0_wideSum_43 : decode cX0_wideSum 43 = .ok (.isub, 1) := by decide +kernel
theorem dX0_wideSum_44 : decode cX0_wideSum 44 = .ok (.istore 8, 2) := by decide +kernel
theorem dX0_wideSum_46 : decode cX0_wideSum 46 = .ok (.iload_n 2, 1) := by decide +kernel
theorem dX0_wideSum_47 : decode cX0_wideSum 47 = .ok (.iload 8, 2) := by decide +kernel
theorem dX0_wideSum_49 : decode cX0_wideSum 49 = .ok (.isub, 1) := by decide +kernel
theorem dX0_wideSum_50 : decode cX0_wideSum 50 = .ok (.bipush 8, 2) := by decide +kernel
theorem dX0_wideSum_52 : decode cX0_wideSum 52 = .ok (.if_icmp .lt 37, 3) := by decide +kernel
theorem dX0_wideSum_55 : decode cX0_wideSum 55 = .ok (.lload 6, 2) := by decide +kernel
theorem dX0_wideSum_57 : decode cX0_wideSum 57 = .ok (.lconst 0, 1) := by decide +kernel
theorem dX0_wideSum_58 : decode cX0_wideSum 58 = .ok (.aload_n 0, 1) := by decide +kernel
theorem dX0_wideSum_59 : decode cX0_wideSum 59 = .ok (.iload 8, 2) := by decide +kernel
theorem dX0_wideSum_61 : decode cX0_wideSum 61 = .ok (.invokevirtual 111, 3) := by decide +kernel
theorem dX0_wideSum_64 : decode cX0_wideSum 64 = .ok (.invokestatic 114, 3) := by decide +kernel
theorem dX0_wideSum_67 : decode cX0_wideSum 67 = .ok (.lxor, 1) := by decide +kernel
theorem dX0_wideSum_68 : decode cX0_wideSum 68 = .ok (.bipush 27, 2) := by decide +kernel
theorem dX0_wideSum_70 : decode cX0_wideSum 70 = .ok (.invokestatic 118, 3) := by decide +kernel
theorem dX0_wideSum_73 : decode cX0_wideSum 73 = .ok (.ldc2_w 122, 3) := by decide +kernel
theorem dX0_wideSum_76 : decode cX0_wideSum 76 = .ok (.lmul, 1) := by decide +kernel
theorem dX0_wideSum_77 : decode cX0_wideSum 77 = .ok (.ldc2_w 124, 3) := by decide +kernel
theorem dX0_wideSum_80 : decode cX0_wideSum 80 = .ok (.ladd, 1) := by decide +kernel
theorem dX0_wideSum_81 : decode cX0_wideSum 81 = .ok (.lstore 6, 2) := by decide +kernel
theorem dX0_wideSum_83 : decode cX0_wideSum 83 = .ok (.iinc 8 8, 3) := by decide +kernel
theorem dX0_wideSum_86 : decode cX0_wideSum 86 = .ok (.goto (-40), 3) := by decide +kernel
theorem dX0_wideSum_89 : decode cX0_wideSum 89 = .ok (.iload_n 2, 1) := by decide +kernel
theorem dX0_wideSum_90 : decode cX0_wideSum 90 = .ok (.iload 8, 2) := by decide +kernel
theorem dX0_wideSum_92 : decode cX0_wideSum 92 = .ok (.isub, 1) := by decide +kernel
theorem dX0_wideSum_93 : decode cX0_wideSum 93 = .ok (.iconst 4, 1) := by decide +kernel
theorem dX0_wideSum_94 : decode cX0_wideSum 94 = .ok (.if_icmp .lt 34, 3) := by decide +kernel
theorem dX0_wideSum_97 : decode cX0_wideSum 97 = .ok (.lload 6, 2) := by decide +kernel
theorem dX0_wideSum_99 : decode cX0_wideSum 99 = .ok (.aload_n 0, 1) := by decide +kernel
theorem dX0_wideSum_100 : decode cX0_wideSum 100 = .ok (.iload 8, 2) := by decide +kernel
theorem dX0_wideSum_102 : decode cX0_wideSum 102 = .ok (.invokevirtual 88, 3) := by decide +kernel
theorem dX0_wideSum_105 : decode cX0_wideSum 105 = .ok (.ldc2_w 122, 3) := by decide +kernel
theorem dX0_wideSum_108 : decode cX0_wideSum 108 = .ok (.lmul, 1) := by decide +kernel
theorem dX0_wideSum_109 : decode cX0_wideSum 109 = .ok (.lxor, 1) := by decide +kernel
theorem dX0_wideSum_110 : decode cX0_wideSum 110 = .ok (.bipush 23, 2) := by decide +kernel
theorem dX0_wideSum_112 : decode cX0_wideSum 112 = .ok (.invokestatic 118, 3) := by decide +kernel
theorem dX0_wideSum_115 : decode cX0_wideSum 115 = .ok (.ldc2_w 126, 3) := by decide +kernel
theorem dX0_wideSum_118 : decode cX0_wideSum 118 = .ok (.lmul, 1) := by decide +kernel
theorem dX0_wideSum_119 : decode cX0_wideSum 119 = .ok (.ldc2_w 128, 3) := by decide +kernel
theorem dX0_wideSum_122 : decode cX0_wideSum 122 = .ok (.ladd, 1) := by decide +kernel
theorem dX0_wideSum_123 : decode cX0_wideSum 123 = .ok (.lstore 6, 2) := by decide +kernel
theorem dX0_wideSum_125 : decode cX0_wideSum 125 = .ok (.iinc 8 4, 3) := by decide +kernel
theorem dX0_wideSum_128 : decode cX0_wideSum 128 = .ok (.iload 8, 2) := by decide +kernel
theorem dX0_wideSum_130 : decode cX0_wideSum 130 = .ok (.iload_n 2, 1) := by decide +kernel
theorem dX0_wideSum_131 : decode cX0_wideSum 131 = .ok (.if_icmp .ge 34, 3) := by decide +kernel
theorem dX0_wideSum_134 : decode cX0_wideSum 134 = .ok (.lload 6, 2) := by decide +kernel
theorem dX0_wideSum_136 : decode cX0_wideSum 136 = .ok (.aload_n 0, 1) := by decide +kernel
theorem dX0_wideSum_137 : decode cX0_wideSum 137 = .ok (.iload 8, 2) := by decide +kernel
theorem dX0_wideSum_139 : decode cX0_wideSum 139 = .ok (.invokevirtual 37, 3) := by decide +kernel
theorem dX0_wideSum_142 : decode cX0_wideSum 142 = .ok (.i2l, 1) := by decide +kernel
theorem dX0_wideSum_143 : decode cX0_wideSum 143 = .ok (.ldc2_w 109, 3) := by decide +kernel
theorem dX0_wideSum_146 : decode cX0_wideSum 146 = .ok (.lmul, 1) := by decide +kernel
theorem dX0_wideSum_147 : decode cX0_wideSum 147 = .ok (.lxor, 1) := by decide +kernel
theorem dX0_wideSum_148 : decode cX0_wideSum 148 = .ok (.bipush 11, 2) := by decide +kernel
theorem dX0_wideSum_150 : decode cX0_wideSum 150 = .ok (.invokestatic 118, 3) := by decide +kernel
theorem dX0_wideSum_153 : decode cX0_wideSum 153 = .ok (.ldc2_w 122, 3) := by decide +kernel
theorem dX0_wideSum_156 : decode cX0_wideSum 156 = .ok (.lmul, 1) := by decide +kernel
theorem dX0_wideSum_157 : decode cX0_wideSum 157 = .ok (.lstore 6, 2) := by decide +kernel
theorem dX0_wideSum_159 : decode cX0_wideSum 159 = .ok (.iinc 8 1, 3) := by decide +kernel
theorem dX0_wideSum_162 : decode cX0_wideSum 162 = .ok (.goto (-34), 3) := by decide +kernel
theorem dX0_wideSum_165 : decode cX0_wideSum 165 = .ok (.lload 6, 2) := by decide +kernel
theorem dX0_wideSum_167 : decode cX0_wideSum 167 = .ok (.invokestatic 130, 3) := by decide +kernel
theorem dX0_wideSum_170 : decode cX0_wideSum 170 = .ok (.lreturn, 1) := by decide +kernel
set_option maxRecDepth 20000 in
theorem ggX0_wideOfLanes_X0_longWord : GoodIn wsX0_wideOfLanes wsX0_longWord := goodIn_r _ [7, 8, 9, 10, 6, 11, 12, 13, 14, 15, 16, 17, 18, 29, 30, 31, 32, 33] (by decide +kernel) (by decide +kernel)
set_option maxRecDepth 20000 in
theorem gX0_wideOfLanes_X0_longWord : GoodIn wsX0_wideOfLanes (wsV RX0 111 RX0 yX0_longWord wsX0_longWord) := goodIn_app (goodIn_of _ (by decide +kernel)) ggX0_wideOfLanes_X0_longWord
set_option maxRecDepth 20000 in
theorem ggX0_wideOfLanes_X0_wideLane : GoodIn wsX0_wideOfLanes wsX0_wideLane := goodIn_r _ [21, 2, 1, 22, 23, 6, 24] (by decide +kernel) (by decide +kernel)
set_option maxRecDepth 20000 in
theorem gX0_wideOfLanes_X0_wideLane : GoodIn wsX0_wideOfLanes (va_wsS RX0 114 yX0_wideLane wsX0_wideLane) := goodIn_app (goodIn_of _ (by decide +kernel)) ggX0_wideOfLanes_X0_wideLane
set_option maxRecDepth 20000 in
theorem ggX0_wideOfLanes_X0_rotatedLong : GoodIn wsX0_wideOfLanes wsX0_rotatedLong := goodIn_r _ [24] (by decide +kernel) (by decide +kernel)
set_option maxRecDepth 20000 in
theorem gX0_wideOfLanes_X0_rotatedLong : GoodIn wsX0_wideOfLanes (va_wsS RX0 118 yX0_rotatedLong wsX0_rotatedLong) := goodIn_app (goodIn_of _ (by decide +kernel)) ggX0_wideOfLanes_X0_rotatedLong
set_option maxRecDepth 20000 in
theorem ggX0_wideOfLanes_X0_withLane : GoodIn wsX0_wideOfLanes wsX0_withLane := goodIn_r _ [27, 1, 28, 19, 20, 6, 21, 2, 22, 23, 24] (by decide +kernel) (by decide +kernel)
set_option maxRecDepth 20000 in
theorem gX0_wideOfLanes_X0_withLane : GoodIn wsX0_wideOfLanes (va_wsS RX0 134 yX0_withLane wsX0_withLane) := goodIn_app (goodIn_of _ (by decide +kernel)) ggX0_wideOfLanes_X0_withLane
theorem dX0_wideOfLanes_0 : decode cX0_wideOfLanes 0 = .ok (.lload_n 3, 1) := by decide +kernel
theorem dX0_wideOfLanes_1 : decode cX0_wideOfLanes 1 = .ok (.ldc2_w 122, 3) := by decide +kernel
theorem dX0_wideOfLanes_4 : decode cX0_wideOfLanes 4 = .ok (.ladd, 1) := by decide +kernel
theorem dX0_wideOfLanes_5 : decode cX0_wideOfLanes 5 = .ok (.ldc2_w 126, 3) := by decide +kernel
theorem dX0_wideOfLanes_8 : decode cX0_wideOfLanes 8 = .ok (.ladd, 1) := by decide +kernel
theorem dX0_wideOfLanes_9 : decode cX0_wideOfLanes 9 = .ok (.lstore 5, 2) := by decide +kernel
theorem dX0_wideOfLanes_11 : decode cX0_wideOfLanes 11 = .ok (.lload_n 3, 1) := by decide +kernel
theorem dX0_wideOfLanes_12 : decode cX0_wideOfLanes 12 = .ok (.ldc2_w 126, 3) := by decide +kernel
theorem dX0_wideOfLanes_15 : decode cX0_wideOfLanes 15 = .ok (.ladd, 1) := by decide +kernel
theorem dX0_wideOfLanes_16 : decode cX0_wideOfLanes 16 = .ok (.lstore 7, 2) := by decide +kernel
theorem dX0_wideOfLanes_18 : decode cX0_wideOfLanes 18 = .ok (.lload_n 3, 1) := by decide +kernel
theorem dX0_wideOfLanes_19 : decode cX0_wideOfLanes 19 = .ok (.lstore 9, 2) := by decide +kernel
theorem dX0_wideOfLanes_21 : decode cX0_wideOfLanes 21 = .ok (.lload_n 3, 1) := by decide +kernel
theorem dX0_wideOfLanes_22 : decode cX0_wideOfLanes 22 = .ok (.ldc2_w 122, 3) := by decide +kernel
theorem dX0_wideOfLanes_25 : decode cX0_wideOfLanes 25 = .ok (.lsub, 1) := by decide +kernel
theorem dX0_wideOfLanes_26 : decode cX0_wideOfLanes 26 = .ok (.lstore 11, 2) := by decide +kernel
theorem dX0_wideOfLanes_28 : decode cX0_wideOfLanes 28 = .ok (.iload_n 1, 1) := by decide +kernel
theorem dX0_wideOfLanes_29 : decode cX0_wideOfLanes 29 = .ok (.istore 13, 2) := by decide +kernel
theorem dX0_wideOfLanes_31 : decode cX0_wideOfLanes 31 = .ok (.iload_n 2, 1) := by decide +kernel
theorem dX0_wideOfLanes_32 : decode cX0_wideOfLanes 32 = .ok (.iload 13, 2) := by decide +kernel
theorem dX0_wideOfLanes_34 : decode cX0_wideOfLanes 34 = .ok (.isub, 1) := by decide +kernel
theorem dX0_wideOfLanes_35 : decode cX0_wideOfLanes 35 = .ok (.bipush 32, 2) := by decide +kernel
theorem dX0_wideOfLanes_37 : decode cX0_wideOfLanes 37 = .ok (.if_icmp .lt 70, 3) := by decide +kernel
theorem dX0_wideOfLanes_40 : decode cX0_wideOfLanes 40 = .ok (.lload 5, 2) := by decide +kernel
theorem dX0_wideOfLanes_42 : decode cX0_wideOfLanes 42 = .ok (.aload_n 0, 1) := by decide +kernel
theorem dX0_wideOfLanes_43 : decode cX0_wideOfLanes 43 = .ok (.iload 13, 2) := by decide +kernel
theorem dX0_wideOfLanes_45 : decode cX0_wideOfLanes 45 = .ok (.invokevirtual 111, 3) := by decide +kernel
theorem dX0_wideOfLanes_48 : decode cX0_wideOfLanes 48 = .ok (.invokestatic 114, 3) := by decide +kernel
theorem dX0_wideOfLanes_51 : decode cX0_wideOfLanes 51 = .ok (.lstore 5, 2) := by decide +kernel
theorem dX0_wideOfLanes_53 : decode cX0_wideOfLanes 53 = .ok (.lload 7, 2) := by decide +kernel
theorem dX0_wideOfLanes_55 : decode cX0_wideOfLanes 55 = .ok (.aload_n 0, 1) := by decide +kernel
theorem dX0_wideOfLanes_56 : decode cX0_wideOfLanes 56 = .ok (.iload 13, 2) := by decide +kernel
theorem dX0_wideOfLanes_58 : decode cX0_wideOfLanes 58 = .ok (.bipush 8, 2) := by decide +kernel
theorem dX0_wideOfLanes_60 : decode cX0_wideOfLanes 60 = .ok (.iadd, 1) := by decide +kernel
theorem dX0_wideOfLanes_61 : decode cX0_wideOfLanes 61 = .ok (.invokevirtual 111, 3) := by decide +kernel
theorem dX0_wideOfLanes_64 : decode cX0_wideOfLanes 64 = .ok (.invokestatic 114, 3) := by decide +kernel
theorem dX0_wideOfLanes_67 : decode cX0_wideOfLanes 67 = .ok (.lstore 7, 2) := by decide +kernel
theorem dX0_wideOfLanes_69 : decode cX0_wideOfLanes 69 = .ok (.lload 9, 2) := by decide +kernel
theorem dX0_wideOfLanes_71 : decode cX0_wideOfLanes 71 = .ok (.aload_n 0, 1) := by decide +kernel
theorem dX0_wideOfLanes_72 : decode cX0_wideOfLanes 72 = .ok (.iload 13, 2) := by decide +kernel
theorem dX0_wideOfLanes_74 : decode cX0_wideOfLanes 74 = .ok (.bipush 16, 2) := by decide +kernel
theorem dX0_wideOfLanes_76 : decode cX0_wideOfLanes 76 = .ok (.iadd, 1) := by decide +kernel
theorem dX0_wideOfLanes_77 : decode cX0_wideOfLanes 77 = .ok (.invokevirtual 111, 3) := by decide +kernel
theorem dX0_wideOfLanes_80 : decode cX0_wideOfLanes 80 = .ok (.invokestatic 114, 3) := by decide +kernel
theorem dX0_wideOfLanes_83 : decode cX0_wideOfLanes 83 = .ok (.lstore 9, 2) := by decide +kernel
theorem dX0_wideOfLanes_85 : decode cX0_wideOfLanes 85 = .ok (.lload 11, 2) := by decide +kernel
theorem dX0_wideOfLanes_87 : decode cX0_wideOfLanes 87 = .ok (.aload_n 0, 1) := by decide +kernel
theorem dX0_wideOfLanes_88 : decode cX0_wideOfLanes 88 = .ok (.iload 13, 2) := by decide +kernel
theorem dX0_wideOfLanes_90 : decode cX0_wideOfLanes 90 = .ok (.bipush 24, 2) := by decide +kernel
theorem dX0_wideOfLanes_92 : decode cX0_wideOfLanes 92 = .ok (.iadd, 1) := by decide +kernel
theorem dX0_wideOfLanes_93 : decode cX0_wideOfLanes 93 = .ok (.invokevirtual 111, 3) := by decide +kernel
theorem dX0_wideOfLanes_96 : decode cX0_wideOfLanes 96 = .ok (.invokestatic 114, 3) := by decide +kernel
theorem dX0_wideOfLanes_99 : decode cX0_wideOfLanes 99 = .ok (.lstore 11, 2) := by decide +kernel
theorem dX0_wideOfLanes_101 : decode cX0_wideOfLanes 101 = .ok (.iinc 13 32, 3) := by decide +kernel
theorem dX0_wideOfLanes_104 : decode cX0_wideOfLanes 104 = .ok (.goto (-73), 3) := by decide +kernel
theorem dX0_wideOfLanes_107 : decode cX0_wideOfLanes 107 = .ok (.lload 5, 2) := by decide +kernel
theorem dX0_wideOfLanes_109 : decode cX0_wideOfLanes 109 = .ok (.iconst 1, 1) := by decide +kernel
theorem dX0_wideOfLanes_110 : decode cX0_wideOfLanes 110 = .ok (.invokestatic 118, 3) := by decide +kernel
theorem dX0_wideOfLanes_113 : decode cX0_wideOfLanes 113 = .ok (.lload 7, 2) := by decide +kernel
theorem dX0_wideOfLanes_115 : decode cX0_wideOfLanes 115 = .ok (.bipush 7, 2) := by decide +kernel
theorem dX0_wideOfLanes_117 : decode cX0_wideOfLanes 117 = .ok (.invokestatic 118, 3) := by decide +kernel
theorem dX0_wideOfLanes_120 : decode cX0_wideOfLanes 120 = .ok (.ladd, 1) := by decide +kernel
theorem dX0_wideOfLanes_121 : decode cX0_wideOfLanes 121 = .ok (.lload 9, 2) := by decide +kernel
theorem dX0_wideOfLanes_123 : decode cX0_wideOfLanes 123 = .ok (.bipush 12, 2) := by decide +kernel
theorem dX0_wideOfLanes_125 : decode cX0_wideOfLanes 125 = .ok (.invokestatic 118, 3) := by decide +kernel
theorem dX0_wideOfLanes_128 : decode cX0_wideOfLanes 128 = .ok (.ladd, 1) := by decide +kernel
theorem dX0_wideOfLanes_129 : decode cX0_wideOfLanes 129 = .ok (.lload 11, 2) := by decide +kernel
theorem dX0_wideOfLanes_131 : decode cX0_wideOfLanes 131 = .ok (.bipush 18, 2) := by decide +kernel
theorem dX0_wideOfLanes_133 : decode cX0_wideOfLanes 133 = .ok (.invokestatic 118, 3) := by decide +kernel
theorem dX0_wideOfLanes_136 : decode cX0_wideOfLanes 136 = .ok (.ladd, 1) := by decide +kernel
theorem dX0_wideOfLanes_137 : decode cX0_wideOfLanes 137 = .ok (.lstore 13, 2) := by decide +kernel
theorem dX0_wideOfLanes_139 : decode cX0_wideOfLanes 139 = .ok (.lload 13, 2) := by decide +kernel
theorem dX0_wideOfLanes_141 : decode cX0_wideOfLanes 141 = .ok (.lload 5, 2) := by decide +kernel
theorem dX0_wideOfLanes_143 : decode cX0_wideOfLanes 143 = .ok (.invokestatic 134, 3) := by decide +kernel
theorem dX0_wideOfLanes_146 : decode cX0_wideOfLanes 146 = .ok (.lstore 13, 2) := by decide +kernel
theorem dX0_wideOfLanes_148 : decode cX0_wideOfLanes 148 = .ok (.lload 13, 2) := by decide +kernel
theorem dX0_wideOfLanes_150 : decode cX0_wideOfLanes 150 = .ok (.lload 7, 2) := by decide +kernel
theorem dX0_wideOfLanes_152 : decode cX0_wideOfLanes 152 = .ok (.invokestatic 134, 3) := by decide +kernel
theorem dX0_wideOfLanes_155 : decode cX0_wideOfLanes 155 = .ok (.lstore 13, 2) := by decide +kernel
theorem dX0_wideOfLanes_157 : decode cX0_wideOfLanes 157 = .ok (.lload 13, 2) := by decide +kernel
theorem dX0_wideOfLanes_159 : decode cX0_wideOfLanes 159 = .ok (.lload 9, 2) := by decide +kernel
theorem dX0_wideOfLanes_161 : decode cX0_wideOfLanes 161 = .ok (.invokestatic 134, 3) := by decide +kernel
theorem dX0_wideOfLanes_164 : decode cX0_wideOfLanes 164 = .ok (.lstore 13, 2) := by decide +kernel
theorem dX0_wideOfLanes_166 : decode cX0_wideOfLanes 166 = .ok (.lload 13, 2) := by decide +kernel
theorem dX0_wideOfLanes_168 : decode cX0_wideOfLanes 168 = .ok (.lload 11, 2) := by decide +kernel
theorem dX0_wideOfLanes_170 : decode cX0_wideOfLanes 170 = .ok (.invokestatic 134, 3) := by decide +kernel
theorem dX0_wideOfLanes_173 : decode cX0_wideOfLanes 173 = .ok (.lreturn, 1) := by decide +kernel
set_option maxRecDepth 20000 in
theorem ggX0_wideLane_X0_rotatedLong : GoodIn wsX0_wideLane wsX0_rotatedLong := goodIn_r _ [6] (by decide +kernel) (by decide +kernel)
set_option maxRecDepth 20000 in
theorem gX0_wideLane_X0_rotatedLong : GoodIn wsX0_wideLane (va_wsS RX0 118 yX0_rotatedLong wsX0_rotatedLong) := goodIn_app (goodIn_of _ (by decide +kernel)) ggX0_wideLane_X0_rotatedLong
theorem dX0_wideLane_0 : decode cX0_wideLane 0 = .ok (.lload_n 0, 1) := by decide +kernel
theorem dX0_wideLane_1 : decode cX0_wideLane 1 = .ok (.lload_n 2, 1) := by decide +kernel
theorem dX0_wideLane_2 : decode cX0_wideLane 2 = .ok (.ldc2_w 126, 3) := by decide +kernel
theorem dX0_wideLane_5 : decode cX0_wideLane 5 = .ok (.lmul, 1) := by decide +kernel
theorem dX0_wideLane_6 : decode cX0_wideLane 6 = .ok (.ladd, 1) := by decide +kernel
theorem dX0_wideLane_7 : decode cX0_wideLane 7 = .ok (.bipush 31, 2) := by decide +kernel
theorem dX0_wideLane_9 : decode cX0_wideLane 9 = .ok (.invokestatic 118, 3) := by decide +kernel
theorem dX0_wideLane_12 : decode cX0_wideLane 12 = .ok (.ldc2_w 122, 3) := by decide +kernel
theorem dX0_wideLane_15 : decode cX0_wideLane 15 = .ok (.lmul, 1) := by decide +kernel
theorem dX0_wideLane_16 : decode cX0_wideLane 16 = .ok (.lreturn, 1) := by decide +kernel
set_option maxRecDepth 20000 in
theorem ggX0_withLane_X0_wideLane : GoodIn wsX0_withLane wsX0_wideLane := goodIn_r _ [6, 7, 1, 8, 9, 5, 10] (by decide +kernel) (by decide +kernel)
set_option maxRecDepth 20000 in
theorem gX0_withLane_X0_wideLane : GoodIn wsX0_withLane (va_wsS RX0 114 yX0_wideLane wsX0_wideLane) := goodIn_app (goodIn_of _ (by decide +kernel)) ggX0_withLane_X0_wideLane
theorem dX0_withLane_0 : decode cX0_withLane 0 = .ok (.lload_n 0, 1) := by decide +kernel
theorem dX0_withLane_1 : decode cX0_withLane 1 = .ok (.lconst 0, 1) := by decide +kernel
theorem dX0_withLane_2 : decode cX0_withLane 2 = .ok (.lload_n 2, 1) := by decide +kernel
theorem dX0_withLane_3 : decode cX0_withLane 3 = .ok (.invokestatic 114, 3) := by decide +kernel
theorem dX0_withLane_6 : decode cX0_withLane 6 = .ok (.lxor, 1) := by decide +kernel
theorem dX0_withLane_7 : decode cX0_withLane 7 = .ok (.ldc2_w 122, 3) := by decide +kernel
theorem dX0_withLane_10 : decode cX0_withLane 10 = .ok (.lmul, 1) := by decide +kernel
theorem dX0_withLane_11 : decode cX0_withLane 11 = .ok (.ldc2_w 124, 3) := by decide +kernel
theorem dX0_withLane_14 : decode cX0_withLane 14 = .ok (.ladd, 1) := by decide +kernel
theorem dX0_withLane_15 : decode cX0_withLane 15 = .ok (.lreturn, 1) := by decide +kernel
theorem dX0_wideStirred_0 : decode cX0_wideStirred 0 = .ok (.lload_n 0, 1) := by decide +kernel
theorem dX0_wideStirred_1 : decode cX0_wideStirred 1 = .ok (.lload_n 0, 1) := by decide +kernel
theorem dX0_wideStirred_2 : decode cX0_wideStirred 2 = .ok (.bipush 33, 2) := by decide +kernel
theorem dX0_wideStirred_4 : decode cX0_wideStirred 4 = .ok (.lushr, 1) := by decide +kernel
theorem dX0_wideStirred_5 : decode cX0_wideStirred 5 = .ok (.lxor, 1) := by decide +kernel
theorem dX0_wideStirred_6 : decode cX0_wideStirred 6 = .ok (.ldc2_w 126, 3) := by decide +kernel
theorem dX0_wideStirred_9 : decode cX0_wideStirred 9 = .ok (.lmul, 1) := by decide +kernel
theorem dX0_wideStirred_10 : decode cX0_wideStirred 10 = .ok (.lstore_n 0, 1) := by decide +kernel
theorem dX0_wideStirred_11 : decode cX0_wideStirred 11 = .ok (.lload_n 0, 1) := by decide +kernel
theorem dX0_wideStirred_12 : decode cX0_wideStirred 12 = .ok (.lload_n 0, 1) := by decide +kernel
theorem dX0_wideStirred_13 : decode cX0_wideStirred 13 = .ok (.bipush 29, 2) := by decide +kernel
theorem dX0_wideStirred_15 : decode cX0_wideStirred 15 = .ok (.lushr, 1) := by decide +kernel
theorem dX0_wideStirred_16 : decode cX0_wideStirred 16 = .ok (.lxor, 1) := by decide +kernel
theorem dX0_wideStirred_17 : decode cX0_wideStirred 17 = .ok (.ldc2_w 128, 3) := by decide +kernel
theorem dX0_wideStirred_20 : decode cX0_wideStirred 20 = .ok (.lmul, 1) := by decide +kernel
theorem dX0_wideStirred_21 : decode cX0_wideStirred 21 = .ok (.lstore_n 0, 1) := by decide +kernel
theorem dX0_wideStirred_22 : decode cX0_wideStirred 22 = .ok (.lload_n 0, 1) := by decide +kernel
theorem dX0_wideStirred_23 : decode cX0_wideStirred 23 = .ok (.lload_n 0, 1) := by decide +kernel
theorem dX0_wideStirred_24 : decode cX0_wideStirred 24 = .ok (.bipush 32, 2) := by decide +kernel
theorem dX0_wideStirred_26 : decode cX0_wideStirred 26 = .ok (.lushr, 1) := by decide +kernel
theorem dX0_wideStirred_27 : decode cX0_wideStirred 27 = .ok (.lxor, 1) := by decide +kernel
theorem dX0_wideStirred_28 : decode cX0_wideStirred 28 = .ok (.lreturn, 1) := by decide +kernel
set_option maxRecDepth 20000 in
theorem ggX0_polySum_X0_byteAt : GoodIn wsX0_polySum wsX0_byteAt := goodIn_r _ [6, 7, 8, 9, 10, 11, 12, 13] (by decide +kernel) (by decide +kernel)
set_option maxRecDepth 20000 in
theorem gX0_polySum_X0_byteAt : GoodIn wsX0_polySum (wsV RX0 37 RX0 yX0_byteAt wsX0_byteAt) := goodIn_app (goodIn_of _ (by decide +kernel)) ggX0_polySum_X0_byteAt
theorem dX0_polySum_0 : decode cX0_polySum 0 = .ok (.iconst (-1), 1) := by decide +kernel
theorem dX0_polySum_1 : decode cX0_polySum 1 = .ok (.istore_n 3, 1) := by decide +kernel
theorem dX0_polySum_2 : decode cX0_polySum 2 = .ok (.iload_n 1, 1) := by decide +kernel
theorem dX0_polySum_3 : decode cX0_polySum 3 = .ok (.istore 4, 2) := by decide +kernel
theorem dX0_polySum_5 : decode cX0_polySum 5 = .ok (.iload 4, 2) := by decide +kernel
theorem dX0_polySum_7 : decode cX0_polySum 7 = .ok (.iload_n 2, 1) := by decide +kernel
theorem dX0_polySum_8 : decode cX0_polySum 8 = .ok (.if_icmp .ge 32, 3) := by decide +kernel
theorem dX0_polySum_11 : decode cX0_polySum 11 = .ok (.iload_n 3, 1) := by decide +kernel
theorem dX0_polySum_12 : decode cX0_polySum 12 = .ok (.bipush 8, 2) := by decide +kernel
theorem dX0_polySum_14 : decode cX0_polySum 14 = .ok (.iushr, 1) := by decide +kernel
theorem dX0_polySum_15 : decode cX0_polySum 15 = .ok (.aload_n 0, 1) := by decide +kernel
theorem dX0_polySum_16 : decode cX0_polySum 16 = .ok (.getfield 14, 3) := by decide +kernel
theorem dX0_polySum_19 : decode cX0_polySum 19 = .ok (.iload_n 3, 1) := by decide +kernel
theorem dX0_polySum_20 : decode cX0_polySum 20 = .ok (.aload_n 0, 1) := by decide +kernel
theorem dX0_polySum_21 : decode cX0_polySum 21 = .ok (.iload 4, 2) := by decide +kernel
theorem dX0_polySum_23 : decode cX0_polySum 23 = .ok (.invokevirtual 37, 3) := by decide +kernel
theorem dX0_polySum_26 : decode cX0_polySum 26 = .ok (.ixor, 1) := by decide +kernel
theorem dX0_polySum_27 : decode cX0_polySum 27 = .ok (.sipush 255, 3) := by decide +kernel
theorem dX0_polySum_30 : decode cX0_polySum 30 = .ok (.iand, 1) := by decide +kernel
theorem dX0_polySum_31 : decode cX0_polySum 31 = .ok (.iaload, 1) := by decide +kernel
theorem dX0_polySum_32 : decode cX0_polySum 32 = .ok (.ixor, 1) := by decide +kernel
theorem dX0_polySum_33 : decode cX0_polySum 33 = .ok (.istore_n 3, 1) := by decide +kernel
theorem dX0_polySum_34 : decode cX0_polySum 34 = .ok (.iinc 4 1, 3) := by decide +kernel
theorem dX0_polySum_37 : decode cX0_polySum 37 = .ok (.goto (-32), 3) := by decide +kernel
theorem dX0_polySum_40 : decode cX0_polySum 40 = .ok (.iload_n 3, 1) := by decide +kernel
theorem dX0_polySum_41 : decode cX0_polySum 41 = .ok (.iconst (-1), 1) := by decide +kernel
theorem dX0_polySum_42 : decode cX0_polySum 42 = .ok (.ixor, 1) := by decide +kernel
theorem dX0_polySum_43 : decode cX0_polySum 43 = .ok (.ireturn, 1) := by decide +kernel
theorem dX0_movedOn_0 : decode cX0_movedOn 0 = .ok (.iconst 0, 1) := by decide +kernel
theorem dX0_movedOn_1 : decode cX0_movedOn 1 = .ok (.istore_n 2, 1) := by decide +kernel
theorem dX0_movedOn_2 : decode cX0_movedOn 2 = .ok (.iload_n 2, 1) := by decide +kernel
theorem dX0_movedOn_3 : decode cX0_movedOn 3 = .ok (.iload_n 1, 1) := by decide +kernel
theorem dX0_movedOn_4 : decode cX0_movedOn 4 = .ok (.if_icmp .ge 28, 3) := by decide +kernel
theorem dX0_movedOn_7 : decode cX0_movedOn 7 = .ok (.iload_n 0, 1) := by decide +kernel
theorem dX0_movedOn_8 : decode cX0_movedOn 8 = .ok (.iconst 1, 1) := by decide +kernel
theorem dX0_movedOn_9 : decode cX0_movedOn 9 = .ok (.iand, 1) := by decide +kernel
theorem dX0_movedOn_10 : decode cX0_movedOn 10 = .ok (.ifCond .eq 12, 3) := by decide +kernel
theorem dX0_movedOn_13 : decode cX0_movedOn 13 = .ok (.iload_n 0, 1) := by decide +kernel
theorem dX0_movedOn_14 : decode cX0_movedOn 14 = .ok (.iconst 1, 1) := by decide +kernel
theorem dX0_movedOn_15 : decode cX0_movedOn 15 = .ok (.iushr, 1) := by decide +kernel
theorem dX0_movedOn_16 : decode cX0_movedOn 16 = .ok (.ldc 137, 2) := by decide +kernel
theorem dX0_movedOn_18 : decode cX0_movedOn 18 = .ok (.ixor, 1) := by decide +kernel
theorem dX0_movedOn_19 : decode cX0_movedOn 19 = .ok (.goto 6, 3) := by decide +kernel
theorem dX0_movedOn_22 : decode cX0_movedOn 22 = .ok (.iload_n 0, 1) := by decide +kernel
theorem dX0_movedOn_23 : decode cX0_movedOn 23 = .ok (.iconst 1, 1) := by decide +kernel
theorem dX0_movedOn_24 : decode cX0_movedOn 24 = .ok (.iushr, 1) := by decide +kernel
theorem dX0_movedOn_25 : decode cX0_movedOn 25 = .ok (.istore_n 0, 1) := by decide +kernel
theorem dX0_movedOn_26 : decode cX0_movedOn 26 = .ok (.iinc 2 1, 3) := by decide +kernel
theorem dX0_movedOn_29 : decode cX0_movedOn 29 = .ok (.goto (-27), 3) := by decide +kernel
theorem dX0_movedOn_32 : decode cX0_movedOn 32 = .ok (.iload_n 0, 1) := by decide +kernel
theorem dX0_movedOn_33 : decode cX0_movedOn 33 = .ok (.ireturn, 1) := by decide +kernel
theorem dX0_movedBack_0 : decode cX0_movedBack 0 = .ok (.iconst 0, 1) := by decide +kernel
theorem dX0_movedBack_1 : decode cX0_movedBack 1 = .ok (.istore_n 2, 1) := by decide +kernel
theorem dX0_movedBack_2 : decode cX0_movedBack 2 = .ok (.iload_n 2, 1) := by decide +kernel
theorem dX0_movedBack_3 : decode cX0_movedBack 3 = .ok (.iload_n 1, 1) := by decide +kernel
theorem dX0_movedBack_4 : decode cX0_movedBack 4 = .ok (.if_icmp .ge 28, 3) := by decide +kernel
theorem dX0_movedBack_7 : decode cX0_movedBack 7 = .ok (.iload_n 0, 1) := by decide +kernel
theorem dX0_movedBack_8 : decode cX0_movedBack 8 = .ok (.ifCond .ge 14, 3) := by decide +kernel
theorem dX0_movedBack_11 : decode cX0_movedBack 11 = .ok (.iload_n 0, 1) := by decide +kernel
theorem dX0_movedBack_12 : decode cX0_movedBack 12 = .ok (.ldc 137, 2) := by decide +kernel
theorem dX0_movedBack_14 : decode cX0_movedBack 14 = .ok (.ixor, 1) := by decide +kernel
theorem dX0_movedBack_15 : decode cX0_movedBack 15 = .ok (.iconst 1, 1) := by decide +kernel
theorem dX0_movedBack_16 : decode cX0_movedBack 16 = .ok (.ishl, 1) := by decide +kernel
theorem dX0_movedBack_17 : decode cX0_movedBack 17 = .ok (.iconst 1, 1) := by decide +kernel
theorem dX0_movedBack_18 : decode cX0_movedBack 18 = .ok (.ior, 1) := by decide +kernel
theorem dX0_movedBack_19 : decode cX0_movedBack 19 = .ok (.goto 6, 3) := by decide +kernel
theorem dX0_movedBack_22 : decode cX0_movedBack 22 = .ok (.iload_n 0, 1) := by decide +kernel
theorem dX0_movedBack_23 : decode cX0_movedBack 23 = .ok (.iconst 1, 1) := by decide +kernel
theorem dX0_movedBack_24 : decode cX0_movedBack 24 = .ok (.ishl, 1) := by decide +kernel
theorem dX0_movedBack_25 : decode cX0_movedBack 25 = .ok (.istore_n 0, 1) := by decide +kernel
theorem dX0_movedBack_26 : decode cX0_movedBack 26 = .ok (.iinc 2 1, 3) := by decide +kernel
theorem dX0_movedBack_29 : decode cX0_movedBack 29 = .ok (.goto (-27), 3) := by decide +kernel
theorem dX0_movedBack_32 : decode cX0_movedBack 32 = .ok (.iload_n 0, 1) := by decide +kernel
theorem dX0_movedBack_33 : decode cX0_movedBack 33 = .ok (.ireturn, 1) := by decide +kernel
set_option maxRecDepth 20000 in
theorem ggX0_product_X0_movedOn : GoodIn wsX0_product wsX0_movedOn := goodIn_r _ [4, 5] (by decide +kernel) (by decide +kernel)
set_option maxRecDepth 20000 in
theorem gX0_product_X0_movedOn : GoodIn wsX0_product (va_wsS RX0 18 yX0_movedOn wsX0_movedOn) := goodIn_app (goodIn_of _ (by decide +kernel)) ggX0_product_X0_movedOn
theorem dX0_product_0 : decode cX0_product 0 = .ok (.iconst 0, 1) := by decide +kernel
theorem dX0_product_1 : decode cX0_product 1 = .ok (.istore_n 2, 1) := by decide +kernel
theorem dX0_product_2 : decode cX0_product 2 = .ok (.bipush 31, 2) := by decide +kernel
theorem dX0_product_4 : decode cX0_product 4 = .ok (.istore_n 3, 1) := by decide +kernel
theorem dX0_product_5 : decode cX0_product 5 = .ok (.iload_n 3, 1) := by decide +kernel
theorem dX0_product_6 : decode cX0_product 6 = .ok (.ifCond .lt 27, 3) := by decide +kernel
theorem dX0_product_9 : decode cX0_product 9 = .ok (.iload_n 0, 1) := by decide +kernel
theorem dX0_product_10 : decode cX0_product 10 = .ok (.iload_n 3, 1) := by decide +kernel
theorem dX0_product_11 : decode cX0_product 11 = .ok (.iushr, 1) := by decide +kernel
theorem dX0_product_12 : decode cX0_product 12 = .ok (.iconst 1, 1) := by decide +kernel
theorem dX0_product_13 : decode cX0_product 13 = .ok (.iand, 1) := by decide +kernel
theorem dX0_product_14 : decode cX0_product 14 = .ok (.ifCond .eq 7, 3) := by decide +kernel
theorem dX0_product_17 : decode cX0_product 17 = .ok (.iload_n 2, 1) := by decide +kernel
theorem dX0_product_18 : decode cX0_product 18 = .ok (.iload_n 1, 1) := by decide +kernel
theorem dX0_product_19 : decode cX0_product 19 = .ok (.ixor, 1) := by decide +kernel
theorem dX0_product_20 : decode cX0_product 20 = .ok (.istore_n 2, 1) := by decide +kernel
theorem dX0_product_21 : decode cX0_product 21 = .ok (.iload_n 1, 1) := by decide +kernel
theorem dX0_product_22 : decode cX0_product 22 = .ok (.iconst 1, 1) := by decide +kernel
theorem dX0_product_23 : decode cX0_product 23 = .ok (.invokestatic 18, 3) := by decide +kernel
theorem dX0_product_26 : decode cX0_product 26 = .ok (.istore_n 1, 1) := by decide +kernel
theorem dX0_product_27 : decode cX0_product 27 = .ok (.iinc 3 (-1), 3) := by decide +kernel
theorem dX0_product_30 : decode cX0_product 30 = .ok (.goto (-25), 3) := by decide +kernel
theorem dX0_product_33 : decode cX0_product 33 = .ok (.iload_n 2, 1) := by decide +kernel
theorem dX0_product_34 : decode cX0_product 34 = .ok (.ireturn, 1) := by decide +kernel
set_option maxRecDepth 20000 in
theorem ggX0_power_X0_product : GoodIn wsX0_power wsX0_product := goodIn_r _ [5, 6, 7, 4, 8, 9] (by decide +kernel) (by decide +kernel)
set_option maxRecDepth 20000 in
theorem gX0_power_X0_product : GoodIn wsX0_power (va_wsS RX0 65 yX0_product wsX0_product) := goodIn_app (goodIn_of _ (by decide +kernel)) ggX0_power_X0_product
theorem dX0_power_0 : decode cX0_power 0 = .ok (.ldc 60, 2) := by decide +kernel
theorem dX0_power_2 : decode cX0_power 2 = .ok (.istore_n 3, 1) := by decide +kernel
theorem dX0_power_3 : decode cX0_power 3 = .ok (.iconst 0, 1) := by decide +kernel
theorem dX0_power_4 : decode cX0_power 4 = .ok (.istore 4, 2) := by decide +kernel
theorem dX0_power_6 : decode cX0_power 6 = .ok (.iload 4, 2) := by decide +kernel
theorem dX0_power_8 : decode cX0_power 8 = .ok (.bipush 64, 2) := by decide +kernel
theorem dX0_power_10 : decode cX0_power 10 = .ok (.if_icmp .ge 32, 3) := by decide +kernel
theorem dX0_power_13 : decode cX0_power 13 = .ok (.lload_n 1, 1) := by decide +kernel
theorem dX0_power_14 : decode cX0_power 14 = .ok (.iload 4, 2) := by decide +kernel
theorem dX0_power_16 : decode cX0_power 16 = .ok (.lushr, 1) := by decide +kernel
theorem dX0_power_17 : decode cX0_power 17 = .ok (.lconst 1, 1) := by decide +kernel
theorem dX0_power_18 : decode cX0_power 18 = .ok (.land, 1) := by decide +kernel
theorem dX0_power_19 : decode cX0_power 19 = .ok (.lconst 0, 1) := by decide +kernel
theorem dX0_power_20 : decode cX0_power 20 = .ok (.lcmp, 1) := by decide +kernel
theorem dX0_power_21 : decode cX0_power 21 = .ok (.ifCond .eq 9, 3) := by decide +kernel
theorem dX0_power_24 : decode cX0_power 24 = .ok (.iload_n 3, 1) := by decide +kernel
theorem dX0_power_25 : decode cX0_power 25 = .ok (.iload_n 0, 1) := by decide +kernel
theorem dX0_power_26 : decode cX0_power 26 = .ok (.invokestatic 65, 3) := by decide +kernel
theorem dX0_power_29 : decode cX0_power 29 = .ok (.istore_n 3, 1) := by decide +kernel
theorem dX0_power_30 : decode cX0_power 30 = .ok (.iload_n 0, 1) := by decide +kernel
theorem dX0_power_31 : decode cX0_power 31 = .ok (.iload_n 0, 1) := by decide +kernel
theorem dX0_power_32 : decode cX0_power 32 = .ok (.invokestatic 65, 3) := by decide +kernel
theorem dX0_power_35 : decode cX0_power 35 = .ok (.istore_n 0, 1) := by decide +kernel
theorem dX0_power_36 : decode cX0_power 36 = .ok (.iinc 4 1, 3) := by decide +kernel
theorem dX0_power_39 : decode cX0_power 39 = .ok (.goto (-33), 3) := by decide +kernel
theorem dX0_power_42 : decode cX0_power 42 = .ok (.iload_n 3, 1) := by decide +kernel
theorem dX0_power_43 : decode cX0_power 43 = .ok (.ireturn, 1) := by decide +kernel
set_option maxRecDepth 20000 in
theorem ggX0_fourBetween_X0_movedBack : GoodIn wsX0_fourBetween wsX0_movedBack := goodIn_r _ [4, 5] (by decide +kernel) (by decide +kernel)
set_option maxRecDepth 20000 in
theorem gX0_fourBetween_X0_movedBack : GoodIn wsX0_fourBetween (va_wsS RX0 68 yX0_movedBack wsX0_movedBack) := goodIn_app (goodIn_of _ (by decide +kernel)) ggX0_fourBetween_X0_movedBack
set_option maxRecDepth 20000 in
theorem ggX0_fourBetween_X0_turnedRound : GoodIn wsX0_fourBetween wsX0_turnedRound := goodIn_r _ [8, 9] (by decide +kernel) (by decide +kernel)
set_option maxRecDepth 20000 in
theorem gX0_fourBetween_X0_turnedRound : GoodIn wsX0_fourBetween (va_wsS RX0 138 yX0_turnedRound wsX0_turnedRound) := goodIn_app (goodIn_of _ (by decide +kernel)) ggX0_fourBetween_X0_turnedRound
theorem dX0_fourBetween_0 : decode cX0_fourBetween 0 = .ok (.iload_n 0, 1) := by decide +kernel
theorem dX0_fourBetween_1 : decode cX0_fourBetween 1 = .ok (.iconst (-1), 1) := by decide +kernel
theorem dX0_fourBetween_2 : decode cX0_fourBetween 2 = .ok (.ixor, 1) := by decide +kernel
theorem dX0_fourBetween_3 : decode cX0_fourBetween 3 = .ok (.iload_n 1, 1) := by decide +kernel
theorem dX0_fourBetween_4 : decode cX0_fourBetween 4 = .ok (.iconst (-1), 1) := by decide +kernel
theorem dX0_fourBetween_5 : decode cX0_fourBetween 5 = .ok (.ixor, 1) := by decide +kernel
theorem dX0_fourBetween_6 : decode cX0_fourBetween 6 = .ok (.bipush 32, 2) := by decide +kernel
theorem dX0_fourBetween_8 : decode cX0_fourBetween 8 = .ok (.invokestatic 68, 3) := by decide +kernel
theorem dX0_fourBetween_11 : decode cX0_fourBetween 11 = .ok (.ixor, 1) := by decide +kernel
theorem dX0_fourBetween_12 : decode cX0_fourBetween 12 = .ok (.invokestatic 138, 3) := by decide +kernel
theorem dX0_fourBetween_15 : decode cX0_fourBetween 15 = .ok (.ireturn, 1) := by decide +kernel
theorem dX0_turnedRound_0 : decode cX0_turnedRound 0 = .ok (.iload_n 0, 1) := by decide +kernel
theorem dX0_turnedRound_1 : decode cX0_turnedRound 1 = .ok (.bipush 24, 2) := by decide +kernel
theorem dX0_turnedRound_3 : decode cX0_turnedRound 3 = .ok (.ishl, 1) := by decide +kernel
theorem dX0_turnedRound_4 : decode cX0_turnedRound 4 = .ok (.iload_n 0, 1) := by decide +kernel
theorem dX0_turnedRound_5 : decode cX0_turnedRound 5 = .ok (.ldc 141, 2) := by decide +kernel
theorem dX0_turnedRound_7 : decode cX0_turnedRound 7 = .ok (.iand, 1) := by decide +kernel
theorem dX0_turnedRound_8 : decode cX0_turnedRound 8 = .ok (.bipush 8, 2) := by decide +kernel
theorem dX0_turnedRound_10 : decode cX0_turnedRound 10 = .ok (.ishl, 1) := by decide +kernel
theorem dX0_turnedRound_11 : decode cX0_turnedRound 11 = .ok (.ior, 1) := by decide +kernel
theorem dX0_turnedRound_12 : decode cX0_turnedRound 12 = .ok (.iload_n 0, 1) := by decide +kernel
theorem dX0_turnedRound_13 : decode cX0_turnedRound 13 = .ok (.bipush 8, 2) := by decide +kernel
theorem dX0_turnedRound_15 : decode cX0_turnedRound 15 = .ok (.iushr, 1) := by decide +kernel
theorem dX0_turnedRound_16 : decode cX0_turnedRound 16 = .ok (.ldc 141, 2) := by decide +kernel
theorem dX0_turnedRound_18 : decode cX0_turnedRound 18 = .ok (.iand, 1) := by decide +kernel
theorem dX0_turnedRound_19 : decode cX0_turnedRound 19 = .ok (.ior, 1) := by decide +kernel
theorem dX0_turnedRound_20 : decode cX0_turnedRound 20 = .ok (.iload_n 0, 1) := by decide +kernel
theorem dX0_turnedRound_21 : decode cX0_turnedRound 21 = .ok (.bipush 24, 2) := by decide +kernel
theorem dX0_turnedRound_23 : decode cX0_turnedRound 23 = .ok (.iushr, 1) := by decide +kernel
theorem dX0_turnedRound_24 : decode cX0_turnedRound 24 = .ok (.ior, 1) := by decide +kernel
theorem dX0_turnedRound_25 : decode cX0_turnedRound 25 = .ok (.ireturn, 1) := by decide +kernel
theorem dX1_init_0 : decode cX1_init 0 = .ok (.aload_n 0, 1) := by decide +kernel
theorem dX1_init_1 : decode cX1_init 1 = .ok (.invokespecial 1, 3) := by decide +kernel
theorem dX1_init_4 : decode cX1_init 4 = .ok (.aload_n 0, 1) := by decide +kernel
theorem dX1_init_5 : decode cX1_init 5 = .ok (.ldc 7, 2) := by decide +kernel
theorem dX1_init_7 : decode cX1_init 7 = .ok (.newarray .byte, 2) := by decide +kernel
theorem dX1_init_9 : decode cX1_init 9 = .ok (.putfield 8, 3) := by decide +kernel
theorem dX1_init_12 : decode cX1_init 12 = .ok (.return_, 1) := by decide +kernel
theorem dX1_begin_0 : decode cX1_begin 0 = .ok (.aload_n 0, 1) := by decide +kernel
theorem dX1_begin_1 : decode cX1_begin 1 = .ok (.iconst 0, 1) := by decide +kernel
theorem dX1_begin_2 : decode cX1_begin 2 = .ok (.putfield 14, 3) := by decide +kernel
theorem dX1_begin_5 : decode cX1_begin 5 = .ok (.aload_n 0, 1) := by decide +kernel
theorem dX1_begin_6 : decode cX1_begin 6 = .ok (.iload_n 1, 1) := by decide +kernel
theorem dX1_begin_7 : decode cX1_begin 7 = .ok (.putfield 18, 3) := by decide +kernel
theorem dX1_begin_10 : decode cX1_begin 10 = .ok (.aload_n 0, 1) := by decide +kernel
theorem dX1_begin_11 : decode cX1_begin 11 = .ok (.lload_n 2, 1) := by decide +kernel
theorem dX1_begin_12 : decode cX1_begin 12 = .ok (.putfield 21, 3) := by decide +kernel
theorem dX1_begin_15 : decode cX1_begin 15 = .ok (.return_, 1) := by decide +kernel
theorem dX1_write_0 : decode cX1_write 0 = .ok (.iload_n 3, 1) := by decide +kernel
theorem dX1_write_1 : decode cX1_write 1 = .ok (.iconst 1, 1) := by decide +kernel
theorem dX1_write_2 : decode cX1_write 2 = .ok (.if_icmp .lt 20, 3) := by decide +kernel
theorem dX1_write_5 : decode cX1_write 5 = .ok (.iload_n 3, 1) := by decide +kernel
theorem dX1_write_6 : decode cX1_write 6 = .ok (.bipush 8, 2) := by decide +kernel
theorem dX1_write_8 : decode cX1_write 8 = .ok (.if_icmp .gt 14, 3) := by decide +kernel
theorem dX1_write_11 : decode cX1_write 11 = .ok (.aload_n 0, 1) := by decide +kernel
theorem dX1_write_12 : decode cX1_write 12 = .ok (.getfield 14, 3) := by decide +kernel
theorem dX1_write_15 : decode cX1_write 15 = .ok (.iload_n 3, 1) := by decide +kernel
theorem dX1_write_16 : decode cX1_write 16 = .ok (.iadd, 1) := by decide +kernel
theorem dX1_write_17 : decode cX1_write 17 = .ok (.ldc 7, 2) := by decide +kernel
theorem dX1_write_19 : decode cX1_write 19 = .ok (.if_icmp .le 5, 3) := by decide +kernel
theorem dX1_write_22 : decode cX1_write 22 = .ok (.iconst 0, 1) := by decide +kernel
theorem dX1_write_23 : decode cX1_write 23 = .ok (.ireturn, 1) := by decide +kernel
theorem dX1_write_24 : decode cX1_write 24 = .ok (.iconst 0, 1) := by decide +kernel
theorem dX1_write_25 : decode cX1_write 25 = .ok (.istore 4, 2) := by decide +kernel
theorem dX1_write_27 : decode cX1_write 27 = .ok (.iload 4, 2) := by decide +kernel
theorem dX1_write_29 : decode cX1_write 29 = .ok (.iload_n 3, 1) := by decide +kernel
theorem dX1_write_30 : decode cX1_write 30 = .ok (.if_icmp .ge 40, 3) := by decide +kernel
theorem dX1_write_33 : decode cX1_write 33 = .ok (.aload_n 0, 1) := by decide +kernel
theorem dX1_write_34 : decode cX1_write 34 = .ok (.getfield 8, 3) := by decide +kernel
theorem dX1_write_37 : decode cX1_write 37 = .ok (.aload_n 0, 1) := by decide +kernel
theorem dX1_write_38 : decode cX1_write 38 = .ok (.getfield 14, 3) := by decide +kernel
theorem dX1_write_41 : decode cX1_write 41 = .ok (.lload_n 1, 1) := by decide +kernel
theorem dX1_write_42 : decode cX1_write 42 = .ok (.bipush 56, 2) := by decide +kernel
theorem dX1_write_44 : decode cX1_write 44 = .ok (.bipush 8, 2) := by decide +kernel
theorem dX1_write_46 : decode cX1_write 46 = .ok (.iload 4, 2) := by decide +kernel
theorem dX1_write_48 : decode cX1_write 48 = .ok (.imul, 1) := by decide +kernel
theorem dX1_write_49 : decode cX1_write 49 = .ok (.isub, 1) := by decide +kernel
theorem dX1_write_50 : decode cX1_write 50 = .ok (.lushr, 1) := by decide +kernel
theorem dX1_write_51 : decode cX1_write 51 = .ok (.l2i, 1) := by decide +kernel
theorem dX1_write_52 : decode cX1_write 52 = .ok (.i2b, 1) := by decide +kernel
theorem dX1_write_53 : decode cX1_write 53 = .ok (.bastore, 1) := by decide +kernel
theorem dX1_write_54 : decode cX1_write 54 = .ok (.aload_n 0, 1) := by decide +kernel
theorem dX1_write_55 : decode cX1_write 55 = .ok (.dup, 1) := by decide +kernel
theorem dX1_write_56 : decode cX1_write 56 = .ok (.getfield 14, 3) := by decide +kernel
theorem dX1_write_59 : decode cX1_write 59 = .ok (.iconst 1, 1) := by decide +kernel
theorem dX1_write_60 : decode cX1_write 60 = .ok (.iadd, 1) := by decide +kernel
theorem dX1_write_61 : decode cX1_write 61 = .ok (.putfield 14, 3) := by decide +kernel
theorem dX1_write_64 : decode cX1_write 64 = .ok (.iinc 4 1, 3) := by decide +kernel
theorem dX1_write_67 : decode cX1_write 67 = .ok (.goto (-40), 3) := by decide +kernel
theorem dX1_write_70 : decode cX1_write 70 = .ok (.iconst 1, 1) := by decide +kernel
theorem dX1_write_71 : decode cX1_write 71 = .ok (.ireturn, 1) := by decide +kernel
theorem dX1_again_0 : decode cX1_again 0 = .ok (.iload_n 1, 1) := by decide +kernel
theorem dX1_again_1 : decode cX1_again 1 = .ok (.iconst 1, 1) := by decide +kernel
theorem dX1_again_2 : decode cX1_again 2 = .ok (.if_icmp .lt 33, 3) := by decide +kernel
theorem dX1_again_5 : decode cX1_again 5 = .ok (.iload_n 1, 1) := by decide +kernel
theorem dX1_again_6 : decode cX1_again 6 = .ok (.aload_n 0, 1) := by decide +kernel
theorem dX1_again_7 : decode cX1_again 7 = .ok (.getfield 14, 3) := by decide +kernel
theorem dX1_again_10 : decode cX1_again 10 = .ok (.if_icmp .gt 25, 3) := by decide +kernel
theorem dX1_again_13 : decode cX1_again 13 = .ok (.iload_n 2, 1) := by decide +kernel
theorem dX1_again_14 : decode cX1_again 14 = .ok (.ifCond .lt 21, 3) := by decide +kernel
theorem dX1_again_17 : decode cX1_again 17 = .ok (.aload_n 0, 1) := by decide +kernel
theorem dX1_again_18 : decode cX1_again 18 = .ok (.getfield 14, 3) := by decide +kernel
theorem dX1_again_21 : decode cX1_again 21 = .ok (.i2l, 1) := by decide +kernel
theorem dX1_again_22 : decode cX1_again 22 = .ok (.iload_n 1, 1) := by decide +kernel
theorem dX1_again_23 : decode cX1_again 23 = .ok (.i2l, 1) := by decide +kernel
theorem dX1_again_24 : decode cX1_again 24 = .ok (.iload_n 2, 1) := by decide +kernel
theorem dX1_again_25 : decode cX1_again 25 = .ok (.i2l, 1) := by decide +kernel
theorem dX1_again_26 : decode cX1_again 26 = .ok (.lmul, 1) := by decide +kernel
theorem dX1_again_27 : decode cX1_again 27 = .ok (.ladd, 1) := by decide +kernel
theorem dX1_again_28 : decode cX1_again 28 = .ok (.ldc2_w 25, 3) := by decide +kernel
theorem dX1_again_31 : decode cX1_again 31 = .ok (.lcmp, 1) := by decide +kernel
theorem dX1_again_32 : decode cX1_again 32 = .ok (.ifCond .le 5, 3) := by decide +kernel
theorem dX1_again_35 : decode cX1_again 35 = .ok (.iconst 0, 1) := by decide +kernel
theorem dX1_again_36 : decode cX1_again 36 = .ok (.ireturn, 1) := by decide +kernel
theorem dX1_again_37 : decode cX1_again 37 = .ok (.iload_n 1, 1) := by decide +kernel
theorem dX1_again_38 : decode cX1_again 38 = .ok (.iload_n 2, 1) := by decide +kernel
theorem dX1_again_39 : decode cX1_again 39 = .ok (.imul, 1) := by decide +kernel
theorem dX1_again_40 : decode cX1_again 40 = .ok (.istore_n 3, 1) := by decide +kernel
theorem dX1_again_41 : decode cX1_again 41 = .ok (.iconst 0, 1) := by decide +kernel
theorem dX1_again_42 : decode cX1_again 42 = .ok (.istore 4, 2) := by decide +kernel
theorem dX1_again_44 : decode cX1_again 44 = .ok (.iload 4, 2) := by decide +kernel
theorem dX1_again_46 : decode cX1_again 46 = .ok (.iload_n 3, 1) := by decide +kernel
theorem dX1_again_47 : decode cX1_again 47 = .ok (.if_icmp .ge 39, 3) := by decide +kernel
theorem dX1_again_50 : decode cX1_again 50 = .ok (.aload_n 0, 1) := by decide +kernel
theorem dX1_again_51 : decode cX1_again 51 = .ok (.getfield 8, 3) := by decide +kernel
theorem dX1_again_54 : decode cX1_again 54 = .ok (.aload_n 0, 1) := by decide +kernel
theorem dX1_again_55 : decode cX1_again 55 = .ok (.getfield 14, 3) := by decide +kernel
theorem dX1_again_58 : decode cX1_again 58 = .ok (.aload_n 0, 1) := by decide +kernel
theorem dX1_again_59 : decode cX1_again 59 = .ok (.getfield 8, 3) := by decide +kernel
theorem dX1_again_62 : decode cX1_again 62 = .ok (.aload_n 0, 1) := by decide +kernel
theorem dX1_again_63 : decode cX1_again 63 = .ok (.getfield 14, 3) := by decide +kernel
theorem dX1_again_66 : decode cX1_again 66 = .ok (.iload_n 1, 1) := by decide +kernel
theorem dX1_again_67 : decode cX1_again 67 = .ok (.isub, 1) := by decide +kernel
theorem dX1_again_68 : decode cX1_again 68 = .ok (.baload, 1) := by decide +kernel
theorem dX1_again_69 : decode cX1_again 69 = .ok (.bastore, 1) := by decide +kernel
theorem dX1_again_70 : decode cX1_again 70 = .ok (.aload_n 0, 1) := by decide +kernel
theorem dX1_again_71 : decode cX1_again 71 = .ok (.dup, 1) := by decide +kernel
theorem dX1_again_72 : decode cX1_again 72 = .ok (.getfield 14, 3) := by decide +kernel
theorem dX1_again_75 : decode cX1_again 75 = .ok (.iconst 1, 1) := by decide +kernel
theorem dX1_again_76 : decode cX1_again 76 = .ok (.iadd, 1) := by decide +kernel
theorem dX1_again_77 : decode cX1_again 77 = .ok (.putfield 14, 3) := by decide +kernel
theorem dX1_again_80 : decode cX1_again 80 = .ok (.iinc 4 1, 3) := by decide +kernel
theorem dX1_again_83 : decode cX1_again 83 = .ok (.goto (-39), 3) := by decide +kernel
theorem dX1_again_86 : decode cX1_again 86 = .ok (.iconst 1, 1) := by decide +kernel
theorem dX1_again_87 : decode cX1_again 87 = .ok (.ireturn, 1) := by decide +kernel
theorem dX1_size_0 : decode cX1_size 0 = .ok (.aload_n 0, 1) := by decide +kernel
theorem dX1_size_1 : decode cX1_size 1 = .ok (.getfield 14, 3) := by decide +kernel
theorem dX1_size_4 : decode cX1_size 4 = .ok (.ireturn, 1) := by decide +kernel
theorem dX1_at_0 : decode cX1_at 0 = .ok (.aload_n 0, 1) := by decide +kernel
theorem dX1_at_1 : decode cX1_at 1 = .ok (.getfield 8, 3) := by decide +kernel
theorem dX1_at_4 : decode cX1_at 4 = .ok (.iload_n 1, 1) := by decide +kernel
theorem dX1_at_5 : decode cX1_at 5 = .ok (.baload, 1) := by decide +kernel
theorem dX1_at_6 : decode cX1_at 6 = .ok (.sipush 255, 3) := by decide +kernel
theorem dX1_at_9 : decode cX1_at 9 = .ok (.iand, 1) := by decide +kernel
theorem dX1_at_10 : decode cX1_at 10 = .ok (.ireturn, 1) := by decide +kernel
theorem dX1_byteAt_0 : decode cX1_byteAt 0 = .ok (.iload_n 1, 1) := by decide +kernel
theorem dX1_byteAt_1 : decode cX1_byteAt 1 = .ok (.ifCond .lt 11, 3) := by decide +kernel
theorem dX1_byteAt_4 : decode cX1_byteAt 4 = .ok (.iload_n 1, 1) := by decide +kernel
theorem dX1_byteAt_5 : decode cX1_byteAt 5 = .ok (.aload_n 0, 1) := by decide +kernel
theorem dX1_byteAt_6 : decode cX1_byteAt 6 = .ok (.getfield 14, 3) := by decide +kernel
theorem dX1_byteAt_9 : decode cX1_byteAt 9 = .ok (.if_icmp .lt 7, 3) := by decide +kernel
theorem dX1_byteAt_12 : decode cX1_byteAt 12 = .ok (.iconst (-1), 1) := by decide +kernel
theorem dX1_byteAt_13 : decode cX1_byteAt 13 = .ok (.goto 8, 3) := by decide +kernel
theorem dX1_byteAt_16 : decode cX1_byteAt 16 = .ok (.aload_n 0, 1) := by decide +kernel
theorem dX1_byteAt_17 : decode cX1_byteAt 17 = .ok (.iload_n 1, 1) := by decide +kernel
theorem dX1_byteAt_18 : decode cX1_byteAt 18 = .ok (.invokevirtual 27, 3) := by decide +kernel
theorem dX1_byteAt_21 : decode cX1_byteAt 21 = .ok (.ireturn, 1) := by decide +kernel
set_option maxRecDepth 20000 in
theorem ggL_law_X0_init : GoodIn wsL_law wsX0_init := goodIn_r _ [8, 9, 10, 11, 12, 13, 14, 15, 16, 17, 18, 19, 20, 21, 2, 22, 23, 216, 217, 218, 219, 220] (by decide +kernel) (by decide +kernel)
set_option maxRecDepth 20000 in
theorem gL_law_X0_init : GoodIn wsL_law (wsX0_init) := ggL_law_X0_init
set_option maxRecDepth 20000 in
theorem ggL_law_X0_begin : GoodIn wsL_law wsX0_begin := goodIn_r _ [33, 17, 18, 19, 216, 217, 218, 219, 220] (by decide +kernel) (by decide +kernel)
set_option maxRecDepth 20000 in
theorem gL_law_X0_begin : GoodIn wsL_law (wsV RL 15 RX0 yX0_begin wsX0_begin) := goodIn_app (goodIn_of _ (by decide +kernel)) ggL_law_X0_begin
set_option maxRecDepth 20000 in
theorem ggL_law_X0_write : GoodIn wsL_law wsX0_write := goodIn_r _ [44, 12, 17, 45, 46, 47, 2, 48, 14, 216, 217, 218, 219, 220] (by decide +kernel) (by decide +kernel)
set_option maxRecDepth 20000 in
theorem gL_law_X0_write : GoodIn wsL_law (wsV RL 20 RX0 yX0_write wsX0_write) := goodIn_app (goodIn_of _ (by decide +kernel)) ggL_law_X0_write
set_option maxRecDepth 20000 in
theorem ggL_law_X0_again : GoodIn wsL_law wsX0_again := goodIn_r _ [56, 17, 12, 57, 58, 59, 2, 60, 14, 45, 46, 47, 48, 216, 217, 218, 219, 220] (by decide +kernel) (by decide +kernel)
set_option maxRecDepth 20000 in
theorem gL_law_X0_again : GoodIn wsL_law (wsV RL 25 RX0 yX0_again wsX0_again) := goodIn_app (goodIn_of _ (by decide +kernel)) ggL_law_X0_again
set_option maxRecDepth 20000 in
theorem ggL_law_X0_size : GoodIn wsL_law wsX0_size := goodIn_r _ [69, 17, 216, 217, 218, 219, 220] (by decide +kernel) (by decide +kernel)
set_option maxRecDepth 20000 in
theorem gL_law_X0_size : GoodIn wsL_law (wsV RL 30 RX0 yX0_size wsX0_size) := goodIn_app (goodIn_of _ (by decide +kernel)) ggL_law_X0_size
set_option maxRecDepth 20000 in
theorem ggL_law_X0_byteAt : GoodIn wsL_law wsX0_byteAt := goodIn_r _ [60, 17, 14, 216, 217, 218, 219, 220] (by decide +kernel) (by decide +kernel)
set_option maxRecDepth 20000 in
theorem gL_law_X0_byteAt : GoodIn wsL_law (wsV RL 35 RX0 yX0_byteAt wsX0_byteAt) := goodIn_app (goodIn_of _ (by decide +kernel)) ggL_law_X0_byteAt
set_option maxRecDepth 20000 in
theorem ggL_law_X0_narrow : GoodIn wsL_law wsX0_narrow := goodIn_r _ [86, 17, 18, 87, 88, 89, 2, 90, 91, 92, 93, 94, 95, 96, 97, 98, 99, 100, 101, 102, 103, 104, 14, 105, 106, 107, 108, 109, 110, 57, 58, 59, 60, 111, 112, 113, 216, 217, 218, 219, 220] (by decide +kernel) (by decide +kernel)
set_option maxRecDepth 20000 in
theorem gL_law_X0_narrow : GoodIn wsL_law (wsV RL 40 RX0 yX0_narrow wsX0_narrow) := goodIn_app (goodIn_of _ (by decide +kernel)) ggL_law_X0_narrow
set_option maxRecDepth 20000 in
theorem ggL_law_X0_wide : GoodIn wsL_law wsX0_wide := goodIn_r _ [117, 17, 19, 118, 119, 120, 2, 121, 122, 123, 124, 125, 126, 127, 128, 129, 130, 131, 132, 133, 134, 135, 136, 137, 138, 139, 100, 101, 102, 103, 104, 14, 140, 141, 142, 143, 144, 145, 146, 147, 148, 57, 58, 59, 60, 149, 150, 151, 216, 217, 218, 219, 220] (by decide +kernel) (by decide +kernel)
set_option maxRecDepth 20000 in
theorem gL_law_X0_wide : GoodIn wsL_law (wsV RL 44 RX0 yX0_wide wsX0_wide) := goodIn_app (goodIn_of _ (by decide +kernel)) ggL_law_X0_wide
set_option maxRecDepth 20000 in
theorem ggL_law_X0_poly : GoodIn wsL_law wsX0_poly := goodIn_r _ [155, 17, 156, 157, 158, 2, 159, 16, 57, 58, 59, 60, 14, 216, 217, 218, 219, 220] (by decide +kernel) (by decide +kernel)
set_option maxRecDepth 20000 in
theorem gL_law_X0_poly : GoodIn wsL_law (wsV RL 49 RX0 yX0_poly wsX0_poly) := goodIn_app (goodIn_of _ (by decide +kernel)) ggL_law_X0_poly
set_option maxRecDepth 20000 in
theorem ggL_law_X0_narrowOf : GoodIn wsL_law wsX0_narrowOf := goodIn_r _ [163, 164, 165, 166, 2, 167, 17, 87, 88, 89, 90, 91, 92, 93, 94, 95, 96, 97, 98, 99, 100, 101, 102, 103, 104, 14, 105, 106, 107, 108, 109, 110, 57, 58, 59, 60, 111, 112, 113, 216, 217, 218, 219, 220] (by decide +kernel) (by decide +kernel)
set_option maxRecDepth 20000 in
theorem gL_law_X0_narrowOf : GoodIn wsL_law (wsV RL 53 RX0 yX0_narrowOf wsX0_narrowOf) := goodIn_app (goodIn_of _ (by decide +kernel)) ggL_law_X0_narrowOf
set_option maxRecDepth 20000 in
theorem ggL_law_X0_wideOf : GoodIn wsL_law wsX0_wideOf := goodIn_r _ [171, 164, 165, 166, 2, 167, 17, 118, 119, 120, 121, 122, 123, 124, 125, 126, 127, 128, 129, 130, 131, 132, 133, 134, 135, 136, 137, 138, 139, 100, 101, 102, 103, 104, 14, 140, 141, 142, 143, 144, 145, 146, 147, 148, 57, 58, 59, 60, 149, 150, 151, 216, 217, 218, 219, 220] (by decide +kernel) (by decide +kernel)
set_option maxRecDepth 20000 in
theorem gL_law_X0_wideOf : GoodIn wsL_law (wsV RL 58 RX0 yX0_wideOf wsX0_wideOf) := goodIn_app (goodIn_of _ (by decide +kernel)) ggL_law_X0_wideOf
set_option maxRecDepth 20000 in
theorem ggL_law_X0_polyOf : GoodIn wsL_law wsX0_polyOf := goodIn_r _ [175, 164, 165, 166, 2, 167, 17, 156, 157, 158, 159, 16, 57, 58, 59, 60, 14, 216, 217, 218, 219, 220] (by decide +kernel) (by decide +kernel)
set_option maxRecDepth 20000 in
theorem gL_law_X0_polyOf : GoodIn wsL_law (wsV RL 63 RX0 yX0_polyOf wsX0_polyOf) := goodIn_app (goodIn_of _ (by decide +kernel)) ggL_law_X0_polyOf
set_option maxRecDepth 20000 in
theorem ggL_law_X0_masked : GoodIn wsL_law wsX0_masked := goodIn_r _ [179, 180, 108, 109, 2, 110] (by decide +kernel) (by decide +kernel)
set_option maxRecDepth 20000 in
theorem gL_law_X0_masked : GoodIn wsL_law (wsV RL 68 RX0 yX0_masked wsX0_masked) := goodIn_app (goodIn_of _ (by decide +kernel)) ggL_law_X0_masked
set_option maxRecDepth 20000 in
theorem ggL_law_X0_joined : GoodIn wsL_law wsX0_joined := goodIn_r _ [184, 185, 20, 21, 2, 22, 23, 186, 187, 188, 189, 190, 191] (by decide +kernel) (by decide +kernel)
set_option maxRecDepth 20000 in
theorem gL_law_X0_joined : GoodIn wsL_law (wsV RL 73 RX0 yX0_joined wsX0_joined) := goodIn_app (goodIn_of _ (by decide +kernel)) ggL_law_X0_joined
set_option maxRecDepth 20000 in
theorem ggL_law_X0_cut : GoodIn wsL_law wsX0_cut := goodIn_r _ [195, 185, 196, 197, 2, 198, 23, 186, 187, 188, 189, 190, 191, 20, 21, 22] (by decide +kernel) (by decide +kernel)
set_option maxRecDepth 20000 in
theorem gL_law_X0_cut : GoodIn wsL_law (wsV RL 78 RX0 yX0_cut wsX0_cut) := goodIn_app (goodIn_of _ (by decide +kernel)) ggL_law_X0_cut
set_option maxRecDepth 20000 in
theorem ggL_law_X0_forged : GoodIn wsL_law wsX0_forged := goodIn_r _ [202, 203, 153, 154, 2, 155, 17, 156, 157, 158, 159, 16, 57, 58, 59, 60, 14, 204, 205, 206, 196, 197, 198, 23, 207, 208, 209, 210, 216, 217, 218, 219, 220] (by decide +kernel) (by decide +kernel)
set_option maxRecDepth 20000 in
theorem gL_law_X0_forged : GoodIn wsL_law (wsV RL 82 RX0 yX0_forged wsX0_forged) := goodIn_app (goodIn_of _ (by decide +kernel)) ggL_law_X0_forged
set_option maxRecDepth 20000 in
theorem ggL_law_X0_mended : GoodIn wsL_law wsX0_mended := goodIn_r _ [214, 17, 156, 157, 158, 2, 159, 16, 57, 58, 59, 60, 14, 215, 193, 194, 195, 185, 196, 197, 198, 23, 186, 187, 188, 189, 190, 191, 20, 21, 22, 204, 205, 206, 207, 208, 209, 210, 216, 217, 218, 219, 220] (by decide +kernel) (by decide +kernel)
set_option maxRecDepth 20000 in
theorem gL_law_X0_mended : GoodIn wsL_law (wsV RL 86 RX0 yX0_mended wsX0_mended) := goodIn_app (goodIn_of _ (by decide +kernel)) ggL_law_X0_mended
theorem dL_law_0 : decode cL_law 0 = .ok (.new 7, 3) := by decide +kernel
theorem dL_law_3 : decode cL_law 3 = .ok (.dup, 1) := by decide +kernel
theorem dL_law_4 : decode cL_law 4 = .ok (.invokespecial 9, 3) := by decide +kernel
theorem dL_law_7 : decode cL_law 7 = .ok (.astore_n 1, 1) := by decide +kernel
theorem dL_law_8 : decode cL_law 8 = .ok (.new 10, 3) := by decide +kernel
theorem dL_law_11 : decode cL_law 11 = .ok (.dup, 1) := by decide +kernel
theorem dL_law_12 : decode cL_law 12 = .ok (.invokespecial 12, 3) := by decide +kernel
theorem dL_law_15 : decode cL_law 15 = .ok (.astore_n 2, 1) := by decide +kernel
theorem dL_law_16 : decode cL_law 16 = .ok (.iconst 0, 1) := by decide +kernel
theorem dL_law_17 : decode cL_law 17 = .ok (.istore_n 3, 1) := by decide +kernel
theorem dL_law_18 : decode cL_law 18 = .ok (.iload_n 3, 1) := by decide +kernel
theorem dL_law_19 : decode cL_law 19 = .ok (.aload_n 0, 1) := by decide +kernel
theorem dL_law_20 : decode cL_law 20 = .ok (.arraylength, 1) := by decide +kernel
theorem dL_law_21 : decode cL_law 21 = .ok (.iconst 5, 1) := by decide +kernel
theorem dL_law_22 : decode cL_law 22 = .ok (.isub, 1) := by decide +kernel
theorem dL_law_23 : decode cL_law 23 = .ok (.if_icmp .gt 729, 3) := by decide +kernel
theorem dL_law_26 : decode cL_law 26 = .ok (.aload_n 0, 1) := by decide +kernel
theorem dL_law_27 : decode cL_law 27 = .ok (.iload_n 3, 1) := by decide +kernel
theorem dL_law_28 : decode cL_law 28 = .ok (.iaload, 1) := by decide +kernel
theorem dL_law_29 : decode cL_law 29 = .ok (.bipush 15, 2) := by decide +kernel
theorem dL_law_31 : decode cL_law 31 = .ok (.iand, 1) := by decide +kernel
theorem dL_law_32 : decode cL_law 32 = .ok (.tableswitch 714 0 15 #[80, 141, 204, 237, 250, 273, 286, 300, 313, 356, 430, 463, 512, 585, 658, 681], 80) := by decide +kernel
theorem dL_law_112 : decode cL_law 112 = .ok (.aload_n 1, 1) := by decide +kernel
theorem dL_law_113 : decode cL_law 113 = .ok (.aload_n 0, 1) := by decide +kernel
theorem dL_law_114 : decode cL_law 114 = .ok (.iload_n 3, 1) := by decide +kernel
theorem dL_law_115 : decode cL_law 115 = .ok (.iconst 1, 1) := by decide +kernel
theorem dL_law_116 : decode cL_law 116 = .ok (.iadd, 1) := by decide +kernel
theorem dL_law_117 : decode cL_law 117 = .ok (.iaload, 1) := by decide +kernel
theorem dL_law_118 : decode cL_law 118 = .ok (.aload_n 0, 1) := by decide +kernel
theorem dL_law_119 : decode cL_law 119 = .ok (.iload_n 3, 1) := by decide +kernel
theorem dL_law_120 : decode cL_law 120 = .ok (.iconst 2, 1) := by decide +kernel
theorem dL_law_121 : decode cL_law 121 = .ok (.iadd, 1) := by decide +kernel
theorem dL_law_122 : decode cL_law 122 = .ok (.iaload, 1) := by decide +kernel
theorem dL_law_123 : decode cL_law 123 = .ok (.i2l, 1) := by decide +kernel
theorem dL_law_124 : decode cL_law 124 = .ok (.bipush 32, 2) := by decide +kernel
theorem dL_law_126 : decode cL_law 126 = .ok (.lshl, 1) := by decide +kernel
theorem dL_law_127 : decode cL_law 127 = .ok (.aload_n 0, 1) := by decide +kernel
theorem dL_law_128 : decode cL_law 128 = .ok (.iload_n 3, 1) := by decide +kernel
theorem dL_law_129 : decode cL_law 129 = .ok (.iconst 3, 1) := by decide +kernel
theorem dL_law_130 : decode cL_law 130 = .ok (.iadd, 1) := by decide +kernel
theorem dL_law_131 : decode cL_law 131 = .ok (.iaload, 1) := by decide +kernel
theorem dL_law_132 : decode cL_law 132 = .ok (.i2l, 1) := by decide +kernel
theorem dL_law_133 : decode cL_law 133 = .ok (.ldc2_w 13, 3) := by decide +kernel
theorem dL_law_136 : decode cL_law 136 = .ok (.land, 1) := by decide +kernel
theorem dL_law_137 : decode cL_law 137 = .ok (.lor, 1) := by decide +kernel
theorem dL_law_138 : decode cL_law 138 = .ok (.invokevirtual 15, 3) := by decide +kernel
theorem dL_law_141 : decode cL_law 141 = .ok (.aload_n 2, 1) := by decide +kernel
theorem dL_law_142 : decode cL_law 142 = .ok (.aload_n 0, 1) := by decide +kernel
theorem dL_law_143 : decode cL_law 143 = .ok (.iload_n 3, 1) := by decide +kernel
theorem dL_law_144 : decode cL_law 144 = .ok (.iconst 1, 1) := by decide +kernel
theorem dL_law_145 : decode cL_law 145 = .ok (.iadd, 1) := by decide +kernel
theorem dL_law_146 : decode cL_law 146 = .ok (.iaload, 1) := by decide +kernel
theorem dL_law_147 : decode cL_law 147 = .ok (.aload_n 0, 1) := by decide +kernel
theorem dL_law_148 : decode cL_law 148 = .ok (.iload_n 3, 1) := by decide +kernel
theorem dL_law_149 : decode cL_law 149 = .ok (.iconst 2, 1) := by decide +kernel
theorem dL_law_150 : decode cL_law 150 = .ok (.iadd, 1) := by decide +kernel
theorem dL_law_151 : decode cL_law 151 = .ok (.iaload, 1) := by decide +kernel
theorem dL_law_152 : decode cL_law 152 = .ok (.i2l, 1) := by decide +kernel
theorem dL_law_153 : decode cL_law 153 = .ok (.bipush 32, 2) := by decide +kernel
theorem dL_law_155 : decode cL_law 155 = .ok (.lshl, 1) := by decide +kernel
theorem dL_law_156 : decode cL_law 156 = .ok (.aload_n 0, 1) := by decide +kernel
theorem dL_law_157 : decode cL_law 157 = .ok (.iload_n 3, 1) := by decide +kernel
theorem dL_law_158 : decode cL_law 158 = .ok (.iconst 3, 1) := by decide +kernel
theorem dL_law_159 : decode cL_law 159 = .ok (.iadd, 1) := by decide +kernel
theorem dL_law_160 : decode cL_law 160 = .ok (.iaload, 1) := by decide +kernel
theorem dL_law_161 : decode cL_law 161 = .ok (.i2l, 1) := by decide +kernel
theorem dL_law_162 : decode cL_law 162 = .ok (.ldc2_w 13, 3) := by decide +kernel
theorem dL_law_165 : decode cL_law 165 = .ok (.land, 1) := by decide +kernel
theorem dL_law_166 : decode cL_law 166 = .ok (.lor, 1) := by decide +kernel
theorem dL_law_167 : decode cL_law 167 = .ok (.invokevirtual 19, 3) := by decide +kernel
theorem dL_law_170 : decode cL_law 170 = .ok (.goto 576, 3) := by decide +kernel
theorem dL_law_173 : decode cL_law 173 = .ok (.aload_n 1, 1) := by decide +kernel
theorem dL_law_174 : decode cL_law 174 = .ok (.aload_n 0, 1) := by decide +kernel
theorem dL_law_175 : decode cL_law 175 = .ok (.iload_n 3, 1) := by decide +kernel
theorem dL_law_176 : decode cL_law 176 = .ok (.iconst 1, 1) := by decide +kernel
theorem dL_law_177 : decode cL_law 177 = .ok (.iadd, 1) := by decide +kernel
theorem dL_law_178 : decode cL_law 178 = .ok (.iaload, 1) := by decide +kernel
theorem dL_law_179 : decode cL_law 179 = .ok (.i2l, 1) := by decide +kernel
theorem dL_law_180 : decode cL_law 180 = .ok (.bipush 32, 2) := by decide +kernel
theorem dL_law_182 : decode cL_law 182 = .ok (.lshl, 1) := by decide +kernel
theorem dL_law_183 : decode cL_law 183 = .ok (.aload_n 0, 1) := by decide +kernel
theorem dL_law_184 : decode cL_law 184 = .ok (.iload_n 3, 1) := by decide +kernel
theorem dL_law_185 : decode cL_law 185 = .ok (.iconst 2, 1) := by decide +kernel
theorem dL_law_186 : decode cL_law 186 = .ok (.iadd, 1) := by decide +kernel
theorem dL_law_187 : decode cL_law 187 = .ok (.iaload, 1) := by decide +kernel
theorem dL_law_188 : decode cL_law 188 = .ok (.i2l, 1) := by decide +kernel
theorem dL_law_189 : decode cL_law 189 = .ok (.ldc2_w 13, 3) := by decide +kernel
theorem dL_law_192 : decode cL_law 192 = .ok (.land, 1) := by decide +kernel
theorem dL_law_193 : decode cL_law 193 = .ok (.lor, 1) := by decide +kernel
theorem dL_law_194 : decode cL_law 194 = .ok (.aload_n 0, 1) := by decide +kernel
theorem dL_law_195 : decode cL_law 195 = .ok (.iload_n 3, 1) := by decide +kernel
theorem dL_law_196 : decode cL_law 196 = .ok (.iconst 3, 1) := by decide +kernel
theorem dL_law_197 : decode cL_law 197 = .ok (.iadd, 1) := by decide +kernel
theorem dL_law_198 : decode cL_law 198 = .ok (.iaload, 1) := by decide +kernel
theorem dL_law_199 : decode cL_law 199 = .ok (.invokevirtual 20, 3) := by decide +kernel
theorem dL_law_202 : decode cL_law 202 = .ok (.aload_n 2, 1) := by decide +kernel
theorem dL_law_203 : decode cL_law 203 = .ok (.aload_n 0, 1) := by decide +kernel
theorem dL_law_204 : decode cL_law 204 = .ok (.iload_n 3, 1) := by decide +kernel
theorem dL_law_205 : decode cL_law 205 = .ok (.iconst 1, 1) := by decide +kernel
theorem dL_law_206 : decode cL_law 206 = .ok (.iadd, 1) := by decide +kernel
theorem dL_law_207 : decode cL_law 207 = .ok (.iaload, 1) := by decide +kernel
theorem dL_law_208 : decode cL_law 208 = .ok (.i2l, 1) := by decide +kernel
theorem dL_law_209 : decode cL_law 209 = .ok (.bipush 32, 2) := by decide +kernel
theorem dL_law_211 : decode cL_law 211 = .ok (.lshl, 1) := by decide +kernel
theorem dL_law_212 : decode cL_law 212 = .ok (.aload_n 0, 1) := by decide +kernel
theorem dL_law_213 : decode cL_law 213 = .ok (.iload_n 3, 1) := by decide +kernel
theorem dL_law_214 : decode cL_law 214 = .ok (.iconst 2, 1) := by decide +kernel
theorem dL_law_215 : decode cL_law 215 = .ok (.iadd, 1) := by decide +kernel
theorem dL_law_216 : decode cL_law 216 = .ok (.iaload, 1) := by decide +kernel
theorem dL_law_217 : decode cL_law 217 = .ok (.i2l, 1) := by decide +kernel
theorem dL_law_218 : decode cL_law 218 = .ok (.ldc2_w 13, 3) := by decide +kernel
theorem dL_law_221 : decode cL_law 221 = .ok (.land, 1) := by decide +kernel
theorem dL_law_222 : decode cL_law 222 = .ok (.lor, 1) := by decide +kernel
theorem dL_law_223 : decode cL_law 223 = .ok (.aload_n 0, 1) := by decide +kernel
theorem dL_law_224 : decode cL_law 224 = .ok (.iload_n 3, 1) := by decide +kernel
theorem dL_law_225 : decode cL_law 225 = .ok (.iconst 3, 1) := by decide +kernel
theorem dL_law_226 : decode cL_law 226 = .ok (.iadd, 1) := by decide +kernel
theorem dL_law_227 : decode cL_law 227 = .ok (.iaload, 1) := by decide +kernel
theorem dL_law_228 : decode cL_law 228 = .ok (.invokevirtual 24, 3) := by decide +kernel
theorem dL_law_231 : decode cL_law 231 = .ok (.if_icmp .eq 515, 3) := by decide +kernel
theorem dL_law_234 : decode cL_law 234 = .ok (.iconst 0, 1) := by decide +kernel
theorem dL_law_235 : decode cL_law 235 = .ok (.ireturn, 1) := by decide +kernel
theorem dL_law_236 : decode cL_law 236 = .ok (.aload_n 1, 1) := by decide +kernel
theorem dL_law_237 : decode cL_law 237 = .ok (.aload_n 0, 1) := by decide +kernel
theorem dL_law_238 : decode cL_law 238 = .ok (.iload_n 3, 1) := by decide +kernel
theorem dL_law_239 : decode cL_law 239 = .ok (.iconst 1, 1) := by decide +kernel
theorem dL_law_240 : decode cL_law 240 = .ok (.iadd, 1) := by decide +kernel
theorem dL_law_241 : decode cL_law 241 = .ok (.iaload, 1) := by decide +kernel
theorem dL_law_242 : decode cL_law 242 = .ok (.aload_n 0, 1) := by decide +kernel
theorem dL_law_243 : decode cL_law 243 = .ok (.iload_n 3, 1) := by decide +kernel
theorem dL_law_244 : decode cL_law 244 = .ok (.iconst 2, 1) := by decide +kernel
theorem dL_law_245 : decode cL_law 245 = .ok (.iadd, 1) := by decide +kernel
theorem dL_law_246 : decode cL_law 246 = .ok (.iaload, 1) := by decide +kernel
theorem dL_law_247 : decode cL_law 247 = .ok (.invokevirtual 25, 3) := by decide +kernel
theorem dL_law_250 : decode cL_law 250 = .ok (.aload_n 2, 1) := by decide +kernel
theorem dL_law_251 : decode cL_law 251 = .ok (.aload_n 0, 1) := by decide +kernel
theorem dL_law_252 : decode cL_law 252 = .ok (.iload_n 3, 1) := by decide +kernel
theorem dL_law_253 : decode cL_law 253 = .ok (.iconst 1, 1) := by decide +kernel
theorem dL_law_254 : decode cL_law 254 = .ok (.iadd, 1) := by decide +kernel
theorem dL_law_255 : decode cL_law 255 = .ok (.iaload, 1) := by decide +kernel
theorem dL_law_256 : decode cL_law 256 = .ok (.aload_n 0, 1) := by decide +kernel
theorem dL_law_257 : decode cL_law 257 = .ok (.iload_n 3, 1) := by decide +kernel
theorem dL_law_258 : decode cL_law 258 = .ok (.iconst 2, 1) := by decide +kernel
theorem dL_law_259 : decode cL_law 259 = .ok (.iadd, 1) := by decide +kernel
theorem dL_law_260 : decode cL_law 260 = .ok (.iaload, 1) := by decide +kernel
theorem dL_law_261 : decode cL_law 261 = .ok (.invokevirtual 29, 3) := by decide +kernel
theorem dL_law_264 : decode cL_law 264 = .ok (.if_icmp .eq 482, 3) := by decide +kernel
theorem dL_law_267 : decode cL_law 267 = .ok (.iconst 0, 1) := by decide +kernel
theorem dL_law_268 : decode cL_law 268 = .ok (.ireturn, 1) := by decide +kernel
theorem dL_law_269 : decode cL_law 269 = .ok (.aload_n 1, 1) := by decide +kernel
theorem dL_law_270 : decode cL_law 270 = .ok (.invokevirtual 30, 3) := by decide +kernel
theorem dL_law_273 : decode cL_law 273 = .ok (.aload_n 2, 1) := by decide +kernel
theorem dL_law_274 : decode cL_law 274 = .ok (.invokevirtual 34, 3) := by decide +kernel
theorem dL_law_277 : decode cL_law 277 = .ok (.if_icmp .eq 469, 3) := by decide +kernel
theorem dL_law_280 : decode cL_law 280 = .ok (.iconst 0, 1) := by decide +kernel
theorem dL_law_281 : decode cL_law 281 = .ok (.ireturn, 1) := by decide +kernel
theorem dL_law_282 : decode cL_law 282 = .ok (.aload_n 1, 1) := by decide +kernel
theorem dL_law_283 : decode cL_law 283 = .ok (.aload_n 0, 1) := by decide +kernel
theorem dL_law_284 : decode cL_law 284 = .ok (.iload_n 3, 1) := by decide +kernel
theorem dL_law_285 : decode cL_law 285 = .ok (.iconst 1, 1) := by decide +kernel
theorem dL_law_286 : decode cL_law 286 = .ok (.iadd, 1) := by decide +kernel
theorem dL_law_287 : decode cL_law 287 = .ok (.iaload, 1) := by decide +kernel
theorem dL_law_288 : decode cL_law 288 = .ok (.invokevirtual 35, 3) := by decide +kernel
theorem dL_law_291 : decode cL_law 291 = .ok (.aload_n 2, 1) := by decide +kernel
theorem dL_law_292 : decode cL_law 292 = .ok (.aload_n 0, 1) := by decide +kernel
theorem dL_law_293 : decode cL_law 293 = .ok (.iload_n 3, 1) := by decide +kernel
theorem dL_law_294 : decode cL_law 294 = .ok (.iconst 1, 1) := by decide +kernel
theorem dL_law_295 : decode cL_law 295 = .ok (.iadd, 1) := by decide +kernel
theorem dL_law_296 : decode cL_law 296 = .ok (.iaload, 1) := by decide +kernel
theorem dL_law_297 : decode cL_law 297 = .ok (.invokevirtual 39, 3) := by decide +kernel
theorem dL_law_300 : decode cL_law 300 = .ok (.if_icmp .eq 446, 3) := by decide +kernel
theorem dL_law_303 : decode cL_law 303 = .ok (.iconst 0, 1) := by decide +kernel
theorem dL_law_304 : decode cL_law 304 = .ok (.ireturn, 1) := by decide +kernel
theorem dL_law_305 : decode cL_law 305 = .ok (.aload_n 1, 1) := by decide +kernel
theorem dL_law_306 : decode cL_law 306 = .ok (.invokevirtual 40, 3) := by decide +kernel
theorem dL_law_309 : decode cL_law 309 = .ok (.aload_n 2, 1) := by decide +kernel
theorem dL_law_310 : decode cL_law 310 = .ok (.invokevirtual 43, 3) := by decide +kernel
theorem dL_law_313 : decode cL_law 313 = .ok (.if_icmp .eq 433, 3) := by decide +kernel
theorem dL_law_316 : decode cL_law 316 = .ok (.iconst 0, 1) := by decide +kernel
theorem dL_law_317 : decode cL_law 317 = .ok (.ireturn, 1) := by decide +kernel
theorem dL_law_318 : decode cL_law 318 = .ok (.aload_n 1, 1) := by decide +kernel
theorem dL_law_319 : decode cL_law 319 = .ok (.invokevirtual 44, 3) := by decide +kernel
theorem dL_law_322 : decode cL_law 322 = .ok (.aload_n 2, 1) := by decide +kernel
theorem dL_law_323 : decode cL_law 323 = .ok (.invokevirtual 48, 3) := by decide +kernel
theorem dL_law_326 : decode cL_law 326 = .ok (.lcmp, 1) := by decide +kernel
theorem dL_law_327 : decode cL_law 327 = .ok (.ifCond .eq 419, 3) := by decide +kernel
theorem dL_law_330 : decode cL_law 330 = .ok (.iconst 0, 1) := by decide +kernel
theorem dL_law_331 : decode cL_law 331 = .ok (.ireturn, 1) := by decide +kernel
theorem dL_law_332 : decode cL_law 332 = .ok (.aload_n 1, 1) := by decide +kernel
theorem dL_law_333 : decode cL_law 333 = .ok (.invokevirtual 49, 3) := by decide +kernel
theorem dL_law_336 : decode cL_law 336 = .ok (.aload_n 2, 1) := by decide +kernel
theorem dL_law_337 : decode cL_law 337 = .ok (.invokevirtual 52, 3) := by decide +kernel
theorem dL_law_340 : decode cL_law 340 = .ok (.if_icmp .eq 406, 3) := by decide +kernel
theorem dL_law_343 : decode cL_law 343 = .ok (.iconst 0, 1) := by decide +kernel
theorem dL_law_344 : decode cL_law 344 = .ok (.ireturn, 1) := by decide +kernel
theorem dL_law_345 : decode cL_law 345 = .ok (.aload_n 1, 1) := by decide +kernel
theorem dL_law_346 : decode cL_law 346 = .ok (.aload_n 0, 1) := by decide +kernel
theorem dL_law_347 : decode cL_law 347 = .ok (.iload_n 3, 1) := by decide +kernel
theorem dL_law_348 : decode cL_law 348 = .ok (.iconst 1, 1) := by decide +kernel
theorem dL_law_349 : decode cL_law 349 = .ok (.iadd, 1) := by decide +kernel
theorem dL_law_350 : decode cL_law 350 = .ok (.iaload, 1) := by decide +kernel
theorem dL_law_351 : decode cL_law 351 = .ok (.aload_n 0, 1) := by decide +kernel
theorem dL_law_352 : decode cL_law 352 = .ok (.iload_n 3, 1) := by decide +kernel
theorem dL_law_353 : decode cL_law 353 = .ok (.iconst 2, 1) := by decide +kernel
theorem dL_law_354 : decode cL_law 354 = .ok (.iadd, 1) := by decide +kernel
theorem dL_law_355 : decode cL_law 355 = .ok (.iaload, 1) := by decide +kernel
theorem dL_law_356 : decode cL_law 356 = .ok (.aload_n 0, 1) := by decide +kernel
theorem dL_law_357 : decode cL_law 357 = .ok (.iload_n 3, 1) := by decide +kernel
theorem dL_law_358 : decode cL_law 358 = .ok (.iconst 3, 1) := by decide +kernel
theorem dL_law_359 : decode cL_law 359 = .ok (.iadd, 1) := by decide +kernel
theorem dL_law_360 : decode cL_law 360 = .ok (.iaload, 1) := by decide +kernel
theorem dL_law_361 : decode cL_law 361 = .ok (.invokevirtual 53, 3) := by decide +kernel
theorem dL_law_364 : decode cL_law 364 = .ok (.aload_n 2, 1) := by decide +kernel
theorem dL_law_365 : decode cL_law 365 = .ok (.aload_n 0, 1) := by decide +kernel
theorem dL_law_366 : decode cL_law 366 = .ok (.iload_n 3, 1) := by decide +kernel
theorem dL_law_367 : decode cL_law 367 = .ok (.iconst 1, 1) := by decide +kernel
theorem dL_law_368 : decode cL_law 368 = .ok (.iadd, 1) := by decide +kernel
theorem dL_law_369 : decode cL_law 369 = .ok (.iaload, 1) := by decide +kernel
theorem dL_law_370 : decode cL_law 370 = .ok (.aload_n 0, 1) := by decide +kernel
theorem dL_law_371 : decode cL_law 371 = .ok (.iload_n 3, 1) := by decide +kernel
theorem dL_law_372 : decode cL_law 372 = .ok (.iconst 2, 1) := by decide +kernel
theorem dL_law_373 : decode cL_law 373 = .ok (.iadd, 1) := by decide +kernel
theorem dL_law_374 : decode cL_law 374 = .ok (.iaload, 1) := by decide +kernel
theorem dL_law_375 : decode cL_law 375 = .ok (.aload_n 0, 1) := by decide +kernel
theorem dL_law_376 : decode cL_law 376 = .ok (.iload_n 3, 1) := by decide +kernel
theorem dL_law_377 : decode cL_law 377 = .ok (.iconst 3, 1) := by decide +kernel
theorem dL_law_378 : decode cL_law 378 = .ok (.iadd, 1) := by decide +kernel
theorem dL_law_379 : decode cL_law 379 = .ok (.iaload, 1) := by decide +kernel
theorem dL_law_380 : decode cL_law 380 = .ok (.invokevirtual 57, 3) := by decide +kernel
theorem dL_law_383 : decode cL_law 383 = .ok (.if_icmp .eq 363, 3) := by decide +kernel
theorem dL_law_386 : decode cL_law 386 = .ok (.iconst 0, 1) := by decide +kernel
theorem dL_law_387 : decode cL_law 387 = .ok (.ireturn, 1) := by decide +kernel
theorem dL_law_388 : decode cL_law 388 = .ok (.aload_n 1, 1) := by decide +kernel
theorem dL_law_389 : decode cL_law 389 = .ok (.aload_n 0, 1) := by decide +kernel
theorem dL_law_390 : decode cL_law 390 = .ok (.iload_n 3, 1) := by decide +kernel
theorem dL_law_391 : decode cL_law 391 = .ok (.iconst 1, 1) := by decide +kernel
theorem dL_law_392 : decode cL_law 392 = .ok (.iadd, 1) := by decide +kernel
theorem dL_law_393 : decode cL_law 393 = .ok (.iaload, 1) := by decide +kernel
theorem dL_law_394 : decode cL_law 394 = .ok (.aload_n 0, 1) := by decide +kernel
theorem dL_law_395 : decode cL_law 395 = .ok (.iload_n 3, 1) := by decide +kernel
theorem dL_law_396 : decode cL_law 396 = .ok (.iconst 2, 1) := by decide +kernel
theorem dL_law_397 : decode cL_law 397 = .ok (.iadd, 1) := by decide +kernel
theorem dL_law_398 : decode cL_law 398 = .ok (.iaload, 1) := by decide +kernel
theorem dL_law_399 : decode cL_law 399 = .ok (.aload_n 0, 1) := by decide +kernel
theorem dL_law_400 : decode cL_law 400 = .ok (.iload_n 3, 1) := by decide +kernel
theorem dL_law_401 : decode cL_law 401 = .ok (.iconst 3, 1) := by decide +kernel
theorem dL_law_402 : decode cL_law 402 = .ok (.iadd, 1) := by decide +kernel
theorem dL_law_403 : decode cL_law 403 = .ok (.iaload, 1) := by decide +kernel
theorem dL_law_404 : decode cL_law 404 = .ok (.i2l, 1) := by decide +kernel
theorem dL_law_405 : decode cL_law 405 = .ok (.bipush 32, 2) := by decide +kernel
theorem dL_law_407 : decode cL_law 407 = .ok (.lshl, 1) := by decide +kernel
theorem dL_law_408 : decode cL_law 408 = .ok (.aload_n 0, 1) := by decide +kernel
theorem dL_law_409 : decode cL_law 409 = .ok (.iload_n 3, 1) := by decide +kernel
theorem dL_law_410 : decode cL_law 410 = .ok (.iconst 4, 1) := by decide +kernel
theorem dL_law_411 : decode cL_law 411 = .ok (.iadd, 1) := by decide +kernel
theorem dL_law_412 : decode cL_law 412 = .ok (.iaload, 1) := by decide +kernel
theorem dL_law_413 : decode cL_law 413 = .ok (.i2l, 1) := by decide +kernel
theorem dL_law_414 : decode cL_law 414 = .ok (.ldc2_w 13, 3) := by decide +kernel
theorem dL_law_417 : decode cL_law 417 = .ok (.land, 1) := by decide +kernel
theorem dL_law_418 : decode cL_law 418 = .ok (.lor, 1) := by decide +kernel
theorem dL_law_419 : decode cL_law 419 = .ok (.invokevirtual 58, 3) := by decide +kernel
theorem dL_law_422 : decode cL_law 422 = .ok (.aload_n 2, 1) := by decide +kernel
theorem dL_law_423 : decode cL_law 423 = .ok (.aload_n 0, 1) := by decide +kernel
theorem dL_law_424 : decode cL_law 424 = .ok (.iload_n 3, 1) := by decide +kernel
theorem dL_law_425 : decode cL_law 425 = .ok (.iconst 1, 1) := by decide +kernel
theorem dL_law_426 : decode cL_law 426 = .ok (.iadd, 1) := by decide +kernel
theorem dL_law_427 : decode cL_law 427 = .ok (.iaload, 1) := by decide +kernel
theorem dL_law_428 : decode cL_law 428 = .ok (.aload_n 0, 1) := by decide +kernel
theorem dL_law_429 : decode cL_law 429 = .ok (.iload_n 3, 1) := by decide +kernel
theorem dL_law_430 : decode cL_law 430 = .ok (.iconst 2, 1) := by decide +kernel
theorem dL_law_431 : decode cL_law 431 = .ok (.iadd, 1) := by decide +kernel
theorem dL_law_432 : decode cL_law 432 = .ok (.iaload, 1) := by decide +kernel
theorem dL_law_433 : decode cL_law 433 = .ok (.aload_n 0, 1) := by decide +kernel
theorem dL_law_434 : decode cL_law 434 = .ok (.iload_n 3, 1) := by decide +kernel
theorem dL_law_435 : decode cL_law 435 = .ok (.iconst 3, 1) := by decide +kernel
theorem dL_law_436 : decode cL_law 436 = .ok (.iadd, 1) := by decide +kernel
theorem dL_law_437 : decode cL_law 437 = .ok (.iaload, 1) := by decide +kernel
theorem dL_law_438 : decode cL_law 438 = .ok (.i2l, 1) := by decide +kernel
theorem dL_law_439 : decode cL_law 439 = .ok (.bipush 32, 2) := by decide +kernel
theorem dL_law_441 : decode cL_law 441 = .ok (.lshl, 1) := by decide +kernel
theorem dL_law_442 : decode cL_law 442 = .ok (.aload_n 0, 1) := by decide +kernel
theorem dL_law_443 : decode cL_law 443 = .ok (.iload_n 3, 1) := by decide +kernel
theorem dL_law_444 : decode cL_law 444 = .ok (.iconst 4, 1) := by decide +kernel
theorem dL_law_445 : decode cL_law 445 = .ok (.iadd, 1) := by decide +kernel
theorem dL_law_446 : decode cL_law 446 = .ok (.iaload, 1) := by decide +kernel
theorem dL_law_447 : decode cL_law 447 = .ok (.i2l, 1) := by decide +kernel
theorem dL_law_448 : decode cL_law 448 = .ok (.ldc2_w 13, 3) := by decide +kernel
theorem dL_law_451 : decode cL_law 451 = .ok (.land, 1) := by decide +kernel
theorem dL_law_452 : decode cL_law 452 = .ok (.lor, 1) := by decide +kernel
theorem dL_law_453 : decode cL_law 453 = .ok (.invokevirtual 62, 3) := by decide +kernel
theorem dL_law_456 : decode cL_law 456 = .ok (.lcmp, 1) := by decide +kernel
theorem dL_law_457 : decode cL_law 457 = .ok (.ifCond .eq 289, 3) := by decide +kernel
theorem dL_law_460 : decode cL_law 460 = .ok (.iconst 0, 1) := by decide +kernel
theorem dL_law_461 : decode cL_law 461 = .ok (.ireturn, 1) := by decide +kernel
theorem dL_law_462 : decode cL_law 462 = .ok (.aload_n 1, 1) := by decide +kernel
theorem dL_law_463 : decode cL_law 463 = .ok (.aload_n 0, 1) := by decide +kernel
theorem dL_law_464 : decode cL_law 464 = .ok (.iload_n 3, 1) := by decide +kernel
theorem dL_law_465 : decode cL_law 465 = .ok (.iconst 1, 1) := by decide +kernel
theorem dL_law_466 : decode cL_law 466 = .ok (.iadd, 1) := by decide +kernel
theorem dL_law_467 : decode cL_law 467 = .ok (.iaload, 1) := by decide +kernel
theorem dL_law_468 : decode cL_law 468 = .ok (.aload_n 0, 1) := by decide +kernel
theorem dL_law_469 : decode cL_law 469 = .ok (.iload_n 3, 1) := by decide +kernel
theorem dL_law_470 : decode cL_law 470 = .ok (.iconst 2, 1) := by decide +kernel
theorem dL_law_471 : decode cL_law 471 = .ok (.iadd, 1) := by decide +kernel
theorem dL_law_472 : decode cL_law 472 = .ok (.iaload, 1) := by decide +kernel
theorem dL_law_473 : decode cL_law 473 = .ok (.invokevirtual 63, 3) := by decide +kernel
theorem dL_law_476 : decode cL_law 476 = .ok (.aload_n 2, 1) := by decide +kernel
theorem dL_law_477 : decode cL_law 477 = .ok (.aload_n 0, 1) := by decide +kernel
theorem dL_law_478 : decode cL_law 478 = .ok (.iload_n 3, 1) := by decide +kernel
theorem dL_law_479 : decode cL_law 479 = .ok (.iconst 1, 1) := by decide +kernel
theorem dL_law_480 : decode cL_law 480 = .ok (.iadd, 1) := by decide +kernel
theorem dL_law_481 : decode cL_law 481 = .ok (.iaload, 1) := by decide +kernel
theorem dL_law_482 : decode cL_law 482 = .ok (.aload_n 0, 1) := by decide +kernel
theorem dL_law_483 : decode cL_law 483 = .ok (.iload_n 3, 1) := by decide +kernel
theorem dL_law_484 : decode cL_law 484 = .ok (.iconst 2, 1) := by decide +kernel
theorem dL_law_485 : decode cL_law 485 = .ok (.iadd, 1) := by decide +kernel
theorem dL_law_486 : decode cL_law 486 = .ok (.iaload, 1) := by decide +kernel
theorem dL_law_487 : decode cL_law 487 = .ok (.invokevirtual 67, 3) := by decide +kernel
theorem dL_law_490 : decode cL_law 490 = .ok (.if_icmp .eq 256, 3) := by decide +kernel
theorem dL_law_493 : decode cL_law 493 = .ok (.iconst 0, 1) := by decide +kernel
theorem dL_law_494 : decode cL_law 494 = .ok (.ireturn, 1) := by decide +kernel
theorem dL_law_495 : decode cL_law 495 = .ok (.aload_n 1, 1) := by decide +kernel
theorem dL_law_496 : decode cL_law 496 = .ok (.aload_n 0, 1) := by decide +kernel
theorem dL_law_497 : decode cL_law 497 = .ok (.iload_n 3, 1) := by decide +kernel
theorem dL_law_498 : decode cL_law 498 = .ok (.iconst 1, 1) := by decide +kernel
theorem dL_law_499 : decode cL_law 499 = .ok (.iadd, 1) := by decide +kernel
theorem dL_law_500 : decode cL_law 500 = .ok (.iaload, 1) := by decide +kernel
theorem dL_law_501 : decode cL_law 501 = .ok (.aload_n 0, 1) := by decide +kernel
theorem dL_law_502 : decode cL_law 502 = .ok (.iload_n 3, 1) := by decide +kernel
theorem dL_law_503 : decode cL_law 503 = .ok (.iconst 2, 1) := by decide +kernel
theorem dL_law_504 : decode cL_law 504 = .ok (.iadd, 1) := by decide +kernel
theorem dL_law_505 : decode cL_law 505 = .ok (.iaload, 1) := by decide +kernel
theorem dL_law_506 : decode cL_law 506 = .ok (.ifCond .eq 7, 3) := by decide +kernel
theorem dL_law_509 : decode cL_law 509 = .ok (.iconst 1, 1) := by decide +kernel
theorem dL_law_510 : decode cL_law 510 = .ok (.goto 4, 3) := by decide +kernel
theorem dL_law_513 : decode cL_law 513 = .ok (.iconst 0, 1) := by decide +kernel
theorem dL_law_514 : decode cL_law 514 = .ok (.invokevirtual 68, 3) := by decide +kernel
theorem dL_law_517 : decode cL_law 517 = .ok (.aload_n 2, 1) := by decide +kernel
theorem dL_law_518 : decode cL_law 518 = .ok (.aload_n 0, 1) := by decide +kernel
theorem dL_law_519 : decode cL_law 519 = .ok (.iload_n 3, 1) := by decide +kernel
theorem dL_law_520 : decode cL_law 520 = .ok (.iconst 1, 1) := by decide +kernel
theorem dL_law_521 : decode cL_law 521 = .ok (.iadd, 1) := by decide +kernel
theorem dL_law_522 : decode cL_law 522 = .ok (.iaload, 1) := by decide +kernel
theorem dL_law_523 : decode cL_law 523 = .ok (.aload_n 0, 1) := by decide +kernel
theorem dL_law_524 : decode cL_law 524 = .ok (.iload_n 3, 1) := by decide +kernel
theorem dL_law_525 : decode cL_law 525 = .ok (.iconst 2, 1) := by decide +kernel
theorem dL_law_526 : decode cL_law 526 = .ok (.iadd, 1) := by decide +kernel
theorem dL_law_527 : decode cL_law 527 = .ok (.iaload, 1) := by decide +kernel
theorem dL_law_528 : decode cL_law 528 = .ok (.ifCond .eq 7, 3) := by decide +kernel
theorem dL_law_531 : decode cL_law 531 = .ok (.iconst 1, 1) := by decide +kernel
theorem dL_law_532 : decode cL_law 532 = .ok (.goto 4, 3) := by decide +kernel
theorem dL_law_535 : decode cL_law 535 = .ok (.iconst 0, 1) := by decide +kernel
theorem dL_law_536 : decode cL_law 536 = .ok (.invokevirtual 72, 3) := by decide +kernel
theorem dL_law_539 : decode cL_law 539 = .ok (.if_icmp .eq 207, 3) := by decide +kernel
theorem dL_law_542 : decode cL_law 542 = .ok (.iconst 0, 1) := by decide +kernel
theorem dL_law_543 : decode cL_law 543 = .ok (.ireturn, 1) := by decide +kernel
theorem dL_law_544 : decode cL_law 544 = .ok (.aload_n 1, 1) := by decide +kernel
theorem dL_law_545 : decode cL_law 545 = .ok (.aload_n 0, 1) := by decide +kernel
theorem dL_law_546 : decode cL_law 546 = .ok (.iload_n 3, 1) := by decide +kernel
theorem dL_law_547 : decode cL_law 547 = .ok (.iconst 1, 1) := by decide +kernel
theorem dL_law_548 : decode cL_law 548 = .ok (.iadd, 1) := by decide +kernel
theorem dL_law_549 : decode cL_law 549 = .ok (.iaload, 1) := by decide +kernel
theorem dL_law_550 : decode cL_law 550 = .ok (.aload_n 0, 1) := by decide +kernel
theorem dL_law_551 : decode cL_law 551 = .ok (.iload_n 3, 1) := by decide +kernel
theorem dL_law_552 : decode cL_law 552 = .ok (.iconst 2, 1) := by decide +kernel
theorem dL_law_553 : decode cL_law 553 = .ok (.iadd, 1) := by decide +kernel
theorem dL_law_554 : decode cL_law 554 = .ok (.iaload, 1) := by decide +kernel
theorem dL_law_555 : decode cL_law 555 = .ok (.aload_n 0, 1) := by decide +kernel
theorem dL_law_556 : decode cL_law 556 = .ok (.iload_n 3, 1) := by decide +kernel
theorem dL_law_557 : decode cL_law 557 = .ok (.iconst 3, 1) := by decide +kernel
theorem dL_law_558 : decode cL_law 558 = .ok (.iadd, 1) := by decide +kernel
theorem dL_law_559 : decode cL_law 559 = .ok (.iaload, 1) := by decide +kernel
theorem dL_law_560 : decode cL_law 560 = .ok (.i2l, 1) := by decide +kernel
theorem dL_law_561 : decode cL_law 561 = .ok (.bipush 32, 2) := by decide +kernel
theorem dL_law_563 : decode cL_law 563 = .ok (.lshl, 1) := by decide +kernel
theorem dL_law_564 : decode cL_law 564 = .ok (.aload_n 0, 1) := by decide +kernel
theorem dL_law_565 : decode cL_law 565 = .ok (.iload_n 3, 1) := by decide +kernel
theorem dL_law_566 : decode cL_law 566 = .ok (.iconst 4, 1) := by decide +kernel
theorem dL_law_567 : decode cL_law 567 = .ok (.iadd, 1) := by decide +kernel
theorem dL_law_568 : decode cL_law 568 = .ok (.iaload, 1) := by decide +kernel
theorem dL_law_569 : decode cL_law 569 = .ok (.i2l, 1) := by decide +kernel
theorem dL_law_570 : decode cL_law 570 = .ok (.ldc2_w 13, 3) := by decide +kernel
theorem dL_law_573 : decode cL_law 573 = .ok (.land, 1) := by decide +kernel
theorem dL_law_574 : decode cL_law 574 = .ok (.lor, 1) := by decide +kernel
theorem dL_law_575 : decode cL_law 575 = .ok (.invokevirtual 73, 3) := by decide +kernel
theorem dL_law_578 : decode cL_law 578 = .ok (.aload_n 2, 1) := by decide +kernel
theorem dL_law_579 : decode cL_law 579 = .ok (.aload_n 0, 1) := by decide +kernel
theorem dL_law_580 : decode cL_law 580 = .ok (.iload_n 3, 1) := by decide +kernel
theorem dL_law_581 : decode cL_law 581 = .ok (.iconst 1, 1) := by decide +kernel
theorem dL_law_582 : decode cL_law 582 = .ok (.iadd, 1) := by decide +kernel
theorem dL_law_583 : decode cL_law 583 = .ok (.iaload, 1) := by decide +kernel
theorem dL_law_584 : decode cL_law 584 = .ok (.aload_n 0, 1) := by decide +kernel
theorem dL_law_585 : decode cL_law 585 = .ok (.iload_n 3, 1) := by decide +kernel
theorem dL_law_586 : decode cL_law 586 = .ok (.iconst 2, 1) := by decide +kernel
theorem dL_law_587 : decode cL_law 587 = .ok (.iadd, 1) := by decide +kernel
theorem dL_law_588 : decode cL_law 588 = .ok (.iaload, 1) := by decide +kernel
theorem dL_law_589 : decode cL_law 589 = .ok (.aload_n 0, 1) := by decide +kernel
theorem dL_law_590 : decode cL_law 590 = .ok (.iload_n 3, 1) := by decide +kernel
theorem dL_law_591 : decode cL_law 591 = .ok (.iconst 3, 1) := by decide +kernel
theorem dL_law_592 : decode cL_law 592 = .ok (.iadd, 1) := by decide +kernel
theorem dL_law_593 : decode cL_law 593 = .ok (.iaload, 1) := by decide +kernel
theorem dL_law_594 : decode cL_law 594 = .ok (.i2l, 1) := by decide +kernel
theorem dL_law_595 : decode cL_law 595 = .ok (.bipush 32, 2) := by decide +kernel
theorem dL_law_597 : decode cL_law 597 = .ok (.lshl, 1) := by decide +kernel
theorem dL_law_598 : decode cL_law 598 = .ok (.aload_n 0, 1) := by decide +kernel
theorem dL_law_599 : decode cL_law 599 = .ok (.iload_n 3, 1) := by decide +kernel
theorem dL_law_600 : decode cL_law 600 = .ok (.iconst 4, 1) := by decide +kernel
theorem dL_law_601 : decode cL_law 601 = .ok (.iadd, 1) := by decide +kernel
theorem dL_law_602 : decode cL_law 602 = .ok (.iaload, 1) := by decide +kernel
theorem dL_law_603 : decode cL_law 603 = .ok (.i2l, 1) := by decide +kernel
theorem dL_law_604 : decode cL_law 604 = .ok (.ldc2_w 13, 3) := by decide +kernel
theorem dL_law_607 : decode cL_law 607 = .ok (.land, 1) := by decide +kernel
theorem dL_law_608 : decode cL_law 608 = .ok (.lor, 1) := by decide +kernel
theorem dL_law_609 : decode cL_law 609 = .ok (.invokevirtual 77, 3) := by decide +kernel
theorem dL_law_612 : decode cL_law 612 = .ok (.if_icmp .eq 134, 3) := by decide +kernel
theorem dL_law_615 : decode cL_law 615 = .ok (.iconst 0, 1) := by decide +kernel
theorem dL_law_616 : decode cL_law 616 = .ok (.ireturn, 1) := by decide +kernel
theorem dL_law_617 : decode cL_law 617 = .ok (.aload_n 1, 1) := by decide +kernel
theorem dL_law_618 : decode cL_law 618 = .ok (.aload_n 0, 1) := by decide +kernel
theorem dL_law_619 : decode cL_law 619 = .ok (.iload_n 3, 1) := by decide +kernel
theorem dL_law_620 : decode cL_law 620 = .ok (.iconst 1, 1) := by decide +kernel
theorem dL_law_621 : decode cL_law 621 = .ok (.iadd, 1) := by decide +kernel
theorem dL_law_622 : decode cL_law 622 = .ok (.iaload, 1) := by decide +kernel
theorem dL_law_623 : decode cL_law 623 = .ok (.aload_n 0, 1) := by decide +kernel
theorem dL_law_624 : decode cL_law 624 = .ok (.iload_n 3, 1) := by decide +kernel
theorem dL_law_625 : decode cL_law 625 = .ok (.iconst 2, 1) := by decide +kernel
theorem dL_law_626 : decode cL_law 626 = .ok (.iadd, 1) := by decide +kernel
theorem dL_law_627 : decode cL_law 627 = .ok (.iaload, 1) := by decide +kernel
theorem dL_law_628 : decode cL_law 628 = .ok (.aload_n 0, 1) := by decide +kernel
theorem dL_law_629 : decode cL_law 629 = .ok (.iload_n 3, 1) := by decide +kernel
theorem dL_law_630 : decode cL_law 630 = .ok (.iconst 3, 1) := by decide +kernel
theorem dL_law_631 : decode cL_law 631 = .ok (.iadd, 1) := by decide +kernel
theorem dL_law_632 : decode cL_law 632 = .ok (.iaload, 1) := by decide +kernel
theorem dL_law_633 : decode cL_law 633 = .ok (.i2l, 1) := by decide +kernel
theorem dL_law_634 : decode cL_law 634 = .ok (.bipush 32, 2) := by decide +kernel
theorem dL_law_636 : decode cL_law 636 = .ok (.lshl, 1) := by decide +kernel
theorem dL_law_637 : decode cL_law 637 = .ok (.aload_n 0, 1) := by decide +kernel
theorem dL_law_638 : decode cL_law 638 = .ok (.iload_n 3, 1) := by decide +kernel
theorem dL_law_639 : decode cL_law 639 = .ok (.iconst 4, 1) := by decide +kernel
theorem dL_law_640 : decode cL_law 640 = .ok (.iadd, 1) := by decide +kernel
theorem dL_law_641 : decode cL_law 641 = .ok (.iaload, 1) := by decide +kernel
theorem dL_law_642 : decode cL_law 642 = .ok (.i2l, 1) := by decide +kernel
theorem dL_law_643 : decode cL_law 643 = .ok (.ldc2_w 13, 3) := by decide +kernel
theorem dL_law_646 : decode cL_law 646 = .ok (.land, 1) := by decide +kernel
theorem dL_law_647 : decode cL_law 647 = .ok (.lor, 1) := by decide +kernel
theorem dL_law_648 : decode cL_law 648 = .ok (.invokevirtual 78, 3) := by decide +kernel
theorem dL_law_651 : decode cL_law 651 = .ok (.aload_n 2, 1) := by decide +kernel
theorem dL_law_652 : decode cL_law 652 = .ok (.aload_n 0, 1) := by decide +kernel
theorem dL_law_653 : decode cL_law 653 = .ok (.iload_n 3, 1) := by decide +kernel
theorem dL_law_654 : decode cL_law 654 = .ok (.iconst 1, 1) := by decide +kernel
theorem dL_law_655 : decode cL_law 655 = .ok (.iadd, 1) := by decide +kernel
theorem dL_law_656 : decode cL_law 656 = .ok (.iaload, 1) := by decide +kernel
theorem dL_law_657 : decode cL_law 657 = .ok (.aload_n 0, 1) := by decide +kernel
theorem dL_law_658 : decode cL_law 658 = .ok (.iload_n 3, 1) := by decide +kernel
theorem dL_law_659 : decode cL_law 659 = .ok (.iconst 2, 1) := by decide +kernel
theorem dL_law_660 : decode cL_law 660 = .ok (.iadd, 1) := by decide +kernel
theorem dL_law_661 : decode cL_law 661 = .ok (.iaload, 1) := by decide +kernel
theorem dL_law_662 : decode cL_law 662 = .ok (.aload_n 0, 1) := by decide +kernel
theorem dL_law_663 : decode cL_law 663 = .ok (.iload_n 3, 1) := by decide +kernel
theorem dL_law_664 : decode cL_law 664 = .ok (.iconst 3, 1) := by decide +kernel
theorem dL_law_665 : decode cL_law 665 = .ok (.iadd, 1) := by decide +kernel
theorem dL_law_666 : decode cL_law 666 = .ok (.iaload, 1) := by decide +kernel
theorem dL_law_667 : decode cL_law 667 = .ok (.i2l, 1) := by decide +kernel
theorem dL_law_668 : decode cL_law 668 = .ok (.bipush 32, 2) := by decide +kernel
theorem dL_law_670 : decode cL_law 670 = .ok (.lshl, 1) := by decide +kernel
theorem dL_law_671 : decode cL_law 671 = .ok (.aload_n 0, 1) := by decide +kernel
theorem dL_law_672 : decode cL_law 672 = .ok (.iload_n 3, 1) := by decide +kernel
theorem dL_law_673 : decode cL_law 673 = .ok (.iconst 4, 1) := by decide +kernel
theorem dL_law_674 : decode cL_law 674 = .ok (.iadd, 1) := by decide +kernel
theorem dL_law_675 : decode cL_law 675 = .ok (.iaload, 1) := by decide +kernel
theorem dL_law_676 : decode cL_law 676 = .ok (.i2l, 1) := by decide +kernel
theorem dL_law_677 : decode cL_law 677 = .ok (.ldc2_w 13, 3) := by decide +kernel
theorem dL_law_680 : decode cL_law 680 = .ok (.land, 1) := by decide +kernel
theorem dL_law_681 : decode cL_law 681 = .ok (.lor, 1) := by decide +kernel
theorem dL_law_682 : decode cL_law 682 = .ok (.invokevirtual 81, 3) := by decide +kernel
theorem dL_law_685 : decode cL_law 685 = .ok (.if_icmp .eq 61, 3) := by decide +kernel
theorem dL_law_688 : decode cL_law 688 = .ok (.iconst 0, 1) := by decide +kernel
theorem dL_law_689 : decode cL_law 689 = .ok (.ireturn, 1) := by decide +kernel
theorem dL_law_690 : decode cL_law 690 = .ok (.aload_n 1, 1) := by decide +kernel
theorem dL_law_691 : decode cL_law 691 = .ok (.aload_n 0, 1) := by decide +kernel
theorem dL_law_692 : decode cL_law 692 = .ok (.iload_n 3, 1) := by decide +kernel
theorem dL_law_693 : decode cL_law 693 = .ok (.iconst 1, 1) := by decide +kernel
theorem dL_law_694 : decode cL_law 694 = .ok (.iadd, 1) := by decide +kernel
theorem dL_law_695 : decode cL_law 695 = .ok (.iaload, 1) := by decide +kernel
theorem dL_law_696 : decode cL_law 696 = .ok (.invokevirtual 82, 3) := by decide +kernel
theorem dL_law_699 : decode cL_law 699 = .ok (.aload_n 2, 1) := by decide +kernel
theorem dL_law_700 : decode cL_law 700 = .ok (.aload_n 0, 1) := by decide +kernel
theorem dL_law_701 : decode cL_law 701 = .ok (.iload_n 3, 1) := by decide +kernel
theorem dL_law_702 : decode cL_law 702 = .ok (.iconst 1, 1) := by decide +kernel
theorem dL_law_703 : decode cL_law 703 = .ok (.iadd, 1) := by decide +kernel
theorem dL_law_704 : decode cL_law 704 = .ok (.iaload, 1) := by decide +kernel
theorem dL_law_705 : decode cL_law 705 = .ok (.invokevirtual 85, 3) := by decide +kernel
theorem dL_law_708 : decode cL_law 708 = .ok (.if_icmp .eq 38, 3) := by decide +kernel
theorem dL_law_711 : decode cL_law 711 = .ok (.iconst 0, 1) := by decide +kernel
theorem dL_law_712 : decode cL_law 712 = .ok (.ireturn, 1) := by decide +kernel
theorem dL_law_713 : decode cL_law 713 = .ok (.aload_n 1, 1) := by decide +kernel
theorem dL_law_714 : decode cL_law 714 = .ok (.aload_n 0, 1) := by decide +kernel
theorem dL_law_715 : decode cL_law 715 = .ok (.iload_n 3, 1) := by decide +kernel
theorem dL_law_716 : decode cL_law 716 = .ok (.iconst 1, 1) := by decide +kernel
theorem dL_law_717 : decode cL_law 717 = .ok (.iadd, 1) := by decide +kernel
theorem dL_law_718 : decode cL_law 718 = .ok (.iaload, 1) := by decide +kernel
theorem dL_law_719 : decode cL_law 719 = .ok (.aload_n 0, 1) := by decide +kernel
theorem dL_law_720 : decode cL_law 720 = .ok (.iload_n 3, 1) := by decide +kernel
theorem dL_law_721 : decode cL_law 721 = .ok (.iconst 2, 1) := by decide +kernel
theorem dL_law_722 : decode cL_law 722 = .ok (.iadd, 1) := by decide +kernel
theorem dL_law_723 : decode cL_law 723 = .ok (.iaload, 1) := by decide +kernel
theorem dL_law_724 : decode cL_law 724 = .ok (.invokevirtual 86, 3) := by decide +kernel
theorem dL_law_727 : decode cL_law 727 = .ok (.aload_n 2, 1) := by decide +kernel
theorem dL_law_728 : decode cL_law 728 = .ok (.aload_n 0, 1) := by decide +kernel
theorem dL_law_729 : decode cL_law 729 = .ok (.iload_n 3, 1) := by decide +kernel
theorem dL_law_730 : decode cL_law 730 = .ok (.iconst 1, 1) := by decide +kernel
theorem dL_law_731 : decode cL_law 731 = .ok (.iadd, 1) := by decide +kernel
theorem dL_law_732 : decode cL_law 732 = .ok (.iaload, 1) := by decide +kernel
theorem dL_law_733 : decode cL_law 733 = .ok (.aload_n 0, 1) := by decide +kernel
theorem dL_law_734 : decode cL_law 734 = .ok (.iload_n 3, 1) := by decide +kernel
theorem dL_law_735 : decode cL_law 735 = .ok (.iconst 2, 1) := by decide +kernel
theorem dL_law_736 : decode cL_law 736 = .ok (.iadd, 1) := by decide +kernel
theorem dL_law_737 : decode cL_law 737 = .ok (.iaload, 1) := by decide +kernel
theorem dL_law_738 : decode cL_law 738 = .ok (.invokevirtual 89, 3) := by decide +kernel
theorem dL_law_741 : decode cL_law 741 = .ok (.if_icmp .eq 5, 3) := by decide +kernel
theorem dL_law_744 : decode cL_law 744 = .ok (.iconst 0, 1) := by decide +kernel
theorem dL_law_745 : decode cL_law 745 = .ok (.ireturn, 1) := by decide +kernel
theorem dL_law_746 : decode cL_law 746 = .ok (.iinc 3 5, 3) := by decide +kernel
theorem dL_law_749 : decode cL_law 749 = .ok (.goto (-731), 3) := by decide +kernel
theorem dL_law_752 : decode cL_law 752 = .ok (.iconst 1, 1) := by decide +kernel
theorem dL_law_753 : decode cL_law 753 = .ok (.ireturn, 1) := by decide +kernel
abbrev vwCl : List vw_C := [(RX0, TX0, 5), (RX1, TX1, 4)]
