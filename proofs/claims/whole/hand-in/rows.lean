section
def lw_okq (q : MethodName × Nat) : Prop := (q.1.cls ≠ "java/lang/invoke/MethodHandle" ∧ q.1.cls ≠ "java/lang/invoke/VarHandle") ∧ Cond.instantiable q.1.cls q.2 ∈ tables_1 ∧ Cond.privateMethod q.1 ∈ tables_1 ∧ Cond.instanceMethod q.1 ∈ tables_1
theorem lw_p0 : lw_okq (⟨"StreamSums", "append", "(I)V"⟩, 5) := ⟨⟨by decide +kernel, by decide +kernel⟩, List.mem_of_getElem? (i := 4) (by decide +kernel), List.mem_of_getElem? (i := 43) (by decide +kernel), List.mem_of_getElem? (i := 44) (by decide +kernel)⟩
theorem lw_p1 : lw_okq (⟨"StreamSums", "narrowSum", "(III)I"⟩, 5) := ⟨⟨by decide +kernel, by decide +kernel⟩, List.mem_of_getElem? (i := 4) (by decide +kernel), List.mem_of_getElem? (i := 64) (by decide +kernel), List.mem_of_getElem? (i := 65) (by decide +kernel)⟩
theorem lw_p2 : lw_okq (⟨"StreamSums", "narrowOfLanes", "(III)I"⟩, 5) := ⟨⟨by decide +kernel, by decide +kernel⟩, List.mem_of_getElem? (i := 4) (by decide +kernel), List.mem_of_getElem? (i := 68) (by decide +kernel), List.mem_of_getElem? (i := 69) (by decide +kernel)⟩
theorem lw_p3 : lw_okq (⟨"StreamSums", "word", "(I)I"⟩, 5) := ⟨⟨by decide +kernel, by decide +kernel⟩, List.mem_of_getElem? (i := 4) (by decide +kernel), List.mem_of_getElem? (i := 74) (by decide +kernel), List.mem_of_getElem? (i := 75) (by decide +kernel)⟩
theorem lw_p4 : lw_okq (⟨"StreamSums", "wideSum", "(IIJ)J"⟩, 5) := ⟨⟨by decide +kernel, by decide +kernel⟩, List.mem_of_getElem? (i := 4) (by decide +kernel), List.mem_of_getElem? (i := 95) (by decide +kernel), List.mem_of_getElem? (i := 96) (by decide +kernel)⟩
theorem lw_p5 : lw_okq (⟨"StreamSums", "wideOfLanes", "(IIJ)J"⟩, 5) := ⟨⟨by decide +kernel, by decide +kernel⟩, List.mem_of_getElem? (i := 4) (by decide +kernel), List.mem_of_getElem? (i := 99) (by decide +kernel), List.mem_of_getElem? (i := 100) (by decide +kernel)⟩
theorem lw_p6 : lw_okq (⟨"StreamSums", "longWord", "(I)J"⟩, 5) := ⟨⟨by decide +kernel, by decide +kernel⟩, List.mem_of_getElem? (i := 4) (by decide +kernel), List.mem_of_getElem? (i := 105) (by decide +kernel), List.mem_of_getElem? (i := 106) (by decide +kernel)⟩
theorem lw_p7 : lw_okq (⟨"StreamSums", "unsignedWord", "(I)J"⟩, 5) := ⟨⟨by decide +kernel, by decide +kernel⟩, List.mem_of_getElem? (i := 4) (by decide +kernel), List.mem_of_getElem? (i := 109) (by decide +kernel), List.mem_of_getElem? (i := 110) (by decide +kernel)⟩
theorem lw_p8 : lw_okq (⟨"StreamSums", "polySum", "(II)I"⟩, 5) := ⟨⟨by decide +kernel, by decide +kernel⟩, List.mem_of_getElem? (i := 4) (by decide +kernel), List.mem_of_getElem? (i := 133) (by decide +kernel), List.mem_of_getElem? (i := 134) (by decide +kernel)⟩
theorem lw_p9 : lw_okq (⟨"StreamSums", "isPart", "(II)Z"⟩, 5) := ⟨⟨by decide +kernel, by decide +kernel⟩, List.mem_of_getElem? (i := 4) (by decide +kernel), List.mem_of_getElem? (i := 141) (by decide +kernel), List.mem_of_getElem? (i := 142) (by decide +kernel)⟩
theorem lw_p10 : lw_okq (⟨"StreamSumsModel", "at", "(I)I"⟩, 4) := ⟨⟨by decide +kernel, by decide +kernel⟩, List.mem_of_getElem? (i := 193) (by decide +kernel), List.mem_of_getElem? (i := 234) (by decide +kernel), List.mem_of_getElem? (i := 235) (by decide +kernel)⟩
theorem lw_p11 : lw_okq (⟨"StreamSumsModel", "sumNarrow", "(III)I"⟩, 4) := ⟨⟨by decide +kernel, by decide +kernel⟩, List.mem_of_getElem? (i := 193) (by decide +kernel), List.mem_of_getElem? (i := 242) (by decide +kernel), List.mem_of_getElem? (i := 243) (by decide +kernel)⟩
theorem lw_p12 : lw_okq (⟨"StreamSumsModel", "lane", "(IIII)I"⟩, 4) := ⟨⟨by decide +kernel, by decide +kernel⟩, List.mem_of_getElem? (i := 193) (by decide +kernel), List.mem_of_getElem? (i := 249) (by decide +kernel), List.mem_of_getElem? (i := 250) (by decide +kernel)⟩
theorem lw_p13 : lw_okq (⟨"StreamSumsModel", "number", "(II)J"⟩, 4) := ⟨⟨by decide +kernel, by decide +kernel⟩, List.mem_of_getElem? (i := 193) (by decide +kernel), List.mem_of_getElem? (i := 253) (by decide +kernel), List.mem_of_getElem? (i := 254) (by decide +kernel)⟩
theorem lw_p14 : lw_okq (⟨"StreamSumsModel", "isPart", "(II)Z"⟩, 4) := ⟨⟨by decide +kernel, by decide +kernel⟩, List.mem_of_getElem? (i := 193) (by decide +kernel), List.mem_of_getElem? (i := 266) (by decide +kernel), List.mem_of_getElem? (i := 267) (by decide +kernel)⟩
theorem lw_p15 : lw_okq (⟨"StreamSumsModel", "sumWide", "(IIJ)J"⟩, 4) := ⟨⟨by decide +kernel, by decide +kernel⟩, List.mem_of_getElem? (i := 193) (by decide +kernel), List.mem_of_getElem? (i := 274) (by decide +kernel), List.mem_of_getElem? (i := 275) (by decide +kernel)⟩
def lw_privs_1 : List (MethodName × Nat) := [(⟨"StreamSums", "append", "(I)V"⟩, 5), (⟨"StreamSums", "narrowSum", "(III)I"⟩, 5), (⟨"StreamSums", "narrowOfLanes", "(III)I"⟩, 5), (⟨"StreamSums", "word", "(I)I"⟩, 5), (⟨"StreamSums", "wideSum", "(IIJ)J"⟩, 5), (⟨"StreamSums", "wideOfLanes", "(IIJ)J"⟩, 5), (⟨"StreamSums", "longWord", "(I)J"⟩, 5), (⟨"StreamSums", "unsignedWord", "(I)J"⟩, 5), (⟨"StreamSums", "polySum", "(II)I"⟩, 5), (⟨"StreamSums", "isPart", "(II)Z"⟩, 5), (⟨"StreamSumsModel", "at", "(I)I"⟩, 4), (⟨"StreamSumsModel", "sumNarrow", "(III)I"⟩, 4), (⟨"StreamSumsModel", "lane", "(IIII)I"⟩, 4), (⟨"StreamSumsModel", "number", "(II)J"⟩, 4), (⟨"StreamSumsModel", "isPart", "(II)Z"⟩, 4), (⟨"StreamSumsModel", "sumWide", "(IIJ)J"⟩, 4)]
theorem lw_r1 : ∀ q ∈ lw_privs_1, lw_okq q := List.forall_mem_cons.mpr ⟨lw_p0, List.forall_mem_cons.mpr ⟨lw_p1, List.forall_mem_cons.mpr ⟨lw_p2, List.forall_mem_cons.mpr ⟨lw_p3, List.forall_mem_cons.mpr ⟨lw_p4, List.forall_mem_cons.mpr ⟨lw_p5, List.forall_mem_cons.mpr ⟨lw_p6, List.forall_mem_cons.mpr ⟨lw_p7, List.forall_mem_cons.mpr ⟨lw_p8, List.forall_mem_cons.mpr ⟨lw_p9, List.forall_mem_cons.mpr ⟨lw_p10, List.forall_mem_cons.mpr ⟨lw_p11, List.forall_mem_cons.mpr ⟨lw_p12, List.forall_mem_cons.mpr ⟨lw_p13, List.forall_mem_cons.mpr ⟨lw_p14, List.forall_mem_cons.mpr ⟨lw_p15, fun _ h => absurd h List.not_mem_nil⟩⟩⟩⟩⟩⟩⟩⟩⟩⟩⟩⟩⟩⟩⟩⟩
theorem lw_p16 : lw_okq (⟨"StreamSumsModel", "ofLanes", "(IIJ)J"⟩, 4) := ⟨⟨by decide +kernel, by decide +kernel⟩, List.mem_of_getElem? (i := 193) (by decide +kernel), List.mem_of_getElem? (i := 278) (by decide +kernel), List.mem_of_getElem? (i := 279) (by decide +kernel)⟩
theorem lw_p17 : lw_okq (⟨"StreamSumsModel", "wideLane", "(JIII)J"⟩, 4) := ⟨⟨by decide +kernel, by decide +kernel⟩, List.mem_of_getElem? (i := 193) (by decide +kernel), List.mem_of_getElem? (i := 284) (by decide +kernel), List.mem_of_getElem? (i := 285) (by decide +kernel)⟩
theorem lw_p18 : lw_okq (⟨"StreamSumsModel", "register", "(II)I"⟩, 4) := ⟨⟨by decide +kernel, by decide +kernel⟩, List.mem_of_getElem? (i := 193) (by decide +kernel), List.mem_of_getElem? (i := 305) (by decide +kernel), List.mem_of_getElem? (i := 306) (by decide +kernel)⟩
def lw_privs_2 : List (MethodName × Nat) := [(⟨"StreamSumsModel", "ofLanes", "(IIJ)J"⟩, 4), (⟨"StreamSumsModel", "wideLane", "(JIII)J"⟩, 4), (⟨"StreamSumsModel", "register", "(II)I"⟩, 4)]
theorem lw_r2 : ∀ q ∈ lw_privs_2, lw_okq q := List.forall_mem_cons.mpr ⟨lw_p16, List.forall_mem_cons.mpr ⟨lw_p17, List.forall_mem_cons.mpr ⟨lw_p18, fun _ h => absurd h List.not_mem_nil⟩⟩⟩
def lw_privs : List (MethodName × Nat) := lw_privs_1 ++ (lw_privs_2)
def lw_tbl : List Cond := k2_sels lw_privs ++ tables_1
theorem lw_privs_ok : ∀ q ∈ lw_privs, lw_okq q := by
  show ∀ q ∈ lw_privs_1 ++ (lw_privs_2), lw_okq q
  exact List.forall_mem_append.mpr ⟨lw_r1, lw_r2⟩
end
section
/-! ===== BEGIN words of one list among another's, by their places ===== -/
theorem goodIn_r {big : List Cond} (ws : List Cond) (ps : List Nat) (hp : ws = ps.filterMap (fun i => big[i]?)) (h : ws.all goodWord = true) : GoodIn big ws := by
  intro w hw
  have h1 := List.all_eq_true.mp h w hw
  rw [hp] at hw
  obtain ⟨i, -, hi⟩ := List.mem_filterMap.mp hw
  have hm : w ∈ big := by first | exact List.mem_of_getElem? hi | exact List.getElem?_mem hi
  exact ⟨hm, good_of_word h1⟩
theorem goodIn_app {big a b : List Cond} (ha : GoodIn big a) (hb : GoodIn big b) : GoodIn big (a ++ b) := fun w h => (List.mem_append.mp h).elim (ha w) (hb w)
theorem goodIn_ca {big a b : List Cond} {c : Cond} (ha : GoodIn big (c :: a)) (hb : GoodIn big b) : GoodIn big (c :: (a ++ b)) := fun w h => (List.mem_cons.mp h).elim (fun e => ha w (List.mem_cons.mpr (Or.inl e))) (fun h => (List.mem_append.mp h).elim (fun h => ha w (List.mem_cons.mpr (Or.inr h))) (hb w))
theorem goodIn_sub {big ws : List Cond} (hm : ∀ w ∈ ws, w ∈ big) (h : ws.all goodWord = true) : GoodIn big ws := fun w hw => ⟨hm w hw, good_of_word (List.all_eq_true.mp h w hw)⟩
/-! ===== END ===== -/

/-! ===== BEGIN printed: names, fields, word lists, decode rows ===== -/
def RX0 : String := "StreamSums"
def TX0 : u_T := fun k => match k with
  | 0 => ("StreamSums", "bytes", "[B", true)
  | 1 => ("StreamSums", "eightSteps", "[I", true)
  | 2 => ("StreamSums", "count", "I", false)
  | 3 => ("StreamSums", "narrowSeed", "I", false)
  | _ => ("StreamSums", "wideSeed", "J", false)
def tyX0 : Nat → FieldType := fun k => match k with
  | 0 => .array .byte
  | 1 => .array .int
  | 2 => .int
  | 3 => .int
  | _ => .long
abbrev wsX00 : List Cond := u_ws RX0 TX0 5
theorem nmX0 : ∀ a, a < 5 → ∀ b, b < 5 → a ≠ b → (TX0 a).2.1 ≠ (TX0 b).2.1 := by decide +kernel
theorem tyX0_ok : ∀ k, k < 5 → parseFieldDescriptor (TX0 k).2.2.1 = some (tyX0 k) := by decide +kernel
abbrev cX0_init : ByteArray := prog_1_method_1_code
def yX0_init : MethodName := ⟨RX0, "<init>", "()V"⟩
abbrev cX0_begin : ByteArray := prog_1_method_2_code
def yX0_begin : MethodName := ⟨RX0, "begin", "(IJ)V"⟩
abbrev cX0_write : ByteArray := prog_1_method_3_code
def yX0_write : MethodName := ⟨RX0, "write", "(JI)Z"⟩
abbrev cX0_again : ByteArray := prog_1_method_4_code
def yX0_again : MethodName := ⟨RX0, "again", "(II)Z"⟩
abbrev cX0_size : ByteArray := prog_1_method_5_code
def yX0_size : MethodName := ⟨RX0, "size", "()I"⟩
abbrev cX0_byteAt : ByteArray := prog_1_method_6_code
def yX0_byteAt : MethodName := ⟨RX0, "byteAt", "(I)I"⟩
abbrev cX0_narrow : ByteArray := prog_1_method_7_code
def yX0_narrow : MethodName := ⟨RX0, "narrow", "()I"⟩
abbrev cX0_wide : ByteArray := prog_1_method_8_code
def yX0_wide : MethodName := ⟨RX0, "wide", "()J"⟩
abbrev cX0_poly : ByteArray := prog_1_method_9_code
def yX0_poly : MethodName := ⟨RX0, "poly", "()I"⟩
abbrev cX0_narrowOf : ByteArray := prog_1_method_10_code
def yX0_narrowOf : MethodName := ⟨RX0, "narrowOf", "(III)I"⟩
abbrev cX0_wideOf : ByteArray := prog_1_method_11_code
def yX0_wideOf : MethodName := ⟨RX0, "wideOf", "(IIJ)J"⟩
abbrev cX0_polyOf : ByteArray := prog_1_method_12_code
def yX0_polyOf : MethodName := ⟨RX0, "polyOf", "(II)I"⟩
abbrev cX0_masked : ByteArray := prog_1_method_13_code
def yX0_masked : MethodName := ⟨RX0, "masked", "(IZ)I"⟩
abbrev cX0_joined : ByteArray := prog_1_method_14_code
def yX0_joined : MethodName := ⟨RX0, "joined", "(IIJ)I"⟩
abbrev cX0_cut : ByteArray := prog_1_method_15_code
def yX0_cut : MethodName := ⟨RX0, "cut", "(IIJ)I"⟩
abbrev cX0_forged : ByteArray := prog_1_method_16_code
def yX0_forged : MethodName := ⟨RX0, "forged", "(I)I"⟩
abbrev cX0_mended : ByteArray := prog_1_method_17_code
def yX0_mended : MethodName := ⟨RX0, "mended", "(II)I"⟩
abbrev cX0_append : ByteArray := prog_1_method_18_code
def yX0_append : MethodName := ⟨RX0, "append", "(I)V"⟩
abbrev cX0_isPart : ByteArray := prog_1_method_19_code
def yX0_isPart : MethodName := ⟨RX0, "isPart", "(II)Z"⟩
abbrev cX0_word : ByteArray := prog_1_method_20_code
def yX0_word : MethodName := ⟨RX0, "word", "(I)I"⟩
abbrev cX0_unsignedWord : ByteArray := prog_1_method_21_code
def yX0_unsignedWord : MethodName := ⟨RX0, "unsignedWord", "(I)J"⟩
abbrev cX0_longWord : ByteArray := prog_1_method_22_code
def yX0_longWord : MethodName := ⟨RX0, "longWord", "(I)J"⟩
abbrev cX0_rotated : ByteArray := prog_1_method_23_code
def yX0_rotated : MethodName := ⟨RX0, "rotated", "(II)I"⟩
abbrev cX0_rotatedLong : ByteArray := prog_1_method_24_code
def yX0_rotatedLong : MethodName := ⟨RX0, "rotatedLong", "(JI)J"⟩
abbrev cX0_narrowSum : ByteArray := prog_1_method_25_code
def yX0_narrowSum : MethodName := ⟨RX0, "narrowSum", "(III)I"⟩
abbrev cX0_narrowOfLanes : ByteArray := prog_1_method_26_code
def yX0_narrowOfLanes : MethodName := ⟨RX0, "narrowOfLanes", "(III)I"⟩
abbrev cX0_narrowLane : ByteArray := prog_1_method_27_code
def yX0_narrowLane : MethodName := ⟨RX0, "narrowLane", "(II)I"⟩
abbrev cX0_narrowStirred : ByteArray := prog_1_method_28_code
def yX0_narrowStirred : MethodName := ⟨RX0, "narrowStirred", "(I)I"⟩
abbrev cX0_wideSum : ByteArray := prog_1_method_29_code
def yX0_wideSum : MethodName := ⟨RX0, "wideSum", "(IIJ)J"⟩
abbrev cX0_wideOfLanes : ByteArray := prog_1_method_30_code
def yX0_wideOfLanes : MethodName := ⟨RX0, "wideOfLanes", "(IIJ)J"⟩
abbrev cX0_wideLane : ByteArray := prog_1_method_31_code
def yX0_wideLane : MethodName := ⟨RX0, "wideLane", "(JJ)J"⟩
abbrev cX0_withLane : ByteArray := prog_1_method_32_code
def yX0_withLane : MethodName := ⟨RX0, "withLane", "(JJ)J"⟩
abbrev cX0_wideStirred : ByteArray := prog_1_method_33_code
def yX0_wideStirred : MethodName := ⟨RX0, "wideStirred", "(J)J"⟩
abbrev cX0_polySum : ByteArray := prog_1_method_34_code
def yX0_polySum : MethodName := ⟨RX0, "polySum", "(II)I"⟩
abbrev cX0_movedOn : ByteArray := prog_1_method_35_code
def yX0_movedOn : MethodName := ⟨RX0, "movedOn", "(II)I"⟩
abbrev cX0_movedBack : ByteArray := prog_1_method_36_code
def yX0_movedBack : MethodName := ⟨RX0, "movedBack", "(II)I"⟩
abbrev cX0_product : ByteArray := prog_1_method_37_code
def yX0_product : MethodName := ⟨RX0, "product", "(II)I"⟩
abbrev cX0_power : ByteArray := prog_1_method_38_code
def yX0_power : MethodName := ⟨RX0, "power", "(IJ)I"⟩
abbrev cX0_fourBetween : ByteArray := prog_1_method_39_code
def yX0_fourBetween : MethodName := ⟨RX0, "fourBetween", "(II)I"⟩
abbrev cX0_turnedRound : ByteArray := prog_1_method_40_code
def yX0_turnedRound : MethodName := ⟨RX0, "turnedRound", "(I)I"⟩
def RX1 : String := "StreamSumsModel"
def TX1 : u_T := fun k => match k with
  | 0 => ("StreamSumsModel", "row", "[B", true)
  | 1 => ("StreamSumsModel", "length", "I", false)
  | 2 => ("StreamSumsModel", "seedNarrow", "I", false)
  | _ => ("StreamSumsModel", "seedWide", "J", false)
def tyX1 : Nat → FieldType := fun k => match k with
  | 0 => .array .byte
  | 1 => .int
  | 2 => .int
  | _ => .long
abbrev wsX10 : List Cond := u_ws RX1 TX1 4
theorem nmX1 : ∀ a, a < 4 → ∀ b, b < 4 → a ≠ b → (TX1 a).2.1 ≠ (TX1 b).2.1 := by decide +kernel
theorem tyX1_ok : ∀ k, k < 4 → parseFieldDescriptor (TX1 k).2.2.1 = some (tyX1 k) := by decide +kernel
abbrev cX1_init : ByteArray := prog_3_method_1_code
def yX1_init : MethodName := ⟨RX1, "<init>", "()V"⟩
abbrev cX1_begin : ByteArray := prog_3_method_2_code
def yX1_begin : MethodName := ⟨RX1, "begin", "(IJ)V"⟩
abbrev cX1_write : ByteArray := prog_3_method_3_code
def yX1_write : MethodName := ⟨RX1, "write", "(JI)Z"⟩
abbrev cX1_again : ByteArray := prog_3_method_4_code
def yX1_again : MethodName := ⟨RX1, "again", "(II)Z"⟩
abbrev cX1_size : ByteArray := prog_3_method_5_code
def yX1_size : MethodName := ⟨RX1, "size", "()I"⟩
abbrev cX1_at : ByteArray := prog_3_method_6_code
def yX1_at : MethodName := ⟨RX1, "at", "(I)I"⟩
abbrev cX1_byteAt : ByteArray := prog_3_method_7_code
def yX1_byteAt : MethodName := ⟨RX1, "byteAt", "(I)I"⟩
def RL : String := "StreamSumsLaw"
abbrev cL_law : ByteArray := code
def yL_law : MethodName := ⟨RL, "law", "([I)Z"⟩
def wsX0_movedOn : List Cond := .code yX0_movedOn cX0_movedOn 3 (some .int) :: ([.constant RX0 137 (-2097792136)])
def wsX0_init : List Cond := .code yX0_init cX0_init 2 none :: ([.methodLink RX0 1 objectInit, .instanceMethod objectInit, .code objectInit ⟨#[0xb1]⟩ 1 none, .constant RX0 9 (65536), .arrayClass .byte, .fieldLink RX0 10 "StreamSums" "bytes" "[B", .arrayClass .int, .fieldLink RX0 14 "StreamSums" "eightSteps" "[I", .fieldLink RX0 22 "StreamSums" "count" "I", .fieldLink RX0 26 "StreamSums" "narrowSeed" "I", .fieldLink RX0 29 "StreamSums" "wideSeed" "J", .methodLink RX0 18 yX0_movedOn, .static yX0_movedOn, .initialized RX0, .code yX0_movedOn cX0_movedOn 3 (some .int), .constant RX0 137 (-2097792136)] ++ wsX00)
def wsX0_begin : List Cond := .code yX0_begin cX0_begin 4 none :: ([.fieldLink RX0 22 "StreamSums" "count" "I", .fieldLink RX0 26 "StreamSums" "narrowSeed" "I", .fieldLink RX0 29 "StreamSums" "wideSeed" "J"] ++ wsX00)
def wsX0_append : List Cond := .code yX0_append cX0_append 2 none :: ([.fieldLink RX0 22 "StreamSums" "count" "I", .constant RX0 9 (65536), .fieldLink RX0 10 "StreamSums" "bytes" "[B"] ++ wsX00)
def wsX0_write : List Cond := .code yX0_write cX0_write 5 (some .boolean) :: ([.constant RX0 9 (65536), .fieldLink RX0 22 "StreamSums" "count" "I", .methodLink RX0 33 yX0_append, .instanceMethod yX0_append, .selects RX0 yX0_append yX0_append, .initialized RX0, .code yX0_append cX0_append 2 none, .fieldLink RX0 10 "StreamSums" "bytes" "[B"] ++ wsX00)
def wsX0_byteAt : List Cond := .code yX0_byteAt cX0_byteAt 2 (some .int) :: ([.fieldLink RX0 22 "StreamSums" "count" "I", .fieldLink RX0 10 "StreamSums" "bytes" "[B"] ++ wsX00)
def wsX0_again : List Cond := .code yX0_again cX0_again 7 (some .boolean) :: ([.fieldLink RX0 22 "StreamSums" "count" "I", .constant RX0 9 (65536), .methodLink RX0 37 yX0_byteAt, .instanceMethod yX0_byteAt, .selects RX0 yX0_byteAt yX0_byteAt, .initialized RX0, .code yX0_byteAt cX0_byteAt 2 (some .int), .fieldLink RX0 10 "StreamSums" "bytes" "[B", .methodLink RX0 33 yX0_append, .instanceMethod yX0_append, .selects RX0 yX0_append yX0_append, .code yX0_append cX0_append 2 none] ++ wsX00)
def wsX0_size : List Cond := .code yX0_size cX0_size 1 (some .int) :: ([.fieldLink RX0 22 "StreamSums" "count" "I"] ++ wsX00)
def wsX0_word : List Cond := .code yX0_word cX0_word 2 (some .int) :: ([.constant RX0 82 (65532), .fieldLink RX0 10 "StreamSums" "bytes" "[B"] ++ wsX00)
def wsX0_rotated : List Cond := .code yX0_rotated cX0_rotated 2 (some .int) :: ([])
def wsX0_narrowLane : List Cond := .code yX0_narrowLane cX0_narrowLane 2 (some .int) :: ([.constant RX0 102 (-2048144777), .constant RX0 98 (-1640531535), .methodLink RX0 57 yX0_rotated, .static yX0_rotated, .initialized RX0, .code yX0_rotated cX0_rotated 2 (some .int)])
def wsX0_narrowOfLanes : List Cond := .code yX0_narrowOfLanes cX0_narrowOfLanes 9 (some .int) :: ([.constant RX0 98 (-1640531535), .constant RX0 102 (-2048144777), .methodLink RX0 83 yX0_word, .instanceMethod yX0_word, .selects RX0 yX0_word yX0_word, .initialized RX0, .code yX0_word cX0_word 2 (some .int), .constant RX0 82 (65532), .fieldLink RX0 10 "StreamSums" "bytes" "[B", .methodLink RX0 103 yX0_narrowLane, .static yX0_narrowLane, .code yX0_narrowLane cX0_narrowLane 2 (some .int), .methodLink RX0 57 yX0_rotated, .static yX0_rotated, .code yX0_rotated cX0_rotated 2 (some .int)] ++ wsX00)
def wsX0_narrowStirred : List Cond := .code yX0_narrowStirred cX0_narrowStirred 1 (some .int) :: ([.constant RX0 102 (-2048144777), .constant RX0 96 (-1028477379)])
def wsX0_narrowSum_r1 : List Cond := [Cond.constant RX0 95 (374761393), Cond.constant RX0 96 (-1028477379), Cond.constant RX0 97 (668265263), Cond.constant RX0 98 (-1640531535), Cond.methodLink RX0 92 yX0_narrowOfLanes, Cond.instanceMethod yX0_narrowOfLanes, Cond.selects RX0 yX0_narrowOfLanes yX0_narrowOfLanes, Cond.initialized RX0, Cond.code yX0_narrowOfLanes cX0_narrowOfLanes 9 (some .int), Cond.constant RX0 102 (-2048144777), Cond.methodLink RX0 83 yX0_word, Cond.instanceMethod yX0_word, Cond.selects RX0 yX0_word yX0_word, Cond.code yX0_word cX0_word 2 (some .int), Cond.constant RX0 82 (65532), Cond.fieldLink RX0 10 "StreamSums" "bytes" "[B", Cond.methodLink RX0 103 yX0_narrowLane, Cond.static yX0_narrowLane, Cond.code yX0_narrowLane cX0_narrowLane 2 (some .int), Cond.methodLink RX0 57 yX0_rotated, Cond.static yX0_rotated, Cond.code yX0_rotated cX0_rotated 2 (some .int), Cond.methodLink RX0 37 yX0_byteAt, Cond.instanceMethod yX0_byteAt]
def wsX0_narrowSum_r2 : List Cond := [Cond.selects RX0 yX0_byteAt yX0_byteAt, Cond.code yX0_byteAt cX0_byteAt 2 (some .int), Cond.fieldLink RX0 22 "StreamSums" "count" "I", Cond.methodLink RX0 99 yX0_narrowStirred, Cond.static yX0_narrowStirred, Cond.code yX0_narrowStirred cX0_narrowStirred 1 (some .int)]
def wsX0_narrowSum : List Cond := .code yX0_narrowSum cX0_narrowSum 7 (some .int) :: ((wsX0_narrowSum_r1 ++ wsX0_narrowSum_r2) ++ wsX00)
def wsX0_narrow_r1 : List Cond := [Cond.fieldLink RX0 22 "StreamSums" "count" "I", Cond.fieldLink RX0 26 "StreamSums" "narrowSeed" "I", Cond.methodLink RX0 41 yX0_narrowSum, Cond.instanceMethod yX0_narrowSum, Cond.selects RX0 yX0_narrowSum yX0_narrowSum, Cond.initialized RX0, Cond.code yX0_narrowSum cX0_narrowSum 7 (some .int), Cond.constant RX0 95 (374761393), Cond.constant RX0 96 (-1028477379), Cond.constant RX0 97 (668265263), Cond.constant RX0 98 (-1640531535), Cond.methodLink RX0 92 yX0_narrowOfLanes, Cond.instanceMethod yX0_narrowOfLanes, Cond.selects RX0 yX0_narrowOfLanes yX0_narrowOfLanes, Cond.code yX0_narrowOfLanes cX0_narrowOfLanes 9 (some .int), Cond.constant RX0 102 (-2048144777), Cond.methodLink RX0 83 yX0_word, Cond.instanceMethod yX0_word, Cond.selects RX0 yX0_word yX0_word, Cond.code yX0_word cX0_word 2 (some .int), Cond.constant RX0 82 (65532), Cond.fieldLink RX0 10 "StreamSums" "bytes" "[B", Cond.methodLink RX0 103 yX0_narrowLane, Cond.static yX0_narrowLane]
def wsX0_narrow_r2 : List Cond := [Cond.code yX0_narrowLane cX0_narrowLane 2 (some .int), Cond.methodLink RX0 57 yX0_rotated, Cond.static yX0_rotated, Cond.code yX0_rotated cX0_rotated 2 (some .int), Cond.methodLink RX0 37 yX0_byteAt, Cond.instanceMethod yX0_byteAt, Cond.selects RX0 yX0_byteAt yX0_byteAt, Cond.code yX0_byteAt cX0_byteAt 2 (some .int), Cond.methodLink RX0 99 yX0_narrowStirred, Cond.static yX0_narrowStirred, Cond.code yX0_narrowStirred cX0_narrowStirred 1 (some .int)]
def wsX0_narrow : List Cond := .code yX0_narrow cX0_narrow 1 (some .int) :: ((wsX0_narrow_r1 ++ wsX0_narrow_r2) ++ wsX00)
def wsX0_unsignedWord : List Cond := .code yX0_unsignedWord cX0_unsignedWord 2 (some .long) :: ([.constantLong RX0 86 (4294967295), .methodLink RX0 83 yX0_word, .instanceMethod yX0_word, .selects RX0 yX0_word yX0_word, .initialized RX0, .code yX0_word cX0_word 2 (some .int), .constant RX0 82 (65532), .fieldLink RX0 10 "StreamSums" "bytes" "[B"] ++ wsX00)
def wsX0_longWord : List Cond := .code yX0_longWord cX0_longWord 2 (some .long) :: ([.methodLink RX0 88 yX0_unsignedWord, .instanceMethod yX0_unsignedWord, .selects RX0 yX0_unsignedWord yX0_unsignedWord, .initialized RX0, .code yX0_unsignedWord cX0_unsignedWord 2 (some .long), .constantLong RX0 86 (4294967295), .methodLink RX0 83 yX0_word, .instanceMethod yX0_word, .selects RX0 yX0_word yX0_word, .code yX0_word cX0_word 2 (some .int), .constant RX0 82 (65532), .fieldLink RX0 10 "StreamSums" "bytes" "[B"] ++ wsX00)
def wsX0_rotatedLong : List Cond := .code yX0_rotatedLong cX0_rotatedLong 3 (some .long) :: ([])
def wsX0_wideLane : List Cond := .code yX0_wideLane cX0_wideLane 4 (some .long) :: ([.constantLong RX0 126 (-4417276706812531889), .constantLong RX0 122 (-7046029288634856825), .methodLink RX0 118 yX0_rotatedLong, .static yX0_rotatedLong, .initialized RX0, .code yX0_rotatedLong cX0_rotatedLong 3 (some .long)])
def wsX0_withLane : List Cond := .code yX0_withLane cX0_withLane 4 (some .long) :: ([.constantLong RX0 122 (-7046029288634856825), .constantLong RX0 124 (-8796714831421723037), .methodLink RX0 114 yX0_wideLane, .static yX0_wideLane, .initialized RX0, .code yX0_wideLane cX0_wideLane 4 (some .long), .constantLong RX0 126 (-4417276706812531889), .methodLink RX0 118 yX0_rotatedLong, .static yX0_rotatedLong, .code yX0_rotatedLong cX0_rotatedLong 3 (some .long)])
def wsX0_wideOfLanes_r1 : List Cond := [Cond.constantLong RX0 122 (-7046029288634856825), Cond.constantLong RX0 126 (-4417276706812531889), Cond.methodLink RX0 111 yX0_longWord, Cond.instanceMethod yX0_longWord, Cond.selects RX0 yX0_longWord yX0_longWord, Cond.initialized RX0, Cond.code yX0_longWord cX0_longWord 2 (some .long), Cond.methodLink RX0 88 yX0_unsignedWord, Cond.instanceMethod yX0_unsignedWord, Cond.selects RX0 yX0_unsignedWord yX0_unsignedWord, Cond.code yX0_unsignedWord cX0_unsignedWord 2 (some .long), Cond.constantLong RX0 86 (4294967295), Cond.methodLink RX0 83 yX0_word, Cond.instanceMethod yX0_word, Cond.selects RX0 yX0_word yX0_word, Cond.code yX0_word cX0_word 2 (some .int), Cond.constant RX0 82 (65532), Cond.fieldLink RX0 10 "StreamSums" "bytes" "[B", Cond.methodLink RX0 114 yX0_wideLane, Cond.static yX0_wideLane, Cond.code yX0_wideLane cX0_wideLane 4 (some .long), Cond.methodLink RX0 118 yX0_rotatedLong, Cond.static yX0_rotatedLong, Cond.code yX0_rotatedLong cX0_rotatedLong 3 (some .long)]
def wsX0_wideOfLanes_r2 : List Cond := [Cond.methodLink RX0 134 yX0_withLane, Cond.static yX0_withLane, Cond.code yX0_withLane cX0_withLane 4 (some .long), Cond.constantLong RX0 124 (-8796714831421723037)]
def wsX0_wideOfLanes : List Cond := .code yX0_wideOfLanes cX0_wideOfLanes 15 (some .long) :: ((wsX0_wideOfLanes_r1 ++ wsX0_wideOfLanes_r2) ++ wsX00)
def wsX0_wideStirred : List Cond := .code yX0_wideStirred cX0_wideStirred 2 (some .long) :: ([.constantLong RX0 126 (-4417276706812531889), .constantLong RX0 128 (1609587929392839161)])
def wsX0_wideSum_r1 : List Cond := [Cond.constantLong RX0 109 (2870177450012600261), Cond.constantLong RX0 122 (-7046029288634856825), Cond.constantLong RX0 124 (-8796714831421723037), Cond.constantLong RX0 126 (-4417276706812531889), Cond.constantLong RX0 128 (1609587929392839161), Cond.methodLink RX0 106 yX0_wideOfLanes, Cond.instanceMethod yX0_wideOfLanes, Cond.selects RX0 yX0_wideOfLanes yX0_wideOfLanes, Cond.initialized RX0, Cond.code yX0_wideOfLanes cX0_wideOfLanes 15 (some .long), Cond.methodLink RX0 111 yX0_longWord, Cond.instanceMethod yX0_longWord, Cond.selects RX0 yX0_longWord yX0_longWord, Cond.code yX0_longWord cX0_longWord 2 (some .long), Cond.methodLink RX0 88 yX0_unsignedWord, Cond.instanceMethod yX0_unsignedWord, Cond.selects RX0 yX0_unsignedWord yX0_unsignedWord, Cond.code yX0_unsignedWord cX0_unsignedWord 2 (some .long), Cond.constantLong RX0 86 (4294967295), Cond.methodLink RX0 83 yX0_word, Cond.instanceMethod yX0_word, Cond.selects RX0 yX0_word yX0_word, Cond.code yX0_word cX0_word 2 (some .int), Cond.constant RX0 82 (65532)]
def wsX0_wideSum_r2 : List Cond := [Cond.fieldLink RX0 10 "StreamSums" "bytes" "[B", Cond.methodLink RX0 114 yX0_wideLane, Cond.static yX0_wideLane, Cond.code yX0_wideLane cX0_wideLane 4 (some .long), Cond.methodLink RX0 118 yX0_rotatedLong, Cond.static yX0_rotatedLong, Cond.code yX0_rotatedLong cX0_rotatedLong 3 (some .long), Cond.methodLink RX0 134 yX0_withLane, Cond.static yX0_withLane, Cond.code yX0_withLane cX0_withLane 4 (some .long), Cond.methodLink RX0 37 yX0_byteAt, Cond.instanceMethod yX0_byteAt, Cond.selects RX0 yX0_byteAt yX0_byteAt, Cond.code yX0_byteAt cX0_byteAt 2 (some .int), Cond.fieldLink RX0 22 "StreamSums" "count" "I", Cond.methodLink RX0 130 yX0_wideStirred, Cond.static yX0_wideStirred, Cond.code yX0_wideStirred cX0_wideStirred 2 (some .long)]
def wsX0_wideSum : List Cond := .code yX0_wideSum cX0_wideSum 9 (some .long) :: ((wsX0_wideSum_r1 ++ wsX0_wideSum_r2) ++ wsX00)
def wsX0_wide_r1 : List Cond := [Cond.fieldLink RX0 22 "StreamSums" "count" "I", Cond.fieldLink RX0 29 "StreamSums" "wideSeed" "J", Cond.methodLink RX0 45 yX0_wideSum, Cond.instanceMethod yX0_wideSum, Cond.selects RX0 yX0_wideSum yX0_wideSum, Cond.initialized RX0, Cond.code yX0_wideSum cX0_wideSum 9 (some .long), Cond.constantLong RX0 109 (2870177450012600261), Cond.constantLong RX0 122 (-7046029288634856825), Cond.constantLong RX0 124 (-8796714831421723037), Cond.constantLong RX0 126 (-4417276706812531889), Cond.constantLong RX0 128 (1609587929392839161), Cond.methodLink RX0 106 yX0_wideOfLanes, Cond.instanceMethod yX0_wideOfLanes, Cond.selects RX0 yX0_wideOfLanes yX0_wideOfLanes, Cond.code yX0_wideOfLanes cX0_wideOfLanes 15 (some .long), Cond.methodLink RX0 111 yX0_longWord, Cond.instanceMethod yX0_longWord, Cond.selects RX0 yX0_longWord yX0_longWord, Cond.code yX0_longWord cX0_longWord 2 (some .long), Cond.methodLink RX0 88 yX0_unsignedWord, Cond.instanceMethod yX0_unsignedWord, Cond.selects RX0 yX0_unsignedWord yX0_unsignedWord, Cond.code yX0_unsignedWord cX0_unsignedWord 2 (some .long)]
def wsX0_wide_r2 : List Cond := [Cond.constantLong RX0 86 (4294967295), Cond.methodLink RX0 83 yX0_word, Cond.instanceMethod yX0_word, Cond.selects RX0 yX0_word yX0_word, Cond.code yX0_word cX0_word 2 (some .int), Cond.constant RX0 82 (65532), Cond.fieldLink RX0 10 "StreamSums" "bytes" "[B", Cond.methodLink RX0 114 yX0_wideLane, Cond.static yX0_wideLane, Cond.code yX0_wideLane cX0_wideLane 4 (some .long), Cond.methodLink RX0 118 yX0_rotatedLong, Cond.static yX0_rotatedLong, Cond.code yX0_rotatedLong cX0_rotatedLong 3 (some .long), Cond.methodLink RX0 134 yX0_withLane, Cond.static yX0_withLane, Cond.code yX0_withLane cX0_withLane 4 (some .long), Cond.methodLink RX0 37 yX0_byteAt, Cond.instanceMethod yX0_byteAt, Cond.selects RX0 yX0_byteAt yX0_byteAt, Cond.code yX0_byteAt cX0_byteAt 2 (some .int), Cond.methodLink RX0 130 yX0_wideStirred, Cond.static yX0_wideStirred, Cond.code yX0_wideStirred cX0_wideStirred 2 (some .long)]
def wsX0_wide : List Cond := .code yX0_wide cX0_wide 1 (some .long) :: ((wsX0_wide_r1 ++ wsX0_wide_r2) ++ wsX00)
def wsX0_polySum : List Cond := .code yX0_polySum cX0_polySum 5 (some .int) :: ([.fieldLink RX0 14 "StreamSums" "eightSteps" "[I", .methodLink RX0 37 yX0_byteAt, .instanceMethod yX0_byteAt, .selects RX0 yX0_byteAt yX0_byteAt, .initialized RX0, .code yX0_byteAt cX0_byteAt 2 (some .int), .fieldLink RX0 22 "StreamSums" "count" "I", .fieldLink RX0 10 "StreamSums" "bytes" "[B"] ++ wsX00)
def wsX0_poly : List Cond := .code yX0_poly cX0_poly 1 (some .int) :: ([.fieldLink RX0 22 "StreamSums" "count" "I", .methodLink RX0 49 yX0_polySum, .instanceMethod yX0_polySum, .selects RX0 yX0_polySum yX0_polySum, .initialized RX0, .code yX0_polySum cX0_polySum 5 (some .int), .fieldLink RX0 14 "StreamSums" "eightSteps" "[I", .methodLink RX0 37 yX0_byteAt, .instanceMethod yX0_byteAt, .selects RX0 yX0_byteAt yX0_byteAt, .code yX0_byteAt cX0_byteAt 2 (some .int), .fieldLink RX0 10 "StreamSums" "bytes" "[B"] ++ wsX00)
def wsX0_isPart : List Cond := .code yX0_isPart cX0_isPart 3 (some .boolean) :: ([.fieldLink RX0 22 "StreamSums" "count" "I"] ++ wsX00)
def wsX0_narrowOf_r1 : List Cond := [Cond.methodLink RX0 52 yX0_isPart, Cond.instanceMethod yX0_isPart, Cond.selects RX0 yX0_isPart yX0_isPart, Cond.initialized RX0, Cond.code yX0_isPart cX0_isPart 3 (some .boolean), Cond.fieldLink RX0 22 "StreamSums" "count" "I", Cond.methodLink RX0 41 yX0_narrowSum, Cond.instanceMethod yX0_narrowSum, Cond.selects RX0 yX0_narrowSum yX0_narrowSum, Cond.code yX0_narrowSum cX0_narrowSum 7 (some .int), Cond.constant RX0 95 (374761393), Cond.constant RX0 96 (-1028477379), Cond.constant RX0 97 (668265263), Cond.constant RX0 98 (-1640531535), Cond.methodLink RX0 92 yX0_narrowOfLanes, Cond.instanceMethod yX0_narrowOfLanes, Cond.selects RX0 yX0_narrowOfLanes yX0_narrowOfLanes, Cond.code yX0_narrowOfLanes cX0_narrowOfLanes 9 (some .int), Cond.constant RX0 102 (-2048144777), Cond.methodLink RX0 83 yX0_word, Cond.instanceMethod yX0_word, Cond.selects RX0 yX0_word yX0_word, Cond.code yX0_word cX0_word 2 (some .int), Cond.constant RX0 82 (65532)]
def wsX0_narrowOf_r2 : List Cond := [Cond.fieldLink RX0 10 "StreamSums" "bytes" "[B", Cond.methodLink RX0 103 yX0_narrowLane, Cond.static yX0_narrowLane, Cond.code yX0_narrowLane cX0_narrowLane 2 (some .int), Cond.methodLink RX0 57 yX0_rotated, Cond.static yX0_rotated, Cond.code yX0_rotated cX0_rotated 2 (some .int), Cond.methodLink RX0 37 yX0_byteAt, Cond.instanceMethod yX0_byteAt, Cond.selects RX0 yX0_byteAt yX0_byteAt, Cond.code yX0_byteAt cX0_byteAt 2 (some .int), Cond.methodLink RX0 99 yX0_narrowStirred, Cond.static yX0_narrowStirred, Cond.code yX0_narrowStirred cX0_narrowStirred 1 (some .int)]
def wsX0_narrowOf : List Cond := .code yX0_narrowOf cX0_narrowOf 4 (some .int) :: ((wsX0_narrowOf_r1 ++ wsX0_narrowOf_r2) ++ wsX00)
def wsX0_wideOf_r1 : List Cond := [Cond.methodLink RX0 52 yX0_isPart, Cond.instanceMethod yX0_isPart, Cond.selects RX0 yX0_isPart yX0_isPart, Cond.initialized RX0, Cond.code yX0_isPart cX0_isPart 3 (some .boolean), Cond.fieldLink RX0 22 "StreamSums" "count" "I", Cond.methodLink RX0 45 yX0_wideSum, Cond.instanceMethod yX0_wideSum, Cond.selects RX0 yX0_wideSum yX0_wideSum, Cond.code yX0_wideSum cX0_wideSum 9 (some .long), Cond.constantLong RX0 109 (2870177450012600261), Cond.constantLong RX0 122 (-7046029288634856825), Cond.constantLong RX0 124 (-8796714831421723037), Cond.constantLong RX0 126 (-4417276706812531889), Cond.constantLong RX0 128 (1609587929392839161), Cond.methodLink RX0 106 yX0_wideOfLanes, Cond.instanceMethod yX0_wideOfLanes, Cond.selects RX0 yX0_wideOfLanes yX0_wideOfLanes, Cond.code yX0_wideOfLanes cX0_wideOfLanes 15 (some .long), Cond.methodLink RX0 111 yX0_longWord, Cond.instanceMethod yX0_longWord, Cond.selects RX0 yX0_longWord yX0_longWord, Cond.code yX0_longWord cX0_longWord 2 (some .long), Cond.methodLink RX0 88 yX0_unsignedWord]
def wsX0_wideOf_r2 : List Cond := [Cond.instanceMethod yX0_unsignedWord, Cond.selects RX0 yX0_unsignedWord yX0_unsignedWord, Cond.code yX0_unsignedWord cX0_unsignedWord 2 (some .long), Cond.constantLong RX0 86 (4294967295), Cond.methodLink RX0 83 yX0_word, Cond.instanceMethod yX0_word, Cond.selects RX0 yX0_word yX0_word, Cond.code yX0_word cX0_word 2 (some .int), Cond.constant RX0 82 (65532), Cond.fieldLink RX0 10 "StreamSums" "bytes" "[B", Cond.methodLink RX0 114 yX0_wideLane, Cond.static yX0_wideLane, Cond.code yX0_wideLane cX0_wideLane 4 (some .long), Cond.methodLink RX0 118 yX0_rotatedLong, Cond.static yX0_rotatedLong, Cond.code yX0_rotatedLong cX0_rotatedLong 3 (some .long), Cond.methodLink RX0 134 yX0_withLane, Cond.static yX0_withLane, Cond.code yX0_withLane cX0_withLane 4 (some .long), Cond.methodLink RX0 37 yX0_byteAt, Cond.instanceMethod yX0_byteAt, Cond.selects RX0 yX0_byteAt yX0_byteAt, Cond.code yX0_byteAt cX0_byteAt 2 (some .int), Cond.methodLink RX0 130 yX0_wideStirred]
def wsX0_wideOf_r3 : List Cond := [Cond.static yX0_wideStirred, Cond.code yX0_wideStirred cX0_wideStirred 2 (some .long)]
def wsX0_wideOf : List Cond := .code yX0_wideOf cX0_wideOf 5 (some .long) :: ((wsX0_wideOf_r1 ++ (wsX0_wideOf_r2 ++ wsX0_wideOf_r3)) ++ wsX00)
def wsX0_polyOf : List Cond := .code yX0_polyOf cX0_polyOf 3 (some .int) :: ([.methodLink RX0 52 yX0_isPart, .instanceMethod yX0_isPart, .selects RX0 yX0_isPart yX0_isPart, .initialized RX0, .code yX0_isPart cX0_isPart 3 (some .boolean), .fieldLink RX0 22 "StreamSums" "count" "I", .methodLink RX0 49 yX0_polySum, .instanceMethod yX0_polySum, .selects RX0 yX0_polySum yX0_polySum, .code yX0_polySum cX0_polySum 5 (some .int), .fieldLink RX0 14 "StreamSums" "eightSteps" "[I", .methodLink RX0 37 yX0_byteAt, .instanceMethod yX0_byteAt, .selects RX0 yX0_byteAt yX0_byteAt, .code yX0_byteAt cX0_byteAt 2 (some .int), .fieldLink RX0 10 "StreamSums" "bytes" "[B"] ++ wsX00)
def wsX0_masked : List Cond := .code yX0_masked cX0_masked 3 (some .int) :: ([.constant RX0 56 (-1568478504), .methodLink RX0 57 yX0_rotated, .static yX0_rotated, .initialized RX0, .code yX0_rotated cX0_rotated 2 (some .int)])
def wsX0_product : List Cond := .code yX0_product cX0_product 4 (some .int) :: ([.methodLink RX0 18 yX0_movedOn, .static yX0_movedOn, .initialized RX0, .code yX0_movedOn cX0_movedOn 3 (some .int), .constant RX0 137 (-2097792136)])
def wsX0_power : List Cond := .code yX0_power cX0_power 5 (some .int) :: ([.constant RX0 60 (-2147483648), .methodLink RX0 65 yX0_product, .static yX0_product, .initialized RX0, .code yX0_product cX0_product 4 (some .int), .methodLink RX0 18 yX0_movedOn, .static yX0_movedOn, .code yX0_movedOn cX0_movedOn 3 (some .int), .constant RX0 137 (-2097792136)])
def wsX0_joined : List Cond := .code yX0_joined cX0_joined 5 (some .int) :: ([.constant RX0 60 (-2147483648), .methodLink RX0 18 yX0_movedOn, .static yX0_movedOn, .initialized RX0, .code yX0_movedOn cX0_movedOn 3 (some .int), .constant RX0 137 (-2097792136), .methodLink RX0 61 yX0_power, .static yX0_power, .code yX0_power cX0_power 5 (some .int), .methodLink RX0 65 yX0_product, .static yX0_product, .code yX0_product cX0_product 4 (some .int)])
def wsX0_movedBack : List Cond := .code yX0_movedBack cX0_movedBack 3 (some .int) :: ([.constant RX0 137 (-2097792136)])
def wsX0_cut : List Cond := .code yX0_cut cX0_cut 5 (some .int) :: ([.constant RX0 60 (-2147483648), .methodLink RX0 68 yX0_movedBack, .static yX0_movedBack, .initialized RX0, .code yX0_movedBack cX0_movedBack 3 (some .int), .constant RX0 137 (-2097792136), .methodLink RX0 61 yX0_power, .static yX0_power, .code yX0_power cX0_power 5 (some .int), .methodLink RX0 65 yX0_product, .static yX0_product, .code yX0_product cX0_product 4 (some .int), .methodLink RX0 18 yX0_movedOn, .static yX0_movedOn, .code yX0_movedOn cX0_movedOn 3 (some .int)])
def wsX0_turnedRound : List Cond := .code yX0_turnedRound cX0_turnedRound 1 (some .int) :: ([.constant RX0 141 (65280)])
def wsX0_fourBetween : List Cond := .code yX0_fourBetween cX0_fourBetween 2 (some .int) :: ([.methodLink RX0 68 yX0_movedBack, .static yX0_movedBack, .initialized RX0, .code yX0_movedBack cX0_movedBack 3 (some .int), .constant RX0 137 (-2097792136), .methodLink RX0 138 yX0_turnedRound, .static yX0_turnedRound, .code yX0_turnedRound cX0_turnedRound 1 (some .int), .constant RX0 141 (65280)])
def wsX0_forged_r1 : List Cond := [Cond.methodLink RX0 71 yX0_poly, Cond.instanceMethod yX0_poly, Cond.selects RX0 yX0_poly yX0_poly, Cond.initialized RX0, Cond.code yX0_poly cX0_poly 1 (some .int), Cond.fieldLink RX0 22 "StreamSums" "count" "I", Cond.methodLink RX0 49 yX0_polySum, Cond.instanceMethod yX0_polySum, Cond.selects RX0 yX0_polySum yX0_polySum, Cond.code yX0_polySum cX0_polySum 5 (some .int), Cond.fieldLink RX0 14 "StreamSums" "eightSteps" "[I", Cond.methodLink RX0 37 yX0_byteAt, Cond.instanceMethod yX0_byteAt, Cond.selects RX0 yX0_byteAt yX0_byteAt, Cond.code yX0_byteAt cX0_byteAt 2 (some .int), Cond.fieldLink RX0 10 "StreamSums" "bytes" "[B", Cond.methodLink RX0 75 yX0_fourBetween, Cond.static yX0_fourBetween, Cond.code yX0_fourBetween cX0_fourBetween 2 (some .int), Cond.methodLink RX0 68 yX0_movedBack, Cond.static yX0_movedBack, Cond.code yX0_movedBack cX0_movedBack 3 (some .int), Cond.constant RX0 137 (-2097792136), Cond.methodLink RX0 138 yX0_turnedRound]
def wsX0_forged_r2 : List Cond := [Cond.static yX0_turnedRound, Cond.code yX0_turnedRound cX0_turnedRound 1 (some .int), Cond.constant RX0 141 (65280)]
def wsX0_forged : List Cond := .code yX0_forged cX0_forged 2 (some .int) :: ((wsX0_forged_r1 ++ wsX0_forged_r2) ++ wsX00)
def wsX0_mended_r1 : List Cond := [Cond.fieldLink RX0 22 "StreamSums" "count" "I", Cond.methodLink RX0 49 yX0_polySum, Cond.instanceMethod yX0_polySum, Cond.selects RX0 yX0_polySum yX0_polySum, Cond.initialized RX0, Cond.code yX0_polySum cX0_polySum 5 (some .int), Cond.fieldLink RX0 14 "StreamSums" "eightSteps" "[I", Cond.methodLink RX0 37 yX0_byteAt, Cond.instanceMethod yX0_byteAt, Cond.selects RX0 yX0_byteAt yX0_byteAt, Cond.code yX0_byteAt cX0_byteAt 2 (some .int), Cond.fieldLink RX0 10 "StreamSums" "bytes" "[B", Cond.methodLink RX0 78 yX0_cut, Cond.instanceMethod yX0_cut, Cond.selects RX0 yX0_cut yX0_cut, Cond.code yX0_cut cX0_cut 5 (some .int), Cond.constant RX0 60 (-2147483648), Cond.methodLink RX0 68 yX0_movedBack, Cond.static yX0_movedBack, Cond.code yX0_movedBack cX0_movedBack 3 (some .int), Cond.constant RX0 137 (-2097792136), Cond.methodLink RX0 61 yX0_power, Cond.static yX0_power, Cond.code yX0_power cX0_power 5 (some .int)]
def wsX0_mended_r2 : List Cond := [Cond.methodLink RX0 65 yX0_product, Cond.static yX0_product, Cond.code yX0_product cX0_product 4 (some .int), Cond.methodLink RX0 18 yX0_movedOn, Cond.static yX0_movedOn, Cond.code yX0_movedOn cX0_movedOn 3 (some .int), Cond.methodLink RX0 75 yX0_fourBetween, Cond.static yX0_fourBetween, Cond.code yX0_fourBetween cX0_fourBetween 2 (some .int), Cond.methodLink RX0 138 yX0_turnedRound, Cond.static yX0_turnedRound, Cond.code yX0_turnedRound cX0_turnedRound 1 (some .int), Cond.constant RX0 141 (65280)]
def wsX0_mended : List Cond := .code yX0_mended cX0_mended 5 (some .int) :: ((wsX0_mended_r1 ++ wsX0_mended_r2) ++ wsX00)
def wsL_law_r1 : List Cond := [Cond.classLink RL 7 RX0, Cond.instantiable RX0 5, Cond.initialized RX0, Cond.classLink RL 10 RX1, Cond.instantiable RX1 4, Cond.initialized RX1, Cond.methodLink RL 9 yX0_init, Cond.instanceMethod yX0_init, Cond.code yX0_init cX0_init 2 none, Cond.methodLink RX0 1 objectInit, Cond.instanceMethod objectInit, Cond.code objectInit ⟨#[0xb1]⟩ 1 none, Cond.constant RX0 9 (65536), Cond.arrayClass .byte, Cond.fieldLink RX0 10 "StreamSums" "bytes" "[B", Cond.arrayClass .int, Cond.fieldLink RX0 14 "StreamSums" "eightSteps" "[I", Cond.fieldLink RX0 22 "StreamSums" "count" "I", Cond.fieldLink RX0 26 "StreamSums" "narrowSeed" "I", Cond.fieldLink RX0 29 "StreamSums" "wideSeed" "J", Cond.methodLink RX0 18 yX0_movedOn, Cond.static yX0_movedOn, Cond.code yX0_movedOn cX0_movedOn 3 (some .int), Cond.constant RX0 137 (-2097792136)]
def wsL_law_r2 : List Cond := [Cond.methodLink RL 12 yX1_init, Cond.instanceMethod yX1_init, Cond.code yX1_init cX1_init 1 none, Cond.methodLink RX1 1 objectInit, Cond.constant RX1 7 (65536), Cond.fieldLink RX1 8 "StreamSumsModel" "row" "[B", Cond.methodLink RL 15 yX0_begin, Cond.instanceMethod yX0_begin, Cond.selects RX0 yX0_begin yX0_begin, Cond.code yX0_begin cX0_begin 4 none, Cond.methodLink RL 19 yX1_begin, Cond.instanceMethod yX1_begin, Cond.selects RX1 yX1_begin yX1_begin, Cond.code yX1_begin cX1_begin 4 none, Cond.fieldLink RX1 14 "StreamSumsModel" "length" "I", Cond.fieldLink RX1 18 "StreamSumsModel" "seedNarrow" "I", Cond.fieldLink RX1 21 "StreamSumsModel" "seedWide" "J", Cond.methodLink RL 20 yX0_write, Cond.instanceMethod yX0_write, Cond.selects RX0 yX0_write yX0_write, Cond.code yX0_write cX0_write 5 (some .boolean), Cond.methodLink RX0 33 yX0_append, Cond.instanceMethod yX0_append, Cond.selects RX0 yX0_append yX0_append]
def wsL_law_r3 : List Cond := [Cond.code yX0_append cX0_append 2 none, Cond.methodLink RL 24 yX1_write, Cond.instanceMethod yX1_write, Cond.selects RX1 yX1_write yX1_write, Cond.code yX1_write cX1_write 5 (some .boolean), Cond.methodLink RL 25 yX0_again, Cond.instanceMethod yX0_again, Cond.selects RX0 yX0_again yX0_again, Cond.code yX0_again cX0_again 7 (some .boolean), Cond.methodLink RX0 37 yX0_byteAt, Cond.instanceMethod yX0_byteAt, Cond.selects RX0 yX0_byteAt yX0_byteAt, Cond.code yX0_byteAt cX0_byteAt 2 (some .int), Cond.methodLink RL 29 yX1_again, Cond.instanceMethod yX1_again, Cond.selects RX1 yX1_again yX1_again, Cond.code yX1_again cX1_again 5 (some .boolean), Cond.constantLong RX1 25 (65536), Cond.methodLink RL 30 yX0_size, Cond.instanceMethod yX0_size, Cond.selects RX0 yX0_size yX0_size, Cond.code yX0_size cX0_size 1 (some .int), Cond.methodLink RL 34 yX1_size, Cond.instanceMethod yX1_size]
def wsL_law_r4 : List Cond := [Cond.selects RX1 yX1_size yX1_size, Cond.code yX1_size cX1_size 1 (some .int), Cond.methodLink RL 35 yX0_byteAt, Cond.methodLink RL 39 yX1_byteAt, Cond.instanceMethod yX1_byteAt, Cond.selects RX1 yX1_byteAt yX1_byteAt, Cond.code yX1_byteAt cX1_byteAt 2 (some .int), Cond.methodLink RX1 27 yX1_at, Cond.instanceMethod yX1_at, Cond.selects RX1 yX1_at yX1_at, Cond.code yX1_at cX1_at 2 (some .int), Cond.methodLink RL 40 yX0_narrow, Cond.instanceMethod yX0_narrow, Cond.selects RX0 yX0_narrow yX0_narrow, Cond.code yX0_narrow cX0_narrow 1 (some .int), Cond.methodLink RX0 41 yX0_narrowSum, Cond.instanceMethod yX0_narrowSum, Cond.selects RX0 yX0_narrowSum yX0_narrowSum, Cond.code yX0_narrowSum cX0_narrowSum 7 (some .int), Cond.constant RX0 95 (374761393), Cond.constant RX0 96 (-1028477379), Cond.constant RX0 97 (668265263), Cond.constant RX0 98 (-1640531535), Cond.methodLink RX0 92 yX0_narrowOfLanes]
def wsL_law_r5 : List Cond := [Cond.instanceMethod yX0_narrowOfLanes, Cond.selects RX0 yX0_narrowOfLanes yX0_narrowOfLanes, Cond.code yX0_narrowOfLanes cX0_narrowOfLanes 9 (some .int), Cond.constant RX0 102 (-2048144777), Cond.methodLink RX0 83 yX0_word, Cond.instanceMethod yX0_word, Cond.selects RX0 yX0_word yX0_word, Cond.code yX0_word cX0_word 2 (some .int), Cond.constant RX0 82 (65532), Cond.methodLink RX0 103 yX0_narrowLane, Cond.static yX0_narrowLane, Cond.code yX0_narrowLane cX0_narrowLane 2 (some .int), Cond.methodLink RX0 57 yX0_rotated, Cond.static yX0_rotated, Cond.code yX0_rotated cX0_rotated 2 (some .int), Cond.methodLink RX0 99 yX0_narrowStirred, Cond.static yX0_narrowStirred, Cond.code yX0_narrowStirred cX0_narrowStirred 1 (some .int), Cond.methodLink RL 44 yX0_wide, Cond.instanceMethod yX0_wide, Cond.selects RX0 yX0_wide yX0_wide, Cond.code yX0_wide cX0_wide 1 (some .long), Cond.methodLink RX0 45 yX0_wideSum, Cond.instanceMethod yX0_wideSum]
def wsL_law_r6 : List Cond := [Cond.selects RX0 yX0_wideSum yX0_wideSum, Cond.code yX0_wideSum cX0_wideSum 9 (some .long), Cond.constantLong RX0 109 (2870177450012600261), Cond.constantLong RX0 122 (-7046029288634856825), Cond.constantLong RX0 124 (-8796714831421723037), Cond.constantLong RX0 126 (-4417276706812531889), Cond.constantLong RX0 128 (1609587929392839161), Cond.methodLink RX0 106 yX0_wideOfLanes, Cond.instanceMethod yX0_wideOfLanes, Cond.selects RX0 yX0_wideOfLanes yX0_wideOfLanes, Cond.code yX0_wideOfLanes cX0_wideOfLanes 15 (some .long), Cond.methodLink RX0 111 yX0_longWord, Cond.instanceMethod yX0_longWord, Cond.selects RX0 yX0_longWord yX0_longWord, Cond.code yX0_longWord cX0_longWord 2 (some .long), Cond.methodLink RX0 88 yX0_unsignedWord, Cond.instanceMethod yX0_unsignedWord, Cond.selects RX0 yX0_unsignedWord yX0_unsignedWord, Cond.code yX0_unsignedWord cX0_unsignedWord 2 (some .long), Cond.constantLong RX0 86 (4294967295), Cond.methodLink RX0 114 yX0_wideLane, Cond.static yX0_wideLane, Cond.code yX0_wideLane cX0_wideLane 4 (some .long), Cond.methodLink RX0 118 yX0_rotatedLong]
def wsL_law_r7 : List Cond := [Cond.static yX0_rotatedLong, Cond.code yX0_rotatedLong cX0_rotatedLong 3 (some .long), Cond.methodLink RX0 134 yX0_withLane, Cond.static yX0_withLane, Cond.code yX0_withLane cX0_withLane 4 (some .long), Cond.methodLink RX0 130 yX0_wideStirred, Cond.static yX0_wideStirred, Cond.code yX0_wideStirred cX0_wideStirred 2 (some .long), Cond.methodLink RL 49 yX0_poly, Cond.instanceMethod yX0_poly, Cond.selects RX0 yX0_poly yX0_poly, Cond.code yX0_poly cX0_poly 1 (some .int), Cond.methodLink RX0 49 yX0_polySum, Cond.instanceMethod yX0_polySum, Cond.selects RX0 yX0_polySum yX0_polySum, Cond.code yX0_polySum cX0_polySum 5 (some .int), Cond.methodLink RL 53 yX0_narrowOf, Cond.instanceMethod yX0_narrowOf, Cond.selects RX0 yX0_narrowOf yX0_narrowOf, Cond.code yX0_narrowOf cX0_narrowOf 4 (some .int), Cond.methodLink RX0 52 yX0_isPart, Cond.instanceMethod yX0_isPart, Cond.selects RX0 yX0_isPart yX0_isPart, Cond.code yX0_isPart cX0_isPart 3 (some .boolean)]
def wsL_law_r8 : List Cond := [Cond.methodLink RL 58 yX0_wideOf, Cond.instanceMethod yX0_wideOf, Cond.selects RX0 yX0_wideOf yX0_wideOf, Cond.code yX0_wideOf cX0_wideOf 5 (some .long), Cond.methodLink RL 63 yX0_polyOf, Cond.instanceMethod yX0_polyOf, Cond.selects RX0 yX0_polyOf yX0_polyOf, Cond.code yX0_polyOf cX0_polyOf 3 (some .int), Cond.methodLink RL 68 yX0_masked, Cond.instanceMethod yX0_masked, Cond.selects RX0 yX0_masked yX0_masked, Cond.code yX0_masked cX0_masked 3 (some .int), Cond.constant RX0 56 (-1568478504), Cond.methodLink RL 73 yX0_joined, Cond.instanceMethod yX0_joined, Cond.selects RX0 yX0_joined yX0_joined, Cond.code yX0_joined cX0_joined 5 (some .int), Cond.constant RX0 60 (-2147483648), Cond.methodLink RX0 61 yX0_power, Cond.static yX0_power, Cond.code yX0_power cX0_power 5 (some .int), Cond.methodLink RX0 65 yX0_product, Cond.static yX0_product, Cond.code yX0_product cX0_product 4 (some .int)]
def wsL_law_r9 : List Cond := [Cond.methodLink RL 78 yX0_cut, Cond.instanceMethod yX0_cut, Cond.selects RX0 yX0_cut yX0_cut, Cond.code yX0_cut cX0_cut 5 (some .int), Cond.methodLink RX0 68 yX0_movedBack, Cond.static yX0_movedBack, Cond.code yX0_movedBack cX0_movedBack 3 (some .int), Cond.methodLink RL 82 yX0_forged, Cond.instanceMethod yX0_forged, Cond.selects RX0 yX0_forged yX0_forged, Cond.code yX0_forged cX0_forged 2 (some .int), Cond.methodLink RX0 71 yX0_poly, Cond.methodLink RX0 75 yX0_fourBetween, Cond.static yX0_fourBetween, Cond.code yX0_fourBetween cX0_fourBetween 2 (some .int), Cond.methodLink RX0 138 yX0_turnedRound, Cond.static yX0_turnedRound, Cond.code yX0_turnedRound cX0_turnedRound 1 (some .int), Cond.constant RX0 141 (65280), Cond.methodLink RL 86 yX0_mended, Cond.instanceMethod yX0_mended, Cond.selects RX0 yX0_mended yX0_mended, Cond.code yX0_mended cX0_mended 5 (some .int), Cond.methodLink RX0 78 yX0_cut]
def wsL_law : List Cond := (wsL_law_r1 ++ (wsL_law_r2 ++ (wsL_law_r3 ++ (wsL_law_r4 ++ (wsL_law_r5 ++ (wsL_law_r6 ++ (wsL_law_r7 ++ (wsL_law_r8 ++ wsL_law_r9)))))))) ++ wsX00 ++ wsX10 ++ ([] : List Cond)
set_option maxRecDepth 20000 in
theorem wsL_law_in : ∀ w ∈ wsL_law, w ∈ lw_tbl := fun w h => (goodIn_p wsL_law [26, 29, 33, 215, 56, 234, 60, 64, 238, 68, 72, 242, 76, 247, 251, 255, 81, 85, 89, 95, 99, 102, 108, 112, 116, 120, 126, 130, 134, 137, 140, 146, 150, 154, 158, 162, 166, 170, 174, 179, 183, 186, 190, 193, 197, 201, 204, 209] (by decide +kernel) (by decide +kernel) w h).1
theorem inlX0 : ∀ w ∈ wsX00, w ∈ wsL_law := fun _ h => List.mem_append_left _ (List.mem_append_left _ (List.mem_append_right _ h))
theorem inX0 : ∀ w ∈ wsX00, w ∈ lw_tbl := fun w h => wsL_law_in w (inlX0 w h)
theorem inlX1 : ∀ w ∈ wsX10, w ∈ wsL_law := fun _ h => List.mem_append_left _ (List.mem_append_right _ h)
theorem inX1 : ∀ w ∈ wsX10, w ∈ lw_tbl := fun w h => wsL_law_in w (inlX1 w h)
set_option maxRecDepth 20000 in
theorem ggX0_init_X0_movedOn : GoodIn wsX0_init wsX0_movedOn := goodIn_r _ [15, 16] (by decide +kernel) (by decide +kernel)
set_option maxRecDepth 20000 in
theorem gX0_init_X0_movedOn : GoodIn wsX0_init (va_wsS RX0 18 yX0_movedOn wsX0_movedOn) := goodIn_app (goodIn_of _ (by decide +kernel)) ggX0_init_X0_movedOn
theorem dX0_init_0 : decode cX0_init 0 = .ok (.aload_n 0, 1) := by decide +kernel
theorem dX0_init_1 : decode cX0_init 1 = .ok (.invokespecial 1, 3) := by decide +kernel
theorem dX0_init_4 : decode cX0_init 4 = .ok (.aload_n 0, 1) := by decide +kernel
theorem dX0_init_5 : decode cX0_init 5 = .ok (.ldc 9, 2) := by decide +kernel
theorem dX0_init_7 : decode cX0_init 7 = .ok (.newarray .byte, 2) := by decide +kernel
theorem dX0_init_9 : decode cX0_init 9 = .ok (.putfield 10, 3) := by decide +kernel
theorem dX0_init_12 : decode cX0_init 12 = .ok (.aload_n 0, 1) := by decide +kernel
theorem dX0_init_13 : decode cX0_init 13 = .ok (.sipush 256, 3) := by decide +kernel
theorem dX0_init_16 : decode cX0_init 16 = .ok (.newarray .int, 2) := by decide +kernel
theorem dX0_init_18 : decode cX0_init 18 = .ok (.putfield 14, 3) := by decide +kernel
theorem dX0_init_21 : decode cX0_init 21 = .ok (.iconst 0, 1) := by decide +kernel
theorem dX0_init_22 : decode cX0_init 22 = .ok (.istore_n 1, 1) := by decide +kernel
theorem dX0_init_23 : decode cX0_init 23 = .ok (.iload_n 1, 1) := by decide +kernel
theorem dX0_init_24 : decode cX0_init 24 = .ok (.sipush 256, 3) := by decide +kernel
theorem dX0_init_27 : decode cX0_init 27 = .ok (.if_icmp .ge 21, 3) := by decide +kernel
theorem dX0_init_30 : decode cX0_init 30 = .ok (.aload_n 0, 1) := by decide +kernel
theorem dX0_init_31 : decode cX0_init 31 = .ok (.getfield 14, 3) := by decide +kernel
theorem dX0_init_34 : decode cX0_init 34 = .ok (.iload_n 1, 1) := by decide +kernel
theorem dX0_init_35 : decode cX0_init 35 = .ok (.iload_n 1, 1) := by decide +kernel
theorem dX0_init_36 : decode cX0_init 36 = .ok (.bipush 8, 2) := by decide +kernel
theorem dX0_init_38 : decode cX0_init 38 = .ok (.invokestatic 18, 3) := by decide +kernel
theorem dX0_init_41 : decode cX0_init 41 = .ok (.iastore, 1) := by decide +kernel
theorem dX0_init_42 : decode cX0_init 42 = .ok (.iinc 1 1, 3) := by decide +kernel
theorem dX0_init_45 : decode cX0_init 45 = .ok (.goto (-22), 3) := by decide +kernel
theorem dX0_init_48 : decode cX0_init 48 = .ok (.aload_n 0, 1) := by decide +kernel
theorem dX0_init_49 : decode cX0_init 49 = .ok (.iconst 0, 1) := by decide +kernel
theorem dX0_init_50 : decode cX0_init 50 = .ok (.putfield 22, 3) := by decide +kernel
theorem dX0_init_53 : decode cX0_init 53 = .ok (.aload_n 0, 1) := by decide +kernel
theorem dX0_init_54 : decode cX0_init 54 = .ok (.iconst 0, 1) := by decide +kernel
theorem dX0_init_55 : decode cX0_init 55 = .ok (.putfield 26, 3) := by decide +kernel
theorem dX0_init_58 : decode cX0_init 58 = .ok (.aload_n 0, 1) := by decide +kernel
theorem dX0_init_59 : decode cX0_init 59 = .ok (.lconst 0, 1) := by decide +kernel
theorem dX0_init_60 : decode cX0_init 60 = .ok (.putfield 29, 3) := by decide +kernel
theorem dX0_init_63 : decode cX0_init 63 = .ok (.return_, 1) := by decide +kernel
theorem dX0_begin_0 : decode cX0_begin 0 = .ok (.aload_n 0, 1) := by decide +kernel
theorem dX0_begin_1 : decode cX0_begin 1 = .ok (.iconst 0, 1) := by decide +kernel
theorem dX0_begin_2 : decode cX0_begin 2 = .ok (.putfield 22, 3) := by decide +kernel
theorem dX0_begin_5 : decode cX0_begin 5 = .ok (.aload_n 0, 1) := by decide +kernel
theorem dX0_begin_6 : decode cX0_begin 6 = .ok (.iload_n 1, 1) := by decide +kernel
theorem dX0_begin_7 : decode cX0_begin 7 = .ok (.putfield 26, 3) := by decide +kernel
theorem dX0_begin_10 : decode cX0_begin 10 = .ok (.aload_n 0, 1) := by decide +kernel
theorem dX0_begin_11 : decode cX0_begin 11 = .ok (.lload_n 2, 1) := by decide +kernel
theorem dX0_begin_12 : decode cX0_begin 12 = .ok (.putfield 29, 3) := by decide +kernel
theorem dX0_begin_15 : decode cX0_begin 15 = .ok (.return_, 1) := by decide +kernel
set_option maxRecDepth 20000 in
theorem ggX0_write_X0_append : GoodIn wsX0_write wsX0_append := goodIn_r _ [7, 2, 1, 8, 9, 10, 11, 12, 13] (by decide +kernel) (by decide +kernel)
set_option maxRecDepth 20000 in
theorem gX0_write_X0_append : GoodIn wsX0_write (wsV RX0 33 RX0 yX0_append wsX0_append) := goodIn_app (goodIn_of _ (by decide +kernel)) ggX0_write_X0_append
theorem dX0_write_0 : decode cX0_write 0 = .ok (.iload_n 3, 1) := by decide +kernel
theorem dX0_write_1 : decode cX0_write 1 = .ok (.iconst 1, 1) := by decide +kernel
theorem dX0_write_2 : decode cX0_write 2 = .ok (.if_icmp .lt 20, 3) := by decide +kernel
theorem dX0_write_5 : decode cX0_write 5 = .ok (.iload_n 3, 1) := by decide +kernel
theorem dX0_write_6 : decode cX0_write 6 = .ok (.bipush 8, 2) := by decide +kernel
theorem dX0_write_8 : decode cX0_write 8 = .ok (.if_icmp .gt 14, 3) := by decide +kernel
theorem dX0_write_11 : decode cX0_write 11 = .ok (.iload_n 3, 1) := by decide +kernel
theorem dX0_write_12 : decode cX0_write 12 = .ok (.ldc 9, 2) := by decide +kernel
theorem dX0_write_14 : decode cX0_write 14 = .ok (.aload_n 0, 1) := by decide +kernel
theorem dX0_write_15 : decode cX0_write 15 = .ok (.getfield 22, 3) := by decide +kernel
theorem dX0_write_18 : decode cX0_write 18 = .ok (.isub, 1) := by decide +kernel
theorem dX0_write_19 : decode cX0_write 19 = .ok (.if_icmp .le 5, 3) := by decide +kernel
theorem dX0_write_22 : decode cX0_write 22 = .ok (.iconst 0, 1) := by decide +kernel
theorem dX0_write_23 : decode cX0_write 23 = .ok (.ireturn, 1) := by decide +kernel
theorem dX0_write_24 : decode cX0_write 24 = .ok (.iconst 0, 1) := by decide +kernel
theorem dX0_write_25 : decode cX0_write 25 = .ok (.istore 4, 2) := by decide +kernel
theorem dX0_write_27 : decode cX0_write 27 = .ok (.iload 4, 2) := by decide +kernel
theorem dX0_write_29 : decode cX0_write 29 = .ok (.iload_n 3, 1) := by decide +kernel
theorem dX0_write_30 : decode cX0_write 30 = .ok (.if_icmp .ge 24, 3) := by decide +kernel
theorem dX0_write_33 : decode cX0_write 33 = .ok (.aload_n 0, 1) := by decide +kernel
theorem dX0_write_34 : decode cX0_write 34 = .ok (.lload_n 1, 1) := by decide +kernel
theorem dX0_write_35 : decode cX0_write 35 = .ok (.bipush 56, 2) := by decide +kernel
theorem dX0_write_37 : decode cX0_write 37 = .ok (.bipush 8, 2) := by decide +kernel
theorem dX0_write_39 : decode cX0_write 39 = .ok (.iload 4, 2) := by decide +kernel
theorem dX0_write_41 : decode cX0_write 41 = .ok (.imul, 1) := by decide +kernel
theorem dX0_write_42 : decode cX0_write 42 = .ok (.isub, 1) := by decide +kernel
theorem dX0_write_43 : decode cX0_write 43 = .ok (.lushr, 1) := by decide +kernel
theorem dX0_write_44 : decode cX0_write 44 = .ok (.l2i, 1) := by decide +kernel
theorem dX0_write_45 : decode cX0_write 45 = .ok (.invokevirtual 33, 3) := by decide +kernel
theorem dX0_write_48 : decode cX0_write 48 = .ok (.iinc 4 1, 3) := by decide +kernel
theorem dX0_write_51 : decode cX0_write 51 = .ok (.goto (-24), 3) := by decide +kernel
theorem dX0_write_54 : decode cX0_write 54 = .ok (.iconst 1, 1) := by decide +kernel
theorem dX0_write_55 : decode cX0_write 55 = .ok (.ireturn, 1) := by decide +kernel
set_option maxRecDepth 20000 in
theorem ggX0_again_X0_byteAt : GoodIn wsX0_again wsX0_byteAt := goodIn_r _ [7, 1, 8, 13, 14, 15, 16, 17] (by decide +kernel) (by decide +kernel)
set_option maxRecDepth 20000 in
theorem gX0_again_X0_byteAt : GoodIn wsX0_again (wsV RX0 37 RX0 yX0_byteAt wsX0_byteAt) := goodIn_app (goodIn_of _ (by decide +kernel)) ggX0_again_X0_byteAt
set_option maxRecDepth 20000 in
theorem ggX0_again_X0_append : GoodIn wsX0_again wsX0_append := goodIn_r _ [12, 1, 2, 8, 13, 14, 15, 16, 17] (by decide +kernel) (by decide +kernel)
set_option maxRecDepth 20000 in
theorem gX0_again_X0_append : GoodIn wsX0_again (wsV RX0 33 RX0 yX0_append wsX0_append) := goodIn_app (goodIn_of _ (by decide +kernel)) ggX0_again_X0_append
theorem dX0_again_0 : decode cX0_again 0 = .ok (.iload_n 1, 1) := by decide +kernel
theorem dX0_again_1 : decode cX0_again 1 = .ok (.iconst 1, 1) := by decide +kernel
theorem dX0_again_2 : decode cX0_again 2 = .ok (.if_icmp .lt 15, 3) := by decide +kernel
theorem dX0_again_5 : decode cX0_again 5 = .ok (.iload_n 1, 1) := by decide +kernel
theorem dX0_again_6 : decode cX0_again 6 = .ok (.aload_n 0, 1) := by decide +kernel
theorem dX0_again_7 : decode cX0_again 7 = .ok (.getfield 22, 3) := by decide +kernel
theorem dX0_again_10 : decode cX0_again 10 = .ok (.if_icmp .gt 7, 3) := by decide +kernel
theorem dX0_again_13 : decode cX0_again 13 = .ok (.iload_n 2, 1) := by decide +kernel
theorem dX0_again_14 : decode cX0_again 14 = .ok (.ifCond .ge 5, 3) := by decide +kernel
theorem dX0_again_17 : decode cX0_again 17 = .ok (.iconst 0, 1) := by decide +kernel
theorem dX0_again_18 : decode cX0_again 18 = .ok (.ireturn, 1) := by decide +kernel
theorem dX0_again_19 : decode cX0_again 19 = .ok (.iload_n 1, 1) := by decide +kernel
theorem dX0_again_20 : decode cX0_again 20 = .ok (.i2l, 1) := by decide +kernel
theorem dX0_again_21 : decode cX0_again 21 = .ok (.iload_n 2, 1) := by decide +kernel
theorem dX0_again_22 : decode cX0_again 22 = .ok (.i2l, 1) := by decide +kernel
theorem dX0_again_23 : decode cX0_again 23 = .ok (.lmul, 1) := by decide +kernel
theorem dX0_again_24 : decode cX0_again 24 = .ok (.lstore_n 3, 1) := by decide +kernel
theorem dX0_again_25 : decode cX0_again 25 = .ok (.lload_n 3, 1) := by decide +kernel
theorem dX0_again_26 : decode cX0_again 26 = .ok (.ldc 9, 2) := by decide +kernel
theorem dX0_again_28 : decode cX0_again 28 = .ok (.aload_n 0, 1) := by decide +kernel
theorem dX0_again_29 : decode cX0_again 29 = .ok (.getfield 22, 3) := by decide +kernel
theorem dX0_again_32 : decode cX0_again 32 = .ok (.isub, 1) := by decide +kernel
theorem dX0_again_33 : decode cX0_again 33 = .ok (.i2l, 1) := by decide +kernel
theorem dX0_again_34 : decode cX0_again 34 = .ok (.lcmp, 1) := by decide +kernel
theorem dX0_again_35 : decode cX0_again 35 = .ok (.ifCond .le 5, 3) := by decide +kernel
theorem dX0_again_38 : decode cX0_again 38 = .ok (.iconst 0, 1) := by decide +kernel
theorem dX0_again_39 : decode cX0_again 39 = .ok (.ireturn, 1) := by decide +kernel
theorem dX0_again_40 : decode cX0_again 40 = .ok (.lconst 0, 1) := by decide +kernel
theorem dX0_again_41 : decode cX0_again 41 = .ok (.lstore 5, 2) := by decide +kernel
theorem dX0_again_43 : decode cX0_again 43 = .ok (.lload 5, 2) := by decide +kernel
theorem dX0_again_45 : decode cX0_again 45 = .ok (.lload_n 3, 1) := by decide +kernel
theorem dX0_again_46 : decode cX0_again 46 = .ok (.lcmp, 1) := by decide +kernel
theorem dX0_again_47 : decode cX0_again 47 = .ok (.ifCond .ge 26, 3) := by decide +kernel
theorem dX0_again_50 : decode cX0_again 50 = .ok (.aload_n 0, 1) := by decide +kernel
theorem dX0_again_51 : decode cX0_again 51 = .ok (.aload_n 0, 1) := by decide +kernel
theorem dX0_again_52 : decode cX0_again 52 = .ok (.aload_n 0, 1) := by decide +kernel
theorem dX0_again_53 : decode cX0_again 53 = .ok (.getfield 22, 3) := by decide +kernel
theorem dX0_again_56 : decode cX0_again 56 = .ok (.iload_n 1, 1) := by decide +kernel
theorem dX0_again_57 : decode cX0_again 57 = .ok (.isub, 1) := by decide +kernel
theorem dX0_again_58 : decode cX0_again 58 = .ok (.invokevirtual 37, 3) := by decide +kernel
theorem dX0_again_61 : decode cX0_again 61 = .ok (.invokevirtual 33, 3) := by decide +kernel
theorem dX0_again_64 : decode cX0_again 64 = .ok (.lload 5, 2) := by decide +kernel
theorem dX0_again_66 : decode cX0_again 66 = .ok (.lconst 1, 1) := by decide +kernel
theorem dX0_again_67 : decode cX0_again 67 = .ok (.ladd, 1) := by decide +kernel
theorem dX0_again_68 : decode cX0_again 68 = .ok (.lstore 5, 2) := by decide +kernel
theorem dX0_again_70 : decode cX0_again 70 = .ok (.goto (-27), 3) := by decide +kernel
theorem dX0_again_73 : decode cX0_again 73 = .ok (.iconst 1, 1) := by decide +kernel
theorem dX0_again_74 : decode cX0_again 74 = .ok (.ireturn, 1) := by decide +kernel
theorem dX0_size_0 : decode cX0_size 0 = .ok (.aload_n 0, 1) := by decide +kernel
theorem dX0_size_1 : decode cX0_size 1 = .ok (.getfield 22, 3) := by decide +kernel
theorem dX0_size_4 : decode cX0_size 4 = .ok (.ireturn, 1) := by decide +kernel
theorem dX0_byteAt_0 : decode cX0_byteAt 0 = .ok (.iload_n 1, 1) := by decide +kernel
theorem dX0_byteAt_1 : decode cX0_byteAt 1 = .ok (.ifCond .lt 24, 3) := by decide +kernel
theorem dX0_byteAt_4 : decode cX0_byteAt 4 = .ok (.iload_n 1, 1) := by decide +kernel
theorem dX0_byteAt_5 : decode cX0_byteAt 5 = .ok (.aload_n 0, 1) := by decide +kernel
theorem dX0_byteAt_6 : decode cX0_byteAt 6 = .ok (.getfield 22, 3) := by decide +kernel
theorem dX0_byteAt_9 : decode cX0_byteAt 9 = .ok (.if_icmp .ge 16, 3) := by decide +kernel
theorem dX0_byteAt_12 : decode cX0_byteAt 12 = .ok (.aload_n 0, 1) := by decide +kernel
theorem dX0_byteAt_13 : decode cX0_byteAt 13 = .ok (.getfield 10, 3) := by decide +kernel
theorem dX0_byteAt_16 : decode cX0_byteAt 16 = .ok (.iload_n 1, 1) := by decide +kernel
theorem dX0_byteAt_17 : decode cX0_byteAt 17 = .ok (.baload, 1) := by decide +kernel
theorem dX0_byteAt_18 : decode cX0_byteAt 18 = .ok (.sipush 255, 3) := by decide +kernel
theorem dX0_byteAt_21 : decode cX0_byteAt 21 = .ok (.iand, 1) := by decide +kernel
theorem dX0_byteAt_22 : decode cX0_byteAt 22 = .ok (.goto 4, 3) := by decide +kernel
theorem dX0_byteAt_25 : decode cX0_byteAt 25 = .ok (.iconst (-1), 1) := by decide +kernel
theorem dX0_byteAt_26 : decode cX0_byteAt 26 = .ok (.ireturn, 1) := by decide +kernel
set_option maxRecDepth 20000 in
theorem ggX0_narrow_X0_narrowSum : GoodIn wsX0_narrow wsX0_narrowSum := goodIn_r _ [7, 8, 9, 10, 11, 12, 13, 14, 6, 15, 16, 17, 18, 19, 20, 21, 22, 23, 24, 25, 26, 27, 28, 29, 30, 31, 32, 1, 33, 34, 35, 36, 37, 38, 39, 40] (by decide +kernel) (by decide +kernel)
set_option maxRecDepth 20000 in
theorem gX0_narrow_X0_narrowSum : GoodIn wsX0_narrow (wsV RX0 41 RX0 yX0_narrowSum wsX0_narrowSum) := goodIn_app (goodIn_of _ (by decide +kernel)) ggX0_narrow_X0_narrowSum
theorem dX0_narrow_0 : decode cX0_narrow 0 = .ok (.aload_n 0, 1) := by decide +kernel
theorem dX0_narrow_1 : decode cX0_narrow 1 = .ok (.iconst 0, 1) := by decide +kernel
theorem dX0_narrow_2 : decode cX0_narrow 2 = .ok (.aload_n 0, 1) := by decide +kernel
theorem dX0_narrow_3 : decode cX0_narrow 3 = .ok (.getfield 22, 3) := by decide +kernel
theorem dX0_narrow_6 : decode cX0_narrow 6 = .ok (.aload_n 0, 1) := by decide +kernel
theorem dX0_narrow_7 : decode cX0_narrow 7 = .ok (.getfield 26, 3) := by decide +kernel
theorem dX0_narrow_10 : decode cX0_narrow 10 = .ok (.invokevirtual 41, 3) := by decide +kernel
theorem dX0_narrow_13 : decode cX0_narrow 13 = .ok (.ireturn, 1) := by decide +kernel
set_option maxRecDepth 20000 in
theorem ggX0_wide_X0_wideSum : GoodIn wsX0_wide wsX0_wideSum := goodIn_r _ [7, 8, 9, 10, 11, 12, 13, 14, 15, 6, 16, 17, 18, 19, 20, 21, 22, 23, 24, 25, 26, 27, 28, 29, 30, 31, 32, 33, 34, 35, 36, 37, 38, 39, 40, 41, 42, 43, 44, 1, 45, 46, 47, 48, 49, 50, 51, 52] (by decide +kernel) (by decide +kernel)
set_option maxRecDepth 20000 in
theorem gX0_wide_X0_wideSum : GoodIn wsX0_wide (wsV RX0 45 RX0 yX0_wideSum wsX0_wideSum) := goodIn_app (goodIn_of _ (by decide +kernel)) ggX0_wide_X0_wideSum
theorem dX0_wide_0 : decode cX0_wide 0 = .ok (.aload_n 0, 1) := by decide +kernel
theorem dX0_wide_1 : decode cX0_wide 1 = .ok (.iconst 0, 1) := by decide +kernel
theorem dX0_wide_2 : decode cX0_wide 2 = .ok (.aload_n 0, 1) := by decide +kernel
theorem dX0_wide_3 : decode cX0_wide 3 = .ok (.getfield 22, 3) := by decide +kernel
theorem dX0_wide_6 : decode cX0_wide 6 = .ok (.aload_n 0, 1) := by decide +kernel
theorem dX0_wide_7 : decode cX0_wide 7 = .ok (.getfield 29, 3) := by decide +kernel
theorem dX0_wide_10 : decode cX0_wide 10 = .ok (.invokevirtual 45, 3) := by decide +kernel
theorem dX0_wide_13 : decode cX0_wide 13 = .ok (.lreturn, 1) := by decide +kernel
set_option maxRecDepth 20000 in
theorem ggX0_poly_X0_polySum : GoodIn wsX0_poly wsX0_polySum := goodIn_r _ [6, 7, 8, 9, 10, 5, 11, 1, 12, 13, 14, 15, 16, 17] (by decide +kernel) (by decide +kernel)
set_option maxRecDepth 20000 in
theorem gX0_poly_X0_polySum : GoodIn wsX0_poly (wsV RX0 49 RX0 yX0_polySum wsX0_polySum) := goodIn_app (goodIn_of _ (by decide +kernel)) ggX0_poly_X0_polySum
theorem dX0_poly_0 : decode cX0_poly 0 = .ok (.aload_n 0, 1) := by decide +kernel
theorem dX0_poly_1 : decode cX0_poly 1 = .ok (.iconst 0, 1) := by decide +kernel
theorem dX0_poly_2 : decode cX0_poly 2 = .ok (.aload_n 0, 1) := by decide +kernel
theorem dX0_poly_3 : decode cX0_poly 3 = .ok (.getfield 22, 3) := by decide +kernel
theorem dX0_poly_6 : decode cX0_poly 6 = .ok (.invokevirtual 49, 3) := by decide +kernel
theorem dX0_poly_9 : decode cX0_poly 9 = .ok (.ireturn, 1) := by decide +kernel
set_option maxRecDepth 20000 in
theorem ggX0_narrowOf_X0_isPart : GoodIn wsX0_narrowOf wsX0_isPart := goodIn_r _ [5, 6, 39, 40, 41, 42, 43] (by decide +kernel) (by decide +kernel)
set_option maxRecDepth 20000 in
theorem gX0_narrowOf_X0_isPart : GoodIn wsX0_narrowOf (wsV RX0 52 RX0 yX0_isPart wsX0_isPart) := goodIn_app (goodIn_of _ (by decide +kernel)) ggX0_narrowOf_X0_isPart
set_option maxRecDepth 20000 in
theorem ggX0_narrowOf_X0_narrowSum : GoodIn wsX0_narrowOf wsX0_narrowSum := goodIn_r _ [10, 11, 12, 13, 14, 15, 16, 17, 4, 18, 19, 20, 21, 22, 23, 24, 25, 26, 27, 28, 29, 30, 31, 32, 33, 34, 35, 6, 36, 37, 38, 39, 40, 41, 42, 43] (by decide +kernel) (by decide +kernel)
set_option maxRecDepth 20000 in
theorem gX0_narrowOf_X0_narrowSum : GoodIn wsX0_narrowOf (wsV RX0 41 RX0 yX0_narrowSum wsX0_narrowSum) := goodIn_app (goodIn_of _ (by decide +kernel)) ggX0_narrowOf_X0_narrowSum
theorem dX0_narrowOf_0 : decode cX0_narrowOf 0 = .ok (.aload_n 0, 1) := by decide +kernel
theorem dX0_narrowOf_1 : decode cX0_narrowOf 1 = .ok (.iload_n 1, 1) := by decide +kernel
theorem dX0_narrowOf_2 : decode cX0_narrowOf 2 = .ok (.iload_n 2, 1) := by decide +kernel
theorem dX0_narrowOf_3 : decode cX0_narrowOf 3 = .ok (.invokevirtual 52, 3) := by decide +kernel
theorem dX0_narrowOf_6 : decode cX0_narrowOf 6 = .ok (.ifCond .eq 13, 3) := by decide +kernel
theorem dX0_narrowOf_9 : decode cX0_narrowOf 9 = .ok (.aload_n 0, 1) := by decide +kernel
theorem dX0_narrowOf_10 : decode cX0_narrowOf 10 = .ok (.iload_n 1, 1) := by decide +kernel
theorem dX0_narrowOf_11 : decode cX0_narrowOf 11 = .ok (.iload_n 2, 1) := by decide +kernel
theorem dX0_narrowOf_12 : decode cX0_narrowOf 12 = .ok (.iload_n 3, 1) := by decide +kernel
theorem dX0_narrowOf_13 : decode cX0_narrowOf 13 = .ok (.invokevirtual 41, 3) := by decide +kernel
theorem dX0_narrowOf_16 : decode cX0_narrowOf 16 = .ok (.goto 10, 3) := by decide +kernel
theorem dX0_narrowOf_19 : decode cX0_narrowOf 19 = .ok (.aload_n 0, 1) := by decide +kernel
theorem dX0_narrowOf_20 : decode cX0_narrowOf 20 = .ok (.iconst 0, 1) := by decide +kernel
theorem dX0_narrowOf_21 : decode cX0_narrowOf 21 = .ok (.iconst 0, 1) := by decide +kernel
theorem dX0_narrowOf_22 : decode cX0_narrowOf 22 = .ok (.iload_n 3, 1) := by decide +kernel
theorem dX0_narrowOf_23 : decode cX0_narrowOf 23 = .ok (.invokevirtual 41, 3) := by decide +kernel
theorem dX0_narrowOf_26 : decode cX0_narrowOf 26 = .ok (.ireturn, 1) := by decide +kernel
set_option maxRecDepth 20000 in
theorem ggX0_wideOf_X0_isPart : GoodIn wsX0_wideOf wsX0_isPart := goodIn_r _ [5, 6, 51, 52, 53, 54, 55] (by decide +kernel) (by decide +kernel)
set_option maxRecDepth 20000 in
theorem gX0_wideOf_X0_isPart : GoodIn wsX0_wideOf (wsV RX0 52 RX0 yX0_isPart wsX0_isPart) := goodIn_app (goodIn_of _ (by decide +kernel)) ggX0_wideOf_X0_isPart
set_option maxRecDepth 20000 in
theorem ggX0_wideOf_X0_wideSum : GoodIn wsX0_wideOf wsX0_wideSum := goodIn_r _ [10, 11, 12, 13, 14, 15, 16, 17, 18, 4, 19, 20, 21, 22, 23, 24, 25, 26, 27, 28, 29, 30, 31, 32, 33, 34, 35, 36, 37, 38, 39, 40, 41, 42, 43, 44, 45, 46, 47, 6, 48, 49, 50, 51, 52, 53, 54, 55] (by decide +kernel) (by decide +kernel)
set_option maxRecDepth 20000 in
theorem gX0_wideOf_X0_wideSum : GoodIn wsX0_wideOf (wsV RX0 45 RX0 yX0_wideSum wsX0_wideSum) := goodIn_app (goodIn_of _ (by decide +kernel)) ggX0_wideOf_X0_wideSum
theorem dX0_wideOf_0 : decode cX0_wideOf 0 = .ok (.aload_n 0, 1) := by decide +kernel
theorem dX0_wideOf_1 : decode cX0_wideOf 1 = .ok (.iload_n 1, 1) := by decide +kernel
theorem dX0_wideOf_2 : decode cX0_wideOf 2 = .ok (.iload_n 2, 1) := by decide +kernel
theorem dX0_wideOf_3 : decode cX0_wideOf 3 = .ok (.invokevirtual 52, 3) := by decide +kernel
theorem dX0_wideOf_6 : decode cX0_wideOf 6 = .ok (.ifCond .eq 13, 3) := by decide +kernel
theorem dX0_wideOf_9 : decode cX0_wideOf 9 = .ok (.aload_n 0, 1) := by decide +kernel
theorem dX0_wideOf_10 : decode cX0_wideOf 10 = .ok (.iload_n 1, 1) := by decide +kernel
theorem dX0_wideOf_11 : decode cX0_wideOf 11 = .ok (.iload_n 2, 1) := by decide +kernel
theorem dX0_wideOf_12 : decode cX0_wideOf 12 = .ok (.lload_n 3, 1) := by decide +kernel
theorem dX0_wideOf_13 : decode cX0_wideOf 13 = .ok (.invokevirtual 45, 3) := by decide +kernel
theorem dX0_wideOf_16 : decode cX0_wideOf 16 = .ok (.goto 10, 3) := by decide +kernel
theorem dX0_wideOf_19 : decode cX0_wideOf 19 = .ok (.aload_n 0, 1) := by decide +kernel
theorem dX0_wideOf_20 : decode cX0_wideOf 20 = .ok (.iconst 0, 1) := by decide +kernel
theorem dX0_wideOf_21 : decode cX0_wideOf 21 = .ok (.iconst 0, 1) := by decide +kernel
theorem dX0_wideOf_22 : decode cX0_wideOf 22 = .ok (.lload_n 3, 1) := by decide +kernel
theorem dX0_wideOf_23 : decode cX0_wideOf 23 = .ok (.invokevirtual 45, 3) := by decide +kernel
theorem dX0_wideOf_26 : decode cX0_wideOf 26 = .ok (.lreturn, 1) := by decide +kernel
set_option maxRecDepth 20000 in
theorem ggX0_polyOf_X0_isPart : GoodIn wsX0_polyOf wsX0_isPart := goodIn_r _ [5, 6, 17, 18, 19, 20, 21] (by decide +kernel) (by decide +kernel)
set_option maxRecDepth 20000 in
theorem gX0_polyOf_X0_isPart : GoodIn wsX0_polyOf (wsV RX0 52 RX0 yX0_isPart wsX0_isPart) := goodIn_app (goodIn_of _ (by decide +kernel)) ggX0_polyOf_X0_isPart
set_option maxRecDepth 20000 in
theorem ggX0_polyOf_X0_polySum : GoodIn wsX0_polyOf wsX0_polySum := goodIn_r _ [10, 11, 12, 13, 14, 4, 15, 6, 16, 17, 18, 19, 20, 21] (by decide +kernel) (by decide +kernel)
set_option maxRecDepth 20000 in
theorem gX0_polyOf_X0_polySum : GoodIn wsX0_polyOf (wsV RX0 49 RX0 yX0_polySum wsX0_polySum) := goodIn_app (goodIn_of _ (by decide +kernel)) ggX0_polyOf_X0_polySum
theorem dX0_polyOf_0 : decode cX0_polyOf 0 = .ok (.aload_n 0, 1) := by decide +kernel
theorem dX0_polyOf_1 : decode cX0_polyOf 1 = .ok (.iload_n 1, 1) := by decide +kernel
theorem dX0_polyOf_2 : decode cX0_polyOf 2 = .ok (.iload_n 2, 1) := by decide +kernel
theorem dX0_polyOf_3 : decode cX0_polyOf 3 = .ok (.invokevirtual 52, 3) := by decide +kernel
theorem dX0_polyOf_6 : decode cX0_polyOf 6 = .ok (.ifCond .eq 12, 3) := by decide +kernel
theorem dX0_polyOf_9 : decode cX0_polyOf 9 = .ok (.aload_n 0, 1) := by decide +kernel
theorem dX0_polyOf_10 : decode cX0_polyOf 10 = .ok (.iload_n 1, 1) := by decide +kernel
theorem dX0_polyOf_11 : decode cX0_polyOf 11 = .ok (.iload_n 2, 1) := by decide +kernel
theorem dX0_polyOf_12 : decode cX0_polyOf 12 = .ok (.invokevirtual 49, 3) := by decide +kernel
theorem dX0_polyOf_15 : decode cX0_polyOf 15 = .ok (.goto 9, 3) := by decide +kernel
theorem dX0_polyOf_18 : decode cX0_polyOf 18 = .ok (.aload_n 0, 1) := by decide +kernel
theorem dX0_polyOf_19 : decode cX0_polyOf 19 = .ok (.iconst 0, 1) := by decide +kernel
theorem dX0_polyOf_20 : decode cX0_polyOf 20 = .ok (.iconst 0, 1) := by decide +kernel
theorem dX0_polyOf_21 : decode cX0_polyOf 21 = .ok (.invokevirtual 49, 3) := by decide +kernel
theorem dX0_polyOf_24 : decode cX0_polyOf 24 = .ok (.ireturn, 1) := by decide +kernel
set_option maxRecDepth 20000 in
theorem ggX0_masked_X0_rotated : GoodIn wsX0_masked wsX0_rotated := goodIn_r _ [5] (by decide +kernel) (by decide +kernel)
set_option maxRecDepth 20000 in
theorem gX0_masked_X0_rotated : GoodIn wsX0_masked (va_wsS RX0 57 yX0_rotated wsX0_rotated) := goodIn_app (goodIn_of _ (by decide +kernel)) ggX0_masked_X0_rotated
theorem dX0_masked_0 : decode cX0_masked 0 = .ok (.iload_n 2, 1) := by decide +kernel
theorem dX0_masked_1 : decode cX0_masked 1 = .ok (.ifCond .eq 15, 3) := by decide +kernel
theorem dX0_masked_4 : decode cX0_masked 4 = .ok (.iload_n 1, 1) := by decide +kernel
theorem dX0_masked_5 : decode cX0_masked 5 = .ok (.ldc 56, 2) := by decide +kernel
theorem dX0_masked_7 : decode cX0_masked 7 = .ok (.isub, 1) := by decide +kernel
theorem dX0_masked_8 : decode cX0_masked 8 = .ok (.bipush 15, 2) := by decide +kernel
theorem dX0_masked_10 : decode cX0_masked 10 = .ok (.invokestatic 57, 3) := by decide +kernel
theorem dX0_masked_13 : decode cX0_masked 13 = .ok (.goto 12, 3) := by decide +kernel
theorem dX0_masked_16 : decode cX0_masked 16 = .ok (.iload_n 1, 1) := by decide +kernel
theorem dX0_masked_17 : decode cX0_masked 17 = .ok (.bipush 17, 2) := by decide +kernel
theorem dX0_masked_19 : decode cX0_masked 19 = .ok (.invokestatic 57, 3) := by decide +kernel
theorem dX0_masked_22 : decode cX0_masked 22 = .ok (.ldc 56, 2) := by decide +kernel
theorem dX0_masked_24 : decode cX0_masked 24 = .ok (.iadd, 1) := by decide +kernel
theorem dX0_masked_25 : decode cX0_masked 25 = .ok (.ireturn, 1) := by decide +kernel
set_option maxRecDepth 20000 in
theorem ggX0_joined_X0_movedOn : GoodIn wsX0_joined wsX0_movedOn := goodIn_r _ [5, 6] (by decide +kernel) (by decide +kernel)
set_option maxRecDepth 20000 in
theorem gX0_joined_X0_movedOn : GoodIn wsX0_joined (va_wsS RX0 18 yX0_movedOn wsX0_movedOn) := goodIn_app (goodIn_of _ (by decide +kernel)) ggX0_joined_X0_movedOn
set_option maxRecDepth 20000 in
theorem ggX0_joined_X0_power : GoodIn wsX0_joined wsX0_power := goodIn_r _ [9, 1, 10, 11, 4, 12, 2, 3, 5, 6] (by decide +kernel) (by decide +kernel)
set_option maxRecDepth 20000 in
theorem gX0_joined_X0_power : GoodIn wsX0_joined (va_wsS RX0 61 yX0_power wsX0_power) := goodIn_app (goodIn_of _ (by decide +kernel)) ggX0_joined_X0_power
set_option maxRecDepth 20000 in
theorem ggX0_joined_X0_product : GoodIn wsX0_joined wsX0_product := goodIn_r _ [12, 2, 3, 4, 5, 6] (by decide +kernel) (by decide +kernel)
set_option maxRecDepth 20000 in
theorem gX0_joined_X0_product : GoodIn wsX0_joined (va_wsS RX0 65 yX0_product wsX0_product) := goodIn_app (goodIn_of _ (by decide +kernel)) ggX0_joined_X0_product
theorem dX0_joined_0 : decode cX0_joined 0 = .ok (.iload_n 1, 1) := by decide +kernel
theorem dX0_joined_1 : decode cX0_joined 1 = .ok (.ldc 60, 2) := by decide +kernel
theorem dX0_joined_3 : decode cX0_joined 3 = .ok (.bipush 8, 2) := by decide +kernel
theorem dX0_joined_5 : decode cX0_joined 5 = .ok (.invokestatic 18, 3) := by decide +kernel
theorem dX0_joined_8 : decode cX0_joined 8 = .ok (.lload_n 3, 1) := by decide +kernel
theorem dX0_joined_9 : decode cX0_joined 9 = .ok (.invokestatic 61, 3) := by decide +kernel
theorem dX0_joined_12 : decode cX0_joined 12 = .ok (.invokestatic 65, 3) := by decide +kernel
theorem dX0_joined_15 : decode cX0_joined 15 = .ok (.iload_n 2, 1) := by decide +kernel
theorem dX0_joined_16 : decode cX0_joined 16 = .ok (.ixor, 1) := by decide +kernel
theorem dX0_joined_17 : decode cX0_joined 17 = .ok (.ireturn, 1) := by decide +kernel
set_option maxRecDepth 20000 in
theorem ggX0_cut_X0_movedBack : GoodIn wsX0_cut wsX0_movedBack := goodIn_r _ [5, 6] (by decide +kernel) (by decide +kernel)
set_option maxRecDepth 20000 in
theorem gX0_cut_X0_movedBack : GoodIn wsX0_cut (va_wsS RX0 68 yX0_movedBack wsX0_movedBack) := goodIn_app (goodIn_of _ (by decide +kernel)) ggX0_cut_X0_movedBack
set_option maxRecDepth 20000 in
theorem ggX0_cut_X0_power : GoodIn wsX0_cut wsX0_power := goodIn_r _ [9, 1, 10, 11, 4, 12, 13, 14, 15, 6] (by decide +kernel) (by decide +kernel)
set_option maxRecDepth 20000 in
theorem gX0_cut_X0_power : GoodIn wsX0_cut (va_wsS RX0 61 yX0_power wsX0_power) := goodIn_app (goodIn_of _ (by decide +kernel)) ggX0_cut_X0_power
set_option maxRecDepth 20000 in
theorem ggX0_cut_X0_product : GoodIn wsX0_cut wsX0_product := goodIn_r _ [12, 13, 14, 4, 15, 6] (by decide +kernel) (by decide +kernel)
set_option maxRecDepth 20000 in
theorem gX0_cut_X0_product : GoodIn wsX0_cut (va_wsS RX0 65 yX0_product wsX0_product) := goodIn_app (goodIn_of _ (by decide +kernel)) ggX0_cut_X0_product
theorem dX0_cut_0 : decode cX0_cut 0 = .ok (.iload_n 1, 1) := by decide +kernel
theorem dX0_cut_1 : decode cX0_cut 1 = .ok (.iload_n 2, 1) := by decide +kernel
theorem dX0_cut_2 : decode cX0_cut 2 = .ok (.ixor, 1) := by decide +kernel
theorem dX0_cut_3 : decode cX0_cut 3 = .ok (.ldc 60, 2) := by decide +kernel
theorem dX0_cut_5 : decode cX0_cut 5 = .ok (.bipush 8, 2) := by decide +kernel
theorem dX0_cut_7 : decode cX0_cut 7 = .ok (.invokestatic 68, 3) := by decide +kernel
theorem dX0_cut_10 : decode cX0_cut 10 = .ok (.lload_n 3, 1) := by decide +kernel
theorem dX0_cut_11 : decode cX0_cut 11 = .ok (.invokestatic 61, 3) := by decide +kernel
theorem dX0_cut_14 : decode cX0_cut 14 = .ok (.invokestatic 65, 3) := by decide +kernel
theorem dX0_cut_17 : decode cX0_cut 17 = .ok (.ireturn, 1) := by decide +kernel
set_option maxRecDepth 20000 in
theorem ggX0_forged_X0_poly : GoodIn wsX0_forged wsX0_poly := goodIn_r _ [5, 6, 7, 8, 9, 4, 10, 11, 12, 13, 14, 15, 16, 28, 29, 30, 31, 32] (by decide +kernel) (by decide +kernel)
set_option maxRecDepth 20000 in
theorem gX0_forged_X0_poly : GoodIn wsX0_forged (wsV RX0 71 RX0 yX0_poly wsX0_poly) := goodIn_app (goodIn_of _ (by decide +kernel)) ggX0_forged_X0_poly
set_option maxRecDepth 20000 in
theorem ggX0_forged_X0_fourBetween : GoodIn wsX0_forged wsX0_fourBetween := goodIn_r _ [19, 20, 21, 4, 22, 23, 24, 25, 26, 27] (by decide +kernel) (by decide +kernel)
set_option maxRecDepth 20000 in
theorem gX0_forged_X0_fourBetween : GoodIn wsX0_forged (va_wsS RX0 75 yX0_fourBetween wsX0_fourBetween) := goodIn_app (goodIn_of _ (by decide +kernel)) ggX0_forged_X0_fourBetween
theorem dX0_forged_0 : decode cX0_forged 0 = .ok (.aload_n 0, 1) := by decide +kernel
theorem dX0_forged_1 : decode cX0_forged 1 = .ok (.invokevirtual 71, 3) := by decide +kernel
theorem dX0_forged_4 : decode cX0_forged 4 = .ok (.iload_n 1, 1) := by decide +kernel
theorem dX0_forged_5 : decode cX0_forged 5 = .ok (.invokestatic 75, 3) := by decide +kernel
theorem dX0_forged_8 : decode cX0_forged 8 = .ok (.ireturn, 1) := by decide +kernel
set_option maxRecDepth 20000 in
theorem ggX0_mended_X0_polySum : GoodIn wsX0_mended wsX0_polySum := goodIn_r _ [6, 7, 8, 9, 10, 5, 11, 1, 12, 38, 39, 40, 41, 42] (by decide +kernel) (by decide +kernel)
set_option maxRecDepth 20000 in
theorem gX0_mended_X0_polySum : GoodIn wsX0_mended (wsV RX0 49 RX0 yX0_polySum wsX0_polySum) := goodIn_app (goodIn_of _ (by decide +kernel)) ggX0_mended_X0_polySum
set_option maxRecDepth 20000 in
theorem ggX0_mended_X0_cut : GoodIn wsX0_mended wsX0_cut := goodIn_r _ [16, 17, 18, 19, 5, 20, 21, 22, 23, 24, 25, 26, 27, 28, 29, 30] (by decide +kernel) (by decide +kernel)
set_option maxRecDepth 20000 in
theorem gX0_mended_X0_cut : GoodIn wsX0_mended (wsV RX0 78 RX0 yX0_cut wsX0_cut) := goodIn_app (goodIn_of _ (by decide +kernel)) ggX0_mended_X0_cut
set_option maxRecDepth 20000 in
theorem ggX0_mended_X0_fourBetween : GoodIn wsX0_mended wsX0_fourBetween := goodIn_r _ [33, 18, 19, 5, 20, 21, 34, 35, 36, 37] (by decide +kernel) (by decide +kernel)
set_option maxRecDepth 20000 in
theorem gX0_mended_X0_fourBetween : GoodIn wsX0_mended (va_wsS RX0 75 yX0_fourBetween wsX0_fourBetween) := goodIn_app (goodIn_of _ (by decide +kernel)) ggX0_mended_X0_fourBetween
theorem dX0_mended_0 : decode cX0_mended 0 = .ok (.iload_n 1, 1) := by decide +kernel
theorem dX0_mended_1 : decode cX0_mended 1 = .ok (.ifCond .lt 13, 3) := by decide +kernel
theorem dX0_mended_4 : decode cX0_mended 4 = .ok (.iload_n 1, 1) := by decide +kernel
theorem dX0_mended_5 : decode cX0_mended 5 = .ok (.aload_n 0, 1) := by decide +kernel
theorem dX0_mended_6 : decode cX0_mended 6 = .ok (.getfield 22, 3) := by decide +kernel
theorem dX0_mended_9 : decode cX0_mended 9 = .ok (.iconst 4, 1) := by decide +kernel
theorem dX0_mended_10 : decode cX0_mended 10 = .ok (.isub, 1) := by decide +kernel
theorem dX0_mended_11 : decode cX0_mended 11 = .ok (.if_icmp .le 5, 3) := by decide +kernel
theorem dX0_mended_14 : decode cX0_mended 14 = .ok (.iconst 0, 1) := by decide +kernel
theorem dX0_mended_15 : decode cX0_mended 15 = .ok (.ireturn, 1) := by decide +kernel
theorem dX0_mended_16 : decode cX0_mended 16 = .ok (.iload_n 1, 1) := by decide +kernel
theorem dX0_mended_17 : decode cX0_mended 17 = .ok (.iconst 4, 1) := by decide +kernel
theorem dX0_mended_18 : decode cX0_mended 18 = .ok (.iadd, 1) := by decide +kernel
theorem dX0_mended_19 : decode cX0_mended 19 = .ok (.istore_n 3, 1) := by decide +kernel
theorem dX0_mended_20 : decode cX0_mended 20 = .ok (.aload_n 0, 1) := by decide +kernel
theorem dX0_mended_21 : decode cX0_mended 21 = .ok (.iload_n 2, 1) := by decide +kernel
theorem dX0_mended_22 : decode cX0_mended 22 = .ok (.aload_n 0, 1) := by decide +kernel
theorem dX0_mended_23 : decode cX0_mended 23 = .ok (.iload_n 3, 1) := by decide +kernel
theorem dX0_mended_24 : decode cX0_mended 24 = .ok (.aload_n 0, 1) := by decide +kernel
theorem dX0_mended_25 : decode cX0_mended 25 = .ok (.getfield 22, 3) := by decide +kernel
theorem dX0_mended_28 : decode cX0_mended 28 = .ok (.invokevirtual 49, 3) := by decide +kernel
theorem dX0_mended_31 : decode cX0_mended 31 = .ok (.aload_n 0, 1) := by decide +kernel
theorem dX0_mended_32 : decode cX0_mended 32 = .ok (.getfield 22, 3) := by decide +kernel
theorem dX0_mended_35 : decode cX0_mended 35 = .ok (.iload_n 3, 1) := by decide +kernel
theorem dX0_mended_36 : decode cX0_mended 36 = .ok (.isub, 1) := by decide +kernel
theorem dX0_mended_37 : decode cX0_mended 37 = .ok (.i2l, 1) := by decide +kernel
theorem dX0_mended_38 : decode cX0_mended 38 = .ok (.invokevirtual 78, 3) := by decide +kernel
theorem dX0_mended_41 : decode cX0_mended 41 = .ok (.istore 4, 2) := by decide +kernel
theorem dX0_mended_43 : decode cX0_mended 43 = .ok (.aload_n 0, 1) := by decide +kernel
theorem dX0_mended_44 : decode cX0_mended 44 = .ok (.iconst 0, 1) := by decide +kernel
theorem dX0_mended_45 : decode cX0_mended 45 = .ok (.iload_n 1, 1) := by decide +kernel
theorem dX0_mended_46 : decode cX0_mended 46 = .ok (.invokevirtual 49, 3) := by decide +kernel
theorem dX0_mended_49 : decode cX0_mended 49 = .ok (.iload 4, 2) := by decide +kernel
theorem dX0_mended_51 : decode cX0_mended 51 = .ok (.invokestatic 75, 3) := by decide +kernel
theorem dX0_mended_54 : decode cX0_mended 54 = .ok (.ireturn, 1) := by decide +kernel
theorem dX0_append_0 : decode cX0_append 0 = .ok (.aload_n 0, 1) := by decide +kernel
theorem dX0_append_1 : decode cX0_append 1 = .ok (.getfield 22, 3) := by decide +kernel
theorem dX0_append_4 : decode cX0_append 4 = .ok (.ldc 9, 2) := by decide +kernel
theorem dX0_append_6 : decode cX0_append 6 = .ok (.if_icmp .ge 24, 3) := by decide +kernel
theorem dX0_append_9 : decode cX0_append 9 = .ok (.aload_n 0, 1) := by decide +kernel
theorem dX0_append_10 : decode cX0_append 10 = .ok (.getfield 10, 3) := by decide +kernel
theorem dX0_append_13 : decode cX0_append 13 = .ok (.aload_n 0, 1) := by decide +kernel
theorem dX0_append_14 : decode cX0_append 14 = .ok (.getfield 22, 3) := by decide +kernel
theorem dX0_append_17 : decode cX0_append 17 = .ok (.iload_n 1, 1) := by decide +kernel
theorem dX0_append_18 : decode cX0_append 18 = .ok (.i2b, 1) := by decide +kernel
theorem dX0_append_19 : decode cX0_append 19 = .ok (.bastore, 1) := by decide +kernel
theorem dX0_append_20 : decode cX0_append 20 = .ok (.aload_n 0, 1) := by decide +kernel
theorem dX0_append_21 : decode cX0_append 21 = .ok (.dup, 1) := by decide +kernel
theorem dX0_append_22 : decode cX0_append 22 = .ok (.getfield 22, 3) := by decide +kernel
theorem dX0_append_25 : decode cX0_append 25 = .ok (.iconst 1, 1) := by decide +kernel
theorem dX0_append_26 : decode cX0_append 26 = .ok (.iadd, 1) := by decide +kernel
theorem dX0_append_27 : decode cX0_append 27 = .ok (.putfield 22, 3) := by decide +kernel
theorem dX0_append_30 : decode cX0_append 30 = .ok (.return_, 1) := by decide +kernel
theorem dX0_isPart_0 : decode cX0_isPart 0 = .ok (.iconst 0, 1) := by decide +kernel
theorem dX0_isPart_1 : decode cX0_isPart 1 = .ok (.iload_n 1, 1) := by decide +kernel
theorem dX0_isPart_2 : decode cX0_isPart 2 = .ok (.if_icmp .gt 20, 3) := by decide +kernel
theorem dX0_isPart_5 : decode cX0_isPart 5 = .ok (.iload_n 1, 1) := by decide +kernel
theorem dX0_isPart_6 : decode cX0_isPart 6 = .ok (.iload_n 2, 1) := by decide +kernel
theorem dX0_isPart_7 : decode cX0_isPart 7 = .ok (.if_icmp .gt 15, 3) := by decide +kernel
theorem dX0_isPart_10 : decode cX0_isPart 10 = .ok (.iload_n 2, 1) := by decide +kernel
theorem dX0_isPart_11 : decode cX0_isPart 11 = .ok (.aload_n 0, 1) := by decide +kernel
theorem dX0_isPart_12 : decode cX0_isPart 12 = .ok (.getfield 22, 3) := by decide +kernel
theorem dX0_isPart_15 : decode cX0_isPart 15 = .ok (.if_icmp .gt 7, 3) := by decide +kernel
theorem dX0_isPart_18 : decode cX0_isPart 18 = .ok (.iconst 1, 1) := by decide +kernel
theorem dX0_isPart_19 : decode cX0_isPart 19 = .ok (.goto 4, 3) := by decide +kernel
theorem dX0_isPart_22 : decode cX0_isPart 22 = .ok (.iconst 0, 1) := by decide +kernel
theorem dX0_isPart_23 : decode cX0_isPart 23 = .ok (.ireturn, 1) := by decide +kernel
theorem dX0_word_0 : decode cX0_word 0 = .ok (.iload_n 1, 1) := by decide +kernel
theorem dX0_word_1 : decode cX0_word 1 = .ok (.ifCond .lt 9, 3) := by decide +kernel
theorem dX0_word_4 : decode cX0_word 4 = .ok (.iload_n 1, 1) := by decide +kernel
theorem dX0_word_5 : decode cX0_word 5 = .ok (.ldc 82, 2) := by decide +kernel
theorem dX0_word_7 : decode cX0_word 7 = .ok (.if_icmp .le 5, 3) := by decide +kernel
theorem dX0_word_10 : decode cX0_word 10 = .ok (.iconst 0, 1) := by decide +kernel
theorem dX0_word_11 : decode cX0_word 11 = .ok (.ireturn, 1) := by decide +kernel
theorem dX0_word_12 : decode cX0_word 12 = .ok (.aload_n 0, 1) := by decide +kernel
theorem dX0_word_13 : decode cX0_word 13 = .ok (.getfield 10, 3) := by decide +kernel
theorem dX0_word_16 : decode cX0_word 16 = .ok (.iload_n 1, 1) := by decide +kernel
theorem dX0_word_17 : decode cX0_word 17 = .ok (.baload, 1) := by decide +kernel
theorem dX0_word_18 : decode cX0_word 18 = .ok (.sipush 255, 3) := by decide +kernel
theorem dX0_word_21 : decode cX0_word 21 = .ok (.iand, 1) := by decide +kernel
theorem dX0_word_22 : decode cX0_word 22 = .ok (.aload_n 0, 1) := by decide +kernel
theorem dX0_word_23 : decode cX0_word 23 = .ok (.getfield 10, 3) := by decide +kernel
theorem dX0_word_26 : decode cX0_word 26 = .ok (.iload_n 1, 1) := by decide +kernel
theorem dX0_word_27 : decode cX0_word 27 = .ok (.iconst 1, 1) := by decide +kernel
theorem dX0_word_28 : decode cX0_word 28 = .ok (.iadd, 1) := by decide +kernel
theorem dX0_word_29 : decode cX0_word 29 = .ok (.baload, 1) := by decide +kernel
theorem dX0_word_30 : decode cX0_word 30 = .ok (.sipush 255, 3) := by decide +kernel
theorem dX0_word_33 : decode cX0_word 33 = .ok (.iand, 1) := by decide +kernel
theorem dX0_word_34 : decode cX0_word 34 = .ok (.bipush 8, 2) := by decide +kernel
theorem dX0_word_36 : decode cX0_word 36 = .ok (.ishl, 1) := by decide +kernel
theorem dX0_word_37 : decode cX0_word 37 = .ok (.ior, 1) := by decide +kernel
theorem dX0_word_38 : decode cX0_word 38 = .ok (.aload_n 0, 1) := by decide +kernel
theorem dX0_word_39 : decode cX0_word 39 = .ok (.getfield 10, 3) := by decide +kernel
theorem dX0_word_42 : decode cX0_word 42 = .ok (.iload_n 1, 1) := by decide +kernel
theorem dX0_word_43 : decode cX0_word 43 = .ok (.iconst 2, 1) := by decide +kernel
theorem dX0_word_44 : decode cX0_word 44 = .ok (.iadd, 1) := by decide +kernel
theorem dX0_word_45 : decode cX0_word 45 = .ok (.baload, 1) := by decide +kernel
theorem dX0_word_46 : decode cX0_word 46 = .ok (.sipush 255, 3) := by decide +kernel
theorem dX0_word_49 : decode cX0_word 49 = .ok (.iand, 1) := by decide +kernel
theorem dX0_word_50 : decode cX0_word 50 = .ok (.bipush 16, 2) := by decide +kernel
theorem dX0_word_52 : decode cX0_word 52 = .ok (.ishl, 1) := by decide +kernel
theorem dX0_word_53 : decode cX0_word 53 = .ok (.ior, 1) := by decide +kernel
theorem dX0_word_54 : decode cX0_word 54 = .ok (.aload_n 0, 1) := by decide +kernel
theorem dX0_word_55 : decode cX0_word 55 = .ok (.getfield 10, 3) := by decide +kernel
theorem dX0_word_58 : decode cX0_word 58 = .ok (.iload_n 1, 1) := by decide +kernel
theorem dX0_word_59 : decode cX0_word 59 = .ok (.iconst 3, 1) := by decide +kernel
theorem dX0_word_60 : decode cX0_word 60 = .ok (.iadd, 1) := by decide +kernel
theorem dX0_word_61 : decode cX0_word 61 = .ok (.baload, 1) := by decide +kernel
theorem dX0_word_62 : decode cX0_word 62 = .ok (.sipush 255, 3) := by decide +kernel
theorem dX0_word_65 : decode cX0_word 65 = .ok (.iand, 1) := by decide +kernel
theorem dX0_word_66 : decode cX0_word 66 = .ok (.bipush 24, 2) := by decide +kernel
theorem dX0_word_68 : decode cX0_word 68 = .ok (.ishl, 1) := by decide +kernel
theorem dX0_word_69 : decode cX0_word 69 = .ok (.ior, 1) := by decide +kernel
theorem dX0_word_70 : decode cX0_word 70 = .ok (.ireturn, 1) := by decide +kernel
set_option maxRecDepth 20000 in
theorem ggX0_unsignedWord_X0_word : GoodIn wsX0_unsignedWord wsX0_word := goodIn_r _ [6, 7, 8, 9, 10, 11, 12, 13] (by decide +kernel) (by decide +kernel)
set_option maxRecDepth 20000 in
theorem gX0_unsignedWord_X0_word : GoodIn wsX0_unsignedWord (wsV RX0 83 RX0 yX0_word wsX0_word) := goodIn_app (goodIn_of _ (by decide +kernel)) ggX0_unsignedWord_X0_word
theorem dX0_unsignedWord_0 : decode cX0_unsignedWord 0 = .ok (.aload_n 0, 1) := by decide +kernel
theorem dX0_unsignedWord_1 : decode cX0_unsignedWord 1 = .ok (.iload_n 1, 1) := by decide +kernel
theorem dX0_unsignedWord_2 : decode cX0_unsignedWord 2 = .ok (.invokevirtual 83, 3) := by decide +kernel
theorem dX0_unsignedWord_5 : decode cX0_unsignedWord 5 = .ok (.i2l, 1) := by decide +kernel
theorem dX0_unsignedWord_6 : decode cX0_unsignedWord 6 = .ok (.ldc2_w 86, 3) := by decide +kernel
theorem dX0_unsignedWord_9 : decode cX0_unsignedWord 9 = .ok (.land, 1) := by decide +kernel
theorem dX0_unsignedWord_10 : decode cX0_unsignedWord 10 = .ok (.lreturn, 1) := by decide +kernel
set_option maxRecDepth 20000 in
theorem ggX0_longWord_X0_unsignedWord : GoodIn wsX0_longWord wsX0_unsignedWord := goodIn_r _ [5, 6, 7, 8, 9, 4, 10, 11, 12, 13, 14, 15, 16, 17] (by decide +kernel) (by decide +kernel)
set_option maxRecDepth 20000 in
theorem gX0_longWord_X0_unsignedWord : GoodIn wsX0_longWord (wsV RX0 88 RX0 yX0_unsignedWord wsX0_unsignedWord) := goodIn_app (goodIn_of _ (by decide +kernel)) ggX0_longWord_X0_unsignedWord
theorem dX0_longWord_0 : decode cX0_longWord 0 = .ok (.aload_n 0, 1) := by decide +kernel
theorem dX0_longWord_1 : decode cX0_longWord 1 = .ok (.iload_n 1, 1) := by decide +kernel
theorem dX0_longWord_2 : decode cX0_longWord 2 = .ok (.invokevirtual 88, 3) := by decide +kernel
theorem dX0_longWord_5 : decode cX0_longWord 5 = .ok (.aload_n 0, 1) := by decide +kernel
theorem dX0_longWord_6 : decode cX0_longWord 6 = .ok (.iload_n 1, 1) := by decide +kernel
theorem dX0_longWord_7 : decode cX0_longWord 7 = .ok (.iconst 4, 1) := by decide +kernel
theorem dX0_longWord_8 : decode cX0_longWord 8 = .ok (.iadd, 1) := by decide +kernel
theorem dX0_longWord_9 : decode cX0_longWord 9 = .ok (.invokevirtual 88, 3) := by decide +kernel
theorem dX0_longWord_12 : decode cX0_longWord 12 = .ok (.bipush 32, 2) := by decide +kernel
theorem dX0_longWord_14 : decode cX0_longWord 14 = .ok (.lshl, 1) := by decide +kernel
theorem dX0_longWord_15 : decode cX0_longWord 15 = .ok (.lor, 1) := by decide +kernel
theorem dX0_longWord_16 : decode cX0_longWord 16 = .ok (.lreturn, 1) := by decide +kernel
theorem dX0_rotated_0 : decode cX0_rotated 0 = .ok (.iload_n 0, 1) := by decide +kernel
theorem dX0_rotated_1 : decode cX0_rotated 1 = .ok (.iload_n 1, 1) := by decide +kernel
theorem dX0_rotated_2 : decode cX0_rotated 2 = .ok (.ishl, 1) := by decide +kernel
theorem dX0_rotated_3 : decode cX0_rotated 3 = .ok (.iload_n 0, 1) := by decide +kernel
theorem dX0_rotated_4 : decode cX0_rotated 4 = .ok (.bipush 32, 2) := by decide +kernel
theorem dX0_rotated_6 : decode cX0_rotated 6 = .ok (.iload_n 1, 1) := by decide +kernel
theorem dX0_rotated_7 : decode cX0_rotated 7 = .ok (.isub, 1) := by decide +kernel
theorem dX0_rotated_8 : decode cX0_rotated 8 = .ok (.iushr, 1) := by decide +kernel
theorem dX0_rotated_9 : decode cX0_rotated 9 = .ok (.ior, 1) := by decide +kernel
theorem dX0_rotated_10 : decode cX0_rotated 10 = .ok (.ireturn, 1) := by decide +kernel
theorem dX0_rotatedLong_0 : decode cX0_rotatedLong 0 = .ok (.lload_n 0, 1) := by decide +kernel
theorem dX0_rotatedLong_1 : decode cX0_rotatedLong 1 = .ok (.iload_n 2, 1) := by decide +kernel
theorem dX0_rotatedLong_2 : decode cX0_rotatedLong 2 = .ok (.lshl, 1) := by decide +kernel
theorem dX0_rotatedLong_3 : decode cX0_rotatedLong 3 = .ok (.lload_n 0, 1) := by decide +kernel
theorem dX0_rotatedLong_4 : decode cX0_rotatedLong 4 = .ok (.bipush 64, 2) := by decide +kernel
theorem dX0_rotatedLong_6 : decode cX0_rotatedLong 6 = .ok (.iload_n 2, 1) := by decide +kernel
theorem dX0_rotatedLong_7 : decode cX0_rotatedLong 7 = .ok (.isub, 1) := by decide +kernel
theorem dX0_rotatedLong_8 : decode cX0_rotatedLong 8 = .ok (.lushr, 1) := by decide +kernel
theorem dX0_rotatedLong_9 : decode cX0_rotatedLong 9 = .ok (.lor, 1) := by decide +kernel
theorem dX0_rotatedLong_10 : decode cX0_rotatedLong 10 = .ok (.lreturn, 1) := by decide +kernel
set_option maxRecDepth 20000 in
theorem ggX0_narrowSum_X0_narrowOfLanes : GoodIn wsX0_narrowSum wsX0_narrowOfLanes := goodIn_r _ [9, 4, 10, 11, 12, 13, 8, 14, 15, 16, 17, 18, 19, 20, 21, 22, 31, 32, 33, 34, 35] (by decide +kernel) (by decide +kernel)
set_option maxRecDepth 20000 in
theorem gX0_narrowSum_X0_narrowOfLanes : GoodIn wsX0_narrowSum (wsV RX0 92 RX0 yX0_narrowOfLanes wsX0_narrowOfLanes) := goodIn_app (goodIn_of _ (by decide +kernel)) ggX0_narrowSum_X0_narrowOfLanes
set_option maxRecDepth 20000 in
theorem ggX0_narrowSum_X0_word : GoodIn wsX0_narrowSum wsX0_word := goodIn_r _ [14, 15, 16, 31, 32, 33, 34, 35] (by decide +kernel) (by decide +kernel)
set_option maxRecDepth 20000 in
theorem gX0_narrowSum_X0_word : GoodIn wsX0_narrowSum (wsV RX0 83 RX0 yX0_word wsX0_word) := goodIn_app (goodIn_of _ (by decide +kernel)) ggX0_narrowSum_X0_word
set_option maxRecDepth 20000 in
theorem ggX0_narrowSum_X0_rotated : GoodIn wsX0_narrowSum wsX0_rotated := goodIn_r _ [22] (by decide +kernel) (by decide +kernel)
set_option maxRecDepth 20000 in
theorem gX0_narrowSum_X0_rotated : GoodIn wsX0_narrowSum (va_wsS RX0 57 yX0_rotated wsX0_rotated) := goodIn_app (goodIn_of _ (by decide +kernel)) ggX0_narrowSum_X0_rotated
set_option maxRecDepth 20000 in
theorem ggX0_narrowSum_X0_byteAt : GoodIn wsX0_narrowSum wsX0_byteAt := goodIn_r _ [26, 27, 16, 31, 32, 33, 34, 35] (by decide +kernel) (by decide +kernel)
set_option maxRecDepth 20000 in
theorem gX0_narrowSum_X0_byteAt : GoodIn wsX0_narrowSum (wsV RX0 37 RX0 yX0_byteAt wsX0_byteAt) := goodIn_app (goodIn_of _ (by decide +kernel)) ggX0_narrowSum_X0_byteAt
set_option maxRecDepth 20000 in
theorem ggX0_narrowSum_X0_narrowStirred : GoodIn wsX0_narrowSum wsX0_narrowStirred := goodIn_r _ [30, 10, 2] (by decide +kernel) (by decide +kernel)
set_option maxRecDepth 20000 in
theorem gX0_narrowSum_X0_narrowStirred : GoodIn wsX0_narrowSum (va_wsS RX0 99 yX0_narrowStirred wsX0_narrowStirred) := goodIn_app (goodIn_of _ (by decide +kernel)) ggX0_narrowSum_X0_narrowStirred
theorem dX0_narrowSum_0 : decode cX0_narrowSum 0 = .ok (.iload_n 2, 1) := by decide +kernel
theorem dX0_narrowSum_1 : decode cX0_narrowSum 1 = .ok (.iload_n 1, 1) := by decide +kernel
theorem dX0_narrowSum_2 : decode cX0_narrowSum 2 = .ok (.isub, 1) := by decide +kernel
theorem dX0_narrowSum_3 : decode cX0_narrowSum 3 = .ok (.istore 4, 2) := by decide +kernel
theorem dX0_narrowSum_5 : decode cX0_narrowSum 5 = .ok (.iload 4, 2) := by decide +kernel
theorem dX0_narrowSum_7 : decode cX0_narrowSum 7 = .ok (.bipush 16, 2) := by decide +kernel
theorem dX0_narrowSum_9 : decode cX0_narrowSum 9 = .ok (.if_icmp .lt 13, 3) := by decide +kernel
theorem dX0_narrowSum_12 : decode cX0_narrowSum 12 = .ok (.aload_n 0, 1) := by decide +kernel
theorem dX0_narrowSum_13 : decode cX0_narrowSum 13 = .ok (.iload_n 1, 1) := by decide +kernel
theorem dX0_narrowSum_14 : decode cX0_narrowSum 14 = .ok (.iload_n 2, 1) := by decide +kernel
theorem dX0_narrowSum_15 : decode cX0_narrowSum 15 = .ok (.iload_n 3, 1) := by decide +kernel
theorem dX0_narrowSum_16 : decode cX0_narrowSum 16 = .ok (.invokevirtual 92, 3) := by decide +kernel
theorem dX0_narrowSum_19 : decode cX0_narrowSum 19 = .ok (.goto 7, 3) := by decide +kernel
theorem dX0_narrowSum_22 : decode cX0_narrowSum 22 = .ok (.iload_n 3, 1) := by decide +kernel
theorem dX0_narrowSum_23 : decode cX0_narrowSum 23 = .ok (.ldc 95, 2) := by decide +kernel
theorem dX0_narrowSum_25 : decode cX0_narrowSum 25 = .ok (.iadd, 1) := by decide +kernel
theorem dX0_narrowSum_26 : decode cX0_narrowSum 26 = .ok (.istore 5, 2) := by decide +kernel
theorem dX0_narrowSum_28 : decode cX0_narrowSum 28 = .ok (.iload 5, 2) := by decide +kernel
theorem dX0_narrowSum_30 : decode cX0_narrowSum 30 = .ok (.iload 4, 2) := by decide +kernel
theorem dX0_narrowSum_32 : decode cX0_narrowSum 32 = .ok (.iadd, 1) := by decide +kernel
theorem dX0_narrowSum_33 : decode cX0_narrowSum 33 = .ok (.istore 5, 2) := by decide +kernel
theorem dX0_narrowSum_35 : decode cX0_narrowSum 35 = .ok (.iload_n 2, 1) := by decide +kernel
theorem dX0_narrowSum_36 : decode cX0_narrowSum 36 = .ok (.iload 4, 2) := by decide +kernel
theorem dX0_narrowSum_38 : decode cX0_narrowSum 38 = .ok (.bipush 16, 2) := by decide +kernel
theorem dX0_narrowSum_40 : decode cX0_narrowSum 40 = .ok (.irem, 1) := by decide +kernel
theorem dX0_narrowSum_41 : decode cX0_narrowSum 41 = .ok (.isub, 1) := by decide +kernel
theorem dX0_narrowSum_42 : decode cX0_narrowSum 42 = .ok (.istore 6, 2) := by decide +kernel
theorem dX0_narrowSum_44 : decode cX0_narrowSum 44 = .ok (.iload_n 2, 1) := by decide +kernel
theorem dX0_narrowSum_45 : decode cX0_narrowSum 45 = .ok (.iload 6, 2) := by decide +kernel
theorem dX0_narrowSum_47 : decode cX0_narrowSum 47 = .ok (.isub, 1) := by decide +kernel
theorem dX0_narrowSum_48 : decode cX0_narrowSum 48 = .ok (.iconst 4, 1) := by decide +kernel
theorem dX0_narrowSum_49 : decode cX0_narrowSum 49 = .ok (.if_icmp .lt 31, 3) := by decide +kernel
theorem dX0_narrowSum_52 : decode cX0_narrowSum 52 = .ok (.iload 5, 2) := by decide +kernel
theorem dX0_narrowSum_54 : decode cX0_narrowSum 54 = .ok (.aload_n 0, 1) := by decide +kernel
theorem dX0_narrowSum_55 : decode cX0_narrowSum 55 = .ok (.iload 6, 2) := by decide +kernel
theorem dX0_narrowSum_57 : decode cX0_narrowSum 57 = .ok (.invokevirtual 83, 3) := by decide +kernel
theorem dX0_narrowSum_60 : decode cX0_narrowSum 60 = .ok (.ldc 96, 2) := by decide +kernel
theorem dX0_narrowSum_62 : decode cX0_narrowSum 62 = .ok (.imul, 1) := by decide +kernel
theorem dX0_narrowSum_63 : decode cX0_narrowSum 63 = .ok (.iadd, 1) := by decide +kernel
theorem dX0_narrowSum_64 : decode cX0_narrowSum 64 = .ok (.bipush 17, 2) := by decide +kernel
theorem dX0_narrowSum_66 : decode cX0_narrowSum 66 = .ok (.invokestatic 57, 3) := by decide +kernel
theorem dX0_narrowSum_69 : decode cX0_narrowSum 69 = .ok (.ldc 97, 2) := by decide +kernel
theorem dX0_narrowSum_71 : decode cX0_narrowSum 71 = .ok (.imul, 1) := by decide +kernel
theorem dX0_narrowSum_72 : decode cX0_narrowSum 72 = .ok (.istore 5, 2) := by decide +kernel
theorem dX0_narrowSum_74 : decode cX0_narrowSum 74 = .ok (.iinc 6 4, 3) := by decide +kernel
theorem dX0_narrowSum_77 : decode cX0_narrowSum 77 = .ok (.goto (-33), 3) := by decide +kernel
theorem dX0_narrowSum_80 : decode cX0_narrowSum 80 = .ok (.iload 6, 2) := by decide +kernel
theorem dX0_narrowSum_82 : decode cX0_narrowSum 82 = .ok (.iload_n 2, 1) := by decide +kernel
theorem dX0_narrowSum_83 : decode cX0_narrowSum 83 = .ok (.if_icmp .ge 31, 3) := by decide +kernel
theorem dX0_narrowSum_86 : decode cX0_narrowSum 86 = .ok (.iload 5, 2) := by decide +kernel
theorem dX0_narrowSum_88 : decode cX0_narrowSum 88 = .ok (.aload_n 0, 1) := by decide +kernel
theorem dX0_narrowSum_89 : decode cX0_narrowSum 89 = .ok (.iload 6, 2) := by decide +kernel
theorem dX0_narrowSum_91 : decode cX0_narrowSum 91 = .ok (.invokevirtual 37, 3) := by decide +kernel
theorem dX0_narrowSum_94 : decode cX0_narrowSum 94 = .ok (.ldc 95, 2) := by decide +kernel
theorem dX0_narrowSum_96 : decode cX0_narrowSum 96 = .ok (.imul, 1) := by decide +kernel
theorem dX0_narrowSum_97 : decode cX0_narrowSum 97 = .ok (.iadd, 1) := by decide +kernel
theorem dX0_narrowSum_98 : decode cX0_narrowSum 98 = .ok (.bipush 11, 2) := by decide +kernel
theorem dX0_narrowSum_100 : decode cX0_narrowSum 100 = .ok (.invokestatic 57, 3) := by decide +kernel
theorem dX0_narrowSum_103 : decode cX0_narrowSum 103 = .ok (.ldc 98, 2) := by decide +kernel
theorem dX0_narrowSum_105 : decode cX0_narrowSum 105 = .ok (.imul, 1) := by decide +kernel
theorem dX0_narrowSum_106 : decode cX0_narrowSum 106 = .ok (.istore 5, 2) := by decide +kernel
theorem dX0_narrowSum_108 : decode cX0_narrowSum 108 = .ok (.iinc 6 1, 3) := by decide +kernel
theorem dX0_narrowSum_111 : decode cX0_narrowSum 111 = .ok (.goto (-31), 3) := by decide +kernel
theorem dX0_narrowSum_114 : decode cX0_narrowSum 114 = .ok (.iload 5, 2) := by decide +kernel
theorem dX0_narrowSum_116 : decode cX0_narrowSum 116 = .ok (.invokestatic 99, 3) := by decide +kernel
theorem dX0_narrowSum_119 : decode cX0_narrowSum 119 = .ok (.ireturn, 1) := by decide +kernel
set_option maxRecDepth 20000 in
theorem ggX0_narrowOfLanes_X0_word : GoodIn wsX0_narrowOfLanes wsX0_word := goodIn_r _ [7, 8, 9, 16, 17, 18, 19, 20] (by decide +kernel) (by decide +kernel)
set_option maxRecDepth 20000 in
theorem gX0_narrowOfLanes_X0_word : GoodIn wsX0_narrowOfLanes (wsV RX0 83 RX0 yX0_word wsX0_word) := goodIn_app (goodIn_of _ (by decide +kernel)) ggX0_narrowOfLanes_X0_word
set_option maxRecDepth 20000 in
theorem ggX0_narrowOfLanes_X0_narrowLane : GoodIn wsX0_narrowOfLanes wsX0_narrowLane := goodIn_r _ [12, 2, 1, 13, 14, 6, 15] (by decide +kernel) (by decide +kernel)
set_option maxRecDepth 20000 in
theorem gX0_narrowOfLanes_X0_narrowLane : GoodIn wsX0_narrowOfLanes (va_wsS RX0 103 yX0_narrowLane wsX0_narrowLane) := goodIn_app (goodIn_of _ (by decide +kernel)) ggX0_narrowOfLanes_X0_narrowLane
set_option maxRecDepth 20000 in
theorem ggX0_narrowOfLanes_X0_rotated : GoodIn wsX0_narrowOfLanes wsX0_rotated := goodIn_r _ [15] (by decide +kernel) (by decide +kernel)
set_option maxRecDepth 20000 in
theorem gX0_narrowOfLanes_X0_rotated : GoodIn wsX0_narrowOfLanes (va_wsS RX0 57 yX0_rotated wsX0_rotated) := goodIn_app (goodIn_of _ (by decide +kernel)) ggX0_narrowOfLanes_X0_rotated
theorem dX0_narrowOfLanes_0 : decode cX0_narrowOfLanes 0 = .ok (.iload_n 3, 1) := by decide +kernel
theorem dX0_narrowOfLanes_1 : decode cX0_narrowOfLanes 1 = .ok (.ldc 98, 2) := by decide +kernel
theorem dX0_narrowOfLanes_3 : decode cX0_narrowOfLanes 3 = .ok (.iadd, 1) := by decide +kernel
theorem dX0_narrowOfLanes_4 : decode cX0_narrowOfLanes 4 = .ok (.ldc 102, 2) := by decide +kernel
theorem dX0_narrowOfLanes_6 : decode cX0_narrowOfLanes 6 = .ok (.iadd, 1) := by decide +kernel
theorem dX0_narrowOfLanes_7 : decode cX0_narrowOfLanes 7 = .ok (.istore 4, 2) := by decide +kernel
theorem dX0_narrowOfLanes_9 : decode cX0_narrowOfLanes 9 = .ok (.iload_n 3, 1) := by decide +kernel
theorem dX0_narrowOfLanes_10 : decode cX0_narrowOfLanes 10 = .ok (.ldc 102, 2) := by decide +kernel
theorem dX0_narrowOfLanes_12 : decode cX0_narrowOfLanes 12 = .ok (.iadd, 1) := by decide +kernel
theorem dX0_narrowOfLanes_13 : decode cX0_narrowOfLanes 13 = .ok (.istore 5, 2) := by decide +kernel
theorem dX0_narrowOfLanes_15 : decode cX0_narrowOfLanes 15 = .ok (.iload_n 3, 1) := by decide +kernel
theorem dX0_narrowOfLanes_16 : decode cX0_narrowOfLanes 16 = .ok (.istore 6, 2) := by decide +kernel
theorem dX0_narrowOfLanes_18 : decode cX0_narrowOfLanes 18 = .ok (.iload_n 3, 1) := by decide +kernel
theorem dX0_narrowOfLanes_19 : decode cX0_narrowOfLanes 19 = .ok (.ldc 98, 2) := by decide +kernel
theorem dX0_narrowOfLanes_21 : decode cX0_narrowOfLanes 21 = .ok (.isub, 1) := by decide +kernel
theorem dX0_narrowOfLanes_22 : decode cX0_narrowOfLanes 22 = .ok (.istore 7, 2) := by decide +kernel
theorem dX0_narrowOfLanes_24 : decode cX0_narrowOfLanes 24 = .ok (.iload_n 1, 1) := by decide +kernel
theorem dX0_narrowOfLanes_25 : decode cX0_narrowOfLanes 25 = .ok (.istore 8, 2) := by decide +kernel
theorem dX0_narrowOfLanes_27 : decode cX0_narrowOfLanes 27 = .ok (.iload_n 2, 1) := by decide +kernel
theorem dX0_narrowOfLanes_28 : decode cX0_narrowOfLanes 28 = .ok (.iload 8, 2) := by decide +kernel
theorem dX0_narrowOfLanes_30 : decode cX0_narrowOfLanes 30 = .ok (.isub, 1) := by decide +kernel
theorem dX0_narrowOfLanes_31 : decode cX0_narrowOfLanes 31 = .ok (.bipush 16, 2) := by decide +kernel
theorem dX0_narrowOfLanes_33 : decode cX0_narrowOfLanes 33 = .ok (.if_icmp .lt 69, 3) := by decide +kernel
theorem dX0_narrowOfLanes_36 : decode cX0_narrowOfLanes 36 = .ok (.iload 4, 2) := by decide +kernel
theorem dX0_narrowOfLanes_38 : decode cX0_narrowOfLanes 38 = .ok (.aload_n 0, 1) := by decide +kernel
theorem dX0_narrowOfLanes_39 : decode cX0_narrowOfLanes 39 = .ok (.iload 8, 2) := by decide +kernel
theorem dX0_narrowOfLanes_41 : decode cX0_narrowOfLanes 41 = .ok (.invokevirtual 83, 3) := by decide +kernel
theorem dX0_narrowOfLanes_44 : decode cX0_narrowOfLanes 44 = .ok (.invokestatic 103, 3) := by decide +kernel
theorem dX0_narrowOfLanes_47 : decode cX0_narrowOfLanes 47 = .ok (.istore 4, 2) := by decide +kernel
theorem dX0_narrowOfLanes_49 : decode cX0_narrowOfLanes 49 = .ok (.iload 5, 2) := by decide +kernel
theorem dX0_narrowOfLanes_51 : decode cX0_narrowOfLanes 51 = .ok (.aload_n 0, 1) := by decide +kernel
theorem dX0_narrowOfLanes_52 : decode cX0_narrowOfLanes 52 = .ok (.iload 8, 2) := by decide +kernel
theorem dX0_narrowOfLanes_54 : decode cX0_narrowOfLanes 54 = .ok (.iconst 4, 1) := by decide +kernel
theorem dX0_narrowOfLanes_55 : decode cX0_narrowOfLanes 55 = .ok (.iadd, 1) := by decide +kernel
theorem dX0_narrowOfLanes_56 : decode cX0_narrowOfLanes 56 = .ok (.invokevirtual 83, 3) := by decide +kernel
theorem dX0_narrowOfLanes_59 : decode cX0_narrowOfLanes 59 = .ok (.invokestatic 103, 3) := by decide +kernel
theorem dX0_narrowOfLanes_62 : decode cX0_narrowOfLanes 62 = .ok (.istore 5, 2) := by decide +kernel
theorem dX0_narrowOfLanes_64 : decode cX0_narrowOfLanes 64 = .ok (.iload 6, 2) := by decide +kernel
theorem dX0_narrowOfLanes_66 : decode cX0_narrowOfLanes 66 = .ok (.aload_n 0, 1) := by decide +kernel
theorem dX0_narrowOfLanes_67 : decode cX0_narrowOfLanes 67 = .ok (.iload 8, 2) := by decide +kernel
theorem dX0_narrowOfLanes_69 : decode cX0_narrowOfLanes 69 = .ok (.bipush 8, 2) := by decide +kernel
theorem dX0_narrowOfLanes_71 : decode cX0_narrowOfLanes 71 = .ok (.iadd, 1) := by decide +kernel
theorem dX0_narrowOfLanes_72 : decode cX0_narrowOfLanes 72 = .ok (.invokevirtual 83, 3) := by decide +kernel
theorem dX0_narrowOfLanes_75 : decode cX0_narrowOfLanes 75 = .ok (.invokestatic 103, 3) := by decide +kernel
theorem dX0_narrowOfLanes_78 : decode cX0_narrowOfLanes 78 = .ok (.istore 6, 2) := by decide +kernel
theorem dX0_narrowOfLanes_80 : decode cX0_narrowOfLanes 80 = .ok (.iload 7, 2) := by decide +kernel
theorem dX0_narrowOfLanes_82 : decode cX0_narrowOfLanes 82 = .ok (.aload_n 0, 1) := by decide +kernel
theorem dX0_narrowOfLanes_83 : decode cX0_narrowOfLanes 83 = .ok (.iload 8, 2) := by decide +kernel
theorem dX0_narrowOfLanes_85 : decode cX0_narrowOfLanes 85 = .ok (.bipush 12, 2) := by decide +kernel
theorem dX0_narrowOfLanes_87 : decode cX0_narrowOfLanes 87 = .ok (.iadd, 1) := by decide +kernel
theorem dX0_narrowOfLanes_88 : decode cX0_narrowOfLanes 88 = .ok (.invokevirtual 83, 3) := by decide +kernel
theorem dX0_narrowOfLanes_91 : decode cX0_narrowOfLanes 91 = .ok (.invokestatic 103, 3) := by decide +kernel
theorem dX0_narrowOfLanes_94 : decode cX0_narrowOfLanes 94 = .ok (.istore 7, 2) := by decide +kernel
theorem dX0_narrowOfLanes_96 : decode cX0_narrowOfLanes 96 = .ok (.iinc 8 16, 3) := by decide +kernel
theorem dX0_narrowOfLanes_99 : decode cX0_narrowOfLanes 99 = .ok (.goto (-72), 3) := by decide +kernel
theorem dX0_narrowOfLanes_102 : decode cX0_narrowOfLanes 102 = .ok (.iload 4, 2) := by decide +kernel
theorem dX0_narrowOfLanes_104 : decode cX0_narrowOfLanes 104 = .ok (.iconst 1, 1) := by decide +kernel
theorem dX0_narrowOfLanes_105 : decode cX0_narrowOfLanes 105 = .ok (.invokestatic 57, 3) := by decide +kernel
theorem dX0_narrowOfLanes_108 : decode cX0_narrowOfLanes 108 = .ok (.iload 5, 2) := by decide +kernel
theorem dX0_narrowOfLanes_110 : decode cX0_narrowOfLanes 110 = .ok (.bipush 7, 2) := by decide +kernel
theorem dX0_narrowOfLanes_112 : decode cX0_narrowOfLanes 112 = .ok (.invokestatic 57, 3) := by decide +kernel
theorem dX0_narrowOfLanes_115 : decode cX0_narrowOfLanes 115 = .ok (.iadd, 1) := by decide +kernel
theorem dX0_narrowOfLanes_116 : decode cX0_narrowOfLanes 116 = .ok (.iload 6, 2) := by decide +kernel
theorem dX0_narrowOfLanes_118 : decode cX0_narrowOfLanes 118 = .ok (.bipush 12, 2) := by decide +kernel
theorem dX0_narrowOfLanes_120 : decode cX0_narrowOfLanes 120 = .ok (.invokestatic 57, 3) := by decide +kernel
theorem dX0_narrowOfLanes_123 : decode cX0_narrowOfLanes 123 = .ok (.iadd, 1) := by decide +kernel
theorem dX0_narrowOfLanes_124 : decode cX0_narrowOfLanes 124 = .ok (.iload 7, 2) := by decide +kernel
theorem dX0_narrowOfLanes_126 : decode cX0_narrowOfLanes 126 = .ok (.bipush 18, 2) := by decide +kernel
theorem dX0_narrowOfLanes_128 : decode cX0_narrowOfLanes 128 = .ok (.invokestatic 57, 3) := by decide +kernel
theorem dX0_narrowOfLanes_131 : decode cX0_narrowOfLanes 131 = .ok (.iadd, 1) := by decide +kernel
theorem dX0_narrowOfLanes_132 : decode cX0_narrowOfLanes 132 = .ok (.ireturn, 1) := by decide +kernel
set_option maxRecDepth 20000 in
theorem ggX0_narrowLane_X0_rotated : GoodIn wsX0_narrowLane wsX0_rotated := goodIn_r _ [6] (by decide +kernel) (by decide +kernel)
set_option maxRecDepth 20000 in
theorem gX0_narrowLane_X0_rotated : GoodIn wsX0_narrowLane (va_wsS RX0 57 yX0_rotated wsX0_rotated) := goodIn_app (goodIn_of _ (by decide +kernel)) ggX0_narrowLane_X0_rotated
theorem dX0_narrowLane_0 : decode cX0_narrowLane 0 = .ok (.iload_n 0, 1) := by decide +kernel
theorem dX0_narrowLane_1 : decode cX0_narrowLane 1 = .ok (.iload_n 1, 1) := by decide +kernel
theorem dX0_narrowLane_2 : decode cX0_narrowLane 2 = .ok (.ldc 102, 2) := by decide +kernel
theorem dX0_narrowLane_4 : decode cX0_narrowLane 4 = .ok (.imul, 1) := by decide +kernel
theorem dX0_narrowLane_5 : decode cX0_narrowLane 5 = .ok (.iadd, 1) := by decide +kernel
theorem dX0_narrowLane_6 : decode cX0_narrowLane 6 = .ok (.bipush 13, 2) := by decide +kernel
theorem dX0_narrowLane_8 : decode cX0_narrowLane 8 = .ok (.invokestatic 57, 3) := by decide +kernel
theorem dX0_narrowLane_11 : decode cX0_narrowLane 11 = .ok (.ldc 98, 2) := by decide +kernel
theorem dX0_narrowLane_13 : decode cX0_narrowLane 13 = .ok (.imul, 1) := by decide +kernel
theorem dX0_narrowLane_14 : decode cX0_narrowLane 14 = .ok (.ireturn, 1) := by decide +kernel
theorem dX0_narrowStirred_0 : decode cX0_narrowStirred 0 = .ok (.iload_n 0, 1) := by decide +kernel
theorem dX0_narrowStirred_1 : decode cX0_narrowStirred 1 = .ok (.iload_n 0, 1) := by decide +kernel
theorem dX0_narrowStirred_2 : decode cX0_narrowStirred 2 = .ok (.bipush 15, 2) := by decide +kernel
theorem dX0_narrowStirred_4 : decode cX0_narrowStirred 4 = .ok (.iushr, 1) := by decide +kernel
theorem dX0_narrowStirred_5 : decode cX0_narrowStirred 5 = .ok (.ixor, 1) := by decide +kernel
theorem dX0_narrowStirred_6 : decode cX0_narrowStirred 6 = .ok (.ldc 102, 2) := by decide +kernel
theorem dX0_narrowStirred_8 : decode cX0_narrowStirred 8 = .ok (.imul, 1) := by decide +kernel
theorem dX0_narrowStirred_9 : decode cX0_narrowStirred 9 = .ok (.istore_n 0, 1) := by decide +kernel
theorem dX0_narrowStirred_10 : decode cX0_narrowStirred 10 = .ok (.iload_n 0, 1) := by decide +kernel
theorem dX0_narrowStirred_11 : decode cX0_narrowStirred 11 = .ok (.iload_n 0, 1) := by decide +kernel
theorem dX0_narrowStirred_12 : decode cX0_narrowStirred 12 = .ok (.bipush 13, 2) := by decide +kernel
theorem dX0_narrowStirred_14 : decode cX0_narrowStirred 14 = .ok (.iushr, 1) := by decide +kernel
theorem dX0_narrowStirred_15 : decode cX0_narrowStirred 15 = .ok (.ixor, 1) := by decide +kernel
theorem dX0_narrowStirred_16 : decode cX0_narrowStirred 16 = .ok (.ldc 96, 2) := by decide +kernel
theorem dX0_narrowStirred_18 : decode cX0_narrowStirred 18 = .ok (.imul, 1) := by decide +kernel
theorem dX0_narrowStirred_19 : decode cX0_narrowStirred 19 = .ok (.istore_n 0, 1) := by decide +kernel
theorem dX0_narrowStirred_20 : decode cX0_narrowStirred 20 = .ok (.iload_n 0, 1) := by decide +kernel
theorem dX0_narrowStirred_21 : decode cX0_narrowStirred 21 = .ok (.iload_n 0, 1) := by decide +kernel
theorem dX0_narrowStirred_22 : decode cX0_narrowStirred 22 = .ok (.bipush 16, 2) := by decide +kernel
theorem dX0_narrowStirred_24 : decode cX0_narrowStirred 24 = .ok (.iushr, 1) := by decide +kernel
theorem dX0_narrowStirred_25 : decode cX0_narrowStirred 25 = .ok (.ixor, 1) := by decide +kernel
theorem dX0_narrowStirred_26 : decode cX0_narrowStirred 26 = .ok (.ireturn, 1) := by decide +kernel
set_option maxRecDepth 20000 in
theorem ggX0_wideSum_X0_wideOfLanes : GoodIn wsX0_wideSum wsX0_wideOfLanes := goodIn_r _ [10, 2, 4, 11, 12, 13, 9, 14, 15, 16, 17, 18, 19, 20, 21, 22, 23, 24, 25, 26, 27, 28, 29, 30, 31, 32, 33, 34, 3, 43, 44, 45, 46, 47] (by decide +kernel) (by decide +kernel)
set_option maxRecDepth 20000 in
theorem gX0_wideSum_X0_wideOfLanes : GoodIn wsX0_wideSum (wsV RX0 106 RX0 yX0_wideOfLanes wsX0_wideOfLanes) := goodIn_app (goodIn_of _ (by decide +kernel)) ggX0_wideSum_X0_wideOfLanes
set_option maxRecDepth 20000 in
theorem ggX0_wideSum_X0_longWord : GoodIn wsX0_wideSum wsX0_longWord := goodIn_r _ [14, 15, 16, 17, 9, 18, 19, 20, 21, 22, 23, 24, 25, 43, 44, 45, 46, 47] (by decide +kernel) (by decide +kernel)
set_option maxRecDepth 20000 in
theorem gX0_wideSum_X0_longWord : GoodIn wsX0_wideSum (wsV RX0 111 RX0 yX0_longWord wsX0_longWord) := goodIn_app (goodIn_of _ (by decide +kernel)) ggX0_wideSum_X0_longWord
set_option maxRecDepth 20000 in
theorem ggX0_wideSum_X0_wideLane : GoodIn wsX0_wideSum wsX0_wideLane := goodIn_r _ [28, 4, 2, 29, 30, 9, 31] (by decide +kernel) (by decide +kernel)
set_option maxRecDepth 20000 in
theorem gX0_wideSum_X0_wideLane : GoodIn wsX0_wideSum (va_wsS RX0 114 yX0_wideLane wsX0_wideLane) := goodIn_app (goodIn_of _ (by decide +kernel)) ggX0_wideSum_X0_wideLane
set_option maxRecDepth 20000 in
theorem ggX0_wideSum_X0_rotatedLong : GoodIn wsX0_wideSum wsX0_rotatedLong := goodIn_r _ [31] (by decide +kernel) (by decide +kernel)
set_option maxRecDepth 20000 in
theorem gX0_wideSum_X0_rotatedLong : GoodIn wsX0_wideSum (va_wsS RX0 118 yX0_rotatedLong wsX0_rotatedLong) := goodIn_app (goodIn_of _ (by decide +kernel)) ggX0_wideSum_X0_rotatedLong
set_option maxRecDepth 20000 in
theorem ggX0_wideSum_X0_unsignedWord : GoodIn wsX0_wideSum wsX0_unsignedWord := goodIn_r _ [18, 19, 20, 21, 22, 9, 23, 24, 25, 43, 44, 45, 46, 47] (by decide +kernel) (by decide +kernel)
set_option maxRecDepth 20000 in
theorem gX0_wideSum_X0_unsignedWord : GoodIn wsX0_wideSum (wsV RX0 88 RX0 yX0_unsignedWord wsX0_unsignedWord) := goodIn_app (goodIn_of _ (by decide +kernel)) ggX0_wideSum_X0_unsignedWord
set_option maxRecDepth 20000 in
theorem ggX0_wideSum_X0_byteAt : GoodIn wsX0_wideSum wsX0_byteAt := goodIn_r _ [38, 39, 25, 43, 44, 45, 46, 47] (by decide +kernel) (by decide +kernel)
set_option maxRecDepth 20000 in
theorem gX0_wideSum_X0_byteAt : GoodIn wsX0_wideSum (wsV RX0 37 RX0 yX0_byteAt wsX0_byteAt) := goodIn_app (goodIn_of _ (by decide +kernel)) ggX0_wideSum_X0_byteAt
set_option maxRecDepth 20000 in
theorem ggX0_wideSum_X0_wideStirred : GoodIn wsX0_wideSum wsX0_wideStirred := goodIn_r _ [42, 4, 5] (by decide +kernel) (by decide +kernel)
set_option maxRecDepth 20000 in
theorem gX0_wideSum_X0_wideStirred : GoodIn wsX0_wideSum (va_wsS RX0 130 yX0_wideStirred wsX0_wideStirred) := goodIn_app (goodIn_of _ (by decide +kernel)) ggX0_wideSum_X0_wideStirred
theorem dX0_wideSum_0 : decode cX0_wideSum 0 = .ok (.iload_n 2, 1) := by decide +kernel
theorem dX0_wideSum_1 : decode cX0_wideSum 1 = .ok (.iload_n 1, 1) := by decide +kernel
theorem dX0_wideSum_2 : decode cX0_wideSum 2 = .ok (.isub, 1) := by decide +kernel
theorem dX0_wideSum_3 : decode cX0_wideSum 3 = .ok (.istore 5, 2) := by decide +kernel
theorem dX0_wideSum_5 : decode cX0_wideSum 5 = .ok (.iload 5, 2) := by decide +kernel
theorem dX0_wideSum_7 : decode cX0_wideSum 7 = .ok (.bipush 32, 2) := by decide +kernel
theorem dX0_wideSum_9 : decode cX0_wideSum 9 = .ok (.if_icmp .lt 13, 3) := by decide +kernel
theorem dX0_wideSum_12 : decode cX0_wideSum 12 = .ok (.aload_n 0, 1) := by decide +kernel
theorem dX0_wideSum_13 : decode cX0_wideSum 13 = .ok (.iload_n 1, 1) := by decide +kernel
theorem dX0_wideSum_14 : decode cX0_wideSum 14 = .ok (.iload_n 2, 1) := by decide +kernel
theorem dX0_wideSum_15 : decode cX0_wideSum 15 = .ok (.lload_n 3, 1) := by decide +kernel
theorem dX0_wideSum_16 : decode cX0_wideSum 16 = .ok (.invokevirtual 106, 3) := by decide +kernel
theorem dX0_wideSum_19 : decode cX0_wideSum 19 = .ok (.goto 8, 3) := by decide +kernel
theorem dX0_wideSum_22 : decode cX0_wideSum 22 = .ok (.lload_n 3, 1) := by decide +kernel
theorem dX0_wideSum_23 : decode cX0_wideSum 23 = .ok (.ldc2_w 109, 3) := by decide +kernel
theorem dX0_wideSum_26 : decode cX0_wideSum 26 = .ok (.ladd, 1) := by decide +kernel
theorem dX0_wideSum_27 : decode cX0_wideSum 27 = .ok (.lstore 6, 2) := by decide +kernel
theorem dX0_wideSum_29 : decode cX0_wideSum 29 = .ok (.lload 6, 2) := by decide +kernel
theorem dX0_wideSum_31 : decode cX0_wideSum 31 = .ok (.iload 5, 2) := by decide +kernel
theorem dX0_wideSum_33 : decode cX0_wideSum 33 = .ok (.i2l, 1) := by decide +kernel
theorem dX0_wideSum_34 : decode cX0_wideSum 34 = .ok (.ladd, 1) := by decide +kernel
theorem dX0_wideSum_35 : decode cX0_wideSum 35 = .ok (.lstore 6, 2) := by decide +kernel
theorem dX0_wideSum_37 : decode cX0_wideSum 37 = .ok (.iload_n 2, 1) := by decide +kernel
theorem dX0_wideSum_38 : decode cX0_wideSum 38 = .ok (.iload 5, 2) := by decide +kernel
theorem dX0_wideSum_40 : decode cX0_wideSum 40 = .ok (.bipush 32, 2) := by decide +kernel
theorem dX0_wideSum_42 : decode cX0_wideSum 42 = .ok (.irem, 1) := by decide +kernel
theorem dX0_wideSum_43 : decode cX0_wideSum 43 = .ok (.isub, 1) := by decide +kernel
theorem dX0_wideSum_44 : decode cX0_wideSum 44 = .ok (.istore 8, 2) := by decide +kernel
theorem dX0_wideSum_46 : decode cX0_wideSum 46 = .ok (.iload_n 2, 1) := by decide +kernel
theorem dX0_wideSum_47 : decode cX0_wideSum 47 = .ok (.iload 8, 2) := by decide +kernel
theorem dX0_wideSum_49 : decode cX0_wideSum 49 = .ok (.isub, 1) := by decide +kernel
theorem dX0_wideSum_50 : decode cX0_wideSum 50 = .ok (.bipush 8, 2) := by decide +kernel
theorem dX0_wideSum_52 : decode cX0_wideSum 52 = .ok (.if_icmp .lt 37, 3) := by decide +kernel
theorem dX0_wideSum_55 : decode cX0_wideSum 55 = .ok (.lload 6, 2) := by decide +kernel
theorem dX0_wideSum_57 : decode cX0_wideSum 57 = .ok (.lconst 0, 1) := by decide +kernel
theorem dX0_wideSum_58 : decode cX0_wideSum 58 = .ok (.aload_n 0, 1) := by decide +kernel
theorem dX0_wideSum_59 : decode cX0_wideSum 59 = .ok (.iload 8, 2) := by decide +kernel
theorem dX0_wideSum_61 : decode cX0_wideSum 61 = .ok (.invokevirtual 111, 3) := by decide +kernel
theorem dX0_wideSum_64 : decode cX0_wideSum 64 = .ok (.invokestatic 114, 3) := by decide +kernel
theorem dX0_wideSum_67 : decode cX0_wideSum 67 = .ok (.lxor, 1) := by decide +kernel
theorem dX0_wideSum_68 : decode cX0_wideSum 68 = .ok (.bipush 27, 2) := by decide +kernel
theorem dX0_wideSum_70 : decode cX0_wideSum 70 = .ok (.invokestatic 118, 3) := by decide +kernel
theorem dX0_wideSum_73 : decode cX0_wideSum 73 = .ok (.ldc2_w 122, 3) := by decide +kernel
theorem dX0_wideSum_76 : decode cX0_wideSum 76 = .ok (.lmul, 1) := by decide +kernel
theorem dX0_wideSum_77 : decode cX0_wideSum 77 = .ok (.ldc2_w 124, 3) := by decide +kernel
theorem dX0_wideSum_80 : decode cX0_wideSum 80 = .ok (.ladd, 1) := by decide +kernel
theorem dX0_wideSum_81 : decode cX0_wideSum 81 = .ok (.lstore 6, 2) := by decide +kernel
theorem dX0_wideSum_83 : decode cX0_wideSum 83 = .ok (.iinc 8 8, 3) := by decide +kernel
theorem dX0_wideSum_86 : decode cX0_wideSum 86 = .ok (.goto (-40), 3) := by decide +kernel
theorem dX0_wideSum_89 : decode cX0_wideSum 89 = .ok (.iload_n 2, 1) := by decide +kernel
theorem dX0_wideSum_90 : decode cX0_wideSum 90 = .ok (.iload 8, 2) := by decide +kernel
theorem dX0_wideSum_92 : decode cX0_wideSum 92 = .ok (.isub, 1) := by decide +kernel
theorem dX0_wideSum_93 : decode cX0_wideSum 93 = .ok (.iconst 4, 1) := by decide +kernel
theorem dX0_wideSum_94 : decode cX0_wideSum 94 = .ok (.if_icmp .lt 34, 3) := by decide +kernel
theorem dX0_wideSum_97 : decode cX0_wideSum 97 = .ok (.lload 6, 2) := by decide +kernel
theorem dX0_wideSum_99 : decode cX0_wideSum 99 = .ok (.aload_n 0, 1) := by decide +kernel
theorem dX0_wideSum_100 : decode cX0_wideSum 100 = .ok (.iload 8, 2) := by decide +kernel
theorem dX0_wideSum_102 : decode cX0_wideSum 102 = .ok (.invokevirtual 88, 3) := by decide +kernel
theorem dX0_wideSum_105 : decode cX0_wideSum 105 = .ok (.ldc2_w 122, 3) := by decide +kernel
theorem dX0_wideSum_108 : decode cX0_wideSum 108 = .ok (.lmul, 1) := by decide +kernel
theorem dX0_wideSum_109 : decode cX0_wideSum 109 = .ok (.lxor, 1) := by decide +kernel
theorem dX0_wideSum_110 : decode cX0_wideSum 110 = .ok (.bipush 23, 2) := by decide +kernel
theorem dX0_wideSum_112 : decode cX0_wideSum 112 = .ok (.invokestatic 118, 3) := by decide +kernel
theorem dX0_wideSum_115 : decode cX0_wideSum 115 = .ok (.ldc2_w 126, 3) := by decide +kernel
theorem dX0_wideSum_118 : decode cX0_wideSum 118 = .ok (.lmul, 1) := by decide +kernel
theorem dX0_wideSum_119 : decode cX0_wideSum 119 = .ok (.ldc2_w 128, 3) := by decide +kernel
theorem dX0_wideSum_122 : decode cX0_wideSum 122 = .ok (.ladd, 1) := by decide +kernel
theorem dX0_wideSum_123 : decode cX0_wideSum 123 = .ok (.lstore 6, 2) := by decide +kernel
theorem dX0_wideSum_125 : decode cX0_wideSum 125 = .ok (.iinc 8 4, 3) := by decide +kernel
theorem dX0_wideSum_128 : decode cX0_wideSum 128 = .ok (.iload 8, 2) := by decide +kernel
theorem dX0_wideSum_130 : decode cX0_wideSum 130 = .ok (.iload_n 2, 1) := by decide +kernel
theorem dX0_wideSum_131 : decode cX0_wideSum 131 = .ok (.if_icmp .ge 34, 3) := by decide +kernel
theorem dX0_wideSum_134 : decode cX0_wideSum 134 = .ok (.lload 6, 2) := by decide +kernel
theorem dX0_wideSum_136 : decode cX0_wideSum 136 = .ok (.aload_n 0, 1) := by decide +kernel
theorem dX0_wideSum_137 : decode cX0_wideSum 137 = .ok (.iload 8, 2) := by decide +kernel
theorem dX0_wideSum_139 : decode cX0_wideSum 139 = .ok (.invokevirtual 37, 3) := by decide +kernel
theorem dX0_wideSum_142 : decode cX0_wideSum 142 = .ok (.i2l, 1) := by decide +kernel
theorem dX0_wideSum_143 : decode cX0_wideSum 143 = .ok (.ldc2_w 109, 3) := by decide +kernel
theorem dX0_wideSum_146 : decode cX0_wideSum 146 = .ok (.lmul, 1) := by decide +kernel
theorem dX0_wideSum_147 : decode cX0_wideSum 147 = .ok (.lxor, 1) := by decide +kernel
theorem dX0_wideSum_148 : decode cX0_wideSum 148 = .ok (.bipush 11, 2) := by decide +kernel
theorem dX0_wideSum_150 : decode cX0_wideSum 150 = .ok (.invokestatic 118, 3) := by decide +kernel
theorem dX0_wideSum_153 : decode cX0_wideSum 153 = .ok (.ldc2_w 122, 3) := by decide +kernel
theorem dX0_wideSum_156 : decode cX0_wideSum 156 = .ok (.lmul, 1) := by decide +kernel
theorem dX0_wideSum_157 : decode cX0_wideSum 157 = .ok (.lstore 6, 2) := by decide +kernel
theorem dX0_wideSum_159 : decode cX0_wideSum 159 = .ok (.iinc 8 1, 3) := by decide +kernel
theorem dX0_wideSum_162 : decode cX0_wideSum 162 = .ok (.goto (-34), 3) := by decide +kernel
theorem dX0_wideSum_165 : decode cX0_wideSum 165 = .ok (.lload 6, 2) := by decide +kernel
theorem dX0_wideSum_167 : decode cX0_wideSum 167 = .ok (.invokestatic 130, 3) := by decide +kernel
theorem dX0_wideSum_170 : decode cX0_wideSum 170 = .ok (.lreturn, 1) := by decide +kernel
set_option maxRecDepth 20000 in
theorem ggX0_wideOfLanes_X0_longWord : GoodIn wsX0_wideOfLanes wsX0_longWord := goodIn_r _ [7, 8, 9, 10, 6, 11, 12, 13, 14, 15, 16, 17, 18, 29, 30, 31, 32, 33] (by decide +kernel) (by decide +kernel)
set_option maxRecDepth 20000 in
theorem gX0_wideOfLanes_X0_longWord : GoodIn wsX0_wideOfLanes (wsV RX0 111 RX0 yX0_longWord wsX0_longWord) := goodIn_app (goodIn_of _ (by decide +kernel)) ggX0_wideOfLanes_X0_longWord
set_option maxRecDepth 20000 in
theorem ggX0_wideOfLanes_X0_wideLane : GoodIn wsX0_wideOfLanes wsX0_wideLane := goodIn_r _ [21, 2, 1, 22, 23, 6, 24] (by decide +kernel) (by decide +kernel)
set_option maxRecDepth 20000 in
theorem gX0_wideOfLanes_X0_wideLane : GoodIn wsX0_wideOfLanes (va_wsS RX0 114 yX0_wideLane wsX0_wideLane) := goodIn_app (goodIn_of _ (by decide +kernel)) ggX0_wideOfLanes_X0_wideLane
set_option maxRecDepth 20000 in
theorem ggX0_wideOfLanes_X0_rotatedLong : GoodIn wsX0_wideOfLanes wsX0_rotatedLong := goodIn_r _ [24] (by decide +kernel) (by decide +kernel)
set_option maxRecDepth 20000 in
theorem gX0_wideOfLanes_X0_rotatedLong : GoodIn wsX0_wideOfLanes (va_wsS RX0 118 yX0_rotatedLong wsX0_rotatedLong) := goodIn_app (goodIn_of _ (by decide +kernel)) ggX0_wideOfLanes_X0_rotatedLong
set_option maxRecDepth 20000 in
theorem ggX0_wideOfLanes_X0_withLane : GoodIn wsX0_wideOfLanes wsX0_withLane := goodIn_r _ [27, 1, 28, 19, 20, 6, 21, 2, 22, 23, 24] (by decide +kernel) (by decide +kernel)
set_option maxRecDepth 20000 in
theorem gX0_wideOfLanes_X0_withLane : GoodIn wsX0_wideOfLanes (va_wsS RX0 134 yX0_withLane wsX0_withLane) := goodIn_app (goodIn_of _ (by decide +kernel)) ggX0_wideOfLanes_X0_withLane
theorem dX0_wideOfLanes_0 : decode cX0_wideOfLanes 0 = .ok (.lload_n 3, 1) := by decide +kernel
theorem dX0_wideOfLanes_1 : decode cX0_wideOfLanes 1 = .ok (.ldc2_w 122, 3) := by decide +kernel
theorem dX0_wideOfLanes_4 : decode cX0_wideOfLanes 4 = .ok (.ladd, 1) := by decide +kernel
theorem dX0_wideOfLanes_5 : decode cX0_wideOfLanes 5 = .ok (.ldc2_w 126, 3) := by decide +kernel
theorem dX0_wideOfLanes_8 : decode cX0_wideOfLanes 8 = .ok (.ladd, 1) := by decide +kernel
theorem dX0_wideOfLanes_9 : decode cX0_wideOfLanes 9 = .ok (.lstore 5, 2) := by decide +kernel
theorem dX0_wideOfLanes_11 : decode cX0_wideOfLanes 11 = .ok (.lload_n 3, 1) := by decide +kernel
theorem dX0_wideOfLanes_12 : decode cX0_wideOfLanes 12 = .ok (.ldc2_w 126, 3) := by decide +kernel
theorem dX0_wideOfLanes_15 : decode cX0_wideOfLanes 15 = .ok (.ladd, 1) := by decide +kernel
theorem dX0_wideOfLanes_16 : decode cX0_wideOfLanes 16 = .ok (.lstore 7, 2) := by decide +kernel
theorem dX0_wideOfLanes_18 : decode cX0_wideOfLanes 18 = .ok (.lload_n 3, 1) := by decide +kernel
theorem dX0_wideOfLanes_19 : decode cX0_wideOfLanes 19 = .ok (.lstore 9, 2) := by decide +kernel
theorem dX0_wideOfLanes_21 : decode cX0_wideOfLanes 21 = .ok (.lload_n 3, 1) := by decide +kernel
theorem dX0_wideOfLanes_22 : decode cX0_wideOfLanes 22 = .ok (.ldc2_w 122, 3) := by decide +kernel
theorem dX0_wideOfLanes_25 : decode cX0_wideOfLanes 25 = .ok (.lsub, 1) := by decide +kernel
theorem dX0_wideOfLanes_26 : decode cX0_wideOfLanes 26 = .ok (.lstore 11, 2) := by decide +kernel
theorem dX0_wideOfLanes_28 : decode cX0_wideOfLanes 28 = .ok (.iload_n 1, 1) := by decide +kernel
theorem dX0_wideOfLanes_29 : decode cX0_wideOfLanes 29 = .ok (.istore 13, 2) := by decide +kernel
theorem dX0_wideOfLanes_31 : decode cX0_wideOfLanes 31 = .ok (.iload_n 2, 1) := by decide +kernel
theorem dX0_wideOfLanes_32 : decode cX0_wideOfLanes 32 = .ok (.iload 13, 2) := by decide +kernel
theorem dX0_wideOfLanes_34 : decode cX0_wideOfLanes 34 = .ok (.isub, 1) := by decide +kernel
theorem dX0_wideOfLanes_35 : decode cX0_wideOfLanes 35 = .ok (.bipush 32, 2) := by decide +kernel
theorem dX0_wideOfLanes_37 : decode cX0_wideOfLanes 37 = .ok (.if_icmp .lt 70, 3) := by decide +kernel
theorem dX0_wideOfLanes_40 : decode cX0_wideOfLanes 40 = .ok (.lload 5, 2) := by decide +kernel
theorem dX0_wideOfLanes_42 : decode cX0_wideOfLanes 42 = .ok (.aload_n 0, 1) := by decide +kernel
theorem dX0_wideOfLanes_43 : decode cX0_wideOfLanes 43 = .ok (.iload 13, 2) := by decide +kernel
theorem dX0_wideOfLanes_45 : decode cX0_wideOfLanes 45 = .ok (.invokevirtual 111, 3) := by decide +kernel
theorem dX0_wideOfLanes_48 : decode cX0_wideOfLanes 48 = .ok (.invokestatic 114, 3) := by decide +kernel
theorem dX0_wideOfLanes_51 : decode cX0_wideOfLanes 51 = .ok (.lstore 5, 2) := by decide +kernel
theorem dX0_wideOfLanes_53 : decode cX0_wideOfLanes 53 = .ok (.lload 7, 2) := by decide +kernel
theorem dX0_wideOfLanes_55 : decode cX0_wideOfLanes 55 = .ok (.aload_n 0, 1) := by decide +kernel
theorem dX0_wideOfLanes_56 : decode cX0_wideOfLanes 56 = .ok (.iload 13, 2) := by decide +kernel
theorem dX0_wideOfLanes_58 : decode cX0_wideOfLanes 58 = .ok (.bipush 8, 2) := by decide +kernel
theorem dX0_wideOfLanes_60 : decode cX0_wideOfLanes 60 = .ok (.iadd, 1) := by decide +kernel
theorem dX0_wideOfLanes_61 : decode cX0_wideOfLanes 61 = .ok (.invokevirtual 111, 3) := by decide +kernel
theorem dX0_wideOfLanes_64 : decode cX0_wideOfLanes 64 = .ok (.invokestatic 114, 3) := by decide +kernel
theorem dX0_wideOfLanes_67 : decode cX0_wideOfLanes 67 = .ok (.lstore 7, 2) := by decide +kernel
theorem dX0_wideOfLanes_69 : decode cX0_wideOfLanes 69 = .ok (.lload 9, 2) := by decide +kernel
theorem dX0_wideOfLanes_71 : decode cX0_wideOfLanes 71 = .ok (.aload_n 0, 1) := by decide +kernel
theorem dX0_wideOfLanes_72 : decode cX0_wideOfLanes 72 = .ok (.iload 13, 2) := by decide +kernel
theorem dX0_wideOfLanes_74 : decode cX0_wideOfLanes 74 = .ok (.bipush 16, 2) := by decide +kernel
theorem dX0_wideOfLanes_76 : decode cX0_wideOfLanes 76 = .ok (.iadd, 1) := by decide +kernel
theorem dX0_wideOfLanes_77 : decode cX0_wideOfLanes 77 = .ok (.invokevirtual 111, 3) := by decide +kernel
theorem dX0_wideOfLanes_80 : decode cX0_wideOfLanes 80 = .ok (.invokestatic 114, 3) := by decide +kernel
theorem dX0_wideOfLanes_83 : decode cX0_wideOfLanes 83 = .ok (.lstore 9, 2) := by decide +kernel
theorem dX0_wideOfLanes_85 : decode cX0_wideOfLanes 85 = .ok (.lload 11, 2) := by decide +kernel
theorem dX0_wideOfLanes_87 : decode cX0_wideOfLanes 87 = .ok (.aload_n 0, 1) := by decide +kernel
theorem dX0_wideOfLanes_88 : decode cX0_wideOfLanes 88 = .ok (.iload 13, 2) := by decide +kernel
theorem dX0_wideOfLanes_90 : decode cX0_wideOfLanes 90 = .ok (.bipush 24, 2) := by decide +kernel
theorem dX0_wideOfLanes_92 : decode cX0_wideOfLanes 92 = .ok (.iadd, 1) := by decide +kernel
theorem dX0_wideOfLanes_93 : decode cX0_wideOfLanes 93 = .ok (.invokevirtual 111, 3) := by decide +kernel
theorem dX0_wideOfLanes_96 : decode cX0_wideOfLanes 96 = .ok (.invokestatic 114, 3) := by decide +kernel
theorem dX0_wideOfLanes_99 : decode cX0_wideOfLanes 99 = .ok (.lstore 11, 2) := by decide +kernel
theorem dX0_wideOfLanes_101 : decode cX0_wideOfLanes 101 = .ok (.iinc 13 32, 3) := by decide +kernel
theorem dX0_wideOfLanes_104 : decode cX0_wideOfLanes 104 = .ok (.goto (-73), 3) := by decide +kernel
theorem dX0_wideOfLanes_107 : decode cX0_wideOfLanes 107 = .ok (.lload 5, 2) := by decide +kernel
theorem dX0_wideOfLanes_109 : decode cX0_wideOfLanes 109 = .ok (.iconst 1, 1) := by decide +kernel
theorem dX0_wideOfLanes_110 : decode cX0_wideOfLanes 110 = .ok (.invokestatic 118, 3) := by decide +kernel
theorem dX0_wideOfLanes_113 : decode cX0_wideOfLanes 113 = .ok (.lload 7, 2) := by decide +kernel
theorem dX0_wideOfLanes_115 : decode cX0_wideOfLanes 115 = .ok (.bipush 7, 2) := by decide +kernel
theorem dX0_wideOfLanes_117 : decode cX0_wideOfLanes 117 = .ok (.invokestatic 118, 3) := by decide +kernel
theorem dX0_wideOfLanes_120 : decode cX0_wideOfLanes 120 = .ok (.ladd, 1) := by decide +kernel
theorem dX0_wideOfLanes_121 : decode cX0_wideOfLanes 121 = .ok (.lload 9, 2) := by decide +kernel
theorem dX0_wideOfLanes_123 : decode cX0_wideOfLanes 123 = .ok (.bipush 12, 2) := by decide +kernel
theorem dX0_wideOfLanes_125 : decode cX0_wideOfLanes 125 = .ok (.invokestatic 118, 3) := by decide +kernel
theorem dX0_wideOfLanes_128 : decode cX0_wideOfLanes 128 = .ok (.ladd, 1) := by decide +kernel
theorem dX0_wideOfLanes_129 : decode cX0_wideOfLanes 129 = .ok (.lload 11, 2) := by decide +kernel
theorem dX0_wideOfLanes_131 : decode cX0_wideOfLanes 131 = .ok (.bipush 18, 2) := by decide +kernel
theorem dX0_wideOfLanes_133 : decode cX0_wideOfLanes 133 = .ok (.invokestatic 118, 3) := by decide +kernel
theorem dX0_wideOfLanes_136 : decode cX0_wideOfLanes 136 = .ok (.ladd, 1) := by decide +kernel
theorem dX0_wideOfLanes_137 : decode cX0_wideOfLanes 137 = .ok (.lstore 13, 2) := by decide +kernel
theorem dX0_wideOfLanes_139 : decode cX0_wideOfLanes 139 = .ok (.lload 13, 2) := by decide +kernel
theorem dX0_wideOfLanes_141 : decode cX0_wideOfLanes 141 = .ok (.lload 5, 2) := by decide +kernel
theorem dX0_wideOfLanes_143 : decode cX0_wideOfLanes 143 = .ok (.invokestatic 134, 3) := by decide +kernel
theorem dX0_wideOfLanes_146 : decode cX0_wideOfLanes 146 = .ok (.lstore 13, 2) := by decide +kernel
theorem dX0_wideOfLanes_148 : decode cX0_wideOfLanes 148 = .ok (.lload 13, 2) := by decide +kernel
theorem dX0_wideOfLanes_150 : decode cX0_wideOfLanes 150 = .ok (.lload 7, 2) := by decide +kernel
theorem dX0_wideOfLanes_152 : decode cX0_wideOfLanes 152 = .ok (.invokestatic 134, 3) := by decide +kernel
theorem dX0_wideOfLanes_155 : decode cX0_wideOfLanes 155 = .ok (.lstore 13, 2) := by decide +kernel
theorem dX0_wideOfLanes_157 : decode cX0_wideOfLanes 157 = .ok (.lload 13, 2) := by decide +kernel
theorem dX0_wideOfLanes_159 : decode cX0_wideOfLanes 159 = .ok (.lload 9, 2) := by decide +kernel
theorem dX0_wideOfLanes_161 : decode cX0_wideOfLanes 161 = .ok (.invokestatic 134, 3) := by decide +kernel
theorem dX0_wideOfLanes_164 : decode cX0_wideOfLanes 164 = .ok (.lstore 13, 2) := by decide +kernel
theorem dX0_wideOfLanes_166 : decode cX0_wideOfLanes 166 = .ok (.lload 13, 2) := by decide +kernel
theorem dX0_wideOfLanes_168 : decode cX0_wideOfLanes 168 = .ok (.lload 11, 2) := by decide +kernel
theorem dX0_wideOfLanes_170 : decode cX0_wideOfLanes 170 = .ok (.invokestatic 134, 3) := by decide +kernel
theorem dX0_wideOfLanes_173 : decode cX0_wideOfLanes 173 = .ok (.lreturn, 1) := by decide +kernel
set_option maxRecDepth 20000 in
theorem ggX0_wideLane_X0_rotatedLong : GoodIn wsX0_wideLane wsX0_rotatedLong := goodIn_r _ [6] (by decide +kernel) (by decide +kernel)
set_option maxRecDepth 20000 in
theorem gX0_wideLane_X0_rotatedLong : GoodIn wsX0_wideLane (va_wsS RX0 118 yX0_rotatedLong wsX0_rotatedLong) := goodIn_app (goodIn_of _ (by decide +kernel)) ggX0_wideLane_X0_rotatedLong
theorem dX0_wideLane_0 : decode cX0_wideLane 0 = .ok (.lload_n 0, 1) := by decide +kernel
theorem dX0_wideLane_1 : decode cX0_wideLane 1 = .ok (.lload_n 2, 1) := by decide +kernel
theorem dX0_wideLane_2 : decode cX0_wideLane 2 = .ok (.ldc2_w 126, 3) := by decide +kernel
theorem dX0_wideLane_5 : decode cX0_wideLane 5 = .ok (.lmul, 1) := by decide +kernel
theorem dX0_wideLane_6 : decode cX0_wideLane 6 = .ok (.ladd, 1) := by decide +kernel
theorem dX0_wideLane_7 : decode cX0_wideLane 7 = .ok (.bipush 31, 2) := by decide +kernel
theorem dX0_wideLane_9 : decode cX0_wideLane 9 = .ok (.invokestatic 118, 3) := by decide +kernel
theorem dX0_wideLane_12 : decode cX0_wideLane 12 = .ok (.ldc2_w 122, 3) := by decide +kernel
theorem dX0_wideLane_15 : decode cX0_wideLane 15 = .ok (.lmul, 1) := by decide +kernel
theorem dX0_wideLane_16 : decode cX0_wideLane 16 = .ok (.lreturn, 1) := by decide +kernel
set_option maxRecDepth 20000 in
theorem ggX0_withLane_X0_wideLane : GoodIn wsX0_withLane wsX0_wideLane := goodIn_r _ [6, 7, 1, 8, 9, 5, 10] (by decide +kernel) (by decide +kernel)
set_option maxRecDepth 20000 in
theorem gX0_withLane_X0_wideLane : GoodIn wsX0_withLane (va_wsS RX0 114 yX0_wideLane wsX0_wideLane) := goodIn_app (goodIn_of _ (by decide +kernel)) ggX0_withLane_X0_wideLane
theorem dX0_withLane_0 : decode cX0_withLane 0 = .ok (.lload_n 0, 1) := by decide +kernel
theorem dX0_withLane_1 : decode cX0_withLane 1 = .ok (.lconst 0, 1) := by decide +kernel
theorem dX0_withLane_2 : decode cX0_withLane 2 = .ok (.lload_n 2, 1) := by decide +kernel
theorem dX0_withLane_3 : decode cX0_withLane 3 = .ok (.invokestatic 114, 3) := by decide +kernel
theorem dX0_withLane_6 : decode cX0_withLane 6 = .ok (.lxor, 1) := by decide +kernel
theorem dX0_withLane_7 : decode cX0_withLane 7 = .ok (.ldc2_w 122, 3) := by decide +kernel
theorem dX0_withLane_10 : decode cX0_withLane 10 = .ok (.lmul, 1) := by decide +kernel
theorem dX0_withLane_11 : decode cX0_withLane 11 = .ok (.ldc2_w 124, 3) := by decide +kernel
theorem dX0_withLane_14 : decode cX0_withLane 14 = .ok (.ladd, 1) := by decide +kernel
theorem dX0_withLane_15 : decode cX0_withLane 15 = .ok (.lreturn, 1) := by decide +kernel
theorem dX0_wideStirred_0 : decode cX0_wideStirred 0 = .ok (.lload_n 0, 1) := by decide +kernel
theorem dX0_wideStirred_1 : decode cX0_wideStirred 1 = .ok (.lload_n 0, 1) := by decide +kernel
theorem dX0_wideStirred_2 : decode cX0_wideStirred 2 = .ok (.bipush 33, 2) := by decide +kernel
theorem dX0_wideStirred_4 : decode cX0_wideStirred 4 = .ok (.lushr, 1) := by decide +kernel
theorem dX0_wideStirred_5 : decode cX0_wideStirred 5 = .ok (.lxor, 1) := by decide +kernel
theorem dX0_wideStirred_6 : decode cX0_wideStirred 6 = .ok (.ldc2_w 126, 3) := by decide +kernel
theorem dX0_wideStirred_9 : decode cX0_wideStirred 9 = .ok (.lmul, 1) := by decide +kernel
theorem dX0_wideStirred_10 : decode cX0_wideStirred 10 = .ok (.lstore_n 0, 1) := by decide +kernel
theorem dX0_wideStirred_11 : decode cX0_wideStirred 11 = .ok (.lload_n 0, 1) := by decide +kernel
theorem dX0_wideStirred_12 : decode cX0_wideStirred 12 = .ok (.lload_n 0, 1) := by decide +kernel
theorem dX0_wideStirred_13 : decode cX0_wideStirred 13 = .ok (.bipush 29, 2) := by decide +kernel
theorem dX0_wideStirred_15 : decode cX0_wideStirred 15 = .ok (.lushr, 1) := by decide +kernel
theorem dX0_wideStirred_16 : decode cX0_wideStirred 16 = .ok (.lxor, 1) := by decide +kernel
theorem dX0_wideStirred_17 : decode cX0_wideStirred 17 = .ok (.ldc2_w 128, 3) := by decide +kernel
theorem dX0_wideStirred_20 : decode cX0_wideStirred 20 = .ok (.lmul, 1) := by decide +kernel
theorem dX0_wideStirred_21 : decode cX0_wideStirred 21 = .ok (.lstore_n 0, 1) := by decide +kernel
theorem dX0_wideStirred_22 : decode cX0_wideStirred 22 = .ok (.lload_n 0, 1) := by decide +kernel
theorem dX0_wideStirred_23 : decode cX0_wideStirred 23 = .ok (.lload_n 0, 1) := by decide +kernel
theorem dX0_wideStirred_24 : decode cX0_wideStirred 24 = .ok (.bipush 32, 2) := by decide +kernel
theorem dX0_wideStirred_26 : decode cX0_wideStirred 26 = .ok (.lushr, 1) := by decide +kernel
theorem dX0_wideStirred_27 : decode cX0_wideStirred 27 = .ok (.lxor, 1) := by decide +kernel
theorem dX0_wideStirred_28 : decode cX0_wideStirred 28 = .ok (.lreturn, 1) := by decide +kernel
set_option maxRecDepth 20000 in
theorem ggX0_polySum_X0_byteAt : GoodIn wsX0_polySum wsX0_byteAt := goodIn_r _ [6, 7, 8, 9, 10, 11, 12, 13] (by decide +kernel) (by decide +kernel)
set_option maxRecDepth 20000 in
theorem gX0_polySum_X0_byteAt : GoodIn wsX0_polySum (wsV RX0 37 RX0 yX0_byteAt wsX0_byteAt) := goodIn_app (goodIn_of _ (by decide +kernel)) ggX0_polySum_X0_byteAt
theorem dX0_polySum_0 : decode cX0_polySum 0 = .ok (.iconst (-1), 1) := by decide +kernel
theorem dX0_polySum_1 : decode cX0_polySum 1 = .ok (.istore_n 3, 1) := by decide +kernel
theorem dX0_polySum_2 : decode cX0_polySum 2 = .ok (.iload_n 1, 1) := by decide +kernel
theorem dX0_polySum_3 : decode cX0_polySum 3 = .ok (.istore 4, 2) := by decide +kernel
theorem dX0_polySum_5 : decode cX0_polySum 5 = .ok (.iload 4, 2) := by decide +kernel
theorem dX0_polySum_7 : decode cX0_polySum 7 = .ok (.iload_n 2, 1) := by decide +kernel
theorem dX0_polySum_8 : decode cX0_polySum 8 = .ok (.if_icmp .ge 32, 3) := by decide +kernel
theorem dX0_polySum_11 : decode cX0_polySum 11 = .ok (.iload_n 3, 1) := by decide +kernel
theorem dX0_polySum_12 : decode cX0_polySum 12 = .ok (.bipush 8, 2) := by decide +kernel
theorem dX0_polySum_14 : decode cX0_polySum 14 = .ok (.iushr, 1) := by decide +kernel
theorem dX0_polySum_15 : decode cX0_polySum 15 = .ok (.aload_n 0, 1) := by decide +kernel
theorem dX0_polySum_16 : decode cX0_polySum 16 = .ok (.getfield 14, 3) := by decide +kernel
theorem dX0_polySum_19 : decode cX0_polySum 19 = .ok (.iload_n 3, 1) := by decide +kernel
theorem dX0_polySum_20 : decode cX0_polySum 20 = .ok (.aload_n 0, 1) := by decide +kernel
theorem dX0_polySum_21 : decode cX0_polySum 21 = .ok (.iload 4, 2) := by decide +kernel
theorem dX0_polySum_23 : decode cX0_polySum 23 = .ok (.invokevirtual 37, 3) := by decide +kernel
theorem dX0_polySum_26 : decode cX0_polySum 26 = .ok (.ixor, 1) := by decide +kernel
theorem dX0_polySum_27 : decode cX0_polySum 27 = .ok (.sipush 255, 3) := by decide +kernel
theorem dX0_polySum_30 : decode cX0_polySum 30 = .ok (.iand, 1) := by decide +kernel
theorem dX0_polySum_31 : decode cX0_polySum 31 = .ok (.iaload, 1) := by decide +kernel
theorem dX0_polySum_32 : decode cX0_polySum 32 = .ok (.ixor, 1) := by decide +kernel
theorem dX0_polySum_33 : decode cX0_polySum 33 = .ok (.istore_n 3, 1) := by decide +kernel
theorem dX0_polySum_34 : decode cX0_polySum 34 = .ok (.iinc 4 1, 3) := by decide +kernel
theorem dX0_polySum_37 : decode cX0_polySum 37 = .ok (.goto (-32), 3) := by decide +kernel
theorem dX0_polySum_40 : decode cX0_polySum 40 = .ok (.iload_n 3, 1) := by decide +kernel
theorem dX0_polySum_41 : decode cX0_polySum 41 = .ok (.iconst (-1), 1) := by decide +kernel
theorem dX0_polySum_42 : decode cX0_polySum 42 = .ok (.ixor, 1) := by decide +kernel
theorem dX0_polySum_43 : decode cX0_polySum 43 = .ok (.ireturn, 1) := by decide +kernel
theorem dX0_movedOn_0 : decode cX0_movedOn 0 = .ok (.iconst 0, 1) := by decide +kernel
theorem dX0_movedOn_1 : decode cX0_movedOn 1 = .ok (.istore_n 2, 1) := by decide +kernel
theorem dX0_movedOn_2 : decode cX0_movedOn 2 = .ok (.iload_n 2, 1) := by decide +kernel
theorem dX0_movedOn_3 : decode cX0_movedOn 3 = .ok (.iload_n 1, 1) := by decide +kernel
theorem dX0_movedOn_4 : decode cX0_movedOn 4 = .ok (.if_icmp .ge 28, 3) := by decide +kernel
theorem dX0_movedOn_7 : decode cX0_movedOn 7 = .ok (.iload_n 0, 1) := by decide +kernel
theorem dX0_movedOn_8 : decode cX0_movedOn 8 = .ok (.iconst 1, 1) := by decide +kernel
theorem dX0_movedOn_9 : decode cX0_movedOn 9 = .ok (.iand, 1) := by decide +kernel
theorem dX0_movedOn_10 : decode cX0_movedOn 10 = .ok (.ifCond .eq 12, 3) := by decide +kernel
theorem dX0_movedOn_13 : decode cX0_movedOn 13 = .ok (.iload_n 0, 1) := by decide +kernel
theorem dX0_movedOn_14 : decode cX0_movedOn 14 = .ok (.iconst 1, 1) := by decide +kernel
theorem dX0_movedOn_15 : decode cX0_movedOn 15 = .ok (.iushr, 1) := by decide +kernel
theorem dX0_movedOn_16 : decode cX0_movedOn 16 = .ok (.ldc 137, 2) := by decide +kernel
theorem dX0_movedOn_18 : decode cX0_movedOn 18 = .ok (.ixor, 1) := by decide +kernel
theorem dX0_movedOn_19 : decode cX0_movedOn 19 = .ok (.goto 6, 3) := by decide +kernel
theorem dX0_movedOn_22 : decode cX0_movedOn 22 = .ok (.iload_n 0, 1) := by decide +kernel
theorem dX0_movedOn_23 : decode cX0_movedOn 23 = .ok (.iconst 1, 1) := by decide +kernel
theorem dX0_movedOn_24 : decode cX0_movedOn 24 = .ok (.iushr, 1) := by decide +kernel
theorem dX0_movedOn_25 : decode cX0_movedOn 25 = .ok (.istore_n 0, 1) := by decide +kernel
theorem dX0_movedOn_26 : decode cX0_movedOn 26 = .ok (.iinc 2 1, 3) := by decide +kernel
theorem dX0_movedOn_29 : decode cX0_movedOn 29 = .ok (.goto (-27), 3) := by decide +kernel
theorem dX0_movedOn_32 : decode cX0_movedOn 32 = .ok (.iload_n 0, 1) := by decide +kernel
theorem dX0_movedOn_33 : decode cX0_movedOn 33 = .ok (.ireturn, 1) := by decide +kernel
theorem dX0_movedBack_0 : decode cX0_movedBack 0 = .ok (.iconst 0, 1) := by decide +kernel
theorem dX0_movedBack_1 : decode cX0_movedBack 1 = .ok (.istore_n 2, 1) := by decide +kernel
theorem dX0_movedBack_2 : decode cX0_movedBack 2 = .ok (.iload_n 2, 1) := by decide +kernel
theorem dX0_movedBack_3 : decode cX0_movedBack 3 = .ok (.iload_n 1, 1) := by decide +kernel
theorem dX0_movedBack_4 : decode cX0_movedBack 4 = .ok (.if_icmp .ge 28, 3) := by decide +kernel
theorem dX0_movedBack_7 : decode cX0_movedBack 7 = .ok (.iload_n 0, 1) := by decide +kernel
theorem dX0_movedBack_8 : decode cX0_movedBack 8 = .ok (.ifCond .ge 14, 3) := by decide +kernel
theorem dX0_movedBack_11 : decode cX0_movedBack 11 = .ok (.iload_n 0, 1) := by decide +kernel
theorem dX0_movedBack_12 : decode cX0_movedBack 12 = .ok (.ldc 137, 2) := by decide +kernel
theorem dX0_movedBack_14 : decode cX0_movedBack 14 = .ok (.ixor, 1) := by decide +kernel
theorem dX0_movedBack_15 : decode cX0_movedBack 15 = .ok (.iconst 1, 1) := by decide +kernel
theorem dX0_movedBack_16 : decode cX0_movedBack 16 = .ok (.ishl, 1) := by decide +kernel
theorem dX0_movedBack_17 : decode cX0_movedBack 17 = .ok (.iconst 1, 1) := by decide +kernel
theorem dX0_movedBack_18 : decode cX0_movedBack 18 = .ok (.ior, 1) := by decide +kernel
theorem dX0_movedBack_19 : decode cX0_movedBack 19 = .ok (.goto 6, 3) := by decide +kernel
theorem dX0_movedBack_22 : decode cX0_movedBack 22 = .ok (.iload_n 0, 1) := by decide +kernel
theorem dX0_movedBack_23 : decode cX0_movedBack 23 = .ok (.iconst 1, 1) := by decide +kernel
theorem dX0_movedBack_24 : decode cX0_movedBack 24 = .ok (.ishl, 1) := by decide +kernel
theorem dX0_movedBack_25 : decode cX0_movedBack 25 = .ok (.istore_n 0, 1) := by decide +kernel
theorem dX0_movedBack_26 : decode cX0_movedBack 26 = .ok (.iinc 2 1, 3) := by decide +kernel
theorem dX0_movedBack_29 : decode cX0_movedBack 29 = .ok (.goto (-27), 3) := by decide +kernel
theorem dX0_movedBack_32 : decode cX0_movedBack 32 = .ok (.iload_n 0, 1) := by decide +kernel
theorem dX0_movedBack_33 : decode cX0_movedBack 33 = .ok (.ireturn, 1) := by decide +kernel
set_option maxRecDepth 20000 in
theorem ggX0_product_X0_movedOn : GoodIn wsX0_product wsX0_movedOn := goodIn_r _ [4, 5] (by decide +kernel) (by decide +kernel)
set_option maxRecDepth 20000 in
theorem gX0_product_X0_movedOn : GoodIn wsX0_product (va_wsS RX0 18 yX0_movedOn wsX0_movedOn) := goodIn_app (goodIn_of _ (by decide +kernel)) ggX0_product_X0_movedOn
theorem dX0_product_0 : decode cX0_product 0 = .ok (.iconst 0, 1) := by decide +kernel
theorem dX0_product_1 : decode cX0_product 1 = .ok (.istore_n 2, 1) := by decide +kernel
theorem dX0_product_2 : decode cX0_product 2 = .ok (.bipush 31, 2) := by decide +kernel
theorem dX0_product_4 : decode cX0_product 4 = .ok (.istore_n 3, 1) := by decide +kernel
theorem dX0_product_5 : decode cX0_product 5 = .ok (.iload_n 3, 1) := by decide +kernel
theorem dX0_product_6 : decode cX0_product 6 = .ok (.ifCond .lt 27, 3) := by decide +kernel
theorem dX0_product_9 : decode cX0_product 9 = .ok (.iload_n 0, 1) := by decide +kernel
theorem dX0_product_10 : decode cX0_product 10 = .ok (.iload_n 3, 1) := by decide +kernel
theorem dX0_product_11 : decode cX0_product 11 = .ok (.iushr, 1) := by decide +kernel
theorem dX0_product_12 : decode cX0_product 12 = .ok (.iconst 1, 1) := by decide +kernel
theorem dX0_product_13 : decode cX0_product 13 = .ok (.iand, 1) := by decide +kernel
theorem dX0_product_14 : decode cX0_product 14 = .ok (.ifCond .eq 7, 3) := by decide +kernel
theorem dX0_product_17 : decode cX0_product 17 = .ok (.iload_n 2, 1) := by decide +kernel
theorem dX0_product_18 : decode cX0_product 18 = .ok (.iload_n 1, 1) := by decide +kernel
theorem dX0_product_19 : decode cX0_product 19 = .ok (.ixor, 1) := by decide +kernel
theorem dX0_product_20 : decode cX0_product 20 = .ok (.istore_n 2, 1) := by decide +kernel
theorem dX0_product_21 : decode cX0_product 21 = .ok (.iload_n 1, 1) := by decide +kernel
theorem dX0_product_22 : decode cX0_product 22 = .ok (.iconst 1, 1) := by decide +kernel
theorem dX0_product_23 : decode cX0_product 23 = .ok (.invokestatic 18, 3) := by decide +kernel
theorem dX0_product_26 : decode cX0_product 26 = .ok (.istore_n 1, 1) := by decide +kernel
theorem dX0_product_27 : decode cX0_product 27 = .ok (.iinc 3 (-1), 3) := by decide +kernel
theorem dX0_product_30 : decode cX0_product 30 = .ok (.goto (-25), 3) := by decide +kernel
theorem dX0_product_33 : decode cX0_product 33 = .ok (.iload_n 2, 1) := by decide +kernel
theorem dX0_product_34 : decode cX0_product 34 = .ok (.ireturn, 1) := by decide +kernel
set_option maxRecDepth 20000 in
theorem ggX0_power_X0_product : GoodIn wsX0_power wsX0_product := goodIn_r _ [5, 6, 7, 4, 8, 9] (by decide +kernel) (by decide +kernel)
set_option maxRecDepth 20000 in
theorem gX0_power_X0_product : GoodIn wsX0_power (va_wsS RX0 65 yX0_product wsX0_product) := goodIn_app (goodIn_of _ (by decide +kernel)) ggX0_power_X0_product
theorem dX0_power_0 : decode cX0_power 0 = .ok (.ldc 60, 2) := by decide +kernel
theorem dX0_power_2 : decode cX0_power 2 = .ok (.istore_n 3, 1) := by decide +kernel
theorem dX0_power_3 : decode cX0_power 3 = .ok (.iconst 0, 1) := by decide +kernel
theorem dX0_power_4 : decode cX0_power 4 = .ok (.istore 4, 2) := by decide +kernel
theorem dX0_power_6 : decode cX0_power 6 = .ok (.iload 4, 2) := by decide +kernel
theorem dX0_power_8 : decode cX0_power 8 = .ok (.bipush 64, 2) := by decide +kernel
theorem dX0_power_10 : decode cX0_power 10 = .ok (.if_icmp .ge 32, 3) := by decide +kernel
theorem dX0_power_13 : decode cX0_power 13 = .ok (.lload_n 1, 1) := by decide +kernel
theorem dX0_power_14 : decode cX0_power 14 = .ok (.iload 4, 2) := by decide +kernel
theorem dX0_power_16 : decode cX0_power 16 = .ok (.lushr, 1) := by decide +kernel
theorem dX0_power_17 : decode cX0_power 17 = .ok (.lconst 1, 1) := by decide +kernel
theorem dX0_power_18 : decode cX0_power 18 = .ok (.land, 1) := by decide +kernel
theorem dX0_power_19 : decode cX0_power 19 = .ok (.lconst 0, 1) := by decide +kernel
theorem dX0_power_20 : decode cX0_power 20 = .ok (.lcmp, 1) := by decide +kernel
theorem dX0_power_21 : decode cX0_power 21 = .ok (.ifCond .eq 9, 3) := by decide +kernel
theorem dX0_power_24 : decode cX0_power 24 = .ok (.iload_n 3, 1) := by decide +kernel
theorem dX0_power_25 : decode cX0_power 25 = .ok (.iload_n 0, 1) := by decide +kernel
theorem dX0_power_26 : decode cX0_power 26 = .ok (.invokestatic 65, 3) := by decide +kernel
theorem dX0_power_29 : decode cX0_power 29 = .ok (.istore_n 3, 1) := by decide +kernel
theorem dX0_power_30 : decode cX0_power 30 = .ok (.iload_n 0, 1) := by decide +kernel
theorem dX0_power_31 : decode cX0_power 31 = .ok (.iload_n 0, 1) := by decide +kernel
theorem dX0_power_32 : decode cX0_power 32 = .ok (.invokestatic 65, 3) := by decide +kernel
theorem dX0_power_35 : decode cX0_power 35 = .ok (.istore_n 0, 1) := by decide +kernel
theorem dX0_power_36 : decode cX0_power 36 = .ok (.iinc 4 1, 3) := by decide +kernel
theorem dX0_power_39 : decode cX0_power 39 = .ok (.goto (-33), 3) := by decide +kernel
theorem dX0_power_42 : decode cX0_power 42 = .ok (.iload_n 3, 1) := by decide +kernel
theorem dX0_power_43 : decode cX0_power 43 = .ok (.ireturn, 1) := by decide +kernel
set_option maxRecDepth 20000 in
theorem ggX0_fourBetween_X0_movedBack : GoodIn wsX0_fourBetween wsX0_movedBack := goodIn_r _ [4, 5] (by decide +kernel) (by decide +kernel)
set_option maxRecDepth 20000 in
theorem gX0_fourBetween_X0_movedBack : GoodIn wsX0_fourBetween (va_wsS RX0 68 yX0_movedBack wsX0_movedBack) := goodIn_app (goodIn_of _ (by decide +kernel)) ggX0_fourBetween_X0_movedBack
set_option maxRecDepth 20000 in
theorem ggX0_fourBetween_X0_turnedRound : GoodIn wsX0_fourBetween wsX0_turnedRound := goodIn_r _ [8, 9] (by decide +kernel) (by decide +kernel)
set_option maxRecDepth 20000 in
theorem gX0_fourBetween_X0_turnedRound : GoodIn wsX0_fourBetween (va_wsS RX0 138 yX0_turnedRound wsX0_turnedRound) := goodIn_app (goodIn_of _ (by decide +kernel)) ggX0_fourBetween_X0_turnedRound
theorem dX0_fourBetween_0 : decode cX0_fourBetween 0 = .ok (.iload_n 0, 1) := by decide +kernel
theorem dX0_fourBetween_1 : decode cX0_fourBetween 1 = .ok (.iconst (-1), 1) := by decide +kernel
theorem dX0_fourBetween_2 : decode cX0_fourBetween 2 = .ok (.ixor, 1) := by decide +kernel
theorem dX0_fourBetween_3 : decode cX0_fourBetween 3 = .ok (.iload_n 1, 1) := by decide +kernel
theorem dX0_fourBetween_4 : decode cX0_fourBetween 4 = .ok (.iconst (-1), 1) := by decide +kernel
theorem dX0_fourBetween_5 : decode cX0_fourBetween 5 = .ok (.ixor, 1) := by decide +kernel
theorem dX0_fourBetween_6 : decode cX0_fourBetween 6 = .ok (.bipush 32, 2) := by decide +kernel
theorem dX0_fourBetween_8 : decode cX0_fourBetween 8 = .ok (.invokestatic 68, 3) := by decide +kernel
theorem dX0_fourBetween_11 : decode cX0_fourBetween 11 = .ok (.ixor, 1) := by decide +kernel
theorem dX0_fourBetween_12 : decode cX0_fourBetween 12 = .ok (.invokestatic 138, 3) := by decide +kernel
theorem dX0_fourBetween_15 : decode cX0_fourBetween 15 = .ok (.ireturn, 1) := by decide +kernel
theorem dX0_turnedRound_0 : decode cX0_turnedRound 0 = .ok (.iload_n 0, 1) := by decide +kernel
theorem dX0_turnedRound_1 : decode cX0_turnedRound 1 = .ok (.bipush 24, 2) := by decide +kernel
theorem dX0_turnedRound_3 : decode cX0_turnedRound 3 = .ok (.ishl, 1) := by decide +kernel
theorem dX0_turnedRound_4 : decode cX0_turnedRound 4 = .ok (.iload_n 0, 1) := by decide +kernel
theorem dX0_turnedRound_5 : decode cX0_turnedRound 5 = .ok (.ldc 141, 2) := by decide +kernel
theorem dX0_turnedRound_7 : decode cX0_turnedRound 7 = .ok (.iand, 1) := by decide +kernel
theorem dX0_turnedRound_8 : decode cX0_turnedRound 8 = .ok (.bipush 8, 2) := by decide +kernel
theorem dX0_turnedRound_10 : decode cX0_turnedRound 10 = .ok (.ishl, 1) := by decide +kernel
theorem dX0_turnedRound_11 : decode cX0_turnedRound 11 = .ok (.ior, 1) := by decide +kernel
theorem dX0_turnedRound_12 : decode cX0_turnedRound 12 = .ok (.iload_n 0, 1) := by decide +kernel
theorem dX0_turnedRound_13 : decode cX0_turnedRound 13 = .ok (.bipush 8, 2) := by decide +kernel
theorem dX0_turnedRound_15 : decode cX0_turnedRound 15 = .ok (.iushr, 1) := by decide +kernel
theorem dX0_turnedRound_16 : decode cX0_turnedRound 16 = .ok (.ldc 141, 2) := by decide +kernel
theorem dX0_turnedRound_18 : decode cX0_turnedRound 18 = .ok (.iand, 1) := by decide +kernel
theorem dX0_turnedRound_19 : decode cX0_turnedRound 19 = .ok (.ior, 1) := by decide +kernel
theorem dX0_turnedRound_20 : decode cX0_turnedRound 20 = .ok (.iload_n 0, 1) := by decide +kernel
theorem dX0_turnedRound_21 : decode cX0_turnedRound 21 = .ok (.bipush 24, 2) := by decide +kernel
theorem dX0_turnedRound_23 : decode cX0_turnedRound 23 = .ok (.iushr, 1) := by decide +kernel
theorem dX0_turnedRound_24 : decode cX0_turnedRound 24 = .ok (.ior, 1) := by decide +kernel
theorem dX0_turnedRound_25 : decode cX0_turnedRound 25 = .ok (.ireturn, 1) := by decide +kernel
theorem dX1_init_0 : decode cX1_init 0 = .ok (.aload_n 0, 1) := by decide +kernel
theorem dX1_init_1 : decode cX1_init 1 = .ok (.invokespecial 1, 3) := by decide +kernel
theorem dX1_init_4 : decode cX1_init 4 = .ok (.aload_n 0, 1) := by decide +kernel
theorem dX1_init_5 : decode cX1_init 5 = .ok (.ldc 7, 2) := by decide +kernel
theorem dX1_init_7 : decode cX1_init 7 = .ok (.newarray .byte, 2) := by decide +kernel
theorem dX1_init_9 : decode cX1_init 9 = .ok (.putfield 8, 3) := by decide +kernel
theorem dX1_init_12 : decode cX1_init 12 = .ok (.return_, 1) := by decide +kernel
theorem dX1_begin_0 : decode cX1_begin 0 = .ok (.aload_n 0, 1) := by decide +kernel
theorem dX1_begin_1 : decode cX1_begin 1 = .ok (.iconst 0, 1) := by decide +kernel
theorem dX1_begin_2 : decode cX1_begin 2 = .ok (.putfield 14, 3) := by decide +kernel
theorem dX1_begin_5 : decode cX1_begin 5 = .ok (.aload_n 0, 1) := by decide +kernel
theorem dX1_begin_6 : decode cX1_begin 6 = .ok (.iload_n 1, 1) := by decide +kernel
theorem dX1_begin_7 : decode cX1_begin 7 = .ok (.putfield 18, 3) := by decide +kernel
theorem dX1_begin_10 : decode cX1_begin 10 = .ok (.aload_n 0, 1) := by decide +kernel
theorem dX1_begin_11 : decode cX1_begin 11 = .ok (.lload_n 2, 1) := by decide +kernel
theorem dX1_begin_12 : decode cX1_begin 12 = .ok (.putfield 21, 3) := by decide +kernel
theorem dX1_begin_15 : decode cX1_begin 15 = .ok (.return_, 1) := by decide +kernel
theorem dX1_write_0 : decode cX1_write 0 = .ok (.iload_n 3, 1) := by decide +kernel
theorem dX1_write_1 : decode cX1_write 1 = .ok (.iconst 1, 1) := by decide +kernel
theorem dX1_write_2 : decode cX1_write 2 = .ok (.if_icmp .lt 20, 3) := by decide +kernel
theorem dX1_write_5 : decode cX1_write 5 = .ok (.iload_n 3, 1) := by decide +kernel
theorem dX1_write_6 : decode cX1_write 6 = .ok (.bipush 8, 2) := by decide +kernel
theorem dX1_write_8 : decode cX1_write 8 = .ok (.if_icmp .gt 14, 3) := by decide +kernel
theorem dX1_write_11 : decode cX1_write 11 = .ok (.aload_n 0, 1) := by decide +kernel
theorem dX1_write_12 : decode cX1_write 12 = .ok (.getfield 14, 3) := by decide +kernel
theorem dX1_write_15 : decode cX1_write 15 = .ok (.iload_n 3, 1) := by decide +kernel
theorem dX1_write_16 : decode cX1_write 16 = .ok (.iadd, 1) := by decide +kernel
theorem dX1_write_17 : decode cX1_write 17 = .ok (.ldc 7, 2) := by decide +kernel
theorem dX1_write_19 : decode cX1_write 19 = .ok (.if_icmp .le 5, 3) := by decide +kernel
theorem dX1_write_22 : decode cX1_write 22 = .ok (.iconst 0, 1) := by decide +kernel
theorem dX1_write_23 : decode cX1_write 23 = .ok (.ireturn, 1) := by decide +kernel
theorem dX1_write_24 : decode cX1_write 24 = .ok (.iconst 0, 1) := by decide +kernel
theorem dX1_write_25 : decode cX1_write 25 = .ok (.istore 4, 2) := by decide +kernel
theorem dX1_write_27 : decode cX1_write 27 = .ok (.iload 4, 2) := by decide +kernel
theorem dX1_write_29 : decode cX1_write 29 = .ok (.iload_n 3, 1) := by decide +kernel
theorem dX1_write_30 : decode cX1_write 30 = .ok (.if_icmp .ge 40, 3) := by decide +kernel
theorem dX1_write_33 : decode cX1_write 33 = .ok (.aload_n 0, 1) := by decide +kernel
theorem dX1_write_34 : decode cX1_write 34 = .ok (.getfield 8, 3) := by decide +kernel
theorem dX1_write_37 : decode cX1_write 37 = .ok (.aload_n 0, 1) := by decide +kernel
theorem dX1_write_38 : decode cX1_write 38 = .ok (.getfield 14, 3) := by decide +kernel
theorem dX1_write_41 : decode cX1_write 41 = .ok (.lload_n 1, 1) := by decide +kernel
theorem dX1_write_42 : decode cX1_write 42 = .ok (.bipush 56, 2) := by decide +kernel
theorem dX1_write_44 : decode cX1_write 44 = .ok (.bipush 8, 2) := by decide +kernel
theorem dX1_write_46 : decode cX1_write 46 = .ok (.iload 4, 2) := by decide +kernel
theorem dX1_write_48 : decode cX1_write 48 = .ok (.imul, 1) := by decide +kernel
theorem dX1_write_49 : decode cX1_write 49 = .ok (.isub, 1) := by decide +kernel
theorem dX1_write_50 : decode cX1_write 50 = .ok (.lushr, 1) := by decide +kernel
theorem dX1_write_51 : decode cX1_write 51 = .ok (.l2i, 1) := by decide +kernel
theorem dX1_write_52 : decode cX1_write 52 = .ok (.i2b, 1) := by decide +kernel
theorem dX1_write_53 : decode cX1_write 53 = .ok (.bastore, 1) := by decide +kernel
theorem dX1_write_54 : decode cX1_write 54 = .ok (.aload_n 0, 1) := by decide +kernel
theorem dX1_write_55 : decode cX1_write 55 = .ok (.dup, 1) := by decide +kernel
theorem dX1_write_56 : decode cX1_write 56 = .ok (.getfield 14, 3) := by decide +kernel
theorem dX1_write_59 : decode cX1_write 59 = .ok (.iconst 1, 1) := by decide +kernel
theorem dX1_write_60 : decode cX1_write 60 = .ok (.iadd, 1) := by decide +kernel
theorem dX1_write_61 : decode cX1_write 61 = .ok (.putfield 14, 3) := by decide +kernel
theorem dX1_write_64 : decode cX1_write 64 = .ok (.iinc 4 1, 3) := by decide +kernel
theorem dX1_write_67 : decode cX1_write 67 = .ok (.goto (-40), 3) := by decide +kernel
theorem dX1_write_70 : decode cX1_write 70 = .ok (.iconst 1, 1) := by decide +kernel
theorem dX1_write_71 : decode cX1_write 71 = .ok (.ireturn, 1) := by decide +kernel
theorem dX1_again_0 : decode cX1_again 0 = .ok (.iload_n 1, 1) := by decide +kernel
theorem dX1_again_1 : decode cX1_again 1 = .ok (.iconst 1, 1) := by decide +kernel
theorem dX1_again_2 : decode cX1_again 2 = .ok (.if_icmp .lt 33, 3) := by decide +kernel
theorem dX1_again_5 : decode cX1_again 5 = .ok (.iload_n 1, 1) := by decide +kernel
theorem dX1_again_6 : decode cX1_again 6 = .ok (.aload_n 0, 1) := by decide +kernel
theorem dX1_again_7 : decode cX1_again 7 = .ok (.getfield 14, 3) := by decide +kernel
theorem dX1_again_10 : decode cX1_again 10 = .ok (.if_icmp .gt 25, 3) := by decide +kernel
theorem dX1_again_13 : decode cX1_again 13 = .ok (.iload_n 2, 1) := by decide +kernel
theorem dX1_again_14 : decode cX1_again 14 = .ok (.ifCond .lt 21, 3) := by decide +kernel
theorem dX1_again_17 : decode cX1_again 17 = .ok (.aload_n 0, 1) := by decide +kernel
theorem dX1_again_18 : decode cX1_again 18 = .ok (.getfield 14, 3) := by decide +kernel
theorem dX1_again_21 : decode cX1_again 21 = .ok (.i2l, 1) := by decide +kernel
theorem dX1_again_22 : decode cX1_again 22 = .ok (.iload_n 1, 1) := by decide +kernel
theorem dX1_again_23 : decode cX1_again 23 = .ok (.i2l, 1) := by decide +kernel
theorem dX1_again_24 : decode cX1_again 24 = .ok (.iload_n 2, 1) := by decide +kernel
theorem dX1_again_25 : decode cX1_again 25 = .ok (.i2l, 1) := by decide +kernel
theorem dX1_again_26 : decode cX1_again 26 = .ok (.lmul, 1) := by decide +kernel
theorem dX1_again_27 : decode cX1_again 27 = .ok (.ladd, 1) := by decide +kernel
theorem dX1_again_28 : decode cX1_again 28 = .ok (.ldc2_w 25, 3) := by decide +kernel
theorem dX1_again_31 : decode cX1_again 31 = .ok (.lcmp, 1) := by decide +kernel
theorem dX1_again_32 : decode cX1_again 32 = .ok (.ifCond .le 5, 3) := by decide +kernel
theorem dX1_again_35 : decode cX1_again 35 = .ok (.iconst 0, 1) := by decide +kernel
theorem dX1_again_36 : decode cX1_again 36 = .ok (.ireturn, 1) := by decide +kernel
theorem dX1_again_37 : decode cX1_again 37 = .ok (.iload_n 1, 1) := by decide +kernel
theorem dX1_again_38 : decode cX1_again 38 = .ok (.iload_n 2, 1) := by decide +kernel
theorem dX1_again_39 : decode cX1_again 39 = .ok (.imul, 1) := by decide +kernel
theorem dX1_again_40 : decode cX1_again 40 = .ok (.istore_n 3, 1) := by decide +kernel
theorem dX1_again_41 : decode cX1_again 41 = .ok (.iconst 0, 1) := by decide +kernel
theorem dX1_again_42 : decode cX1_again 42 = .ok (.istore 4, 2) := by decide +kernel
theorem dX1_again_44 : decode cX1_again 44 = .ok (.iload 4, 2) := by decide +kernel
theorem dX1_again_46 : decode cX1_again 46 = .ok (.iload_n 3, 1) := by decide +kernel
theorem dX1_again_47 : decode cX1_again 47 = .ok (.if_icmp .ge 39, 3) := by decide +kernel
theorem dX1_again_50 : decode cX1_again 50 = .ok (.aload_n 0, 1) := by decide +kernel
theorem dX1_again_51 : decode cX1_again 51 = .ok (.getfield 8, 3) := by decide +kernel
theorem dX1_again_54 : decode cX1_again 54 = .ok (.aload_n 0, 1) := by decide +kernel
theorem dX1_again_55 : decode cX1_again 55 = .ok (.getfield 14, 3) := by decide +kernel
theorem dX1_again_58 : decode cX1_again 58 = .ok (.aload_n 0, 1) := by decide +kernel
theorem dX1_again_59 : decode cX1_again 59 = .ok (.getfield 8, 3) := by decide +kernel
theorem dX1_again_62 : decode cX1_again 62 = .ok (.aload_n 0, 1) := by decide +kernel
theorem dX1_again_63 : decode cX1_again 63 = .ok (.getfield 14, 3) := by decide +kernel
theorem dX1_again_66 : decode cX1_again 66 = .ok (.iload_n 1, 1) := by decide +kernel
theorem dX1_again_67 : decode cX1_again 67 = .ok (.isub, 1) := by decide +kernel
theorem dX1_again_68 : decode cX1_again 68 = .ok (.baload, 1) := by decide +kernel
theorem dX1_again_69 : decode cX1_again 69 = .ok (.bastore, 1) := by decide +kernel
theorem dX1_again_70 : decode cX1_again 70 = .ok (.aload_n 0, 1) := by decide +kernel
theorem dX1_again_71 : decode cX1_again 71 = .ok (.dup, 1) := by decide +kernel
theorem dX1_again_72 : decode cX1_again 72 = .ok (.getfield 14, 3) := by decide +kernel
theorem dX1_again_75 : decode cX1_again 75 = .ok (.iconst 1, 1) := by decide +kernel
theorem dX1_again_76 : decode cX1_again 76 = .ok (.iadd, 1) := by decide +kernel
theorem dX1_again_77 : decode cX1_again 77 = .ok (.putfield 14, 3) := by decide +kernel
theorem dX1_again_80 : decode cX1_again 80 = .ok (.iinc 4 1, 3) := by decide +kernel
theorem dX1_again_83 : decode cX1_again 83 = .ok (.goto (-39), 3) := by decide +kernel
theorem dX1_again_86 : decode cX1_again 86 = .ok (.iconst 1, 1) := by decide +kernel
theorem dX1_again_87 : decode cX1_again 87 = .ok (.ireturn, 1) := by decide +kernel
theorem dX1_size_0 : decode cX1_size 0 = .ok (.aload_n 0, 1) := by decide +kernel
theorem dX1_size_1 : decode cX1_size 1 = .ok (.getfield 14, 3) := by decide +kernel
theorem dX1_size_4 : decode cX1_size 4 = .ok (.ireturn, 1) := by decide +kernel
theorem dX1_at_0 : decode cX1_at 0 = .ok (.aload_n 0, 1) := by decide +kernel
theorem dX1_at_1 : decode cX1_at 1 = .ok (.getfield 8, 3) := by decide +kernel
theorem dX1_at_4 : decode cX1_at 4 = .ok (.iload_n 1, 1) := by decide +kernel
theorem dX1_at_5 : decode cX1_at 5 = .ok (.baload, 1) := by decide +kernel
theorem dX1_at_6 : decode cX1_at 6 = .ok (.sipush 255, 3) := by decide +kernel
theorem dX1_at_9 : decode cX1_at 9 = .ok (.iand, 1) := by decide +kernel
theorem dX1_at_10 : decode cX1_at 10 = .ok (.ireturn, 1) := by decide +kernel
theorem dX1_byteAt_0 : decode cX1_byteAt 0 = .ok (.iload_n 1, 1) := by decide +kernel
theorem dX1_byteAt_1 : decode cX1_byteAt 1 = .ok (.ifCond .lt 11, 3) := by decide +kernel
theorem dX1_byteAt_4 : decode cX1_byteAt 4 = .ok (.iload_n 1, 1) := by decide +kernel
theorem dX1_byteAt_5 : decode cX1_byteAt 5 = .ok (.aload_n 0, 1) := by decide +kernel
theorem dX1_byteAt_6 : decode cX1_byteAt 6 = .ok (.getfield 14, 3) := by decide +kernel
theorem dX1_byteAt_9 : decode cX1_byteAt 9 = .ok (.if_icmp .lt 7, 3) := by decide +kernel
theorem dX1_byteAt_12 : decode cX1_byteAt 12 = .ok (.iconst (-1), 1) := by decide +kernel
theorem dX1_byteAt_13 : decode cX1_byteAt 13 = .ok (.goto 8, 3) := by decide +kernel
theorem dX1_byteAt_16 : decode cX1_byteAt 16 = .ok (.aload_n 0, 1) := by decide +kernel
theorem dX1_byteAt_17 : decode cX1_byteAt 17 = .ok (.iload_n 1, 1) := by decide +kernel
theorem dX1_byteAt_18 : decode cX1_byteAt 18 = .ok (.invokevirtual 27, 3) := by decide +kernel
theorem dX1_byteAt_21 : decode cX1_byteAt 21 = .ok (.ireturn, 1) := by decide +kernel
set_option maxRecDepth 20000 in
theorem ggL_law_X0_init : GoodIn wsL_law wsX0_init := goodIn_r _ [8, 9, 10, 11, 12, 13, 14, 15, 16, 17, 18, 19, 20, 21, 2, 22, 23, 216, 217, 218, 219, 220] (by decide +kernel) (by decide +kernel)
set_option maxRecDepth 20000 in
theorem gL_law_X0_init : GoodIn wsL_law (wsX0_init) := ggL_law_X0_init
set_option maxRecDepth 20000 in
theorem ggL_law_X0_begin : GoodIn wsL_law wsX0_begin := goodIn_r _ [33, 17, 18, 19, 216, 217, 218, 219, 220] (by decide +kernel) (by decide +kernel)
set_option maxRecDepth 20000 in
theorem gL_law_X0_begin : GoodIn wsL_law (wsV RL 15 RX0 yX0_begin wsX0_begin) := goodIn_app (goodIn_of _ (by decide +kernel)) ggL_law_X0_begin
set_option maxRecDepth 20000 in
theorem ggL_law_X0_write : GoodIn wsL_law wsX0_write := goodIn_r _ [44, 12, 17, 45, 46, 47, 2, 48, 14, 216, 217, 218, 219, 220] (by decide +kernel) (by decide +kernel)
set_option maxRecDepth 20000 in
theorem gL_law_X0_write : GoodIn wsL_law (wsV RL 20 RX0 yX0_write wsX0_write) := goodIn_app (goodIn_of _ (by decide +kernel)) ggL_law_X0_write
set_option maxRecDepth 20000 in
theorem ggL_law_X0_again : GoodIn wsL_law wsX0_again := goodIn_r _ [56, 17, 12, 57, 58, 59, 2, 60, 14, 45, 46, 47, 48, 216, 217, 218, 219, 220] (by decide +kernel) (by decide +kernel)
set_option maxRecDepth 20000 in
theorem gL_law_X0_again : GoodIn wsL_law (wsV RL 25 RX0 yX0_again wsX0_again) := goodIn_app (goodIn_of _ (by decide +kernel)) ggL_law_X0_again
set_option maxRecDepth 20000 in
theorem ggL_law_X0_size : GoodIn wsL_law wsX0_size := goodIn_r _ [69, 17, 216, 217, 218, 219, 220] (by decide +kernel) (by decide +kernel)
set_option maxRecDepth 20000 in
theorem gL_law_X0_size : GoodIn wsL_law (wsV RL 30 RX0 yX0_size wsX0_size) := goodIn_app (goodIn_of _ (by decide +kernel)) ggL_law_X0_size
set_option maxRecDepth 20000 in
theorem ggL_law_X0_byteAt : GoodIn wsL_law wsX0_byteAt := goodIn_r _ [60, 17, 14, 216, 217, 218, 219, 220] (by decide +kernel) (by decide +kernel)
set_option maxRecDepth 20000 in
theorem gL_law_X0_byteAt : GoodIn wsL_law (wsV RL 35 RX0 yX0_byteAt wsX0_byteAt) := goodIn_app (goodIn_of _ (by decide +kernel)) ggL_law_X0_byteAt
set_option maxRecDepth 20000 in
theorem ggL_law_X0_narrow : GoodIn wsL_law wsX0_narrow := goodIn_r _ [86, 17, 18, 87, 88, 89, 2, 90, 91, 92, 93, 94, 95, 96, 97, 98, 99, 100, 101, 102, 103, 104, 14, 105, 106, 107, 108, 109, 110, 57, 58, 59, 60, 111, 112, 113, 216, 217, 218, 219, 220] (by decide +kernel) (by decide +kernel)
set_option maxRecDepth 20000 in
theorem gL_law_X0_narrow : GoodIn wsL_law (wsV RL 40 RX0 yX0_narrow wsX0_narrow) := goodIn_app (goodIn_of _ (by decide +kernel)) ggL_law_X0_narrow
set_option maxRecDepth 20000 in
theorem ggL_law_X0_wide : GoodIn wsL_law wsX0_wide := goodIn_r _ [117, 17, 19, 118, 119, 120, 2, 121, 122, 123, 124, 125, 126, 127, 128, 129, 130, 131, 132, 133, 134, 135, 136, 137, 138, 139, 100, 101, 102, 103, 104, 14, 140, 141, 142, 143, 144, 145, 146, 147, 148, 57, 58, 59, 60, 149, 150, 151, 216, 217, 218, 219, 220] (by decide +kernel) (by decide +kernel)
set_option maxRecDepth 20000 in
theorem gL_law_X0_wide : GoodIn wsL_law (wsV RL 44 RX0 yX0_wide wsX0_wide) := goodIn_app (goodIn_of _ (by decide +kernel)) ggL_law_X0_wide
set_option maxRecDepth 20000 in
theorem ggL_law_X0_poly : GoodIn wsL_law wsX0_poly := goodIn_r _ [155, 17, 156, 157, 158, 2, 159, 16, 57, 58, 59, 60, 14, 216, 217, 218, 219, 220] (by decide +kernel) (by decide +kernel)
set_option maxRecDepth 20000 in
theorem gL_law_X0_poly : GoodIn wsL_law (wsV RL 49 RX0 yX0_poly wsX0_poly) := goodIn_app (goodIn_of _ (by decide +kernel)) ggL_law_X0_poly
set_option maxRecDepth 20000 in
theorem ggL_law_X0_narrowOf : GoodIn wsL_law wsX0_narrowOf := goodIn_r _ [163, 164, 165, 166, 2, 167, 17, 87, 88, 89, 90, 91, 92, 93, 94, 95, 96, 97, 98, 99, 100, 101, 102, 103, 104, 14, 105, 106, 107, 108, 109, 110, 57, 58, 59, 60, 111, 112, 113, 216, 217, 218, 219, 220] (by decide +kernel) (by decide +kernel)
set_option maxRecDepth 20000 in
theorem gL_law_X0_narrowOf : GoodIn wsL_law (wsV RL 53 RX0 yX0_narrowOf wsX0_narrowOf) := goodIn_app (goodIn_of _ (by decide +kernel)) ggL_law_X0_narrowOf
set_option maxRecDepth 20000 in
theorem ggL_law_X0_wideOf : GoodIn wsL_law wsX0_wideOf := goodIn_r _ [171, 164, 165, 166, 2, 167, 17, 118, 119, 120, 121, 122, 123, 124, 125, 126, 127, 128, 129, 130, 131, 132, 133, 134, 135, 136, 137, 138, 139, 100, 101, 102, 103, 104, 14, 140, 141, 142, 143, 144, 145, 146, 147, 148, 57, 58, 59, 60, 149, 150, 151, 216, 217, 218, 219, 220] (by decide +kernel) (by decide +kernel)
set_option maxRecDepth 20000 in
theorem gL_law_X0_wideOf : GoodIn wsL_law (wsV RL 58 RX0 yX0_wideOf wsX0_wideOf) := goodIn_app (goodIn_of _ (by decide +kernel)) ggL_law_X0_wideOf
set_option maxRecDepth 20000 in
theorem ggL_law_X0_polyOf : GoodIn wsL_law wsX0_polyOf := goodIn_r _ [175, 164, 165, 166, 2, 167, 17, 156, 157, 158, 159, 16, 57, 58, 59, 60, 14, 216, 217, 218, 219, 220] (by decide +kernel) (by decide +kernel)
set_option maxRecDepth 20000 in
theorem gL_law_X0_polyOf : GoodIn wsL_law (wsV RL 63 RX0 yX0_polyOf wsX0_polyOf) := goodIn_app (goodIn_of _ (by decide +kernel)) ggL_law_X0_polyOf
set_option maxRecDepth 20000 in
theorem ggL_law_X0_masked : GoodIn wsL_law wsX0_masked := goodIn_r _ [179, 180, 108, 109, 2, 110] (by decide +kernel) (by decide +kernel)
set_option maxRecDepth 20000 in
theorem gL_law_X0_masked : GoodIn wsL_law (wsV RL 68 RX0 yX0_masked wsX0_masked) := goodIn_app (goodIn_of _ (by decide +kernel)) ggL_law_X0_masked
set_option maxRecDepth 20000 in
theorem ggL_law_X0_joined : GoodIn wsL_law wsX0_joined := goodIn_r _ [184, 185, 20, 21, 2, 22, 23, 186, 187, 188, 189, 190, 191] (by decide +kernel) (by decide +kernel)
set_option maxRecDepth 20000 in
theorem gL_law_X0_joined : GoodIn wsL_law (wsV RL 73 RX0 yX0_joined wsX0_joined) := goodIn_app (goodIn_of _ (by decide +kernel)) ggL_law_X0_joined
set_option maxRecDepth 20000 in
theorem ggL_law_X0_cut : GoodIn wsL_law wsX0_cut := goodIn_r _ [195, 185, 196, 197, 2, 198, 23, 186, 187, 188, 189, 190, 191, 20, 21, 22] (by decide +kernel) (by decide +kernel)
set_option maxRecDepth 20000 in
theorem gL_law_X0_cut : GoodIn wsL_law (wsV RL 78 RX0 yX0_cut wsX0_cut) := goodIn_app (goodIn_of _ (by decide +kernel)) ggL_law_X0_cut
set_option maxRecDepth 20000 in
theorem ggL_law_X0_forged : GoodIn wsL_law wsX0_forged := goodIn_r _ [202, 203, 153, 154, 2, 155, 17, 156, 157, 158, 159, 16, 57, 58, 59, 60, 14, 204, 205, 206, 196, 197, 198, 23, 207, 208, 209, 210, 216, 217, 218, 219, 220] (by decide +kernel) (by decide +kernel)
set_option maxRecDepth 20000 in
theorem gL_law_X0_forged : GoodIn wsL_law (wsV RL 82 RX0 yX0_forged wsX0_forged) := goodIn_app (goodIn_of _ (by decide +kernel)) ggL_law_X0_forged
set_option maxRecDepth 20000 in
theorem ggL_law_X0_mended : GoodIn wsL_law wsX0_mended := goodIn_r _ [214, 17, 156, 157, 158, 2, 159, 16, 57, 58, 59, 60, 14, 215, 193, 194, 195, 185, 196, 197, 198, 23, 186, 187, 188, 189, 190, 191, 20, 21, 22, 204, 205, 206, 207, 208, 209, 210, 216, 217, 218, 219, 220] (by decide +kernel) (by decide +kernel)
set_option maxRecDepth 20000 in
theorem gL_law_X0_mended : GoodIn wsL_law (wsV RL 86 RX0 yX0_mended wsX0_mended) := goodIn_app (goodIn_of _ (by decide +kernel)) ggL_law_X0_mended
theorem dL_law_0 : decode cL_law 0 = .ok (.new 7, 3) := by decide +kernel
theorem dL_law_3 : decode cL_law 3 = .ok (.dup, 1) := by decide +kernel
theorem dL_law_4 : decode cL_law 4 = .ok (.invokespecial 9, 3) := by decide +kernel
theorem dL_law_7 : decode cL_law 7 = .ok (.astore_n 1, 1) := by decide +kernel
theorem dL_law_8 : decode cL_law 8 = .ok (.new 10, 3) := by decide +kernel
theorem dL_law_11 : decode cL_law 11 = .ok (.dup, 1) := by decide +kernel
theorem dL_law_12 : decode cL_law 12 = .ok (.invokespecial 12, 3) := by decide +kernel
theorem dL_law_15 : decode cL_law 15 = .ok (.astore_n 2, 1) := by decide +kernel
theorem dL_law_16 : decode cL_law 16 = .ok (.iconst 0, 1) := by decide +kernel
theorem dL_law_17 : decode cL_law 17 = .ok (.istore_n 3, 1) := by decide +kernel
theorem dL_law_18 : decode cL_law 18 = .ok (.iload_n 3, 1) := by decide +kernel
theorem dL_law_19 : decode cL_law 19 = .ok (.aload_n 0, 1) := by decide +kernel
theorem dL_law_20 : decode cL_law 20 = .ok (.arraylength, 1) := by decide +kernel
theorem dL_law_21 : decode cL_law 21 = .ok (.iconst 5, 1) := by decide +kernel
theorem dL_law_22 : decode cL_law 22 = .ok (.isub, 1) := by decide +kernel
theorem dL_law_23 : decode cL_law 23 = .ok (.if_icmp .gt 729, 3) := by decide +kernel
theorem dL_law_26 : decode cL_law 26 = .ok (.aload_n 0, 1) := by decide +kernel
theorem dL_law_27 : decode cL_law 27 = .ok (.iload_n 3, 1) := by decide +kernel
theorem dL_law_28 : decode cL_law 28 = .ok (.iaload, 1) := by decide +kernel
theorem dL_law_29 : decode cL_law 29 = .ok (.bipush 15, 2) := by decide +kernel
theorem dL_law_31 : decode cL_law 31 = .ok (.iand, 1) := by decide +kernel
theorem dL_law_32 : decode cL_law 32 = .ok (.tableswitch 714 0 15 #[80, 141, 204, 237, 250, 273, 286, 300, 313, 356, 430, 463, 512, 585, 658, 681], 80) := by decide +kernel
theorem dL_law_112 : decode cL_law 112 = .ok (.aload_n 1, 1) := by decide +kernel
theorem dL_law_113 : decode cL_law 113 = .ok (.aload_n 0, 1) := by decide +kernel
theorem dL_law_114 : decode cL_law 114 = .ok (.iload_n 3, 1) := by decide +kernel
theorem dL_law_115 : decode cL_law 115 = .ok (.iconst 1, 1) := by decide +kernel
theorem dL_law_116 : decode cL_law 116 = .ok (.iadd, 1) := by decide +kernel
theorem dL_law_117 : decode cL_law 117 = .ok (.iaload, 1) := by decide +kernel
theorem dL_law_118 : decode cL_law 118 = .ok (.aload_n 0, 1) := by decide +kernel
theorem dL_law_119 : decode cL_law 119 = .ok (.iload_n 3, 1) := by decide +kernel
theorem dL_law_120 : decode cL_law 120 = .ok (.iconst 2, 1) := by decide +kernel
theorem dL_law_121 : decode cL_law 121 = .ok (.iadd, 1) := by decide +kernel
theorem dL_law_122 : decode cL_law 122 = .ok (.iaload, 1) := by decide +kernel
theorem dL_law_123 : decode cL_law 123 = .ok (.i2l, 1) := by decide +kernel
theorem dL_law_124 : decode cL_law 124 = .ok (.bipush 32, 2) := by decide +kernel
theorem dL_law_126 : decode cL_law 126 = .ok (.lshl, 1) := by decide +kernel
theorem dL_law_127 : decode cL_law 127 = .ok (.aload_n 0, 1) := by decide +kernel
theorem dL_law_128 : decode cL_law 128 = .ok (.iload_n 3, 1) := by decide +kernel
theorem dL_law_129 : decode cL_law 129 = .ok (.iconst 3, 1) := by decide +kernel
theorem dL_law_130 : decode cL_law 130 = .ok (.iadd, 1) := by decide +kernel
theorem dL_law_131 : decode cL_law 131 = .ok (.iaload, 1) := by decide +kernel
theorem dL_law_132 : decode cL_law 132 = .ok (.i2l, 1) := by decide +kernel
theorem dL_law_133 : decode cL_law 133 = .ok (.ldc2_w 13, 3) := by decide +kernel
theorem dL_law_136 : decode cL_law 136 = .ok (.land, 1) := by decide +kernel
theorem dL_law_137 : decode cL_law 137 = .ok (.lor, 1) := by decide +kernel
theorem dL_law_138 : decode cL_law 138 = .ok (.invokevirtual 15, 3) := by decide +kernel
theorem dL_law_141 : decode cL_law 141 = .ok (.aload_n 2, 1) := by decide +kernel
theorem dL_law_142 : decode cL_law 142 = .ok (.aload_n 0, 1) := by decide +kernel
theorem dL_law_143 : decode cL_law 143 = .ok (.iload_n 3, 1) := by decide +kernel
theorem dL_law_144 : decode cL_law 144 = .ok (.iconst 1, 1) := by decide +kernel
theorem dL_law_145 : decode cL_law 145 = .ok (.iadd, 1) := by decide +kernel
theorem dL_law_146 : decode cL_law 146 = .ok (.iaload, 1) := by decide +kernel
theorem dL_law_147 : decode cL_law 147 = .ok (.aload_n 0, 1) := by decide +kernel
theorem dL_law_148 : decode cL_law 148 = .ok (.iload_n 3, 1) := by decide +kernel
theorem dL_law_149 : decode cL_law 149 = .ok (.iconst 2, 1) := by decide +kernel
theorem dL_law_150 : decode cL_law 150 = .ok (.iadd, 1) := by decide +kernel
theorem dL_law_151 : decode cL_law 151 = .ok (.iaload, 1) := by decide +kernel
theorem dL_law_152 : decode cL_law 152 = .ok (.i2l, 1) := by decide +kernel
theorem dL_law_153 : decode cL_law 153 = .ok (.bipush 32, 2) := by decide +kernel
theorem dL_law_155 : decode cL_law 155 = .ok (.lshl, 1) := by decide +kernel
theorem dL_law_156 : decode cL_law 156 = .ok (.aload_n 0, 1) := by decide +kernel
theorem dL_law_157 : decode cL_law 157 = .ok (.iload_n 3, 1) := by decide +kernel
theorem dL_law_158 : decode cL_law 158 = .ok (.iconst 3, 1) := by decide +kernel
theorem dL_law_159 : decode cL_law 159 = .ok (.iadd, 1) := by decide +kernel
theorem dL_law_160 : decode cL_law 160 = .ok (.iaload, 1) := by decide +kernel
theorem dL_law_161 : decode cL_law 161 = .ok (.i2l, 1) := by decide +kernel
theorem dL_law_162 : decode cL_law 162 = .ok (.ldc2_w 13, 3) := by decide +kernel
theorem dL_law_165 : decode cL_law 165 = .ok (.land, 1) := by decide +kernel
theorem dL_law_166 : decode cL_law 166 = .ok (.lor, 1) := by decide +kernel
theorem dL_law_167 : decode cL_law 167 = .ok (.invokevirtual 19, 3) := by decide +kernel
theorem dL_law_170 : decode cL_law 170 = .ok (.goto 576, 3) := by decide +kernel
theorem dL_law_173 : decode cL_law 173 = .ok (.aload_n 1, 1) := by decide +kernel
theorem dL_law_174 : decode cL_law 174 = .ok (.aload_n 0, 1) := by decide +kernel
theorem dL_law_175 : decode cL_law 175 = .ok (.iload_n 3, 1) := by decide +kernel
theorem dL_law_176 : decode cL_law 176 = .ok (.iconst 1, 1) := by decide +kernel
theorem dL_law_177 : decode cL_law 177 = .ok (.iadd, 1) := by decide +kernel
theorem dL_law_178 : decode cL_law 178 = .ok (.iaload, 1) := by decide +kernel
theorem dL_law_179 : decode cL_law 179 = .ok (.i2l, 1) := by decide +kernel
theorem dL_law_180 : decode cL_law 180 = .ok (.bipush 32, 2) := by decide +kernel
theorem dL_law_182 : decode cL_law 182 = .ok (.lshl, 1) := by decide +kernel
theorem dL_law_183 : decode cL_law 183 = .ok (.aload_n 0, 1) := by decide +kernel
theorem dL_law_184 : decode cL_law 184 = .ok (.iload_n 3, 1) := by decide +kernel
theorem dL_law_185 : decode cL_law 185 = .ok (.iconst 2, 1) := by decide +kernel
theorem dL_law_186 : decode cL_law 186 = .ok (.iadd, 1) := by decide +kernel
theorem dL_law_187 : decode cL_law 187 = .ok (.iaload, 1) := by decide +kernel
theorem dL_law_188 : decode cL_law 188 = .ok (.i2l, 1) := by decide +kernel
theorem dL_law_189 : decode cL_law 189 = .ok (.ldc2_w 13, 3) := by decide +kernel
theorem dL_law_192 : decode cL_law 192 = .ok (.land, 1) := by decide +kernel
theorem dL_law_193 : decode cL_law 193 = .ok (.lor, 1) := by decide +kernel
theorem dL_law_194 : decode cL_law 194 = .ok (.aload_n 0, 1) := by decide +kernel
theorem dL_law_195 : decode cL_law 195 = .ok (.iload_n 3, 1) := by decide +kernel
theorem dL_law_196 : decode cL_law 196 = .ok (.iconst 3, 1) := by decide +kernel
theorem dL_law_197 : decode cL_law 197 = .ok (.iadd, 1) := by decide +kernel
theorem dL_law_198 : decode cL_law 198 = .ok (.iaload, 1) := by decide +kernel
theorem dL_law_199 : decode cL_law 199 = .ok (.invokevirtual 20, 3) := by decide +kernel
theorem dL_law_202 : decode cL_law 202 = .ok (.aload_n 2, 1) := by decide +kernel
theorem dL_law_203 : decode cL_law 203 = .ok (.aload_n 0, 1) := by decide +kernel
theorem dL_law_204 : decode cL_law 204 = .ok (.iload_n 3, 1) := by decide +kernel
theorem dL_law_205 : decode cL_law 205 = .ok (.iconst 1, 1) := by decide +kernel
theorem dL_law_206 : decode cL_law 206 = .ok (.iadd, 1) := by decide +kernel
theorem dL_law_207 : decode cL_law 207 = .ok (.iaload, 1) := by decide +kernel
theorem dL_law_208 : decode cL_law 208 = .ok (.i2l, 1) := by decide +kernel
theorem dL_law_209 : decode cL_law 209 = .ok (.bipush 32, 2) := by decide +kernel
theorem dL_law_211 : decode cL_law 211 = .ok (.lshl, 1) := by decide +kernel
theorem dL_law_212 : decode cL_law 212 = .ok (.aload_n 0, 1) := by decide +kernel
theorem dL_law_213 : decode cL_law 213 = .ok (.iload_n 3, 1) := by decide +kernel
theorem dL_law_214 : decode cL_law 214 = .ok (.iconst 2, 1) := by decide +kernel
theorem dL_law_215 : decode cL_law 215 = .ok (.iadd, 1) := by decide +kernel
theorem dL_law_216 : decode cL_law 216 = .ok (.iaload, 1) := by decide +kernel
theorem dL_law_217 : decode cL_law 217 = .ok (.i2l, 1) := by decide +kernel
theorem dL_law_218 : decode cL_law 218 = .ok (.ldc2_w 13, 3) := by decide +kernel
theorem dL_law_221 : decode cL_law 221 = .ok (.land, 1) := by decide +kernel
theorem dL_law_222 : decode cL_law 222 = .ok (.lor, 1) := by decide +kernel
theorem dL_law_223 : decode cL_law 223 = .ok (.aload_n 0, 1) := by decide +kernel
theorem dL_law_224 : decode cL_law 224 = .ok (.iload_n 3, 1) := by decide +kernel
theorem dL_law_225 : decode cL_law 225 = .ok (.iconst 3, 1) := by decide +kernel
theorem dL_law_226 : decode cL_law 226 = .ok (.iadd, 1) := by decide +kernel
theorem dL_law_227 : decode cL_law 227 = .ok (.iaload, 1) := by decide +kernel
theorem dL_law_228 : decode cL_law 228 = .ok (.invokevirtual 24, 3) := by decide +kernel
theorem dL_law_231 : decode cL_law 231 = .ok (.if_icmp .eq 515, 3) := by decide +kernel
theorem dL_law_234 : decode cL_law 234 = .ok (.iconst 0, 1) := by decide +kernel
theorem dL_law_235 : decode cL_law 235 = .ok (.ireturn, 1) := by decide +kernel
theorem dL_law_236 : decode cL_law 236 = .ok (.aload_n 1, 1) := by decide +kernel
theorem dL_law_237 : decode cL_law 237 = .ok (.aload_n 0, 1) := by decide +kernel
theorem dL_law_238 : decode cL_law 238 = .ok (.iload_n 3, 1) := by decide +kernel
theorem dL_law_239 : decode cL_law 239 = .ok (.iconst 1, 1) := by decide +kernel
theorem dL_law_240 : decode cL_law 240 = .ok (.iadd, 1) := by decide +kernel
theorem dL_law_241 : decode cL_law 241 = .ok (.iaload, 1) := by decide +kernel
theorem dL_law_242 : decode cL_law 242 = .ok (.aload_n 0, 1) := by decide +kernel
theorem dL_law_243 : decode cL_law 243 = .ok (.iload_n 3, 1) := by decide +kernel
theorem dL_law_244 : decode cL_law 244 = .ok (.iconst 2, 1) := by decide +kernel
theorem dL_law_245 : decode cL_law 245 = .ok (.iadd, 1) := by decide +kernel
theorem dL_law_246 : decode cL_law 246 = .ok (.iaload, 1) := by decide +kernel
theorem dL_law_247 : decode cL_law 247 = .ok (.invokevirtual 25, 3) := by decide +kernel
theorem dL_law_250 : decode cL_law 250 = .ok (.aload_n 2, 1) := by decide +kernel
theorem dL_law_251 : decode cL_law 251 = .ok (.aload_n 0, 1) := by decide +kernel
theorem dL_law_252 : decode cL_law 252 = .ok (.iload_n 3, 1) := by decide +kernel
theorem dL_law_253 : decode cL_law 253 = .ok (.iconst 1, 1) := by decide +kernel
theorem dL_law_254 : decode cL_law 254 = .ok (.iadd, 1) := by decide +kernel
theorem dL_law_255 : decode cL_law 255 = .ok (.iaload, 1) := by decide +kernel
theorem dL_law_256 : decode cL_law 256 = .ok (.aload_n 0, 1) := by decide +kernel
theorem dL_law_257 : decode cL_law 257 = .ok (.iload_n 3, 1) := by decide +kernel
theorem dL_law_258 : decode cL_law 258 = .ok (.iconst 2, 1) := by decide +kernel
theorem dL_law_259 : decode cL_law 259 = .ok (.iadd, 1) := by decide +kernel
theorem dL_law_260 : decode cL_law 260 = .ok (.iaload, 1) := by decide +kernel
theorem dL_law_261 : decode cL_law 261 = .ok (.invokevirtual 29, 3) := by decide +kernel
theorem dL_law_264 : decode cL_law 264 = .ok (.if_icmp .eq 482, 3) := by decide +kernel
theorem dL_law_267 : decode cL_law 267 = .ok (.iconst 0, 1) := by decide +kernel
theorem dL_law_268 : decode cL_law 268 = .ok (.ireturn, 1) := by decide +kernel
theorem dL_law_269 : decode cL_law 269 = .ok (.aload_n 1, 1) := by decide +kernel
theorem dL_law_270 : decode cL_law 270 = .ok (.invokevirtual 30, 3) := by decide +kernel
theorem dL_law_273 : decode cL_law 273 = .ok (.aload_n 2, 1) := by decide +kernel
theorem dL_law_274 : decode cL_law 274 = .ok (.invokevirtual 34, 3) := by decide +kernel
theorem dL_law_277 : decode cL_law 277 = .ok (.if_icmp .eq 469, 3) := by decide +kernel
theorem dL_law_280 : decode cL_law 280 = .ok (.iconst 0, 1) := by decide +kernel
theorem dL_law_281 : decode cL_law 281 = .ok (.ireturn, 1) := by decide +kernel
theorem dL_law_282 : decode cL_law 282 = .ok (.aload_n 1, 1) := by decide +kernel
theorem dL_law_283 : decode cL_law 283 = .ok (.aload_n 0, 1) := by decide +kernel
theorem dL_law_284 : decode cL_law 284 = .ok (.iload_n 3, 1) := by decide +kernel
theorem dL_law_285 : decode cL_law 285 = .ok (.iconst 1, 1) := by decide +kernel
theorem dL_law_286 : decode cL_law 286 = .ok (.iadd, 1) := by decide +kernel
theorem dL_law_287 : decode cL_law 287 = .ok (.iaload, 1) := by decide +kernel
theorem dL_law_288 : decode cL_law 288 = .ok (.invokevirtual 35, 3) := by decide +kernel
theorem dL_law_291 : decode cL_law 291 = .ok (.aload_n 2, 1) := by decide +kernel
theorem dL_law_292 : decode cL_law 292 = .ok (.aload_n 0, 1) := by decide +kernel
theorem dL_law_293 : decode cL_law 293 = .ok (.iload_n 3, 1) := by decide +kernel
theorem dL_law_294 : decode cL_law 294 = .ok (.iconst 1, 1) := by decide +kernel
theorem dL_law_295 : decode cL_law 295 = .ok (.iadd, 1) := by decide +kernel
theorem dL_law_296 : decode cL_law 296 = .ok (.iaload, 1) := by decide +kernel
theorem dL_law_297 : decode cL_law 297 = .ok (.invokevirtual 39, 3) := by decide +kernel
theorem dL_law_300 : decode cL_law 300 = .ok (.if_icmp .eq 446, 3) := by decide +kernel
theorem dL_law_303 : decode cL_law 303 = .ok (.iconst 0, 1) := by decide +kernel
theorem dL_law_304 : decode cL_law 304 = .ok (.ireturn, 1) := by decide +kernel
theorem dL_law_305 : decode cL_law 305 = .ok (.aload_n 1, 1) := by decide +kernel
theorem dL_law_306 : decode cL_law 306 = .ok (.invokevirtual 40, 3) := by decide +kernel
theorem dL_law_309 : decode cL_law 309 = .ok (.aload_n 2, 1) := by decide +kernel
theorem dL_law_310 : decode cL_law 310 = .ok (.invokevirtual 43, 3) := by decide +kernel
theorem dL_law_313 : decode cL_law 313 = .ok (.if_icmp .eq 433, 3) := by decide +kernel
theorem dL_law_316 : decode cL_law 316 = .ok (.iconst 0, 1) := by decide +kernel
theorem dL_law_317 : decode cL_law 317 = .ok (.ireturn, 1) := by decide +kernel
theorem dL_law_318 : decode cL_law 318 = .ok (.aload_n 1, 1) := by decide +kernel
theorem dL_law_319 : decode cL_law 319 = .ok (.invokevirtual 44, 3) := by decide +kernel
theorem dL_law_322 : decode cL_law 322 = .ok (.aload_n 2, 1) := by decide +kernel
theorem dL_law_323 : decode cL_law 323 = .ok (.invokevirtual 48, 3) := by decide +kernel
theorem dL_law_326 : decode cL_law 326 = .ok (.lcmp, 1) := by decide +kernel
theorem dL_law_327 : decode cL_law 327 = .ok (.ifCond .eq 419, 3) := by decide +kernel
theorem dL_law_330 : decode cL_law 330 = .ok (.iconst 0, 1) := by decide +kernel
theorem dL_law_331 : decode cL_law 331 = .ok (.ireturn, 1) := by decide +kernel
theorem dL_law_332 : decode cL_law 332 = .ok (.aload_n 1, 1) := by decide +kernel
theorem dL_law_333 : decode cL_law 333 = .ok (.invokevirtual 49, 3) := by decide +kernel
theorem dL_law_336 : decode cL_law 336 = .ok (.aload_n 2, 1) := by decide +kernel
theorem dL_law_337 : decode cL_law 337 = .ok (.invokevirtual 52, 3) := by decide +kernel
theorem dL_law_340 : decode cL_law 340 = .ok (.if_icmp .eq 406, 3) := by decide +kernel
theorem dL_law_343 : decode cL_law 343 = .ok (.iconst 0, 1) := by decide +kernel
theorem dL_law_344 : decode cL_law 344 = .ok (.ireturn, 1) := by decide +kernel
theorem dL_law_345 : decode cL_law 345 = .ok (.aload_n 1, 1) := by decide +kernel
theorem dL_law_346 : decode cL_law 346 = .ok (.aload_n 0, 1) := by decide +kernel
theorem dL_law_347 : decode cL_law 347 = .ok (.iload_n 3, 1) := by decide +kernel
theorem dL_law_348 : decode cL_law 348 = .ok (.iconst 1, 1) := by decide +kernel
theorem dL_law_349 : decode cL_law 349 = .ok (.iadd, 1) := by decide +kernel
theorem dL_law_350 : decode cL_law 350 = .ok (.iaload, 1) := by decide +kernel
theorem dL_law_351 : decode cL_law 351 = .ok (.aload_n 0, 1) := by decide +kernel
theorem dL_law_352 : decode cL_law 352 = .ok (.iload_n 3, 1) := by decide +kernel
theorem dL_law_353 : decode cL_law 353 = .ok (.iconst 2, 1) := by decide +kernel
theorem dL_law_354 : decode cL_law 354 = .ok (.iadd, 1) := by decide +kernel
theorem dL_law_355 : decode cL_law 355 = .ok (.iaload, 1) := by decide +kernel
theorem dL_law_356 : decode cL_law 356 = .ok (.aload_n 0, 1) := by decide +kernel
theorem dL_law_357 : decode cL_law 357 = .ok (.iload_n 3, 1) := by decide +kernel
theorem dL_law_358 : decode cL_law 358 = .ok (.iconst 3, 1) := by decide +kernel
theorem dL_law_359 : decode cL_law 359 = .ok (.iadd, 1) := by decide +kernel
theorem dL_law_360 : decode cL_law 360 = .ok (.iaload, 1) := by decide +kernel
theorem dL_law_361 : decode cL_law 361 = .ok (.invokevirtual 53, 3) := by decide +kernel
theorem dL_law_364 : decode cL_law 364 = .ok (.aload_n 2, 1) := by decide +kernel
theorem dL_law_365 : decode cL_law 365 = .ok (.aload_n 0, 1) := by decide +kernel
theorem dL_law_366 : decode cL_law 366 = .ok (.iload_n 3, 1) := by decide +kernel
theorem dL_law_367 : decode cL_law 367 = .ok (.iconst 1, 1) := by decide +kernel
theorem dL_law_368 : decode cL_law 368 = .ok (.iadd, 1) := by decide +kernel
theorem dL_law_369 : decode cL_law 369 = .ok (.iaload, 1) := by decide +kernel
theorem dL_law_370 : decode cL_law 370 = .ok (.aload_n 0, 1) := by decide +kernel
theorem dL_law_371 : decode cL_law 371 = .ok (.iload_n 3, 1) := by decide +kernel
theorem dL_law_372 : decode cL_law 372 = .ok (.iconst 2, 1) := by decide +kernel
theorem dL_law_373 : decode cL_law 373 = .ok (.iadd, 1) := by decide +kernel
theorem dL_law_374 : decode cL_law 374 = .ok (.iaload, 1) := by decide +kernel
theorem dL_law_375 : decode cL_law 375 = .ok (.aload_n 0, 1) := by decide +kernel
theorem dL_law_376 : decode cL_law 376 = .ok (.iload_n 3, 1) := by decide +kernel
theorem dL_law_377 : decode cL_law 377 = .ok (.iconst 3, 1) := by decide +kernel
theorem dL_law_378 : decode cL_law 378 = .ok (.iadd, 1) := by decide +kernel
theorem dL_law_379 : decode cL_law 379 = .ok (.iaload, 1) := by decide +kernel
theorem dL_law_380 : decode cL_law 380 = .ok (.invokevirtual 57, 3) := by decide +kernel
theorem dL_law_383 : decode cL_law 383 = .ok (.if_icmp .eq 363, 3) := by decide +kernel
theorem dL_law_386 : decode cL_law 386 = .ok (.iconst 0, 1) := by decide +kernel
theorem dL_law_387 : decode cL_law 387 = .ok (.ireturn, 1) := by decide +kernel
theorem dL_law_388 : decode cL_law 388 = .ok (.aload_n 1, 1) := by decide +kernel
theorem dL_law_389 : decode cL_law 389 = .ok (.aload_n 0, 1) := by decide +kernel
theorem dL_law_390 : decode cL_law 390 = .ok (.iload_n 3, 1) := by decide +kernel
theorem dL_law_391 : decode cL_law 391 = .ok (.iconst 1, 1) := by decide +kernel
theorem dL_law_392 : decode cL_law 392 = .ok (.iadd, 1) := by decide +kernel
theorem dL_law_393 : decode cL_law 393 = .ok (.iaload, 1) := by decide +kernel
theorem dL_law_394 : decode cL_law 394 = .ok (.aload_n 0, 1) := by decide +kernel
theorem dL_law_395 : decode cL_law 395 = .ok (.iload_n 3, 1) := by decide +kernel
theorem dL_law_396 : decode cL_law 396 = .ok (.iconst 2, 1) := by decide +kernel
theorem dL_law_397 : decode cL_law 397 = .ok (.iadd, 1) := by decide +kernel
theorem dL_law_398 : decode cL_law 398 = .ok (.iaload, 1) := by decide +kernel
theorem dL_law_399 : decode cL_law 399 = .ok (.aload_n 0, 1) := by decide +kernel
theorem dL_law_400 : decode cL_law 400 = .ok (.iload_n 3, 1) := by decide +kernel
theorem dL_law_401 : decode cL_law 401 = .ok (.iconst 3, 1) := by decide +kernel
theorem dL_law_402 : decode cL_law 402 = .ok (.iadd, 1) := by decide +kernel
theorem dL_law_403 : decode cL_law 403 = .ok (.iaload, 1) := by decide +kernel
theorem dL_law_404 : decode cL_law 404 = .ok (.i2l, 1) := by decide +kernel
theorem dL_law_405 : decode cL_law 405 = .ok (.bipush 32, 2) := by decide +kernel
theorem dL_law_407 : decode cL_law 407 = .ok (.lshl, 1) := by decide +kernel
theorem dL_law_408 : decode cL_law 408 = .ok (.aload_n 0, 1) := by decide +kernel
theorem dL_law_409 : decode cL_law 409 = .ok (.iload_n 3, 1) := by decide +kernel
theorem dL_law_410 : decode cL_law 410 = .ok (.iconst 4, 1) := by decide +kernel
theorem dL_law_411 : decode cL_law 411 = .ok (.iadd, 1) := by decide +kernel
theorem dL_law_412 : decode cL_law 412 = .ok (.iaload, 1) := by decide +kernel
theorem dL_law_413 : decode cL_law 413 = .ok (.i2l, 1) := by decide +kernel
theorem dL_law_414 : decode cL_law 414 = .ok (.ldc2_w 13, 3) := by decide +kernel
theorem dL_law_417 : decode cL_law 417 = .ok (.land, 1) := by decide +kernel
theorem dL_law_418 : decode cL_law 418 = .ok (.lor, 1) := by decide +kernel
theorem dL_law_419 : decode cL_law 419 = .ok (.invokevirtual 58, 3) := by decide +kernel
theorem dL_law_422 : decode cL_law 422 = .ok (.aload_n 2, 1) := by decide +kernel
theorem dL_law_423 : decode cL_law 423 = .ok (.aload_n 0, 1) := by decide +kernel
theorem dL_law_424 : decode cL_law 424 = .ok (.iload_n 3, 1) := by decide +kernel
theorem dL_law_425 : decode cL_law 425 = .ok (.iconst 1, 1) := by decide +kernel
theorem dL_law_426 : decode cL_law 426 = .ok (.iadd, 1) := by decide +kernel
theorem dL_law_427 : decode cL_law 427 = .ok (.iaload, 1) := by decide +kernel
theorem dL_law_428 : decode cL_law 428 = .ok (.aload_n 0, 1) := by decide +kernel
theorem dL_law_429 : decode cL_law 429 = .ok (.iload_n 3, 1) := by decide +kernel
theorem dL_law_430 : decode cL_law 430 = .ok (.iconst 2, 1) := by decide +kernel
theorem dL_law_431 : decode cL_law 431 = .ok (.iadd, 1) := by decide +kernel
theorem dL_law_432 : decode cL_law 432 = .ok (.iaload, 1) := by decide +kernel
theorem dL_law_433 : decode cL_law 433 = .ok (.aload_n 0, 1) := by decide +kernel
theorem dL_law_434 : decode cL_law 434 = .ok (.iload_n 3, 1) := by decide +kernel
theorem dL_law_435 : decode cL_law 435 = .ok (.iconst 3, 1) := by decide +kernel
theorem dL_law_436 : decode cL_law 436 = .ok (.iadd, 1) := by decide +kernel
theorem dL_law_437 : decode cL_law 437 = .ok (.iaload, 1) := by decide +kernel
theorem dL_law_438 : decode cL_law 438 = .ok (.i2l, 1) := by decide +kernel
theorem dL_law_439 : decode cL_law 439 = .ok (.bipush 32, 2) := by decide +kernel
theorem dL_law_441 : decode cL_law 441 = .ok (.lshl, 1) := by decide +kernel
theorem dL_law_442 : decode cL_law 442 = .ok (.aload_n 0, 1) := by decide +kernel
theorem dL_law_443 : decode cL_law 443 = .ok (.iload_n 3, 1) := by decide +kernel
theorem dL_law_444 : decode cL_law 444 = .ok (.iconst 4, 1) := by decide +kernel
theorem dL_law_445 : decode cL_law 445 = .ok (.iadd, 1) := by decide +kernel
theorem dL_law_446 : decode cL_law 446 = .ok (.iaload, 1) := by decide +kernel
theorem dL_law_447 : decode cL_law 447 = .ok (.i2l, 1) := by decide +kernel
theorem dL_law_448 : decode cL_law 448 = .ok (.ldc2_w 13, 3) := by decide +kernel
theorem dL_law_451 : decode cL_law 451 = .ok (.land, 1) := by decide +kernel
theorem dL_law_452 : decode cL_law 452 = .ok (.lor, 1) := by decide +kernel
theorem dL_law_453 : decode cL_law 453 = .ok (.invokevirtual 62, 3) := by decide +kernel
theorem dL_law_456 : decode cL_law 456 = .ok (.lcmp, 1) := by decide +kernel
theorem dL_law_457 : decode cL_law 457 = .ok (.ifCond .eq 289, 3) := by decide +kernel
theorem dL_law_460 : decode cL_law 460 = .ok (.iconst 0, 1) := by decide +kernel
theorem dL_law_461 : decode cL_law 461 = .ok (.ireturn, 1) := by decide +kernel
theorem dL_law_462 : decode cL_law 462 = .ok (.aload_n 1, 1) := by decide +kernel
theorem dL_law_463 : decode cL_law 463 = .ok (.aload_n 0, 1) := by decide +kernel
theorem dL_law_464 : decode cL_law 464 = .ok (.iload_n 3, 1) := by decide +kernel
theorem dL_law_465 : decode cL_law 465 = .ok (.iconst 1, 1) := by decide +kernel
theorem dL_law_466 : decode cL_law 466 = .ok (.iadd, 1) := by decide +kernel
theorem dL_law_467 : decode cL_law 467 = .ok (.iaload, 1) := by decide +kernel
theorem dL_law_468 : decode cL_law 468 = .ok (.aload_n 0, 1) := by decide +kernel
theorem dL_law_469 : decode cL_law 469 = .ok (.iload_n 3, 1) := by decide +kernel
theorem dL_law_470 : decode cL_law 470 = .ok (.iconst 2, 1) := by decide +kernel
theorem dL_law_471 : decode cL_law 471 = .ok (.iadd, 1) := by decide +kernel
theorem dL_law_472 : decode cL_law 472 = .ok (.iaload, 1) := by decide +kernel
theorem dL_law_473 : decode cL_law 473 = .ok (.invokevirtual 63, 3) := by decide +kernel
theorem dL_law_476 : decode cL_law 476 = .ok (.aload_n 2, 1) := by decide +kernel
theorem dL_law_477 : decode cL_law 477 = .ok (.aload_n 0, 1) := by decide +kernel
theorem dL_law_478 : decode cL_law 478 = .ok (.iload_n 3, 1) := by decide +kernel
theorem dL_law_479 : decode cL_law 479 = .ok (.iconst 1, 1) := by decide +kernel
theorem dL_law_480 : decode cL_law 480 = .ok (.iadd, 1) := by decide +kernel
theorem dL_law_481 : decode cL_law 481 = .ok (.iaload, 1) := by decide +kernel
theorem dL_law_482 : decode cL_law 482 = .ok (.aload_n 0, 1) := by decide +kernel
theorem dL_law_483 : decode cL_law 483 = .ok (.iload_n 3, 1) := by decide +kernel
theorem dL_law_484 : decode cL_law 484 = .ok (.iconst 2, 1) := by decide +kernel
theorem dL_law_485 : decode cL_law 485 = .ok (.iadd, 1) := by decide +kernel
theorem dL_law_486 : decode cL_law 486 = .ok (.iaload, 1) := by decide +kernel
theorem dL_law_487 : decode cL_law 487 = .ok (.invokevirtual 67, 3) := by decide +kernel
theorem dL_law_490 : decode cL_law 490 = .ok (.if_icmp .eq 256, 3) := by decide +kernel
theorem dL_law_493 : decode cL_law 493 = .ok (.iconst 0, 1) := by decide +kernel
theorem dL_law_494 : decode cL_law 494 = .ok (.ireturn, 1) := by decide +kernel
theorem dL_law_495 : decode cL_law 495 = .ok (.aload_n 1, 1) := by decide +kernel
theorem dL_law_496 : decode cL_law 496 = .ok (.aload_n 0, 1) := by decide +kernel
theorem dL_law_497 : decode cL_law 497 = .ok (.iload_n 3, 1) := by decide +kernel
theorem dL_law_498 : decode cL_law 498 = .ok (.iconst 1, 1) := by decide +kernel
theorem dL_law_499 : decode cL_law 499 = .ok (.iadd, 1) := by decide +kernel
theorem dL_law_500 : decode cL_law 500 = .ok (.iaload, 1) := by decide +kernel
theorem dL_law_501 : decode cL_law 501 = .ok (.aload_n 0, 1) := by decide +kernel
theorem dL_law_502 : decode cL_law 502 = .ok (.iload_n 3, 1) := by decide +kernel
theorem dL_law_503 : decode cL_law 503 = .ok (.iconst 2, 1) := by decide +kernel
theorem dL_law_504 : decode cL_law 504 = .ok (.iadd, 1) := by decide +kernel
theorem dL_law_505 : decode cL_law 505 = .ok (.iaload, 1) := by decide +kernel
theorem dL_law_506 : decode cL_law 506 = .ok (.ifCond .eq 7, 3) := by decide +kernel
theorem dL_law_509 : decode cL_law 509 = .ok (.iconst 1, 1) := by decide +kernel
theorem dL_law_510 : decode cL_law 510 = .ok (.goto 4, 3) := by decide +kernel
theorem dL_law_513 : decode cL_law 513 = .ok (.iconst 0, 1) := by decide +kernel
theorem dL_law_514 : decode cL_law 514 = .ok (.invokevirtual 68, 3) := by decide +kernel
theorem dL_law_517 : decode cL_law 517 = .ok (.aload_n 2, 1) := by decide +kernel
theorem dL_law_518 : decode cL_law 518 = .ok (.aload_n 0, 1) := by decide +kernel
theorem dL_law_519 : decode cL_law 519 = .ok (.iload_n 3, 1) := by decide +kernel
theorem dL_law_520 : decode cL_law 520 = .ok (.iconst 1, 1) := by decide +kernel
theorem dL_law_521 : decode cL_law 521 = .ok (.iadd, 1) := by decide +kernel
theorem dL_law_522 : decode cL_law 522 = .ok (.iaload, 1) := by decide +kernel
theorem dL_law_523 : decode cL_law 523 = .ok (.aload_n 0, 1) := by decide +kernel
theorem dL_law_524 : decode cL_law 524 = .ok (.iload_n 3, 1) := by decide +kernel
theorem dL_law_525 : decode cL_law 525 = .ok (.iconst 2, 1) := by decide +kernel
theorem dL_law_526 : decode cL_law 526 = .ok (.iadd, 1) := by decide +kernel
theorem dL_law_527 : decode cL_law 527 = .ok (.iaload, 1) := by decide +kernel
theorem dL_law_528 : decode cL_law 528 = .ok (.ifCond .eq 7, 3) := by decide +kernel
theorem dL_law_531 : decode cL_law 531 = .ok (.iconst 1, 1) := by decide +kernel
theorem dL_law_532 : decode cL_law 532 = .ok (.goto 4, 3) := by decide +kernel
theorem dL_law_535 : decode cL_law 535 = .ok (.iconst 0, 1) := by decide +kernel
theorem dL_law_536 : decode cL_law 536 = .ok (.invokevirtual 72, 3) := by decide +kernel
theorem dL_law_539 : decode cL_law 539 = .ok (.if_icmp .eq 207, 3) := by decide +kernel
theorem dL_law_542 : decode cL_law 542 = .ok (.iconst 0, 1) := by decide +kernel
theorem dL_law_543 : decode cL_law 543 = .ok (.ireturn, 1) := by decide +kernel
theorem dL_law_544 : decode cL_law 544 = .ok (.aload_n 1, 1) := by decide +kernel
theorem dL_law_545 : decode cL_law 545 = .ok (.aload_n 0, 1) := by decide +kernel
theorem dL_law_546 : decode cL_law 546 = .ok (.iload_n 3, 1) := by decide +kernel
theorem dL_law_547 : decode cL_law 547 = .ok (.iconst 1, 1) := by decide +kernel
theorem dL_law_548 : decode cL_law 548 = .ok (.iadd, 1) := by decide +kernel
theorem dL_law_549 : decode cL_law 549 = .ok (.iaload, 1) := by decide +kernel
theorem dL_law_550 : decode cL_law 550 = .ok (.aload_n 0, 1) := by decide +kernel
theorem dL_law_551 : decode cL_law 551 = .ok (.iload_n 3, 1) := by decide +kernel
theorem dL_law_552 : decode cL_law 552 = .ok (.iconst 2, 1) := by decide +kernel
theorem dL_law_553 : decode cL_law 553 = .ok (.iadd, 1) := by decide +kernel
theorem dL_law_554 : decode cL_law 554 = .ok (.iaload, 1) := by decide +kernel
theorem dL_law_555 : decode cL_law 555 = .ok (.aload_n 0, 1) := by decide +kernel
theorem dL_law_556 : decode cL_law 556 = .ok (.iload_n 3, 1) := by decide +kernel
theorem dL_law_557 : decode cL_law 557 = .ok (.iconst 3, 1) := by decide +kernel
theorem dL_law_558 : decode cL_law 558 = .ok (.iadd, 1) := by decide +kernel
theorem dL_law_559 : decode cL_law 559 = .ok (.iaload, 1) := by decide +kernel
theorem dL_law_560 : decode cL_law 560 = .ok (.i2l, 1) := by decide +kernel
theorem dL_law_561 : decode cL_law 561 = .ok (.bipush 32, 2) := by decide +kernel
theorem dL_law_563 : decode cL_law 563 = .ok (.lshl, 1) := by decide +kernel
theorem dL_law_564 : decode cL_law 564 = .ok (.aload_n 0, 1) := by decide +kernel
theorem dL_law_565 : decode cL_law 565 = .ok (.iload_n 3, 1) := by decide +kernel
theorem dL_law_566 : decode cL_law 566 = .ok (.iconst 4, 1) := by decide +kernel
theorem dL_law_567 : decode cL_law 567 = .ok (.iadd, 1) := by decide +kernel
theorem dL_law_568 : decode cL_law 568 = .ok (.iaload, 1) := by decide +kernel
theorem dL_law_569 : decode cL_law 569 = .ok (.i2l, 1) := by decide +kernel
theorem dL_law_570 : decode cL_law 570 = .ok (.ldc2_w 13, 3) := by decide +kernel
theorem dL_law_573 : decode cL_law 573 = .ok (.land, 1) := by decide +kernel
theorem dL_law_574 : decode cL_law 574 = .ok (.lor, 1) := by decide +kernel
theorem dL_law_575 : decode cL_law 575 = .ok (.invokevirtual 73, 3) := by decide +kernel
theorem dL_law_578 : decode cL_law 578 = .ok (.aload_n 2, 1) := by decide +kernel
theorem dL_law_579 : decode cL_law 579 = .ok (.aload_n 0, 1) := by decide +kernel
theorem dL_law_580 : decode cL_law 580 = .ok (.iload_n 3, 1) := by decide +kernel
theorem dL_law_581 : decode cL_law 581 = .ok (.iconst 1, 1) := by decide +kernel
theorem dL_law_582 : decode cL_law 582 = .ok (.iadd, 1) := by decide +kernel
theorem dL_law_583 : decode cL_law 583 = .ok (.iaload, 1) := by decide +kernel
theorem dL_law_584 : decode cL_law 584 = .ok (.aload_n 0, 1) := by decide +kernel
theorem dL_law_585 : decode cL_law 585 = .ok (.iload_n 3, 1) := by decide +kernel
theorem dL_law_586 : decode cL_law 586 = .ok (.iconst 2, 1) := by decide +kernel
theorem dL_law_587 : decode cL_law 587 = .ok (.iadd, 1) := by decide +kernel
theorem dL_law_588 : decode cL_law 588 = .ok (.iaload, 1) := by decide +kernel
theorem dL_law_589 : decode cL_law 589 = .ok (.aload_n 0, 1) := by decide +kernel
theorem dL_law_590 : decode cL_law 590 = .ok (.iload_n 3, 1) := by decide +kernel
theorem dL_law_591 : decode cL_law 591 = .ok (.iconst 3, 1) := by decide +kernel
theorem dL_law_592 : decode cL_law 592 = .ok (.iadd, 1) := by decide +kernel
theorem dL_law_593 : decode cL_law 593 = .ok (.iaload, 1) := by decide +kernel
theorem dL_law_594 : decode cL_law 594 = .ok (.i2l, 1) := by decide +kernel
theorem dL_law_595 : decode cL_law 595 = .ok (.bipush 32, 2) := by decide +kernel
theorem dL_law_597 : decode cL_law 597 = .ok (.lshl, 1) := by decide +kernel
theorem dL_law_598 : decode cL_law 598 = .ok (.aload_n 0, 1) := by decide +kernel
theorem dL_law_599 : decode cL_law 599 = .ok (.iload_n 3, 1) := by decide +kernel
theorem dL_law_600 : decode cL_law 600 = .ok (.iconst 4, 1) := by decide +kernel
theorem dL_law_601 : decode cL_law 601 = .ok (.iadd, 1) := by decide +kernel
theorem dL_law_602 : decode cL_law 602 = .ok (.iaload, 1) := by decide +kernel
theorem dL_law_603 : decode cL_law 603 = .ok (.i2l, 1) := by decide +kernel
theorem dL_law_604 : decode cL_law 604 = .ok (.ldc2_w 13, 3) := by decide +kernel
theorem dL_law_607 : decode cL_law 607 = .ok (.land, 1) := by decide +kernel
theorem dL_law_608 : decode cL_law 608 = .ok (.lor, 1) := by decide +kernel
theorem dL_law_609 : decode cL_law 609 = .ok (.invokevirtual 77, 3) := by decide +kernel
theorem dL_law_612 : decode cL_law 612 = .ok (.if_icmp .eq 134, 3) := by decide +kernel
theorem dL_law_615 : decode cL_law 615 = .ok (.iconst 0, 1) := by decide +kernel
theorem dL_law_616 : decode cL_law 616 = .ok (.ireturn, 1) := by decide +kernel
theorem dL_law_617 : decode cL_law 617 = .ok (.aload_n 1, 1) := by decide +kernel
theorem dL_law_618 : decode cL_law 618 = .ok (.aload_n 0, 1) := by decide +kernel
theorem dL_law_619 : decode cL_law 619 = .ok (.iload_n 3, 1) := by decide +kernel
theorem dL_law_620 : decode cL_law 620 = .ok (.iconst 1, 1) := by decide +kernel
theorem dL_law_621 : decode cL_law 621 = .ok (.iadd, 1) := by decide +kernel
theorem dL_law_622 : decode cL_law 622 = .ok (.iaload, 1) := by decide +kernel
theorem dL_law_623 : decode cL_law 623 = .ok (.aload_n 0, 1) := by decide +kernel
theorem dL_law_624 : decode cL_law 624 = .ok (.iload_n 3, 1) := by decide +kernel
theorem dL_law_625 : decode cL_law 625 = .ok (.iconst 2, 1) := by decide +kernel
theorem dL_law_626 : decode cL_law 626 = .ok (.iadd, 1) := by decide +kernel
theorem dL_law_627 : decode cL_law 627 = .ok (.iaload, 1) := by decide +kernel
theorem dL_law_628 : decode cL_law 628 = .ok (.aload_n 0, 1) := by decide +kernel
theorem dL_law_629 : decode cL_law 629 = .ok (.iload_n 3, 1) := by decide +kernel
theorem dL_law_630 : decode cL_law 630 = .ok (.iconst 3, 1) := by decide +kernel
theorem dL_law_631 : decode cL_law 631 = .ok (.iadd, 1) := by decide +kernel
theorem dL_law_632 : decode cL_law 632 = .ok (.iaload, 1) := by decide +kernel
theorem dL_law_633 : decode cL_law 633 = .ok (.i2l, 1) := by decide +kernel
theorem dL_law_634 : decode cL_law 634 = .ok (.bipush 32, 2) := by decide +kernel
theorem dL_law_636 : decode cL_law 636 = .ok (.lshl, 1) := by decide +kernel
theorem dL_law_637 : decode cL_law 637 = .ok (.aload_n 0, 1) := by decide +kernel
theorem dL_law_638 : decode cL_law 638 = .ok (.iload_n 3, 1) := by decide +kernel
theorem dL_law_639 : decode cL_law 639 = .ok (.iconst 4, 1) := by decide +kernel
theorem dL_law_640 : decode cL_law 640 = .ok (.iadd, 1) := by decide +kernel
theorem dL_law_641 : decode cL_law 641 = .ok (.iaload, 1) := by decide +kernel
theorem dL_law_642 : decode cL_law 642 = .ok (.i2l, 1) := by decide +kernel
theorem dL_law_643 : decode cL_law 643 = .ok (.ldc2_w 13, 3) := by decide +kernel
theorem dL_law_646 : decode cL_law 646 = .ok (.land, 1) := by decide +kernel
theorem dL_law_647 : decode cL_law 647 = .ok (.lor, 1) := by decide +kernel
theorem dL_law_648 : decode cL_law 648 = .ok (.invokevirtual 78, 3) := by decide +kernel
theorem dL_law_651 : decode cL_law 651 = .ok (.aload_n 2, 1) := by decide +kernel
theorem dL_law_652 : decode cL_law 652 = .ok (.aload_n 0, 1) := by decide +kernel
theorem dL_law_653 : decode cL_law 653 = .ok (.iload_n 3, 1) := by decide +kernel
theorem dL_law_654 : decode cL_law 654 = .ok (.iconst 1, 1) := by decide +kernel
theorem dL_law_655 : decode cL_law 655 = .ok (.iadd, 1) := by decide +kernel
theorem dL_law_656 : decode cL_law 656 = .ok (.iaload, 1) := by decide +kernel
theorem dL_law_657 : decode cL_law 657 = .ok (.aload_n 0, 1) := by decide +kernel
theorem dL_law_658 : decode cL_law 658 = .ok (.iload_n 3, 1) := by decide +kernel
theorem dL_law_659 : decode cL_law 659 = .ok (.iconst 2, 1) := by decide +kernel
theorem dL_law_660 : decode cL_law 660 = .ok (.iadd, 1) := by decide +kernel
theorem dL_law_661 : decode cL_law 661 = .ok (.iaload, 1) := by decide +kernel
theorem dL_law_662 : decode cL_law 662 = .ok (.aload_n 0, 1) := by decide +kernel
theorem dL_law_663 : decode cL_law 663 = .ok (.iload_n 3, 1) := by decide +kernel
theorem dL_law_664 : decode cL_law 664 = .ok (.iconst 3, 1) := by decide +kernel
theorem dL_law_665 : decode cL_law 665 = .ok (.iadd, 1) := by decide +kernel
theorem dL_law_666 : decode cL_law 666 = .ok (.iaload, 1) := by decide +kernel
theorem dL_law_667 : decode cL_law 667 = .ok (.i2l, 1) := by decide +kernel
theorem dL_law_668 : decode cL_law 668 = .ok (.bipush 32, 2) := by decide +kernel
theorem dL_law_670 : decode cL_law 670 = .ok (.lshl, 1) := by decide +kernel
theorem dL_law_671 : decode cL_law 671 = .ok (.aload_n 0, 1) := by decide +kernel
theorem dL_law_672 : decode cL_law 672 = .ok (.iload_n 3, 1) := by decide +kernel
theorem dL_law_673 : decode cL_law 673 = .ok (.iconst 4, 1) := by decide +kernel
theorem dL_law_674 : decode cL_law 674 = .ok (.iadd, 1) := by decide +kernel
theorem dL_law_675 : decode cL_law 675 = .ok (.iaload, 1) := by decide +kernel
theorem dL_law_676 : decode cL_law 676 = .ok (.i2l, 1) := by decide +kernel
theorem dL_law_677 : decode cL_law 677 = .ok (.ldc2_w 13, 3) := by decide +kernel
theorem dL_law_680 : decode cL_law 680 = .ok (.land, 1) := by decide +kernel
theorem dL_law_681 : decode cL_law 681 = .ok (.lor, 1) := by decide +kernel
theorem dL_law_682 : decode cL_law 682 = .ok (.invokevirtual 81, 3) := by decide +kernel
theorem dL_law_685 : decode cL_law 685 = .ok (.if_icmp .eq 61, 3) := by decide +kernel
theorem dL_law_688 : decode cL_law 688 = .ok (.iconst 0, 1) := by decide +kernel
theorem dL_law_689 : decode cL_law 689 = .ok (.ireturn, 1) := by decide +kernel
theorem dL_law_690 : decode cL_law 690 = .ok (.aload_n 1, 1) := by decide +kernel
theorem dL_law_691 : decode cL_law 691 = .ok (.aload_n 0, 1) := by decide +kernel
theorem dL_law_692 : decode cL_law 692 = .ok (.iload_n 3, 1) := by decide +kernel
theorem dL_law_693 : decode cL_law 693 = .ok (.iconst 1, 1) := by decide +kernel
theorem dL_law_694 : decode cL_law 694 = .ok (.iadd, 1) := by decide +kernel
theorem dL_law_695 : decode cL_law 695 = .ok (.iaload, 1) := by decide +kernel
theorem dL_law_696 : decode cL_law 696 = .ok (.invokevirtual 82, 3) := by decide +kernel
theorem dL_law_699 : decode cL_law 699 = .ok (.aload_n 2, 1) := by decide +kernel
theorem dL_law_700 : decode cL_law 700 = .ok (.aload_n 0, 1) := by decide +kernel
theorem dL_law_701 : decode cL_law 701 = .ok (.iload_n 3, 1) := by decide +kernel
theorem dL_law_702 : decode cL_law 702 = .ok (.iconst 1, 1) := by decide +kernel
theorem dL_law_703 : decode cL_law 703 = .ok (.iadd, 1) := by decide +kernel
theorem dL_law_704 : decode cL_law 704 = .ok (.iaload, 1) := by decide +kernel
theorem dL_law_705 : decode cL_law 705 = .ok (.invokevirtual 85, 3) := by decide +kernel
theorem dL_law_708 : decode cL_law 708 = .ok (.if_icmp .eq 38, 3) := by decide +kernel
theorem dL_law_711 : decode cL_law 711 = .ok (.iconst 0, 1) := by decide +kernel
theorem dL_law_712 : decode cL_law 712 = .ok (.ireturn, 1) := by decide +kernel
theorem dL_law_713 : decode cL_law 713 = .ok (.aload_n 1, 1) := by decide +kernel
theorem dL_law_714 : decode cL_law 714 = .ok (.aload_n 0, 1) := by decide +kernel
theorem dL_law_715 : decode cL_law 715 = .ok (.iload_n 3, 1) := by decide +kernel
theorem dL_law_716 : decode cL_law 716 = .ok (.iconst 1, 1) := by decide +kernel
theorem dL_law_717 : decode cL_law 717 = .ok (.iadd, 1) := by decide +kernel
theorem dL_law_718 : decode cL_law 718 = .ok (.iaload, 1) := by decide +kernel
theorem dL_law_719 : decode cL_law 719 = .ok (.aload_n 0, 1) := by decide +kernel
theorem dL_law_720 : decode cL_law 720 = .ok (.iload_n 3, 1) := by decide +kernel
theorem dL_law_721 : decode cL_law 721 = .ok (.iconst 2, 1) := by decide +kernel
theorem dL_law_722 : decode cL_law 722 = .ok (.iadd, 1) := by decide +kernel
theorem dL_law_723 : decode cL_law 723 = .ok (.iaload, 1) := by decide +kernel
theorem dL_law_724 : decode cL_law 724 = .ok (.invokevirtual 86, 3) := by decide +kernel
theorem dL_law_727 : decode cL_law 727 = .ok (.aload_n 2, 1) := by decide +kernel
theorem dL_law_728 : decode cL_law 728 = .ok (.aload_n 0, 1) := by decide +kernel
theorem dL_law_729 : decode cL_law 729 = .ok (.iload_n 3, 1) := by decide +kernel
theorem dL_law_730 : decode cL_law 730 = .ok (.iconst 1, 1) := by decide +kernel
theorem dL_law_731 : decode cL_law 731 = .ok (.iadd, 1) := by decide +kernel
theorem dL_law_732 : decode cL_law 732 = .ok (.iaload, 1) := by decide +kernel
theorem dL_law_733 : decode cL_law 733 = .ok (.aload_n 0, 1) := by decide +kernel
theorem dL_law_734 : decode cL_law 734 = .ok (.iload_n 3, 1) := by decide +kernel
theorem dL_law_735 : decode cL_law 735 = .ok (.iconst 2, 1) := by decide +kernel
theorem dL_law_736 : decode cL_law 736 = .ok (.iadd, 1) := by decide +kernel
theorem dL_law_737 : decode cL_law 737 = .ok (.iaload, 1) := by decide +kernel
theorem dL_law_738 : decode cL_law 738 = .ok (.invokevirtual 89, 3) := by decide +kernel
theorem dL_law_741 : decode cL_law 741 = .ok (.if_icmp .eq 5, 3) := by decide +kernel
theorem dL_law_744 : decode cL_law 744 = .ok (.iconst 0, 1) := by decide +kernel
theorem dL_law_745 : decode cL_law 745 = .ok (.ireturn, 1) := by decide +kernel
theorem dL_law_746 : decode cL_law 746 = .ok (.iinc 3 5, 3) := by decide +kernel
theorem dL_law_749 : decode cL_law 749 = .ok (.goto (-731), 3) := by decide +kernel
theorem dL_law_752 : decode cL_law 752 = .ok (.iconst 1, 1) := by decide +kernel
theorem dL_law_753 : decode cL_law 753 = .ok (.ireturn, 1) := by decide +kernel
abbrev vwCl : List vw_C := [(RX0, TX0, 5), (RX1, TX1, 4)]
end
section
abbrev cX1_isPart : ByteArray := prog_3_method_8_code
def yX1_isPart : MethodName := ⟨RX1, "isPart", "(II)Z"⟩
abbrev cX1_number : ByteArray := prog_3_method_9_code
def yX1_number : MethodName := ⟨RX1, "number", "(II)J"⟩
abbrev cX1_rotated : ByteArray := prog_3_method_10_code
def yX1_rotated : MethodName := ⟨RX1, "rotated", "(II)I"⟩
abbrev cX1_lane : ByteArray := prog_3_method_11_code
def yX1_lane : MethodName := ⟨RX1, "lane", "(IIII)I"⟩
abbrev cX1_sumNarrow : ByteArray := prog_3_method_12_code
def yX1_sumNarrow : MethodName := ⟨RX1, "sumNarrow", "(III)I"⟩
abbrev cX1_narrow : ByteArray := prog_3_method_13_code
def yX1_narrow : MethodName := ⟨RX1, "narrow", "()I"⟩
abbrev cX1_narrowOf : ByteArray := prog_3_method_14_code
def yX1_narrowOf : MethodName := ⟨RX1, "narrowOf", "(III)I"⟩
abbrev cX1_turned : ByteArray := prog_3_method_15_code
def yX1_turned : MethodName := ⟨RX1, "turned", "(JI)J"⟩
abbrev cX1_wideLane : ByteArray := prog_3_method_16_code
def yX1_wideLane : MethodName := ⟨RX1, "wideLane", "(JIII)J"⟩
abbrev cX1_join : ByteArray := prog_3_method_17_code
def yX1_join : MethodName := ⟨RX1, "join", "(JJ)J"⟩
abbrev cX1_ofLanes : ByteArray := prog_3_method_18_code
def yX1_ofLanes : MethodName := ⟨RX1, "ofLanes", "(IIJ)J"⟩
abbrev cX1_sumWide : ByteArray := prog_3_method_19_code
def yX1_sumWide : MethodName := ⟨RX1, "sumWide", "(IIJ)J"⟩
abbrev cX1_wide : ByteArray := prog_3_method_20_code
def yX1_wide : MethodName := ⟨RX1, "wide", "()J"⟩
abbrev cX1_wideOf : ByteArray := prog_3_method_21_code
def yX1_wideOf : MethodName := ⟨RX1, "wideOf", "(IIJ)J"⟩
abbrev cX1_right : ByteArray := prog_3_method_22_code
def yX1_right : MethodName := ⟨RX1, "right", "(I)I"⟩
abbrev cX1_before : ByteArray := prog_3_method_23_code
def yX1_before : MethodName := ⟨RX1, "before", "(I)I"⟩
abbrev cX1_withByte : ByteArray := prog_3_method_24_code
def yX1_withByte : MethodName := ⟨RX1, "withByte", "(II)I"⟩
abbrev cX1_back : ByteArray := prog_3_method_25_code
def yX1_back : MethodName := ⟨RX1, "back", "(II)I"⟩
abbrev cX1_register : ByteArray := prog_3_method_26_code
def yX1_register : MethodName := ⟨RX1, "register", "(II)I"⟩
abbrev cX1_poly : ByteArray := prog_3_method_27_code
def yX1_poly : MethodName := ⟨RX1, "poly", "()I"⟩
abbrev cX1_polyOf : ByteArray := prog_3_method_28_code
def yX1_polyOf : MethodName := ⟨RX1, "polyOf", "(II)I"⟩
abbrev cX1_masked : ByteArray := prog_3_method_29_code
def yX1_masked : MethodName := ⟨RX1, "masked", "(IZ)I"⟩
abbrev cX1_times : ByteArray := prog_3_method_30_code
def yX1_times : MethodName := ⟨RX1, "times", "(II)I"⟩
abbrev cX1_power : ByteArray := prog_3_method_31_code
def yX1_power : MethodName := ⟨RX1, "power", "(IJ)I"⟩
abbrev cX1_joined : ByteArray := prog_3_method_32_code
def yX1_joined : MethodName := ⟨RX1, "joined", "(IIJ)I"⟩
abbrev cX1_cut : ByteArray := prog_3_method_33_code
def yX1_cut : MethodName := ⟨RX1, "cut", "(IIJ)I"⟩
abbrev cX1_between : ByteArray := prog_3_method_34_code
def yX1_between : MethodName := ⟨RX1, "between", "(II)I"⟩
abbrev cX1_forged : ByteArray := prog_3_method_35_code
def yX1_forged : MethodName := ⟨RX1, "forged", "(I)I"⟩
abbrev cX1_mended : ByteArray := prog_3_method_36_code
def yX1_mended : MethodName := ⟨RX1, "mended", "(II)I"⟩
def wsM_n : List Cond := [Cond.initialized RX1, Cond.arrayClass .byte, Cond.methodLink RX1 1 objectInit, Cond.instanceMethod objectInit, Cond.fieldLink RX1 8 "StreamSumsModel" "row" "[B", Cond.fieldLink RX1 14 "StreamSumsModel" "length" "I", Cond.fieldLink RX1 18 "StreamSumsModel" "seedNarrow" "I", Cond.fieldLink RX1 21 "StreamSumsModel" "seedWide" "J", Cond.constant RX1 7 (65536), Cond.constantLong RX1 25 (65536), Cond.constant RX1 35 (-2048144777), Cond.constant RX1 40 (-1640531535), Cond.constant RX1 41 (374761393), Cond.constant RX1 46 (-1028477379), Cond.constant RX1 47 (668265263), Cond.constantLong RX1 56 (-4417276706812531889), Cond.constantLong RX1 62 (-7046029288634856825), Cond.constantLong RX1 64 (-8796714831421723037), Cond.constantLong RX1 78 (2870177450012600261), Cond.constantLong RX1 80 (1609587929392839161), Cond.constant RX1 85 (-2097792136), Cond.constant RX1 98 (-1568478504), Cond.constant RX1 99 (-2147483648), Cond.methodLink RX1 27 yX1_at, Cond.methodLink RX1 31 yX1_number, Cond.methodLink RX1 36 yX1_rotated, Cond.methodLink RX1 42 yX1_lane, Cond.methodLink RX1 48 yX1_sumNarrow, Cond.methodLink RX1 52 yX1_isPart, Cond.methodLink RX1 58 yX1_turned, Cond.methodLink RX1 66 yX1_wideLane, Cond.methodLink RX1 70 yX1_join, Cond.methodLink RX1 74 yX1_ofLanes, Cond.methodLink RX1 82 yX1_sumWide, Cond.methodLink RX1 86 yX1_right, Cond.methodLink RX1 89 yX1_before, Cond.methodLink RX1 92 yX1_withByte, Cond.methodLink RX1 95 yX1_register, Cond.methodLink RX1 100 yX1_times, Cond.methodLink RX1 103 yX1_power, Cond.methodLink RX1 107 yX1_back, Cond.methodLink RX1 110 yX1_between, Cond.static yX1_rotated, Cond.static yX1_turned, Cond.static yX1_join, Cond.static yX1_right, Cond.static yX1_before, Cond.static yX1_withByte, Cond.static yX1_times, Cond.static yX1_power, Cond.static yX1_back, Cond.static yX1_between, Cond.instanceMethod yX1_at, Cond.selects RX1 yX1_at yX1_at, Cond.instanceMethod yX1_number, Cond.selects RX1 yX1_number yX1_number, Cond.instanceMethod yX1_lane, Cond.selects RX1 yX1_lane yX1_lane, Cond.instanceMethod yX1_sumNarrow, Cond.selects RX1 yX1_sumNarrow yX1_sumNarrow, Cond.instanceMethod yX1_isPart, Cond.selects RX1 yX1_isPart yX1_isPart, Cond.instanceMethod yX1_wideLane, Cond.selects RX1 yX1_wideLane yX1_wideLane, Cond.instanceMethod yX1_ofLanes, Cond.selects RX1 yX1_ofLanes yX1_ofLanes, Cond.instanceMethod yX1_sumWide, Cond.selects RX1 yX1_sumWide yX1_sumWide, Cond.instanceMethod yX1_register, Cond.selects RX1 yX1_register yX1_register]
def wsM_c : List Cond := [Cond.code objectInit ⟨#[0xb1]⟩ 1 none, Cond.code yX1_at cX1_at 2 (some .int), Cond.code yX1_back cX1_back 4 (some .int), Cond.code yX1_before cX1_before 1 (some .int), Cond.code yX1_between cX1_between 3 (some .int), Cond.code yX1_isPart cX1_isPart 3 (some .boolean), Cond.code yX1_join cX1_join 4 (some .long), Cond.code yX1_lane cX1_lane 7 (some .int), Cond.code yX1_number cX1_number 6 (some .long), Cond.code yX1_ofLanes cX1_ofLanes 15 (some .long), Cond.code yX1_power cX1_power 5 (some .int), Cond.code yX1_register cX1_register 5 (some .int), Cond.code yX1_right cX1_right 1 (some .int), Cond.code yX1_rotated cX1_rotated 2 (some .int), Cond.code yX1_sumNarrow cX1_sumNarrow 8 (some .int), Cond.code yX1_sumWide cX1_sumWide 10 (some .long), Cond.code yX1_times cX1_times 5 (some .int), Cond.code yX1_turned cX1_turned 3 (some .long), Cond.code yX1_wideLane cX1_wideLane 9 (some .long), Cond.code yX1_withByte cX1_withByte 4 (some .int)]
def wsM : List Cond := wsM_n ++ (wsX10 ++ wsM_c)
theorem wsM_good : wsM.all goodWord = true := by decide +kernel
theorem wsM_nin {w : Cond} (h : w ∈ wsM_n) : w ∈ wsM := List.mem_append_left _ h
theorem wsM_cin {w : Cond} (h : w ∈ wsM_c) : w ∈ wsM := List.mem_append_right _ (List.mem_append_right _ h)
theorem wsM_fin : ∀ w ∈ u_ws RX1 TX1 4, w ∈ wsM := fun _ h => List.mem_append_right _ (List.mem_append_left _ h)
theorem wsM_self {c : Cond} : ∀ w ∈ wsM, w ∈ c :: wsM := fun _ h => List.mem_cons_of_mem _ h
theorem gm_V {big : List Cond} {own : String} {ix : Nat} {y : MethodName} {b : ByteArray} {k : Nat} {r : Option FieldType} (hb : ∀ w ∈ wsM, w ∈ big) (h1 : Cond.methodLink own ix y ∈ big) (h2 : Cond.instanceMethod y ∈ big) (h3 : Cond.selects RX1 y y ∈ big) (h4 : Cond.initialized RX1 ∈ big) (h5 : Cond.code y b k r ∈ big) : GoodIn big (wsV own ix RX1 y (Cond.code y b k r :: wsM)) := by
  intro w hw
  unfold wsV at hw
  simp only [List.mem_append, List.mem_cons, List.not_mem_nil, or_false] at hw
  rcases hw with (rfl | rfl | rfl | rfl) | rfl | hw
  · exact ⟨h1, Or.inl rfl⟩
  · exact ⟨h2, Or.inl rfl⟩
  · exact ⟨h3, Or.inl rfl⟩
  · exact ⟨h4, Or.inl rfl⟩
  · exact ⟨h5, Or.inl rfl⟩
  · exact ⟨hb w hw, good_of_word (List.all_eq_true.mp wsM_good w hw)⟩
theorem gm_S {big : List Cond} {own : String} {ix : Nat} {y : MethodName} {b : ByteArray} {k : Nat} {r : Option FieldType} (hb : ∀ w ∈ wsM, w ∈ big) (h1 : Cond.methodLink own ix y ∈ big) (h2 : Cond.static y ∈ big) (h4 : Cond.initialized y.cls ∈ big) (h5 : Cond.code y b k r ∈ big) : GoodIn big (va_wsS own ix y (Cond.code y b k r :: wsM)) := by
  intro w hw
  unfold va_wsS at hw
  simp only [List.mem_append, List.mem_cons, List.not_mem_nil, or_false] at hw
  rcases hw with (rfl | rfl | rfl) | rfl | hw
  · exact ⟨h1, Or.inl rfl⟩
  · exact ⟨h2, Or.inl rfl⟩
  · exact ⟨h4, Or.inl rfl⟩
  · exact ⟨h5, Or.inl rfl⟩
  · exact ⟨hb w hw, good_of_word (List.all_eq_true.mp wsM_good w hw)⟩
def wsM_init : List Cond := .code yX1_init cX1_init 1 none :: wsM
def wsM_begin : List Cond := .code yX1_begin cX1_begin 4 none :: wsM
def wsM_write : List Cond := .code yX1_write cX1_write 5 (some .boolean) :: wsM
def wsM_again : List Cond := .code yX1_again cX1_again 5 (some .boolean) :: wsM
def wsM_size : List Cond := .code yX1_size cX1_size 1 (some .int) :: wsM
def wsM_at : List Cond := .code yX1_at cX1_at 2 (some .int) :: wsM
def wsM_byteAt : List Cond := .code yX1_byteAt cX1_byteAt 2 (some .int) :: wsM
def wsM_isPart : List Cond := .code yX1_isPart cX1_isPart 3 (some .boolean) :: wsM
def wsM_number : List Cond := .code yX1_number cX1_number 6 (some .long) :: wsM
def wsM_rotated : List Cond := .code yX1_rotated cX1_rotated 2 (some .int) :: wsM
def wsM_lane : List Cond := .code yX1_lane cX1_lane 7 (some .int) :: wsM
def wsM_sumNarrow : List Cond := .code yX1_sumNarrow cX1_sumNarrow 8 (some .int) :: wsM
def wsM_narrow : List Cond := .code yX1_narrow cX1_narrow 1 (some .int) :: wsM
def wsM_narrowOf : List Cond := .code yX1_narrowOf cX1_narrowOf 4 (some .int) :: wsM
def wsM_turned : List Cond := .code yX1_turned cX1_turned 3 (some .long) :: wsM
def wsM_wideLane : List Cond := .code yX1_wideLane cX1_wideLane 9 (some .long) :: wsM
def wsM_join : List Cond := .code yX1_join cX1_join 4 (some .long) :: wsM
def wsM_ofLanes : List Cond := .code yX1_ofLanes cX1_ofLanes 15 (some .long) :: wsM
def wsM_sumWide : List Cond := .code yX1_sumWide cX1_sumWide 10 (some .long) :: wsM
def wsM_wide : List Cond := .code yX1_wide cX1_wide 1 (some .long) :: wsM
def wsM_wideOf : List Cond := .code yX1_wideOf cX1_wideOf 5 (some .long) :: wsM
def wsM_right : List Cond := .code yX1_right cX1_right 1 (some .int) :: wsM
def wsM_before : List Cond := .code yX1_before cX1_before 1 (some .int) :: wsM
def wsM_withByte : List Cond := .code yX1_withByte cX1_withByte 4 (some .int) :: wsM
def wsM_back : List Cond := .code yX1_back cX1_back 4 (some .int) :: wsM
def wsM_register : List Cond := .code yX1_register cX1_register 5 (some .int) :: wsM
def wsM_poly : List Cond := .code yX1_poly cX1_poly 1 (some .int) :: wsM
def wsM_polyOf : List Cond := .code yX1_polyOf cX1_polyOf 3 (some .int) :: wsM
def wsM_masked : List Cond := .code yX1_masked cX1_masked 3 (some .int) :: wsM
def wsM_times : List Cond := .code yX1_times cX1_times 5 (some .int) :: wsM
def wsM_power : List Cond := .code yX1_power cX1_power 5 (some .int) :: wsM
def wsM_joined : List Cond := .code yX1_joined cX1_joined 5 (some .int) :: wsM
def wsM_cut : List Cond := .code yX1_cut cX1_cut 5 (some .int) :: wsM
def wsM_between : List Cond := .code yX1_between cX1_between 3 (some .int) :: wsM
def wsM_forged : List Cond := .code yX1_forged cX1_forged 2 (some .int) :: wsM
def wsM_mended : List Cond := .code yX1_mended cX1_mended 5 (some .int) :: wsM
theorem gX1_byteAt_X1_at : GoodIn wsM_byteAt (wsV RX1 27 RX1 yX1_at wsM_at) := gm_V wsM_self (wsM_self _ (wsM_nin (by decide +kernel))) (wsM_self _ (wsM_nin (by decide +kernel))) (wsM_self _ (wsM_nin (by decide +kernel))) (wsM_self _ (wsM_nin (by decide +kernel))) (wsM_self _ (wsM_cin (List.mem_of_getElem? (i := 1) rfl)))
theorem gX1_number_X1_at : GoodIn wsM_number (wsV RX1 27 RX1 yX1_at wsM_at) := gm_V wsM_self (wsM_self _ (wsM_nin (by decide +kernel))) (wsM_self _ (wsM_nin (by decide +kernel))) (wsM_self _ (wsM_nin (by decide +kernel))) (wsM_self _ (wsM_nin (by decide +kernel))) (wsM_self _ (wsM_cin (List.mem_of_getElem? (i := 1) rfl)))
theorem gX1_lane_X1_number : GoodIn wsM_lane (wsV RX1 31 RX1 yX1_number wsM_number) := gm_V wsM_self (wsM_self _ (wsM_nin (by decide +kernel))) (wsM_self _ (wsM_nin (by decide +kernel))) (wsM_self _ (wsM_nin (by decide +kernel))) (wsM_self _ (wsM_nin (by decide +kernel))) (wsM_self _ (wsM_cin (List.mem_of_getElem? (i := 8) rfl)))
theorem gX1_lane_X1_rotated : GoodIn wsM_lane (va_wsS RX1 36 yX1_rotated wsM_rotated) := gm_S wsM_self (wsM_self _ (wsM_nin (by decide +kernel))) (wsM_self _ (wsM_nin (by decide +kernel))) (wsM_self _ (wsM_nin (by decide +kernel))) (wsM_self _ (wsM_cin (List.mem_of_getElem? (i := 13) rfl)))
theorem gX1_sumNarrow_X1_lane : GoodIn wsM_sumNarrow (wsV RX1 42 RX1 yX1_lane wsM_lane) := gm_V wsM_self (wsM_self _ (wsM_nin (by decide +kernel))) (wsM_self _ (wsM_nin (by decide +kernel))) (wsM_self _ (wsM_nin (by decide +kernel))) (wsM_self _ (wsM_nin (by decide +kernel))) (wsM_self _ (wsM_cin (List.mem_of_getElem? (i := 7) rfl)))
theorem gX1_sumNarrow_X1_rotated : GoodIn wsM_sumNarrow (va_wsS RX1 36 yX1_rotated wsM_rotated) := gm_S wsM_self (wsM_self _ (wsM_nin (by decide +kernel))) (wsM_self _ (wsM_nin (by decide +kernel))) (wsM_self _ (wsM_nin (by decide +kernel))) (wsM_self _ (wsM_cin (List.mem_of_getElem? (i := 13) rfl)))
theorem gX1_sumNarrow_X1_number : GoodIn wsM_sumNarrow (wsV RX1 31 RX1 yX1_number wsM_number) := gm_V wsM_self (wsM_self _ (wsM_nin (by decide +kernel))) (wsM_self _ (wsM_nin (by decide +kernel))) (wsM_self _ (wsM_nin (by decide +kernel))) (wsM_self _ (wsM_nin (by decide +kernel))) (wsM_self _ (wsM_cin (List.mem_of_getElem? (i := 8) rfl)))
theorem gX1_sumNarrow_X1_at : GoodIn wsM_sumNarrow (wsV RX1 27 RX1 yX1_at wsM_at) := gm_V wsM_self (wsM_self _ (wsM_nin (by decide +kernel))) (wsM_self _ (wsM_nin (by decide +kernel))) (wsM_self _ (wsM_nin (by decide +kernel))) (wsM_self _ (wsM_nin (by decide +kernel))) (wsM_self _ (wsM_cin (List.mem_of_getElem? (i := 1) rfl)))
theorem gX1_narrow_X1_sumNarrow : GoodIn wsM_narrow (wsV RX1 48 RX1 yX1_sumNarrow wsM_sumNarrow) := gm_V wsM_self (wsM_self _ (wsM_nin (by decide +kernel))) (wsM_self _ (wsM_nin (by decide +kernel))) (wsM_self _ (wsM_nin (by decide +kernel))) (wsM_self _ (wsM_nin (by decide +kernel))) (wsM_self _ (wsM_cin (List.mem_of_getElem? (i := 14) rfl)))
theorem gX1_narrowOf_X1_isPart : GoodIn wsM_narrowOf (wsV RX1 52 RX1 yX1_isPart wsM_isPart) := gm_V wsM_self (wsM_self _ (wsM_nin (by decide +kernel))) (wsM_self _ (wsM_nin (by decide +kernel))) (wsM_self _ (wsM_nin (by decide +kernel))) (wsM_self _ (wsM_nin (by decide +kernel))) (wsM_self _ (wsM_cin (List.mem_of_getElem? (i := 5) rfl)))
theorem gX1_narrowOf_X1_sumNarrow : GoodIn wsM_narrowOf (wsV RX1 48 RX1 yX1_sumNarrow wsM_sumNarrow) := gm_V wsM_self (wsM_self _ (wsM_nin (by decide +kernel))) (wsM_self _ (wsM_nin (by decide +kernel))) (wsM_self _ (wsM_nin (by decide +kernel))) (wsM_self _ (wsM_nin (by decide +kernel))) (wsM_self _ (wsM_cin (List.mem_of_getElem? (i := 14) rfl)))
theorem gX1_wideLane_X1_number : GoodIn wsM_wideLane (wsV RX1 31 RX1 yX1_number wsM_number) := gm_V wsM_self (wsM_self _ (wsM_nin (by decide +kernel))) (wsM_self _ (wsM_nin (by decide +kernel))) (wsM_self _ (wsM_nin (by decide +kernel))) (wsM_self _ (wsM_nin (by decide +kernel))) (wsM_self _ (wsM_cin (List.mem_of_getElem? (i := 8) rfl)))
theorem gX1_wideLane_X1_turned : GoodIn wsM_wideLane (va_wsS RX1 58 yX1_turned wsM_turned) := gm_S wsM_self (wsM_self _ (wsM_nin (by decide +kernel))) (wsM_self _ (wsM_nin (by decide +kernel))) (wsM_self _ (wsM_nin (by decide +kernel))) (wsM_self _ (wsM_cin (List.mem_of_getElem? (i := 17) rfl)))
theorem gX1_join_X1_turned : GoodIn wsM_join (va_wsS RX1 58 yX1_turned wsM_turned) := gm_S wsM_self (wsM_self _ (wsM_nin (by decide +kernel))) (wsM_self _ (wsM_nin (by decide +kernel))) (wsM_self _ (wsM_nin (by decide +kernel))) (wsM_self _ (wsM_cin (List.mem_of_getElem? (i := 17) rfl)))
theorem gX1_ofLanes_X1_wideLane : GoodIn wsM_ofLanes (wsV RX1 66 RX1 yX1_wideLane wsM_wideLane) := gm_V wsM_self (wsM_self _ (wsM_nin (by decide +kernel))) (wsM_self _ (wsM_nin (by decide +kernel))) (wsM_self _ (wsM_nin (by decide +kernel))) (wsM_self _ (wsM_nin (by decide +kernel))) (wsM_self _ (wsM_cin (List.mem_of_getElem? (i := 18) rfl)))
theorem gX1_ofLanes_X1_turned : GoodIn wsM_ofLanes (va_wsS RX1 58 yX1_turned wsM_turned) := gm_S wsM_self (wsM_self _ (wsM_nin (by decide +kernel))) (wsM_self _ (wsM_nin (by decide +kernel))) (wsM_self _ (wsM_nin (by decide +kernel))) (wsM_self _ (wsM_cin (List.mem_of_getElem? (i := 17) rfl)))
theorem gX1_ofLanes_X1_join : GoodIn wsM_ofLanes (va_wsS RX1 70 yX1_join wsM_join) := gm_S wsM_self (wsM_self _ (wsM_nin (by decide +kernel))) (wsM_self _ (wsM_nin (by decide +kernel))) (wsM_self _ (wsM_nin (by decide +kernel))) (wsM_self _ (wsM_cin (List.mem_of_getElem? (i := 6) rfl)))
theorem gX1_sumWide_X1_ofLanes : GoodIn wsM_sumWide (wsV RX1 74 RX1 yX1_ofLanes wsM_ofLanes) := gm_V wsM_self (wsM_self _ (wsM_nin (by decide +kernel))) (wsM_self _ (wsM_nin (by decide +kernel))) (wsM_self _ (wsM_nin (by decide +kernel))) (wsM_self _ (wsM_nin (by decide +kernel))) (wsM_self _ (wsM_cin (List.mem_of_getElem? (i := 9) rfl)))
theorem gX1_sumWide_X1_number : GoodIn wsM_sumWide (wsV RX1 31 RX1 yX1_number wsM_number) := gm_V wsM_self (wsM_self _ (wsM_nin (by decide +kernel))) (wsM_self _ (wsM_nin (by decide +kernel))) (wsM_self _ (wsM_nin (by decide +kernel))) (wsM_self _ (wsM_nin (by decide +kernel))) (wsM_self _ (wsM_cin (List.mem_of_getElem? (i := 8) rfl)))
theorem gX1_sumWide_X1_turned : GoodIn wsM_sumWide (va_wsS RX1 58 yX1_turned wsM_turned) := gm_S wsM_self (wsM_self _ (wsM_nin (by decide +kernel))) (wsM_self _ (wsM_nin (by decide +kernel))) (wsM_self _ (wsM_nin (by decide +kernel))) (wsM_self _ (wsM_cin (List.mem_of_getElem? (i := 17) rfl)))
theorem gX1_sumWide_X1_at : GoodIn wsM_sumWide (wsV RX1 27 RX1 yX1_at wsM_at) := gm_V wsM_self (wsM_self _ (wsM_nin (by decide +kernel))) (wsM_self _ (wsM_nin (by decide +kernel))) (wsM_self _ (wsM_nin (by decide +kernel))) (wsM_self _ (wsM_nin (by decide +kernel))) (wsM_self _ (wsM_cin (List.mem_of_getElem? (i := 1) rfl)))
theorem gX1_wide_X1_sumWide : GoodIn wsM_wide (wsV RX1 82 RX1 yX1_sumWide wsM_sumWide) := gm_V wsM_self (wsM_self _ (wsM_nin (by decide +kernel))) (wsM_self _ (wsM_nin (by decide +kernel))) (wsM_self _ (wsM_nin (by decide +kernel))) (wsM_self _ (wsM_nin (by decide +kernel))) (wsM_self _ (wsM_cin (List.mem_of_getElem? (i := 15) rfl)))
theorem gX1_wideOf_X1_isPart : GoodIn wsM_wideOf (wsV RX1 52 RX1 yX1_isPart wsM_isPart) := gm_V wsM_self (wsM_self _ (wsM_nin (by decide +kernel))) (wsM_self _ (wsM_nin (by decide +kernel))) (wsM_self _ (wsM_nin (by decide +kernel))) (wsM_self _ (wsM_nin (by decide +kernel))) (wsM_self _ (wsM_cin (List.mem_of_getElem? (i := 5) rfl)))
theorem gX1_wideOf_X1_sumWide : GoodIn wsM_wideOf (wsV RX1 82 RX1 yX1_sumWide wsM_sumWide) := gm_V wsM_self (wsM_self _ (wsM_nin (by decide +kernel))) (wsM_self _ (wsM_nin (by decide +kernel))) (wsM_self _ (wsM_nin (by decide +kernel))) (wsM_self _ (wsM_nin (by decide +kernel))) (wsM_self _ (wsM_cin (List.mem_of_getElem? (i := 15) rfl)))
theorem gX1_withByte_X1_right : GoodIn wsM_withByte (va_wsS RX1 86 yX1_right wsM_right) := gm_S wsM_self (wsM_self _ (wsM_nin (by decide +kernel))) (wsM_self _ (wsM_nin (by decide +kernel))) (wsM_self _ (wsM_nin (by decide +kernel))) (wsM_self _ (wsM_cin (List.mem_of_getElem? (i := 12) rfl)))
theorem gX1_back_X1_before : GoodIn wsM_back (va_wsS RX1 89 yX1_before wsM_before) := gm_S wsM_self (wsM_self _ (wsM_nin (by decide +kernel))) (wsM_self _ (wsM_nin (by decide +kernel))) (wsM_self _ (wsM_nin (by decide +kernel))) (wsM_self _ (wsM_cin (List.mem_of_getElem? (i := 3) rfl)))
theorem gX1_register_X1_at : GoodIn wsM_register (wsV RX1 27 RX1 yX1_at wsM_at) := gm_V wsM_self (wsM_self _ (wsM_nin (by decide +kernel))) (wsM_self _ (wsM_nin (by decide +kernel))) (wsM_self _ (wsM_nin (by decide +kernel))) (wsM_self _ (wsM_nin (by decide +kernel))) (wsM_self _ (wsM_cin (List.mem_of_getElem? (i := 1) rfl)))
theorem gX1_register_X1_withByte : GoodIn wsM_register (va_wsS RX1 92 yX1_withByte wsM_withByte) := gm_S wsM_self (wsM_self _ (wsM_nin (by decide +kernel))) (wsM_self _ (wsM_nin (by decide +kernel))) (wsM_self _ (wsM_nin (by decide +kernel))) (wsM_self _ (wsM_cin (List.mem_of_getElem? (i := 19) rfl)))
theorem gX1_poly_X1_register : GoodIn wsM_poly (wsV RX1 95 RX1 yX1_register wsM_register) := gm_V wsM_self (wsM_self _ (wsM_nin (by decide +kernel))) (wsM_self _ (wsM_nin (by decide +kernel))) (wsM_self _ (wsM_nin (by decide +kernel))) (wsM_self _ (wsM_nin (by decide +kernel))) (wsM_self _ (wsM_cin (List.mem_of_getElem? (i := 11) rfl)))
theorem gX1_polyOf_X1_isPart : GoodIn wsM_polyOf (wsV RX1 52 RX1 yX1_isPart wsM_isPart) := gm_V wsM_self (wsM_self _ (wsM_nin (by decide +kernel))) (wsM_self _ (wsM_nin (by decide +kernel))) (wsM_self _ (wsM_nin (by decide +kernel))) (wsM_self _ (wsM_nin (by decide +kernel))) (wsM_self _ (wsM_cin (List.mem_of_getElem? (i := 5) rfl)))
theorem gX1_polyOf_X1_register : GoodIn wsM_polyOf (wsV RX1 95 RX1 yX1_register wsM_register) := gm_V wsM_self (wsM_self _ (wsM_nin (by decide +kernel))) (wsM_self _ (wsM_nin (by decide +kernel))) (wsM_self _ (wsM_nin (by decide +kernel))) (wsM_self _ (wsM_nin (by decide +kernel))) (wsM_self _ (wsM_cin (List.mem_of_getElem? (i := 11) rfl)))
theorem gX1_masked_X1_rotated : GoodIn wsM_masked (va_wsS RX1 36 yX1_rotated wsM_rotated) := gm_S wsM_self (wsM_self _ (wsM_nin (by decide +kernel))) (wsM_self _ (wsM_nin (by decide +kernel))) (wsM_self _ (wsM_nin (by decide +kernel))) (wsM_self _ (wsM_cin (List.mem_of_getElem? (i := 13) rfl)))
theorem gX1_times_X1_right : GoodIn wsM_times (va_wsS RX1 86 yX1_right wsM_right) := gm_S wsM_self (wsM_self _ (wsM_nin (by decide +kernel))) (wsM_self _ (wsM_nin (by decide +kernel))) (wsM_self _ (wsM_nin (by decide +kernel))) (wsM_self _ (wsM_cin (List.mem_of_getElem? (i := 12) rfl)))
theorem gX1_power_X1_times : GoodIn wsM_power (va_wsS RX1 100 yX1_times wsM_times) := gm_S wsM_self (wsM_self _ (wsM_nin (by decide +kernel))) (wsM_self _ (wsM_nin (by decide +kernel))) (wsM_self _ (wsM_nin (by decide +kernel))) (wsM_self _ (wsM_cin (List.mem_of_getElem? (i := 16) rfl)))
theorem gX1_joined_X1_withByte : GoodIn wsM_joined (va_wsS RX1 92 yX1_withByte wsM_withByte) := gm_S wsM_self (wsM_self _ (wsM_nin (by decide +kernel))) (wsM_self _ (wsM_nin (by decide +kernel))) (wsM_self _ (wsM_nin (by decide +kernel))) (wsM_self _ (wsM_cin (List.mem_of_getElem? (i := 19) rfl)))
theorem gX1_joined_X1_power : GoodIn wsM_joined (va_wsS RX1 103 yX1_power wsM_power) := gm_S wsM_self (wsM_self _ (wsM_nin (by decide +kernel))) (wsM_self _ (wsM_nin (by decide +kernel))) (wsM_self _ (wsM_nin (by decide +kernel))) (wsM_self _ (wsM_cin (List.mem_of_getElem? (i := 10) rfl)))
theorem gX1_joined_X1_times : GoodIn wsM_joined (va_wsS RX1 100 yX1_times wsM_times) := gm_S wsM_self (wsM_self _ (wsM_nin (by decide +kernel))) (wsM_self _ (wsM_nin (by decide +kernel))) (wsM_self _ (wsM_nin (by decide +kernel))) (wsM_self _ (wsM_cin (List.mem_of_getElem? (i := 16) rfl)))
theorem gX1_cut_X1_back : GoodIn wsM_cut (va_wsS RX1 107 yX1_back wsM_back) := gm_S wsM_self (wsM_self _ (wsM_nin (by decide +kernel))) (wsM_self _ (wsM_nin (by decide +kernel))) (wsM_self _ (wsM_nin (by decide +kernel))) (wsM_self _ (wsM_cin (List.mem_of_getElem? (i := 2) rfl)))
theorem gX1_cut_X1_power : GoodIn wsM_cut (va_wsS RX1 103 yX1_power wsM_power) := gm_S wsM_self (wsM_self _ (wsM_nin (by decide +kernel))) (wsM_self _ (wsM_nin (by decide +kernel))) (wsM_self _ (wsM_nin (by decide +kernel))) (wsM_self _ (wsM_cin (List.mem_of_getElem? (i := 10) rfl)))
theorem gX1_cut_X1_times : GoodIn wsM_cut (va_wsS RX1 100 yX1_times wsM_times) := gm_S wsM_self (wsM_self _ (wsM_nin (by decide +kernel))) (wsM_self _ (wsM_nin (by decide +kernel))) (wsM_self _ (wsM_nin (by decide +kernel))) (wsM_self _ (wsM_cin (List.mem_of_getElem? (i := 16) rfl)))
theorem gX1_between_X1_back : GoodIn wsM_between (va_wsS RX1 107 yX1_back wsM_back) := gm_S wsM_self (wsM_self _ (wsM_nin (by decide +kernel))) (wsM_self _ (wsM_nin (by decide +kernel))) (wsM_self _ (wsM_nin (by decide +kernel))) (wsM_self _ (wsM_cin (List.mem_of_getElem? (i := 2) rfl)))
theorem gX1_forged_X1_register : GoodIn wsM_forged (wsV RX1 95 RX1 yX1_register wsM_register) := gm_V wsM_self (wsM_self _ (wsM_nin (by decide +kernel))) (wsM_self _ (wsM_nin (by decide +kernel))) (wsM_self _ (wsM_nin (by decide +kernel))) (wsM_self _ (wsM_nin (by decide +kernel))) (wsM_self _ (wsM_cin (List.mem_of_getElem? (i := 11) rfl)))
theorem gX1_forged_X1_between : GoodIn wsM_forged (va_wsS RX1 110 yX1_between wsM_between) := gm_S wsM_self (wsM_self _ (wsM_nin (by decide +kernel))) (wsM_self _ (wsM_nin (by decide +kernel))) (wsM_self _ (wsM_nin (by decide +kernel))) (wsM_self _ (wsM_cin (List.mem_of_getElem? (i := 4) rfl)))
theorem gX1_mended_X1_back : GoodIn wsM_mended (va_wsS RX1 107 yX1_back wsM_back) := gm_S wsM_self (wsM_self _ (wsM_nin (by decide +kernel))) (wsM_self _ (wsM_nin (by decide +kernel))) (wsM_self _ (wsM_nin (by decide +kernel))) (wsM_self _ (wsM_cin (List.mem_of_getElem? (i := 2) rfl)))
theorem gX1_mended_X1_at : GoodIn wsM_mended (wsV RX1 27 RX1 yX1_at wsM_at) := gm_V wsM_self (wsM_self _ (wsM_nin (by decide +kernel))) (wsM_self _ (wsM_nin (by decide +kernel))) (wsM_self _ (wsM_nin (by decide +kernel))) (wsM_self _ (wsM_nin (by decide +kernel))) (wsM_self _ (wsM_cin (List.mem_of_getElem? (i := 1) rfl)))
theorem gX1_mended_X1_register : GoodIn wsM_mended (wsV RX1 95 RX1 yX1_register wsM_register) := gm_V wsM_self (wsM_self _ (wsM_nin (by decide +kernel))) (wsM_self _ (wsM_nin (by decide +kernel))) (wsM_self _ (wsM_nin (by decide +kernel))) (wsM_self _ (wsM_nin (by decide +kernel))) (wsM_self _ (wsM_cin (List.mem_of_getElem? (i := 11) rfl)))
theorem gX1_mended_X1_between : GoodIn wsM_mended (va_wsS RX1 110 yX1_between wsM_between) := gm_S wsM_self (wsM_self _ (wsM_nin (by decide +kernel))) (wsM_self _ (wsM_nin (by decide +kernel))) (wsM_self _ (wsM_nin (by decide +kernel))) (wsM_self _ (wsM_cin (List.mem_of_getElem? (i := 4) rfl)))
theorem dX1_isPart_0 : decode cX1_isPart 0 = .ok (.iload_n 1, 1) := by decide +kernel
theorem dX1_isPart_1 : decode cX1_isPart 1 = .ok (.ifCond .lt 20, 3) := by decide +kernel
theorem dX1_isPart_4 : decode cX1_isPart 4 = .ok (.iload_n 1, 1) := by decide +kernel
theorem dX1_isPart_5 : decode cX1_isPart 5 = .ok (.iload_n 2, 1) := by decide +kernel
theorem dX1_isPart_6 : decode cX1_isPart 6 = .ok (.if_icmp .gt 15, 3) := by decide +kernel
theorem dX1_isPart_9 : decode cX1_isPart 9 = .ok (.iload_n 2, 1) := by decide +kernel
theorem dX1_isPart_10 : decode cX1_isPart 10 = .ok (.aload_n 0, 1) := by decide +kernel
theorem dX1_isPart_11 : decode cX1_isPart 11 = .ok (.getfield 14, 3) := by decide +kernel
theorem dX1_isPart_14 : decode cX1_isPart 14 = .ok (.if_icmp .gt 7, 3) := by decide +kernel
theorem dX1_isPart_17 : decode cX1_isPart 17 = .ok (.iconst 1, 1) := by decide +kernel
theorem dX1_isPart_18 : decode cX1_isPart 18 = .ok (.goto 4, 3) := by decide +kernel
theorem dX1_isPart_21 : decode cX1_isPart 21 = .ok (.iconst 0, 1) := by decide +kernel
theorem dX1_isPart_22 : decode cX1_isPart 22 = .ok (.ireturn, 1) := by decide +kernel
theorem dX1_number_0 : decode cX1_number 0 = .ok (.lconst 0, 1) := by decide +kernel
theorem dX1_number_1 : decode cX1_number 1 = .ok (.lstore_n 3, 1) := by decide +kernel
theorem dX1_number_2 : decode cX1_number 2 = .ok (.iconst 0, 1) := by decide +kernel
theorem dX1_number_3 : decode cX1_number 3 = .ok (.istore 5, 2) := by decide +kernel
theorem dX1_number_5 : decode cX1_number 5 = .ok (.iload 5, 2) := by decide +kernel
theorem dX1_number_7 : decode cX1_number 7 = .ok (.iload_n 2, 1) := by decide +kernel
theorem dX1_number_8 : decode cX1_number 8 = .ok (.if_icmp .ge 27, 3) := by decide +kernel
theorem dX1_number_11 : decode cX1_number 11 = .ok (.lload_n 3, 1) := by decide +kernel
theorem dX1_number_12 : decode cX1_number 12 = .ok (.aload_n 0, 1) := by decide +kernel
theorem dX1_number_13 : decode cX1_number 13 = .ok (.iload_n 1, 1) := by decide +kernel
theorem dX1_number_14 : decode cX1_number 14 = .ok (.iload 5, 2) := by decide +kernel
theorem dX1_number_16 : decode cX1_number 16 = .ok (.iadd, 1) := by decide +kernel
theorem dX1_number_17 : decode cX1_number 17 = .ok (.invokevirtual 27, 3) := by decide +kernel
theorem dX1_number_20 : decode cX1_number 20 = .ok (.i2l, 1) := by decide +kernel
theorem dX1_number_21 : decode cX1_number 21 = .ok (.bipush 8, 2) := by decide +kernel
theorem dX1_number_23 : decode cX1_number 23 = .ok (.iload 5, 2) := by decide +kernel
theorem dX1_number_25 : decode cX1_number 25 = .ok (.imul, 1) := by decide +kernel
theorem dX1_number_26 : decode cX1_number 26 = .ok (.lshl, 1) := by decide +kernel
theorem dX1_number_27 : decode cX1_number 27 = .ok (.lor, 1) := by decide +kernel
theorem dX1_number_28 : decode cX1_number 28 = .ok (.lstore_n 3, 1) := by decide +kernel
theorem dX1_number_29 : decode cX1_number 29 = .ok (.iinc 5 1, 3) := by decide +kernel
theorem dX1_number_32 : decode cX1_number 32 = .ok (.goto (-27), 3) := by decide +kernel
theorem dX1_number_35 : decode cX1_number 35 = .ok (.lload_n 3, 1) := by decide +kernel
theorem dX1_number_36 : decode cX1_number 36 = .ok (.lreturn, 1) := by decide +kernel
theorem dX1_rotated_0 : decode cX1_rotated 0 = .ok (.iload_n 0, 1) := by decide +kernel
theorem dX1_rotated_1 : decode cX1_rotated 1 = .ok (.iload_n 1, 1) := by decide +kernel
theorem dX1_rotated_2 : decode cX1_rotated 2 = .ok (.ishl, 1) := by decide +kernel
theorem dX1_rotated_3 : decode cX1_rotated 3 = .ok (.iload_n 0, 1) := by decide +kernel
theorem dX1_rotated_4 : decode cX1_rotated 4 = .ok (.bipush 32, 2) := by decide +kernel
theorem dX1_rotated_6 : decode cX1_rotated 6 = .ok (.iload_n 1, 1) := by decide +kernel
theorem dX1_rotated_7 : decode cX1_rotated 7 = .ok (.isub, 1) := by decide +kernel
theorem dX1_rotated_8 : decode cX1_rotated 8 = .ok (.iushr, 1) := by decide +kernel
theorem dX1_rotated_9 : decode cX1_rotated 9 = .ok (.ior, 1) := by decide +kernel
theorem dX1_rotated_10 : decode cX1_rotated 10 = .ok (.ireturn, 1) := by decide +kernel
theorem dX1_lane_0 : decode cX1_lane 0 = .ok (.iload_n 1, 1) := by decide +kernel
theorem dX1_lane_1 : decode cX1_lane 1 = .ok (.istore 5, 2) := by decide +kernel
theorem dX1_lane_3 : decode cX1_lane 3 = .ok (.iload_n 2, 1) := by decide +kernel
theorem dX1_lane_4 : decode cX1_lane 4 = .ok (.istore 6, 2) := by decide +kernel
theorem dX1_lane_6 : decode cX1_lane 6 = .ok (.iload_n 3, 1) := by decide +kernel
theorem dX1_lane_7 : decode cX1_lane 7 = .ok (.iload 6, 2) := by decide +kernel
theorem dX1_lane_9 : decode cX1_lane 9 = .ok (.isub, 1) := by decide +kernel
theorem dX1_lane_10 : decode cX1_lane 10 = .ok (.bipush 16, 2) := by decide +kernel
theorem dX1_lane_12 : decode cX1_lane 12 = .ok (.if_icmp .lt 38, 3) := by decide +kernel
theorem dX1_lane_15 : decode cX1_lane 15 = .ok (.iload 5, 2) := by decide +kernel
theorem dX1_lane_17 : decode cX1_lane 17 = .ok (.aload_n 0, 1) := by decide +kernel
theorem dX1_lane_18 : decode cX1_lane 18 = .ok (.iload 6, 2) := by decide +kernel
theorem dX1_lane_20 : decode cX1_lane 20 = .ok (.iconst 4, 1) := by decide +kernel
theorem dX1_lane_21 : decode cX1_lane 21 = .ok (.iload 4, 2) := by decide +kernel
theorem dX1_lane_23 : decode cX1_lane 23 = .ok (.imul, 1) := by decide +kernel
theorem dX1_lane_24 : decode cX1_lane 24 = .ok (.iadd, 1) := by decide +kernel
theorem dX1_lane_25 : decode cX1_lane 25 = .ok (.iconst 4, 1) := by decide +kernel
theorem dX1_lane_26 : decode cX1_lane 26 = .ok (.invokevirtual 31, 3) := by decide +kernel
theorem dX1_lane_29 : decode cX1_lane 29 = .ok (.l2i, 1) := by decide +kernel
theorem dX1_lane_30 : decode cX1_lane 30 = .ok (.ldc 35, 2) := by decide +kernel
theorem dX1_lane_32 : decode cX1_lane 32 = .ok (.imul, 1) := by decide +kernel
theorem dX1_lane_33 : decode cX1_lane 33 = .ok (.iadd, 1) := by decide +kernel
theorem dX1_lane_34 : decode cX1_lane 34 = .ok (.bipush 13, 2) := by decide +kernel
theorem dX1_lane_36 : decode cX1_lane 36 = .ok (.invokestatic 36, 3) := by decide +kernel
theorem dX1_lane_39 : decode cX1_lane 39 = .ok (.ldc 40, 2) := by decide +kernel
theorem dX1_lane_41 : decode cX1_lane 41 = .ok (.imul, 1) := by decide +kernel
theorem dX1_lane_42 : decode cX1_lane 42 = .ok (.istore 5, 2) := by decide +kernel
theorem dX1_lane_44 : decode cX1_lane 44 = .ok (.iinc 6 16, 3) := by decide +kernel
theorem dX1_lane_47 : decode cX1_lane 47 = .ok (.goto (-41), 3) := by decide +kernel
theorem dX1_lane_50 : decode cX1_lane 50 = .ok (.iload 5, 2) := by decide +kernel
theorem dX1_lane_52 : decode cX1_lane 52 = .ok (.ireturn, 1) := by decide +kernel
theorem dX1_sumNarrow_0 : decode cX1_sumNarrow 0 = .ok (.iload_n 2, 1) := by decide +kernel
theorem dX1_sumNarrow_1 : decode cX1_sumNarrow 1 = .ok (.iload_n 1, 1) := by decide +kernel
theorem dX1_sumNarrow_2 : decode cX1_sumNarrow 2 = .ok (.isub, 1) := by decide +kernel
theorem dX1_sumNarrow_3 : decode cX1_sumNarrow 3 = .ok (.istore 4, 2) := by decide +kernel
theorem dX1_sumNarrow_5 : decode cX1_sumNarrow 5 = .ok (.iload_n 3, 1) := by decide +kernel
theorem dX1_sumNarrow_6 : decode cX1_sumNarrow 6 = .ok (.ldc 41, 2) := by decide +kernel
theorem dX1_sumNarrow_8 : decode cX1_sumNarrow 8 = .ok (.iadd, 1) := by decide +kernel
theorem dX1_sumNarrow_9 : decode cX1_sumNarrow 9 = .ok (.istore 5, 2) := by decide +kernel
theorem dX1_sumNarrow_11 : decode cX1_sumNarrow 11 = .ok (.iload_n 1, 1) := by decide +kernel
theorem dX1_sumNarrow_12 : decode cX1_sumNarrow 12 = .ok (.istore 6, 2) := by decide +kernel
theorem dX1_sumNarrow_14 : decode cX1_sumNarrow 14 = .ok (.iload 4, 2) := by decide +kernel
theorem dX1_sumNarrow_16 : decode cX1_sumNarrow 16 = .ok (.bipush 16, 2) := by decide +kernel
theorem dX1_sumNarrow_18 : decode cX1_sumNarrow 18 = .ok (.if_icmp .lt 84, 3) := by decide +kernel
theorem dX1_sumNarrow_21 : decode cX1_sumNarrow 21 = .ok (.aload_n 0, 1) := by decide +kernel
theorem dX1_sumNarrow_22 : decode cX1_sumNarrow 22 = .ok (.iload_n 3, 1) := by decide +kernel
theorem dX1_sumNarrow_23 : decode cX1_sumNarrow 23 = .ok (.ldc 40, 2) := by decide +kernel
theorem dX1_sumNarrow_25 : decode cX1_sumNarrow 25 = .ok (.iadd, 1) := by decide +kernel
theorem dX1_sumNarrow_26 : decode cX1_sumNarrow 26 = .ok (.ldc 35, 2) := by decide +kernel
theorem dX1_sumNarrow_28 : decode cX1_sumNarrow 28 = .ok (.iadd, 1) := by decide +kernel
theorem dX1_sumNarrow_29 : decode cX1_sumNarrow 29 = .ok (.iload_n 1, 1) := by decide +kernel
theorem dX1_sumNarrow_30 : decode cX1_sumNarrow 30 = .ok (.iload_n 2, 1) := by decide +kernel
theorem dX1_sumNarrow_31 : decode cX1_sumNarrow 31 = .ok (.iconst 0, 1) := by decide +kernel
theorem dX1_sumNarrow_32 : decode cX1_sumNarrow 32 = .ok (.invokevirtual 42, 3) := by decide +kernel
theorem dX1_sumNarrow_35 : decode cX1_sumNarrow 35 = .ok (.iconst 1, 1) := by decide +kernel
theorem dX1_sumNarrow_36 : decode cX1_sumNarrow 36 = .ok (.invokestatic 36, 3) := by decide +kernel
theorem dX1_sumNarrow_39 : decode cX1_sumNarrow 39 = .ok (.aload_n 0, 1) := by decide +kernel
theorem dX1_sumNarrow_40 : decode cX1_sumNarrow 40 = .ok (.iload_n 3, 1) := by decide +kernel
theorem dX1_sumNarrow_41 : decode cX1_sumNarrow 41 = .ok (.ldc 35, 2) := by decide +kernel
theorem dX1_sumNarrow_43 : decode cX1_sumNarrow 43 = .ok (.iadd, 1) := by decide +kernel
theorem dX1_sumNarrow_44 : decode cX1_sumNarrow 44 = .ok (.iload_n 1, 1) := by decide +kernel
theorem dX1_sumNarrow_45 : decode cX1_sumNarrow 45 = .ok (.iload_n 2, 1) := by decide +kernel
theorem dX1_sumNarrow_46 : decode cX1_sumNarrow 46 = .ok (.iconst 1, 1) := by decide +kernel
theorem dX1_sumNarrow_47 : decode cX1_sumNarrow 47 = .ok (.invokevirtual 42, 3) := by decide +kernel
theorem dX1_sumNarrow_50 : decode cX1_sumNarrow 50 = .ok (.bipush 7, 2) := by decide +kernel
theorem dX1_sumNarrow_52 : decode cX1_sumNarrow 52 = .ok (.invokestatic 36, 3) := by decide +kernel
theorem dX1_sumNarrow_55 : decode cX1_sumNarrow 55 = .ok (.iadd, 1) := by decide +kernel
theorem dX1_sumNarrow_56 : decode cX1_sumNarrow 56 = .ok (.istore 5, 2) := by decide +kernel
theorem dX1_sumNarrow_58 : decode cX1_sumNarrow 58 = .ok (.iload 5, 2) := by decide +kernel
theorem dX1_sumNarrow_60 : decode cX1_sumNarrow 60 = .ok (.aload_n 0, 1) := by decide +kernel
theorem dX1_sumNarrow_61 : decode cX1_sumNarrow 61 = .ok (.iload_n 3, 1) := by decide +kernel
theorem dX1_sumNarrow_62 : decode cX1_sumNarrow 62 = .ok (.iload_n 1, 1) := by decide +kernel
theorem dX1_sumNarrow_63 : decode cX1_sumNarrow 63 = .ok (.iload_n 2, 1) := by decide +kernel
theorem dX1_sumNarrow_64 : decode cX1_sumNarrow 64 = .ok (.iconst 2, 1) := by decide +kernel
theorem dX1_sumNarrow_65 : decode cX1_sumNarrow 65 = .ok (.invokevirtual 42, 3) := by decide +kernel
theorem dX1_sumNarrow_68 : decode cX1_sumNarrow 68 = .ok (.bipush 12, 2) := by decide +kernel
theorem dX1_sumNarrow_70 : decode cX1_sumNarrow 70 = .ok (.invokestatic 36, 3) := by decide +kernel
theorem dX1_sumNarrow_73 : decode cX1_sumNarrow 73 = .ok (.aload_n 0, 1) := by decide +kernel
theorem dX1_sumNarrow_74 : decode cX1_sumNarrow 74 = .ok (.iload_n 3, 1) := by decide +kernel
theorem dX1_sumNarrow_75 : decode cX1_sumNarrow 75 = .ok (.ldc 40, 2) := by decide +kernel
theorem dX1_sumNarrow_77 : decode cX1_sumNarrow 77 = .ok (.isub, 1) := by decide +kernel
theorem dX1_sumNarrow_78 : decode cX1_sumNarrow 78 = .ok (.iload_n 1, 1) := by decide +kernel
theorem dX1_sumNarrow_79 : decode cX1_sumNarrow 79 = .ok (.iload_n 2, 1) := by decide +kernel
theorem dX1_sumNarrow_80 : decode cX1_sumNarrow 80 = .ok (.iconst 3, 1) := by decide +kernel
theorem dX1_sumNarrow_81 : decode cX1_sumNarrow 81 = .ok (.invokevirtual 42, 3) := by decide +kernel
theorem dX1_sumNarrow_84 : decode cX1_sumNarrow 84 = .ok (.bipush 18, 2) := by decide +kernel
theorem dX1_sumNarrow_86 : decode cX1_sumNarrow 86 = .ok (.invokestatic 36, 3) := by decide +kernel
theorem dX1_sumNarrow_89 : decode cX1_sumNarrow 89 = .ok (.iadd, 1) := by decide +kernel
theorem dX1_sumNarrow_90 : decode cX1_sumNarrow 90 = .ok (.iadd, 1) := by decide +kernel
theorem dX1_sumNarrow_91 : decode cX1_sumNarrow 91 = .ok (.istore 5, 2) := by decide +kernel
theorem dX1_sumNarrow_93 : decode cX1_sumNarrow 93 = .ok (.iload_n 2, 1) := by decide +kernel
theorem dX1_sumNarrow_94 : decode cX1_sumNarrow 94 = .ok (.iload 4, 2) := by decide +kernel
theorem dX1_sumNarrow_96 : decode cX1_sumNarrow 96 = .ok (.bipush 16, 2) := by decide +kernel
theorem dX1_sumNarrow_98 : decode cX1_sumNarrow 98 = .ok (.irem, 1) := by decide +kernel
theorem dX1_sumNarrow_99 : decode cX1_sumNarrow 99 = .ok (.isub, 1) := by decide +kernel
theorem dX1_sumNarrow_100 : decode cX1_sumNarrow 100 = .ok (.istore 6, 2) := by decide +kernel
theorem dX1_sumNarrow_102 : decode cX1_sumNarrow 102 = .ok (.iload 5, 2) := by decide +kernel
theorem dX1_sumNarrow_104 : decode cX1_sumNarrow 104 = .ok (.iload 4, 2) := by decide +kernel
theorem dX1_sumNarrow_106 : decode cX1_sumNarrow 106 = .ok (.iadd, 1) := by decide +kernel
theorem dX1_sumNarrow_107 : decode cX1_sumNarrow 107 = .ok (.istore 5, 2) := by decide +kernel
theorem dX1_sumNarrow_109 : decode cX1_sumNarrow 109 = .ok (.iconst 0, 1) := by decide +kernel
theorem dX1_sumNarrow_110 : decode cX1_sumNarrow 110 = .ok (.istore 7, 2) := by decide +kernel
theorem dX1_sumNarrow_112 : decode cX1_sumNarrow 112 = .ok (.iload 7, 2) := by decide +kernel
theorem dX1_sumNarrow_114 : decode cX1_sumNarrow 114 = .ok (.iconst 3, 1) := by decide +kernel
theorem dX1_sumNarrow_115 : decode cX1_sumNarrow 115 = .ok (.if_icmp .ge 44, 3) := by decide +kernel
theorem dX1_sumNarrow_118 : decode cX1_sumNarrow 118 = .ok (.iload_n 2, 1) := by decide +kernel
theorem dX1_sumNarrow_119 : decode cX1_sumNarrow 119 = .ok (.iload 6, 2) := by decide +kernel
theorem dX1_sumNarrow_121 : decode cX1_sumNarrow 121 = .ok (.isub, 1) := by decide +kernel
theorem dX1_sumNarrow_122 : decode cX1_sumNarrow 122 = .ok (.iconst 4, 1) := by decide +kernel
theorem dX1_sumNarrow_123 : decode cX1_sumNarrow 123 = .ok (.if_icmp .lt 36, 3) := by decide +kernel
theorem dX1_sumNarrow_126 : decode cX1_sumNarrow 126 = .ok (.iload 5, 2) := by decide +kernel
theorem dX1_sumNarrow_128 : decode cX1_sumNarrow 128 = .ok (.aload_n 0, 1) := by decide +kernel
theorem dX1_sumNarrow_129 : decode cX1_sumNarrow 129 = .ok (.iload 6, 2) := by decide +kernel
theorem dX1_sumNarrow_131 : decode cX1_sumNarrow 131 = .ok (.iconst 4, 1) := by decide +kernel
theorem dX1_sumNarrow_132 : decode cX1_sumNarrow 132 = .ok (.invokevirtual 31, 3) := by decide +kernel
theorem dX1_sumNarrow_135 : decode cX1_sumNarrow 135 = .ok (.l2i, 1) := by decide +kernel
theorem dX1_sumNarrow_136 : decode cX1_sumNarrow 136 = .ok (.ldc 46, 2) := by decide +kernel
theorem dX1_sumNarrow_138 : decode cX1_sumNarrow 138 = .ok (.imul, 1) := by decide +kernel
theorem dX1_sumNarrow_139 : decode cX1_sumNarrow 139 = .ok (.iadd, 1) := by decide +kernel
theorem dX1_sumNarrow_140 : decode cX1_sumNarrow 140 = .ok (.bipush 17, 2) := by decide +kernel
theorem dX1_sumNarrow_142 : decode cX1_sumNarrow 142 = .ok (.invokestatic 36, 3) := by decide +kernel
theorem dX1_sumNarrow_145 : decode cX1_sumNarrow 145 = .ok (.ldc 47, 2) := by decide +kernel
theorem dX1_sumNarrow_147 : decode cX1_sumNarrow 147 = .ok (.imul, 1) := by decide +kernel
theorem dX1_sumNarrow_148 : decode cX1_sumNarrow 148 = .ok (.istore 5, 2) := by decide +kernel
theorem dX1_sumNarrow_150 : decode cX1_sumNarrow 150 = .ok (.iinc 6 4, 3) := by decide +kernel
theorem dX1_sumNarrow_153 : decode cX1_sumNarrow 153 = .ok (.iinc 7 1, 3) := by decide +kernel
theorem dX1_sumNarrow_156 : decode cX1_sumNarrow 156 = .ok (.goto (-44), 3) := by decide +kernel
theorem dX1_sumNarrow_159 : decode cX1_sumNarrow 159 = .ok (.iload 6, 2) := by decide +kernel
theorem dX1_sumNarrow_161 : decode cX1_sumNarrow 161 = .ok (.istore 7, 2) := by decide +kernel
theorem dX1_sumNarrow_163 : decode cX1_sumNarrow 163 = .ok (.iload 7, 2) := by decide +kernel
theorem dX1_sumNarrow_165 : decode cX1_sumNarrow 165 = .ok (.iload_n 2, 1) := by decide +kernel
theorem dX1_sumNarrow_166 : decode cX1_sumNarrow 166 = .ok (.if_icmp .ge 31, 3) := by decide +kernel
theorem dX1_sumNarrow_169 : decode cX1_sumNarrow 169 = .ok (.iload 5, 2) := by decide +kernel
theorem dX1_sumNarrow_171 : decode cX1_sumNarrow 171 = .ok (.aload_n 0, 1) := by decide +kernel
theorem dX1_sumNarrow_172 : decode cX1_sumNarrow 172 = .ok (.iload 7, 2) := by decide +kernel
theorem dX1_sumNarrow_174 : decode cX1_sumNarrow 174 = .ok (.invokevirtual 27, 3) := by decide +kernel
theorem dX1_sumNarrow_177 : decode cX1_sumNarrow 177 = .ok (.ldc 41, 2) := by decide +kernel
theorem dX1_sumNarrow_179 : decode cX1_sumNarrow 179 = .ok (.imul, 1) := by decide +kernel
theorem dX1_sumNarrow_180 : decode cX1_sumNarrow 180 = .ok (.iadd, 1) := by decide +kernel
theorem dX1_sumNarrow_181 : decode cX1_sumNarrow 181 = .ok (.bipush 11, 2) := by decide +kernel
theorem dX1_sumNarrow_183 : decode cX1_sumNarrow 183 = .ok (.invokestatic 36, 3) := by decide +kernel
theorem dX1_sumNarrow_186 : decode cX1_sumNarrow 186 = .ok (.ldc 40, 2) := by decide +kernel
theorem dX1_sumNarrow_188 : decode cX1_sumNarrow 188 = .ok (.imul, 1) := by decide +kernel
theorem dX1_sumNarrow_189 : decode cX1_sumNarrow 189 = .ok (.istore 5, 2) := by decide +kernel
theorem dX1_sumNarrow_191 : decode cX1_sumNarrow 191 = .ok (.iinc 7 1, 3) := by decide +kernel
theorem dX1_sumNarrow_194 : decode cX1_sumNarrow 194 = .ok (.goto (-31), 3) := by decide +kernel
theorem dX1_sumNarrow_197 : decode cX1_sumNarrow 197 = .ok (.iload 5, 2) := by decide +kernel
theorem dX1_sumNarrow_199 : decode cX1_sumNarrow 199 = .ok (.iload 5, 2) := by decide +kernel
theorem dX1_sumNarrow_201 : decode cX1_sumNarrow 201 = .ok (.bipush 15, 2) := by decide +kernel
theorem dX1_sumNarrow_203 : decode cX1_sumNarrow 203 = .ok (.iushr, 1) := by decide +kernel
theorem dX1_sumNarrow_204 : decode cX1_sumNarrow 204 = .ok (.ixor, 1) := by decide +kernel
theorem dX1_sumNarrow_205 : decode cX1_sumNarrow 205 = .ok (.ldc 35, 2) := by decide +kernel
theorem dX1_sumNarrow_207 : decode cX1_sumNarrow 207 = .ok (.imul, 1) := by decide +kernel
theorem dX1_sumNarrow_208 : decode cX1_sumNarrow 208 = .ok (.istore 5, 2) := by decide +kernel
theorem dX1_sumNarrow_210 : decode cX1_sumNarrow 210 = .ok (.iload 5, 2) := by decide +kernel
theorem dX1_sumNarrow_212 : decode cX1_sumNarrow 212 = .ok (.iload 5, 2) := by decide +kernel
theorem dX1_sumNarrow_214 : decode cX1_sumNarrow 214 = .ok (.bipush 13, 2) := by decide +kernel
theorem dX1_sumNarrow_216 : decode cX1_sumNarrow 216 = .ok (.iushr, 1) := by decide +kernel
theorem dX1_sumNarrow_217 : decode cX1_sumNarrow 217 = .ok (.ixor, 1) := by decide +kernel
theorem dX1_sumNarrow_218 : decode cX1_sumNarrow 218 = .ok (.ldc 46, 2) := by decide +kernel
theorem dX1_sumNarrow_220 : decode cX1_sumNarrow 220 = .ok (.imul, 1) := by decide +kernel
theorem dX1_sumNarrow_221 : decode cX1_sumNarrow 221 = .ok (.istore 5, 2) := by decide +kernel
theorem dX1_sumNarrow_223 : decode cX1_sumNarrow 223 = .ok (.iload 5, 2) := by decide +kernel
theorem dX1_sumNarrow_225 : decode cX1_sumNarrow 225 = .ok (.iload 5, 2) := by decide +kernel
theorem dX1_sumNarrow_227 : decode cX1_sumNarrow 227 = .ok (.bipush 16, 2) := by decide +kernel
theorem dX1_sumNarrow_229 : decode cX1_sumNarrow 229 = .ok (.iushr, 1) := by decide +kernel
theorem dX1_sumNarrow_230 : decode cX1_sumNarrow 230 = .ok (.ixor, 1) := by decide +kernel
theorem dX1_sumNarrow_231 : decode cX1_sumNarrow 231 = .ok (.ireturn, 1) := by decide +kernel
theorem dX1_narrow_0 : decode cX1_narrow 0 = .ok (.aload_n 0, 1) := by decide +kernel
theorem dX1_narrow_1 : decode cX1_narrow 1 = .ok (.iconst 0, 1) := by decide +kernel
theorem dX1_narrow_2 : decode cX1_narrow 2 = .ok (.aload_n 0, 1) := by decide +kernel
theorem dX1_narrow_3 : decode cX1_narrow 3 = .ok (.getfield 14, 3) := by decide +kernel
theorem dX1_narrow_6 : decode cX1_narrow 6 = .ok (.aload_n 0, 1) := by decide +kernel
theorem dX1_narrow_7 : decode cX1_narrow 7 = .ok (.getfield 18, 3) := by decide +kernel
theorem dX1_narrow_10 : decode cX1_narrow 10 = .ok (.invokevirtual 48, 3) := by decide +kernel
theorem dX1_narrow_13 : decode cX1_narrow 13 = .ok (.ireturn, 1) := by decide +kernel
theorem dX1_narrowOf_0 : decode cX1_narrowOf 0 = .ok (.aload_n 0, 1) := by decide +kernel
theorem dX1_narrowOf_1 : decode cX1_narrowOf 1 = .ok (.iload_n 1, 1) := by decide +kernel
theorem dX1_narrowOf_2 : decode cX1_narrowOf 2 = .ok (.iload_n 2, 1) := by decide +kernel
theorem dX1_narrowOf_3 : decode cX1_narrowOf 3 = .ok (.invokevirtual 52, 3) := by decide +kernel
theorem dX1_narrowOf_6 : decode cX1_narrowOf 6 = .ok (.ifCond .eq 13, 3) := by decide +kernel
theorem dX1_narrowOf_9 : decode cX1_narrowOf 9 = .ok (.aload_n 0, 1) := by decide +kernel
theorem dX1_narrowOf_10 : decode cX1_narrowOf 10 = .ok (.iload_n 1, 1) := by decide +kernel
theorem dX1_narrowOf_11 : decode cX1_narrowOf 11 = .ok (.iload_n 2, 1) := by decide +kernel
theorem dX1_narrowOf_12 : decode cX1_narrowOf 12 = .ok (.iload_n 3, 1) := by decide +kernel
theorem dX1_narrowOf_13 : decode cX1_narrowOf 13 = .ok (.invokevirtual 48, 3) := by decide +kernel
theorem dX1_narrowOf_16 : decode cX1_narrowOf 16 = .ok (.goto 10, 3) := by decide +kernel
theorem dX1_narrowOf_19 : decode cX1_narrowOf 19 = .ok (.aload_n 0, 1) := by decide +kernel
theorem dX1_narrowOf_20 : decode cX1_narrowOf 20 = .ok (.iconst 0, 1) := by decide +kernel
theorem dX1_narrowOf_21 : decode cX1_narrowOf 21 = .ok (.iconst 0, 1) := by decide +kernel
theorem dX1_narrowOf_22 : decode cX1_narrowOf 22 = .ok (.iload_n 3, 1) := by decide +kernel
theorem dX1_narrowOf_23 : decode cX1_narrowOf 23 = .ok (.invokevirtual 48, 3) := by decide +kernel
theorem dX1_narrowOf_26 : decode cX1_narrowOf 26 = .ok (.ireturn, 1) := by decide +kernel
theorem dX1_turned_0 : decode cX1_turned 0 = .ok (.lload_n 0, 1) := by decide +kernel
theorem dX1_turned_1 : decode cX1_turned 1 = .ok (.iload_n 2, 1) := by decide +kernel
theorem dX1_turned_2 : decode cX1_turned 2 = .ok (.lshl, 1) := by decide +kernel
theorem dX1_turned_3 : decode cX1_turned 3 = .ok (.lload_n 0, 1) := by decide +kernel
theorem dX1_turned_4 : decode cX1_turned 4 = .ok (.bipush 64, 2) := by decide +kernel
theorem dX1_turned_6 : decode cX1_turned 6 = .ok (.iload_n 2, 1) := by decide +kernel
theorem dX1_turned_7 : decode cX1_turned 7 = .ok (.isub, 1) := by decide +kernel
theorem dX1_turned_8 : decode cX1_turned 8 = .ok (.lushr, 1) := by decide +kernel
theorem dX1_turned_9 : decode cX1_turned 9 = .ok (.lor, 1) := by decide +kernel
theorem dX1_turned_10 : decode cX1_turned 10 = .ok (.lreturn, 1) := by decide +kernel
theorem dX1_wideLane_0 : decode cX1_wideLane 0 = .ok (.lload_n 1, 1) := by decide +kernel
theorem dX1_wideLane_1 : decode cX1_wideLane 1 = .ok (.lstore 6, 2) := by decide +kernel
theorem dX1_wideLane_3 : decode cX1_wideLane 3 = .ok (.iload_n 3, 1) := by decide +kernel
theorem dX1_wideLane_4 : decode cX1_wideLane 4 = .ok (.istore 8, 2) := by decide +kernel
theorem dX1_wideLane_6 : decode cX1_wideLane 6 = .ok (.iload 4, 2) := by decide +kernel
theorem dX1_wideLane_8 : decode cX1_wideLane 8 = .ok (.iload 8, 2) := by decide +kernel
theorem dX1_wideLane_10 : decode cX1_wideLane 10 = .ok (.isub, 1) := by decide +kernel
theorem dX1_wideLane_11 : decode cX1_wideLane 11 = .ok (.bipush 32, 2) := by decide +kernel
theorem dX1_wideLane_13 : decode cX1_wideLane 13 = .ok (.if_icmp .lt 41, 3) := by decide +kernel
theorem dX1_wideLane_16 : decode cX1_wideLane 16 = .ok (.lload 6, 2) := by decide +kernel
theorem dX1_wideLane_18 : decode cX1_wideLane 18 = .ok (.aload_n 0, 1) := by decide +kernel
theorem dX1_wideLane_19 : decode cX1_wideLane 19 = .ok (.iload 8, 2) := by decide +kernel
theorem dX1_wideLane_21 : decode cX1_wideLane 21 = .ok (.bipush 8, 2) := by decide +kernel
theorem dX1_wideLane_23 : decode cX1_wideLane 23 = .ok (.iload 5, 2) := by decide +kernel
theorem dX1_wideLane_25 : decode cX1_wideLane 25 = .ok (.imul, 1) := by decide +kernel
theorem dX1_wideLane_26 : decode cX1_wideLane 26 = .ok (.iadd, 1) := by decide +kernel
theorem dX1_wideLane_27 : decode cX1_wideLane 27 = .ok (.bipush 8, 2) := by decide +kernel
theorem dX1_wideLane_29 : decode cX1_wideLane 29 = .ok (.invokevirtual 31, 3) := by decide +kernel
theorem dX1_wideLane_32 : decode cX1_wideLane 32 = .ok (.ldc2_w 56, 3) := by decide +kernel
theorem dX1_wideLane_35 : decode cX1_wideLane 35 = .ok (.lmul, 1) := by decide +kernel
theorem dX1_wideLane_36 : decode cX1_wideLane 36 = .ok (.ladd, 1) := by decide +kernel
theorem dX1_wideLane_37 : decode cX1_wideLane 37 = .ok (.bipush 31, 2) := by decide +kernel
theorem dX1_wideLane_39 : decode cX1_wideLane 39 = .ok (.invokestatic 58, 3) := by decide +kernel
theorem dX1_wideLane_42 : decode cX1_wideLane 42 = .ok (.ldc2_w 62, 3) := by decide +kernel
theorem dX1_wideLane_45 : decode cX1_wideLane 45 = .ok (.lmul, 1) := by decide +kernel
theorem dX1_wideLane_46 : decode cX1_wideLane 46 = .ok (.lstore 6, 2) := by decide +kernel
theorem dX1_wideLane_48 : decode cX1_wideLane 48 = .ok (.iinc 8 32, 3) := by decide +kernel
theorem dX1_wideLane_51 : decode cX1_wideLane 51 = .ok (.goto (-45), 3) := by decide +kernel
theorem dX1_wideLane_54 : decode cX1_wideLane 54 = .ok (.lload 6, 2) := by decide +kernel
theorem dX1_wideLane_56 : decode cX1_wideLane 56 = .ok (.lreturn, 1) := by decide +kernel
theorem dX1_join_0 : decode cX1_join 0 = .ok (.lload_n 0, 1) := by decide +kernel
theorem dX1_join_1 : decode cX1_join 1 = .ok (.lload_n 2, 1) := by decide +kernel
theorem dX1_join_2 : decode cX1_join 2 = .ok (.ldc2_w 56, 3) := by decide +kernel
theorem dX1_join_5 : decode cX1_join 5 = .ok (.lmul, 1) := by decide +kernel
theorem dX1_join_6 : decode cX1_join 6 = .ok (.bipush 31, 2) := by decide +kernel
theorem dX1_join_8 : decode cX1_join 8 = .ok (.invokestatic 58, 3) := by decide +kernel
theorem dX1_join_11 : decode cX1_join 11 = .ok (.ldc2_w 62, 3) := by decide +kernel
theorem dX1_join_14 : decode cX1_join 14 = .ok (.lmul, 1) := by decide +kernel
theorem dX1_join_15 : decode cX1_join 15 = .ok (.lxor, 1) := by decide +kernel
theorem dX1_join_16 : decode cX1_join 16 = .ok (.ldc2_w 62, 3) := by decide +kernel
theorem dX1_join_19 : decode cX1_join 19 = .ok (.lmul, 1) := by decide +kernel
theorem dX1_join_20 : decode cX1_join 20 = .ok (.ldc2_w 64, 3) := by decide +kernel
theorem dX1_join_23 : decode cX1_join 23 = .ok (.ladd, 1) := by decide +kernel
theorem dX1_join_24 : decode cX1_join 24 = .ok (.lreturn, 1) := by decide +kernel
theorem dX1_ofLanes_0 : decode cX1_ofLanes 0 = .ok (.aload_n 0, 1) := by decide +kernel
theorem dX1_ofLanes_1 : decode cX1_ofLanes 1 = .ok (.lload_n 3, 1) := by decide +kernel
theorem dX1_ofLanes_2 : decode cX1_ofLanes 2 = .ok (.ldc2_w 62, 3) := by decide +kernel
theorem dX1_ofLanes_5 : decode cX1_ofLanes 5 = .ok (.ladd, 1) := by decide +kernel
theorem dX1_ofLanes_6 : decode cX1_ofLanes 6 = .ok (.ldc2_w 56, 3) := by decide +kernel
theorem dX1_ofLanes_9 : decode cX1_ofLanes 9 = .ok (.ladd, 1) := by decide +kernel
theorem dX1_ofLanes_10 : decode cX1_ofLanes 10 = .ok (.iload_n 1, 1) := by decide +kernel
theorem dX1_ofLanes_11 : decode cX1_ofLanes 11 = .ok (.iload_n 2, 1) := by decide +kernel
theorem dX1_ofLanes_12 : decode cX1_ofLanes 12 = .ok (.iconst 0, 1) := by decide +kernel
theorem dX1_ofLanes_13 : decode cX1_ofLanes 13 = .ok (.invokevirtual 66, 3) := by decide +kernel
theorem dX1_ofLanes_16 : decode cX1_ofLanes 16 = .ok (.lstore 5, 2) := by decide +kernel
theorem dX1_ofLanes_18 : decode cX1_ofLanes 18 = .ok (.aload_n 0, 1) := by decide +kernel
theorem dX1_ofLanes_19 : decode cX1_ofLanes 19 = .ok (.lload_n 3, 1) := by decide +kernel
theorem dX1_ofLanes_20 : decode cX1_ofLanes 20 = .ok (.ldc2_w 56, 3) := by decide +kernel
theorem dX1_ofLanes_23 : decode cX1_ofLanes 23 = .ok (.ladd, 1) := by decide +kernel
theorem dX1_ofLanes_24 : decode cX1_ofLanes 24 = .ok (.iload_n 1, 1) := by decide +kernel
theorem dX1_ofLanes_25 : decode cX1_ofLanes 25 = .ok (.iload_n 2, 1) := by decide +kernel
theorem dX1_ofLanes_26 : decode cX1_ofLanes 26 = .ok (.iconst 1, 1) := by decide +kernel
theorem dX1_ofLanes_27 : decode cX1_ofLanes 27 = .ok (.invokevirtual 66, 3) := by decide +kernel
theorem dX1_ofLanes_30 : decode cX1_ofLanes 30 = .ok (.lstore 7, 2) := by decide +kernel
theorem dX1_ofLanes_32 : decode cX1_ofLanes 32 = .ok (.aload_n 0, 1) := by decide +kernel
theorem dX1_ofLanes_33 : decode cX1_ofLanes 33 = .ok (.lload_n 3, 1) := by decide +kernel
theorem dX1_ofLanes_34 : decode cX1_ofLanes 34 = .ok (.iload_n 1, 1) := by decide +kernel
theorem dX1_ofLanes_35 : decode cX1_ofLanes 35 = .ok (.iload_n 2, 1) := by decide +kernel
theorem dX1_ofLanes_36 : decode cX1_ofLanes 36 = .ok (.iconst 2, 1) := by decide +kernel
theorem dX1_ofLanes_37 : decode cX1_ofLanes 37 = .ok (.invokevirtual 66, 3) := by decide +kernel
theorem dX1_ofLanes_40 : decode cX1_ofLanes 40 = .ok (.lstore 9, 2) := by decide +kernel
theorem dX1_ofLanes_42 : decode cX1_ofLanes 42 = .ok (.aload_n 0, 1) := by decide +kernel
theorem dX1_ofLanes_43 : decode cX1_ofLanes 43 = .ok (.lload_n 3, 1) := by decide +kernel
theorem dX1_ofLanes_44 : decode cX1_ofLanes 44 = .ok (.ldc2_w 62, 3) := by decide +kernel
theorem dX1_ofLanes_47 : decode cX1_ofLanes 47 = .ok (.lsub, 1) := by decide +kernel
theorem dX1_ofLanes_48 : decode cX1_ofLanes 48 = .ok (.iload_n 1, 1) := by decide +kernel
theorem dX1_ofLanes_49 : decode cX1_ofLanes 49 = .ok (.iload_n 2, 1) := by decide +kernel
theorem dX1_ofLanes_50 : decode cX1_ofLanes 50 = .ok (.iconst 3, 1) := by decide +kernel
theorem dX1_ofLanes_51 : decode cX1_ofLanes 51 = .ok (.invokevirtual 66, 3) := by decide +kernel
theorem dX1_ofLanes_54 : decode cX1_ofLanes 54 = .ok (.lstore 11, 2) := by decide +kernel
theorem dX1_ofLanes_56 : decode cX1_ofLanes 56 = .ok (.lload 5, 2) := by decide +kernel
theorem dX1_ofLanes_58 : decode cX1_ofLanes 58 = .ok (.iconst 1, 1) := by decide +kernel
theorem dX1_ofLanes_59 : decode cX1_ofLanes 59 = .ok (.invokestatic 58, 3) := by decide +kernel
theorem dX1_ofLanes_62 : decode cX1_ofLanes 62 = .ok (.lload 7, 2) := by decide +kernel
theorem dX1_ofLanes_64 : decode cX1_ofLanes 64 = .ok (.bipush 7, 2) := by decide +kernel
theorem dX1_ofLanes_66 : decode cX1_ofLanes 66 = .ok (.invokestatic 58, 3) := by decide +kernel
theorem dX1_ofLanes_69 : decode cX1_ofLanes 69 = .ok (.ladd, 1) := by decide +kernel
theorem dX1_ofLanes_70 : decode cX1_ofLanes 70 = .ok (.lload 9, 2) := by decide +kernel
theorem dX1_ofLanes_72 : decode cX1_ofLanes 72 = .ok (.bipush 12, 2) := by decide +kernel
theorem dX1_ofLanes_74 : decode cX1_ofLanes 74 = .ok (.invokestatic 58, 3) := by decide +kernel
theorem dX1_ofLanes_77 : decode cX1_ofLanes 77 = .ok (.ladd, 1) := by decide +kernel
theorem dX1_ofLanes_78 : decode cX1_ofLanes 78 = .ok (.lload 11, 2) := by decide +kernel
theorem dX1_ofLanes_80 : decode cX1_ofLanes 80 = .ok (.bipush 18, 2) := by decide +kernel
theorem dX1_ofLanes_82 : decode cX1_ofLanes 82 = .ok (.invokestatic 58, 3) := by decide +kernel
theorem dX1_ofLanes_85 : decode cX1_ofLanes 85 = .ok (.ladd, 1) := by decide +kernel
theorem dX1_ofLanes_86 : decode cX1_ofLanes 86 = .ok (.lstore 13, 2) := by decide +kernel
theorem dX1_ofLanes_88 : decode cX1_ofLanes 88 = .ok (.lload 13, 2) := by decide +kernel
theorem dX1_ofLanes_90 : decode cX1_ofLanes 90 = .ok (.lload 5, 2) := by decide +kernel
theorem dX1_ofLanes_92 : decode cX1_ofLanes 92 = .ok (.invokestatic 70, 3) := by decide +kernel
theorem dX1_ofLanes_95 : decode cX1_ofLanes 95 = .ok (.lstore 13, 2) := by decide +kernel
theorem dX1_ofLanes_97 : decode cX1_ofLanes 97 = .ok (.lload 13, 2) := by decide +kernel
theorem dX1_ofLanes_99 : decode cX1_ofLanes 99 = .ok (.lload 7, 2) := by decide +kernel
theorem dX1_ofLanes_101 : decode cX1_ofLanes 101 = .ok (.invokestatic 70, 3) := by decide +kernel
theorem dX1_ofLanes_104 : decode cX1_ofLanes 104 = .ok (.lstore 13, 2) := by decide +kernel
theorem dX1_ofLanes_106 : decode cX1_ofLanes 106 = .ok (.lload 13, 2) := by decide +kernel
theorem dX1_ofLanes_108 : decode cX1_ofLanes 108 = .ok (.lload 9, 2) := by decide +kernel
theorem dX1_ofLanes_110 : decode cX1_ofLanes 110 = .ok (.invokestatic 70, 3) := by decide +kernel
theorem dX1_ofLanes_113 : decode cX1_ofLanes 113 = .ok (.lstore 13, 2) := by decide +kernel
theorem dX1_ofLanes_115 : decode cX1_ofLanes 115 = .ok (.lload 13, 2) := by decide +kernel
theorem dX1_ofLanes_117 : decode cX1_ofLanes 117 = .ok (.lload 11, 2) := by decide +kernel
theorem dX1_ofLanes_119 : decode cX1_ofLanes 119 = .ok (.invokestatic 70, 3) := by decide +kernel
theorem dX1_ofLanes_122 : decode cX1_ofLanes 122 = .ok (.lreturn, 1) := by decide +kernel
theorem dX1_sumWide_0 : decode cX1_sumWide 0 = .ok (.iload_n 2, 1) := by decide +kernel
theorem dX1_sumWide_1 : decode cX1_sumWide 1 = .ok (.iload_n 1, 1) := by decide +kernel
theorem dX1_sumWide_2 : decode cX1_sumWide 2 = .ok (.isub, 1) := by decide +kernel
theorem dX1_sumWide_3 : decode cX1_sumWide 3 = .ok (.istore 5, 2) := by decide +kernel
theorem dX1_sumWide_5 : decode cX1_sumWide 5 = .ok (.iload 5, 2) := by decide +kernel
theorem dX1_sumWide_7 : decode cX1_sumWide 7 = .ok (.bipush 32, 2) := by decide +kernel
theorem dX1_sumWide_9 : decode cX1_sumWide 9 = .ok (.if_icmp .lt 13, 3) := by decide +kernel
theorem dX1_sumWide_12 : decode cX1_sumWide 12 = .ok (.aload_n 0, 1) := by decide +kernel
theorem dX1_sumWide_13 : decode cX1_sumWide 13 = .ok (.iload_n 1, 1) := by decide +kernel
theorem dX1_sumWide_14 : decode cX1_sumWide 14 = .ok (.iload_n 2, 1) := by decide +kernel
theorem dX1_sumWide_15 : decode cX1_sumWide 15 = .ok (.lload_n 3, 1) := by decide +kernel
theorem dX1_sumWide_16 : decode cX1_sumWide 16 = .ok (.invokevirtual 74, 3) := by decide +kernel
theorem dX1_sumWide_19 : decode cX1_sumWide 19 = .ok (.goto 8, 3) := by decide +kernel
theorem dX1_sumWide_22 : decode cX1_sumWide 22 = .ok (.lload_n 3, 1) := by decide +kernel
theorem dX1_sumWide_23 : decode cX1_sumWide 23 = .ok (.ldc2_w 78, 3) := by decide +kernel
theorem dX1_sumWide_26 : decode cX1_sumWide 26 = .ok (.ladd, 1) := by decide +kernel
theorem dX1_sumWide_27 : decode cX1_sumWide 27 = .ok (.lstore 6, 2) := by decide +kernel
theorem dX1_sumWide_29 : decode cX1_sumWide 29 = .ok (.iload 5, 2) := by decide +kernel
theorem dX1_sumWide_31 : decode cX1_sumWide 31 = .ok (.bipush 32, 2) := by decide +kernel
theorem dX1_sumWide_33 : decode cX1_sumWide 33 = .ok (.if_icmp .lt 13, 3) := by decide +kernel
theorem dX1_sumWide_36 : decode cX1_sumWide 36 = .ok (.iload_n 2, 1) := by decide +kernel
theorem dX1_sumWide_37 : decode cX1_sumWide 37 = .ok (.iload 5, 2) := by decide +kernel
theorem dX1_sumWide_39 : decode cX1_sumWide 39 = .ok (.bipush 32, 2) := by decide +kernel
theorem dX1_sumWide_41 : decode cX1_sumWide 41 = .ok (.irem, 1) := by decide +kernel
theorem dX1_sumWide_42 : decode cX1_sumWide 42 = .ok (.isub, 1) := by decide +kernel
theorem dX1_sumWide_43 : decode cX1_sumWide 43 = .ok (.goto 4, 3) := by decide +kernel
theorem dX1_sumWide_46 : decode cX1_sumWide 46 = .ok (.iload_n 1, 1) := by decide +kernel
theorem dX1_sumWide_47 : decode cX1_sumWide 47 = .ok (.istore 8, 2) := by decide +kernel
theorem dX1_sumWide_49 : decode cX1_sumWide 49 = .ok (.lload 6, 2) := by decide +kernel
theorem dX1_sumWide_51 : decode cX1_sumWide 51 = .ok (.iload 5, 2) := by decide +kernel
theorem dX1_sumWide_53 : decode cX1_sumWide 53 = .ok (.i2l, 1) := by decide +kernel
theorem dX1_sumWide_54 : decode cX1_sumWide 54 = .ok (.ladd, 1) := by decide +kernel
theorem dX1_sumWide_55 : decode cX1_sumWide 55 = .ok (.lstore 6, 2) := by decide +kernel
theorem dX1_sumWide_57 : decode cX1_sumWide 57 = .ok (.iconst 0, 1) := by decide +kernel
theorem dX1_sumWide_58 : decode cX1_sumWide 58 = .ok (.istore 9, 2) := by decide +kernel
theorem dX1_sumWide_60 : decode cX1_sumWide 60 = .ok (.iload 9, 2) := by decide +kernel
theorem dX1_sumWide_62 : decode cX1_sumWide 62 = .ok (.iconst 3, 1) := by decide +kernel
theorem dX1_sumWide_63 : decode cX1_sumWide 63 = .ok (.if_icmp .ge 60, 3) := by decide +kernel
theorem dX1_sumWide_66 : decode cX1_sumWide 66 = .ok (.iload_n 2, 1) := by decide +kernel
theorem dX1_sumWide_67 : decode cX1_sumWide 67 = .ok (.iload 8, 2) := by decide +kernel
theorem dX1_sumWide_69 : decode cX1_sumWide 69 = .ok (.isub, 1) := by decide +kernel
theorem dX1_sumWide_70 : decode cX1_sumWide 70 = .ok (.bipush 8, 2) := by decide +kernel
theorem dX1_sumWide_72 : decode cX1_sumWide 72 = .ok (.if_icmp .lt 51, 3) := by decide +kernel
theorem dX1_sumWide_75 : decode cX1_sumWide 75 = .ok (.lload 6, 2) := by decide +kernel
theorem dX1_sumWide_77 : decode cX1_sumWide 77 = .ok (.aload_n 0, 1) := by decide +kernel
theorem dX1_sumWide_78 : decode cX1_sumWide 78 = .ok (.iload 8, 2) := by decide +kernel
theorem dX1_sumWide_80 : decode cX1_sumWide 80 = .ok (.bipush 8, 2) := by decide +kernel
theorem dX1_sumWide_82 : decode cX1_sumWide 82 = .ok (.invokevirtual 31, 3) := by decide +kernel
theorem dX1_sumWide_85 : decode cX1_sumWide 85 = .ok (.ldc2_w 56, 3) := by decide +kernel
theorem dX1_sumWide_88 : decode cX1_sumWide 88 = .ok (.lmul, 1) := by decide +kernel
theorem dX1_sumWide_89 : decode cX1_sumWide 89 = .ok (.bipush 31, 2) := by decide +kernel
theorem dX1_sumWide_91 : decode cX1_sumWide 91 = .ok (.invokestatic 58, 3) := by decide +kernel
theorem dX1_sumWide_94 : decode cX1_sumWide 94 = .ok (.ldc2_w 62, 3) := by decide +kernel
theorem dX1_sumWide_97 : decode cX1_sumWide 97 = .ok (.lmul, 1) := by decide +kernel
theorem dX1_sumWide_98 : decode cX1_sumWide 98 = .ok (.lxor, 1) := by decide +kernel
theorem dX1_sumWide_99 : decode cX1_sumWide 99 = .ok (.bipush 27, 2) := by decide +kernel
theorem dX1_sumWide_101 : decode cX1_sumWide 101 = .ok (.invokestatic 58, 3) := by decide +kernel
theorem dX1_sumWide_104 : decode cX1_sumWide 104 = .ok (.ldc2_w 62, 3) := by decide +kernel
theorem dX1_sumWide_107 : decode cX1_sumWide 107 = .ok (.lmul, 1) := by decide +kernel
theorem dX1_sumWide_108 : decode cX1_sumWide 108 = .ok (.ldc2_w 64, 3) := by decide +kernel
theorem dX1_sumWide_111 : decode cX1_sumWide 111 = .ok (.ladd, 1) := by decide +kernel
theorem dX1_sumWide_112 : decode cX1_sumWide 112 = .ok (.lstore 6, 2) := by decide +kernel
theorem dX1_sumWide_114 : decode cX1_sumWide 114 = .ok (.iinc 8 8, 3) := by decide +kernel
theorem dX1_sumWide_117 : decode cX1_sumWide 117 = .ok (.iinc 9 1, 3) := by decide +kernel
theorem dX1_sumWide_120 : decode cX1_sumWide 120 = .ok (.goto (-60), 3) := by decide +kernel
theorem dX1_sumWide_123 : decode cX1_sumWide 123 = .ok (.iload_n 2, 1) := by decide +kernel
theorem dX1_sumWide_124 : decode cX1_sumWide 124 = .ok (.iload 8, 2) := by decide +kernel
theorem dX1_sumWide_126 : decode cX1_sumWide 126 = .ok (.isub, 1) := by decide +kernel
theorem dX1_sumWide_127 : decode cX1_sumWide 127 = .ok (.iconst 4, 1) := by decide +kernel
theorem dX1_sumWide_128 : decode cX1_sumWide 128 = .ok (.if_icmp .lt 35, 3) := by decide +kernel
theorem dX1_sumWide_131 : decode cX1_sumWide 131 = .ok (.lload 6, 2) := by decide +kernel
theorem dX1_sumWide_133 : decode cX1_sumWide 133 = .ok (.aload_n 0, 1) := by decide +kernel
theorem dX1_sumWide_134 : decode cX1_sumWide 134 = .ok (.iload 8, 2) := by decide +kernel
theorem dX1_sumWide_136 : decode cX1_sumWide 136 = .ok (.iconst 4, 1) := by decide +kernel
theorem dX1_sumWide_137 : decode cX1_sumWide 137 = .ok (.invokevirtual 31, 3) := by decide +kernel
theorem dX1_sumWide_140 : decode cX1_sumWide 140 = .ok (.ldc2_w 62, 3) := by decide +kernel
theorem dX1_sumWide_143 : decode cX1_sumWide 143 = .ok (.lmul, 1) := by decide +kernel
theorem dX1_sumWide_144 : decode cX1_sumWide 144 = .ok (.lxor, 1) := by decide +kernel
theorem dX1_sumWide_145 : decode cX1_sumWide 145 = .ok (.bipush 23, 2) := by decide +kernel
theorem dX1_sumWide_147 : decode cX1_sumWide 147 = .ok (.invokestatic 58, 3) := by decide +kernel
theorem dX1_sumWide_150 : decode cX1_sumWide 150 = .ok (.ldc2_w 56, 3) := by decide +kernel
theorem dX1_sumWide_153 : decode cX1_sumWide 153 = .ok (.lmul, 1) := by decide +kernel
theorem dX1_sumWide_154 : decode cX1_sumWide 154 = .ok (.ldc2_w 80, 3) := by decide +kernel
theorem dX1_sumWide_157 : decode cX1_sumWide 157 = .ok (.ladd, 1) := by decide +kernel
theorem dX1_sumWide_158 : decode cX1_sumWide 158 = .ok (.lstore 6, 2) := by decide +kernel
theorem dX1_sumWide_160 : decode cX1_sumWide 160 = .ok (.iinc 8 4, 3) := by decide +kernel
theorem dX1_sumWide_163 : decode cX1_sumWide 163 = .ok (.iload 8, 2) := by decide +kernel
theorem dX1_sumWide_165 : decode cX1_sumWide 165 = .ok (.istore 9, 2) := by decide +kernel
theorem dX1_sumWide_167 : decode cX1_sumWide 167 = .ok (.iload 9, 2) := by decide +kernel
theorem dX1_sumWide_169 : decode cX1_sumWide 169 = .ok (.iload_n 2, 1) := by decide +kernel
theorem dX1_sumWide_170 : decode cX1_sumWide 170 = .ok (.if_icmp .ge 34, 3) := by decide +kernel
theorem dX1_sumWide_173 : decode cX1_sumWide 173 = .ok (.lload 6, 2) := by decide +kernel
theorem dX1_sumWide_175 : decode cX1_sumWide 175 = .ok (.aload_n 0, 1) := by decide +kernel
theorem dX1_sumWide_176 : decode cX1_sumWide 176 = .ok (.iload 9, 2) := by decide +kernel
theorem dX1_sumWide_178 : decode cX1_sumWide 178 = .ok (.invokevirtual 27, 3) := by decide +kernel
theorem dX1_sumWide_181 : decode cX1_sumWide 181 = .ok (.i2l, 1) := by decide +kernel
theorem dX1_sumWide_182 : decode cX1_sumWide 182 = .ok (.ldc2_w 78, 3) := by decide +kernel
theorem dX1_sumWide_185 : decode cX1_sumWide 185 = .ok (.lmul, 1) := by decide +kernel
theorem dX1_sumWide_186 : decode cX1_sumWide 186 = .ok (.lxor, 1) := by decide +kernel
theorem dX1_sumWide_187 : decode cX1_sumWide 187 = .ok (.bipush 11, 2) := by decide +kernel
theorem dX1_sumWide_189 : decode cX1_sumWide 189 = .ok (.invokestatic 58, 3) := by decide +kernel
theorem dX1_sumWide_192 : decode cX1_sumWide 192 = .ok (.ldc2_w 62, 3) := by decide +kernel
theorem dX1_sumWide_195 : decode cX1_sumWide 195 = .ok (.lmul, 1) := by decide +kernel
theorem dX1_sumWide_196 : decode cX1_sumWide 196 = .ok (.lstore 6, 2) := by decide +kernel
theorem dX1_sumWide_198 : decode cX1_sumWide 198 = .ok (.iinc 9 1, 3) := by decide +kernel
theorem dX1_sumWide_201 : decode cX1_sumWide 201 = .ok (.goto (-34), 3) := by decide +kernel
theorem dX1_sumWide_204 : decode cX1_sumWide 204 = .ok (.lload 6, 2) := by decide +kernel
theorem dX1_sumWide_206 : decode cX1_sumWide 206 = .ok (.lload 6, 2) := by decide +kernel
theorem dX1_sumWide_208 : decode cX1_sumWide 208 = .ok (.bipush 33, 2) := by decide +kernel
theorem dX1_sumWide_210 : decode cX1_sumWide 210 = .ok (.lushr, 1) := by decide +kernel
theorem dX1_sumWide_211 : decode cX1_sumWide 211 = .ok (.lxor, 1) := by decide +kernel
theorem dX1_sumWide_212 : decode cX1_sumWide 212 = .ok (.ldc2_w 56, 3) := by decide +kernel
theorem dX1_sumWide_215 : decode cX1_sumWide 215 = .ok (.lmul, 1) := by decide +kernel
theorem dX1_sumWide_216 : decode cX1_sumWide 216 = .ok (.lstore 6, 2) := by decide +kernel
theorem dX1_sumWide_218 : decode cX1_sumWide 218 = .ok (.lload 6, 2) := by decide +kernel
theorem dX1_sumWide_220 : decode cX1_sumWide 220 = .ok (.lload 6, 2) := by decide +kernel
theorem dX1_sumWide_222 : decode cX1_sumWide 222 = .ok (.bipush 29, 2) := by decide +kernel
theorem dX1_sumWide_224 : decode cX1_sumWide 224 = .ok (.lushr, 1) := by decide +kernel
theorem dX1_sumWide_225 : decode cX1_sumWide 225 = .ok (.lxor, 1) := by decide +kernel
theorem dX1_sumWide_226 : decode cX1_sumWide 226 = .ok (.ldc2_w 80, 3) := by decide +kernel
theorem dX1_sumWide_229 : decode cX1_sumWide 229 = .ok (.lmul, 1) := by decide +kernel
theorem dX1_sumWide_230 : decode cX1_sumWide 230 = .ok (.lstore 6, 2) := by decide +kernel
theorem dX1_sumWide_232 : decode cX1_sumWide 232 = .ok (.lload 6, 2) := by decide +kernel
theorem dX1_sumWide_234 : decode cX1_sumWide 234 = .ok (.lload 6, 2) := by decide +kernel
theorem dX1_sumWide_236 : decode cX1_sumWide 236 = .ok (.bipush 32, 2) := by decide +kernel
theorem dX1_sumWide_238 : decode cX1_sumWide 238 = .ok (.lushr, 1) := by decide +kernel
theorem dX1_sumWide_239 : decode cX1_sumWide 239 = .ok (.lxor, 1) := by decide +kernel
theorem dX1_sumWide_240 : decode cX1_sumWide 240 = .ok (.lreturn, 1) := by decide +kernel
theorem dX1_wide_0 : decode cX1_wide 0 = .ok (.aload_n 0, 1) := by decide +kernel
theorem dX1_wide_1 : decode cX1_wide 1 = .ok (.iconst 0, 1) := by decide +kernel
theorem dX1_wide_2 : decode cX1_wide 2 = .ok (.aload_n 0, 1) := by decide +kernel
theorem dX1_wide_3 : decode cX1_wide 3 = .ok (.getfield 14, 3) := by decide +kernel
theorem dX1_wide_6 : decode cX1_wide 6 = .ok (.aload_n 0, 1) := by decide +kernel
theorem dX1_wide_7 : decode cX1_wide 7 = .ok (.getfield 21, 3) := by decide +kernel
theorem dX1_wide_10 : decode cX1_wide 10 = .ok (.invokevirtual 82, 3) := by decide +kernel
theorem dX1_wide_13 : decode cX1_wide 13 = .ok (.lreturn, 1) := by decide +kernel
theorem dX1_wideOf_0 : decode cX1_wideOf 0 = .ok (.aload_n 0, 1) := by decide +kernel
theorem dX1_wideOf_1 : decode cX1_wideOf 1 = .ok (.iload_n 1, 1) := by decide +kernel
theorem dX1_wideOf_2 : decode cX1_wideOf 2 = .ok (.iload_n 2, 1) := by decide +kernel
theorem dX1_wideOf_3 : decode cX1_wideOf 3 = .ok (.invokevirtual 52, 3) := by decide +kernel
theorem dX1_wideOf_6 : decode cX1_wideOf 6 = .ok (.ifCond .eq 13, 3) := by decide +kernel
theorem dX1_wideOf_9 : decode cX1_wideOf 9 = .ok (.aload_n 0, 1) := by decide +kernel
theorem dX1_wideOf_10 : decode cX1_wideOf 10 = .ok (.iload_n 1, 1) := by decide +kernel
theorem dX1_wideOf_11 : decode cX1_wideOf 11 = .ok (.iload_n 2, 1) := by decide +kernel
theorem dX1_wideOf_12 : decode cX1_wideOf 12 = .ok (.lload_n 3, 1) := by decide +kernel
theorem dX1_wideOf_13 : decode cX1_wideOf 13 = .ok (.invokevirtual 82, 3) := by decide +kernel
theorem dX1_wideOf_16 : decode cX1_wideOf 16 = .ok (.goto 10, 3) := by decide +kernel
theorem dX1_wideOf_19 : decode cX1_wideOf 19 = .ok (.aload_n 0, 1) := by decide +kernel
theorem dX1_wideOf_20 : decode cX1_wideOf 20 = .ok (.iconst 0, 1) := by decide +kernel
theorem dX1_wideOf_21 : decode cX1_wideOf 21 = .ok (.iconst 0, 1) := by decide +kernel
theorem dX1_wideOf_22 : decode cX1_wideOf 22 = .ok (.lload_n 3, 1) := by decide +kernel
theorem dX1_wideOf_23 : decode cX1_wideOf 23 = .ok (.invokevirtual 82, 3) := by decide +kernel
theorem dX1_wideOf_26 : decode cX1_wideOf 26 = .ok (.lreturn, 1) := by decide +kernel
theorem dX1_right_0 : decode cX1_right 0 = .ok (.iload_n 0, 1) := by decide +kernel
theorem dX1_right_1 : decode cX1_right 1 = .ok (.iconst 1, 1) := by decide +kernel
theorem dX1_right_2 : decode cX1_right 2 = .ok (.iand, 1) := by decide +kernel
theorem dX1_right_3 : decode cX1_right 3 = .ok (.ifCond .ne 9, 3) := by decide +kernel
theorem dX1_right_6 : decode cX1_right 6 = .ok (.iload_n 0, 1) := by decide +kernel
theorem dX1_right_7 : decode cX1_right 7 = .ok (.iconst 1, 1) := by decide +kernel
theorem dX1_right_8 : decode cX1_right 8 = .ok (.iushr, 1) := by decide +kernel
theorem dX1_right_9 : decode cX1_right 9 = .ok (.goto 9, 3) := by decide +kernel
theorem dX1_right_12 : decode cX1_right 12 = .ok (.iload_n 0, 1) := by decide +kernel
theorem dX1_right_13 : decode cX1_right 13 = .ok (.iconst 1, 1) := by decide +kernel
theorem dX1_right_14 : decode cX1_right 14 = .ok (.iushr, 1) := by decide +kernel
theorem dX1_right_15 : decode cX1_right 15 = .ok (.ldc 85, 2) := by decide +kernel
theorem dX1_right_17 : decode cX1_right 17 = .ok (.ixor, 1) := by decide +kernel
theorem dX1_right_18 : decode cX1_right 18 = .ok (.ireturn, 1) := by decide +kernel
theorem dX1_before_0 : decode cX1_before 0 = .ok (.iload_n 0, 1) := by decide +kernel
theorem dX1_before_1 : decode cX1_before 1 = .ok (.ifCond .ge 14, 3) := by decide +kernel
theorem dX1_before_4 : decode cX1_before 4 = .ok (.iload_n 0, 1) := by decide +kernel
theorem dX1_before_5 : decode cX1_before 5 = .ok (.ldc 85, 2) := by decide +kernel
theorem dX1_before_7 : decode cX1_before 7 = .ok (.ixor, 1) := by decide +kernel
theorem dX1_before_8 : decode cX1_before 8 = .ok (.iconst 1, 1) := by decide +kernel
theorem dX1_before_9 : decode cX1_before 9 = .ok (.ishl, 1) := by decide +kernel
theorem dX1_before_10 : decode cX1_before 10 = .ok (.iconst 1, 1) := by decide +kernel
theorem dX1_before_11 : decode cX1_before 11 = .ok (.ior, 1) := by decide +kernel
theorem dX1_before_12 : decode cX1_before 12 = .ok (.goto 6, 3) := by decide +kernel
theorem dX1_before_15 : decode cX1_before 15 = .ok (.iload_n 0, 1) := by decide +kernel
theorem dX1_before_16 : decode cX1_before 16 = .ok (.iconst 1, 1) := by decide +kernel
theorem dX1_before_17 : decode cX1_before 17 = .ok (.ishl, 1) := by decide +kernel
theorem dX1_before_18 : decode cX1_before 18 = .ok (.ireturn, 1) := by decide +kernel
theorem dX1_withByte_0 : decode cX1_withByte 0 = .ok (.iload_n 0, 1) := by decide +kernel
theorem dX1_withByte_1 : decode cX1_withByte 1 = .ok (.istore_n 2, 1) := by decide +kernel
theorem dX1_withByte_2 : decode cX1_withByte 2 = .ok (.iconst 0, 1) := by decide +kernel
theorem dX1_withByte_3 : decode cX1_withByte 3 = .ok (.istore_n 3, 1) := by decide +kernel
theorem dX1_withByte_4 : decode cX1_withByte 4 = .ok (.iload_n 3, 1) := by decide +kernel
theorem dX1_withByte_5 : decode cX1_withByte 5 = .ok (.bipush 8, 2) := by decide +kernel
theorem dX1_withByte_7 : decode cX1_withByte 7 = .ok (.if_icmp .ge 20, 3) := by decide +kernel
theorem dX1_withByte_10 : decode cX1_withByte 10 = .ok (.iload_n 2, 1) := by decide +kernel
theorem dX1_withByte_11 : decode cX1_withByte 11 = .ok (.iload_n 1, 1) := by decide +kernel
theorem dX1_withByte_12 : decode cX1_withByte 12 = .ok (.iload_n 3, 1) := by decide +kernel
theorem dX1_withByte_13 : decode cX1_withByte 13 = .ok (.ishr, 1) := by decide +kernel
theorem dX1_withByte_14 : decode cX1_withByte 14 = .ok (.iconst 1, 1) := by decide +kernel
theorem dX1_withByte_15 : decode cX1_withByte 15 = .ok (.iand, 1) := by decide +kernel
theorem dX1_withByte_16 : decode cX1_withByte 16 = .ok (.ixor, 1) := by decide +kernel
theorem dX1_withByte_17 : decode cX1_withByte 17 = .ok (.invokestatic 86, 3) := by decide +kernel
theorem dX1_withByte_20 : decode cX1_withByte 20 = .ok (.istore_n 2, 1) := by decide +kernel
theorem dX1_withByte_21 : decode cX1_withByte 21 = .ok (.iinc 3 1, 3) := by decide +kernel
theorem dX1_withByte_24 : decode cX1_withByte 24 = .ok (.goto (-20), 3) := by decide +kernel
theorem dX1_withByte_27 : decode cX1_withByte 27 = .ok (.iload_n 2, 1) := by decide +kernel
theorem dX1_withByte_28 : decode cX1_withByte 28 = .ok (.ireturn, 1) := by decide +kernel
theorem dX1_back_0 : decode cX1_back 0 = .ok (.iload_n 0, 1) := by decide +kernel
theorem dX1_back_1 : decode cX1_back 1 = .ok (.istore_n 2, 1) := by decide +kernel
theorem dX1_back_2 : decode cX1_back 2 = .ok (.iconst 0, 1) := by decide +kernel
theorem dX1_back_3 : decode cX1_back 3 = .ok (.istore_n 3, 1) := by decide +kernel
theorem dX1_back_4 : decode cX1_back 4 = .ok (.iload_n 3, 1) := by decide +kernel
theorem dX1_back_5 : decode cX1_back 5 = .ok (.iload_n 1, 1) := by decide +kernel
theorem dX1_back_6 : decode cX1_back 6 = .ok (.if_icmp .ge 14, 3) := by decide +kernel
theorem dX1_back_9 : decode cX1_back 9 = .ok (.iload_n 2, 1) := by decide +kernel
theorem dX1_back_10 : decode cX1_back 10 = .ok (.invokestatic 89, 3) := by decide +kernel
theorem dX1_back_13 : decode cX1_back 13 = .ok (.istore_n 2, 1) := by decide +kernel
theorem dX1_back_14 : decode cX1_back 14 = .ok (.iinc 3 1, 3) := by decide +kernel
theorem dX1_back_17 : decode cX1_back 17 = .ok (.goto (-13), 3) := by decide +kernel
theorem dX1_back_20 : decode cX1_back 20 = .ok (.iload_n 2, 1) := by decide +kernel
theorem dX1_back_21 : decode cX1_back 21 = .ok (.ireturn, 1) := by decide +kernel
theorem dX1_register_0 : decode cX1_register 0 = .ok (.iconst (-1), 1) := by decide +kernel
theorem dX1_register_1 : decode cX1_register 1 = .ok (.istore_n 3, 1) := by decide +kernel
theorem dX1_register_2 : decode cX1_register 2 = .ok (.iload_n 1, 1) := by decide +kernel
theorem dX1_register_3 : decode cX1_register 3 = .ok (.istore 4, 2) := by decide +kernel
theorem dX1_register_5 : decode cX1_register 5 = .ok (.iload 4, 2) := by decide +kernel
theorem dX1_register_7 : decode cX1_register 7 = .ok (.iload_n 2, 1) := by decide +kernel
theorem dX1_register_8 : decode cX1_register 8 = .ok (.if_icmp .ge 20, 3) := by decide +kernel
theorem dX1_register_11 : decode cX1_register 11 = .ok (.iload_n 3, 1) := by decide +kernel
theorem dX1_register_12 : decode cX1_register 12 = .ok (.aload_n 0, 1) := by decide +kernel
theorem dX1_register_13 : decode cX1_register 13 = .ok (.iload 4, 2) := by decide +kernel
theorem dX1_register_15 : decode cX1_register 15 = .ok (.invokevirtual 27, 3) := by decide +kernel
theorem dX1_register_18 : decode cX1_register 18 = .ok (.invokestatic 92, 3) := by decide +kernel
theorem dX1_register_21 : decode cX1_register 21 = .ok (.istore_n 3, 1) := by decide +kernel
theorem dX1_register_22 : decode cX1_register 22 = .ok (.iinc 4 1, 3) := by decide +kernel
theorem dX1_register_25 : decode cX1_register 25 = .ok (.goto (-20), 3) := by decide +kernel
theorem dX1_register_28 : decode cX1_register 28 = .ok (.iload_n 3, 1) := by decide +kernel
theorem dX1_register_29 : decode cX1_register 29 = .ok (.ireturn, 1) := by decide +kernel
theorem dX1_poly_0 : decode cX1_poly 0 = .ok (.aload_n 0, 1) := by decide +kernel
theorem dX1_poly_1 : decode cX1_poly 1 = .ok (.iconst 0, 1) := by decide +kernel
theorem dX1_poly_2 : decode cX1_poly 2 = .ok (.aload_n 0, 1) := by decide +kernel
theorem dX1_poly_3 : decode cX1_poly 3 = .ok (.getfield 14, 3) := by decide +kernel
theorem dX1_poly_6 : decode cX1_poly 6 = .ok (.invokevirtual 95, 3) := by decide +kernel
theorem dX1_poly_9 : decode cX1_poly 9 = .ok (.iconst (-1), 1) := by decide +kernel
theorem dX1_poly_10 : decode cX1_poly 10 = .ok (.ixor, 1) := by decide +kernel
theorem dX1_poly_11 : decode cX1_poly 11 = .ok (.ireturn, 1) := by decide +kernel
theorem dX1_polyOf_0 : decode cX1_polyOf 0 = .ok (.aload_n 0, 1) := by decide +kernel
theorem dX1_polyOf_1 : decode cX1_polyOf 1 = .ok (.iload_n 1, 1) := by decide +kernel
theorem dX1_polyOf_2 : decode cX1_polyOf 2 = .ok (.iload_n 2, 1) := by decide +kernel
theorem dX1_polyOf_3 : decode cX1_polyOf 3 = .ok (.invokevirtual 52, 3) := by decide +kernel
theorem dX1_polyOf_6 : decode cX1_polyOf 6 = .ok (.ifCond .eq 14, 3) := by decide +kernel
theorem dX1_polyOf_9 : decode cX1_polyOf 9 = .ok (.aload_n 0, 1) := by decide +kernel
theorem dX1_polyOf_10 : decode cX1_polyOf 10 = .ok (.iload_n 1, 1) := by decide +kernel
theorem dX1_polyOf_11 : decode cX1_polyOf 11 = .ok (.iload_n 2, 1) := by decide +kernel
theorem dX1_polyOf_12 : decode cX1_polyOf 12 = .ok (.invokevirtual 95, 3) := by decide +kernel
theorem dX1_polyOf_15 : decode cX1_polyOf 15 = .ok (.iconst (-1), 1) := by decide +kernel
theorem dX1_polyOf_16 : decode cX1_polyOf 16 = .ok (.ixor, 1) := by decide +kernel
theorem dX1_polyOf_17 : decode cX1_polyOf 17 = .ok (.goto 4, 3) := by decide +kernel
theorem dX1_polyOf_20 : decode cX1_polyOf 20 = .ok (.iconst 0, 1) := by decide +kernel
theorem dX1_polyOf_21 : decode cX1_polyOf 21 = .ok (.ireturn, 1) := by decide +kernel
theorem dX1_masked_0 : decode cX1_masked 0 = .ok (.iload_n 2, 1) := by decide +kernel
theorem dX1_masked_1 : decode cX1_masked 1 = .ok (.ifCond .eq 15, 3) := by decide +kernel
theorem dX1_masked_4 : decode cX1_masked 4 = .ok (.iload_n 1, 1) := by decide +kernel
theorem dX1_masked_5 : decode cX1_masked 5 = .ok (.ldc 98, 2) := by decide +kernel
theorem dX1_masked_7 : decode cX1_masked 7 = .ok (.isub, 1) := by decide +kernel
theorem dX1_masked_8 : decode cX1_masked 8 = .ok (.bipush 15, 2) := by decide +kernel
theorem dX1_masked_10 : decode cX1_masked 10 = .ok (.invokestatic 36, 3) := by decide +kernel
theorem dX1_masked_13 : decode cX1_masked 13 = .ok (.goto 12, 3) := by decide +kernel
theorem dX1_masked_16 : decode cX1_masked 16 = .ok (.iload_n 1, 1) := by decide +kernel
theorem dX1_masked_17 : decode cX1_masked 17 = .ok (.bipush 17, 2) := by decide +kernel
theorem dX1_masked_19 : decode cX1_masked 19 = .ok (.invokestatic 36, 3) := by decide +kernel
theorem dX1_masked_22 : decode cX1_masked 22 = .ok (.ldc 98, 2) := by decide +kernel
theorem dX1_masked_24 : decode cX1_masked 24 = .ok (.iadd, 1) := by decide +kernel
theorem dX1_masked_25 : decode cX1_masked 25 = .ok (.ireturn, 1) := by decide +kernel
theorem dX1_times_0 : decode cX1_times 0 = .ok (.iconst 0, 1) := by decide +kernel
theorem dX1_times_1 : decode cX1_times 1 = .ok (.istore_n 2, 1) := by decide +kernel
theorem dX1_times_2 : decode cX1_times 2 = .ok (.iload_n 0, 1) := by decide +kernel
theorem dX1_times_3 : decode cX1_times 3 = .ok (.istore_n 3, 1) := by decide +kernel
theorem dX1_times_4 : decode cX1_times 4 = .ok (.bipush 31, 2) := by decide +kernel
theorem dX1_times_6 : decode cX1_times 6 = .ok (.istore 4, 2) := by decide +kernel
theorem dX1_times_8 : decode cX1_times 8 = .ok (.iload 4, 2) := by decide +kernel
theorem dX1_times_10 : decode cX1_times 10 = .ok (.ifCond .lt 27, 3) := by decide +kernel
theorem dX1_times_13 : decode cX1_times 13 = .ok (.iload_n 1, 1) := by decide +kernel
theorem dX1_times_14 : decode cX1_times 14 = .ok (.iload 4, 2) := by decide +kernel
theorem dX1_times_16 : decode cX1_times 16 = .ok (.iushr, 1) := by decide +kernel
theorem dX1_times_17 : decode cX1_times 17 = .ok (.iconst 1, 1) := by decide +kernel
theorem dX1_times_18 : decode cX1_times 18 = .ok (.iand, 1) := by decide +kernel
theorem dX1_times_19 : decode cX1_times 19 = .ok (.ifCond .eq 7, 3) := by decide +kernel
theorem dX1_times_22 : decode cX1_times 22 = .ok (.iload_n 2, 1) := by decide +kernel
theorem dX1_times_23 : decode cX1_times 23 = .ok (.iload_n 3, 1) := by decide +kernel
theorem dX1_times_24 : decode cX1_times 24 = .ok (.ixor, 1) := by decide +kernel
theorem dX1_times_25 : decode cX1_times 25 = .ok (.istore_n 2, 1) := by decide +kernel
theorem dX1_times_26 : decode cX1_times 26 = .ok (.iload_n 3, 1) := by decide +kernel
theorem dX1_times_27 : decode cX1_times 27 = .ok (.invokestatic 86, 3) := by decide +kernel
theorem dX1_times_30 : decode cX1_times 30 = .ok (.istore_n 3, 1) := by decide +kernel
theorem dX1_times_31 : decode cX1_times 31 = .ok (.iinc 4 (-1), 3) := by decide +kernel
theorem dX1_times_34 : decode cX1_times 34 = .ok (.goto (-26), 3) := by decide +kernel
theorem dX1_times_37 : decode cX1_times 37 = .ok (.iload_n 2, 1) := by decide +kernel
theorem dX1_times_38 : decode cX1_times 38 = .ok (.ireturn, 1) := by decide +kernel
theorem dX1_power_0 : decode cX1_power 0 = .ok (.ldc 99, 2) := by decide +kernel
theorem dX1_power_2 : decode cX1_power 2 = .ok (.istore_n 3, 1) := by decide +kernel
theorem dX1_power_3 : decode cX1_power 3 = .ok (.bipush 63, 2) := by decide +kernel
theorem dX1_power_5 : decode cX1_power 5 = .ok (.istore 4, 2) := by decide +kernel
theorem dX1_power_7 : decode cX1_power 7 = .ok (.iload 4, 2) := by decide +kernel
theorem dX1_power_9 : decode cX1_power 9 = .ok (.ifCond .lt 32, 3) := by decide +kernel
theorem dX1_power_12 : decode cX1_power 12 = .ok (.iload_n 3, 1) := by decide +kernel
theorem dX1_power_13 : decode cX1_power 13 = .ok (.iload_n 3, 1) := by decide +kernel
theorem dX1_power_14 : decode cX1_power 14 = .ok (.invokestatic 100, 3) := by decide +kernel
theorem dX1_power_17 : decode cX1_power 17 = .ok (.istore_n 3, 1) := by decide +kernel
theorem dX1_power_18 : decode cX1_power 18 = .ok (.lload_n 1, 1) := by decide +kernel
theorem dX1_power_19 : decode cX1_power 19 = .ok (.iload 4, 2) := by decide +kernel
theorem dX1_power_21 : decode cX1_power 21 = .ok (.lushr, 1) := by decide +kernel
theorem dX1_power_22 : decode cX1_power 22 = .ok (.lconst 1, 1) := by decide +kernel
theorem dX1_power_23 : decode cX1_power 23 = .ok (.land, 1) := by decide +kernel
theorem dX1_power_24 : decode cX1_power 24 = .ok (.lconst 0, 1) := by decide +kernel
theorem dX1_power_25 : decode cX1_power 25 = .ok (.lcmp, 1) := by decide +kernel
theorem dX1_power_26 : decode cX1_power 26 = .ok (.ifCond .eq 9, 3) := by decide +kernel
theorem dX1_power_29 : decode cX1_power 29 = .ok (.iload_n 3, 1) := by decide +kernel
theorem dX1_power_30 : decode cX1_power 30 = .ok (.iload_n 0, 1) := by decide +kernel
theorem dX1_power_31 : decode cX1_power 31 = .ok (.invokestatic 100, 3) := by decide +kernel
theorem dX1_power_34 : decode cX1_power 34 = .ok (.istore_n 3, 1) := by decide +kernel
theorem dX1_power_35 : decode cX1_power 35 = .ok (.iinc 4 (-1), 3) := by decide +kernel
theorem dX1_power_38 : decode cX1_power 38 = .ok (.goto (-31), 3) := by decide +kernel
theorem dX1_power_41 : decode cX1_power 41 = .ok (.iload_n 3, 1) := by decide +kernel
theorem dX1_power_42 : decode cX1_power 42 = .ok (.ireturn, 1) := by decide +kernel
theorem dX1_joined_0 : decode cX1_joined 0 = .ok (.iload_n 1, 1) := by decide +kernel
theorem dX1_joined_1 : decode cX1_joined 1 = .ok (.ldc 99, 2) := by decide +kernel
theorem dX1_joined_3 : decode cX1_joined 3 = .ok (.iconst 0, 1) := by decide +kernel
theorem dX1_joined_4 : decode cX1_joined 4 = .ok (.invokestatic 92, 3) := by decide +kernel
theorem dX1_joined_7 : decode cX1_joined 7 = .ok (.lload_n 3, 1) := by decide +kernel
theorem dX1_joined_8 : decode cX1_joined 8 = .ok (.invokestatic 103, 3) := by decide +kernel
theorem dX1_joined_11 : decode cX1_joined 11 = .ok (.invokestatic 100, 3) := by decide +kernel
theorem dX1_joined_14 : decode cX1_joined 14 = .ok (.iload_n 2, 1) := by decide +kernel
theorem dX1_joined_15 : decode cX1_joined 15 = .ok (.ixor, 1) := by decide +kernel
theorem dX1_joined_16 : decode cX1_joined 16 = .ok (.ireturn, 1) := by decide +kernel
theorem dX1_cut_0 : decode cX1_cut 0 = .ok (.iload_n 1, 1) := by decide +kernel
theorem dX1_cut_1 : decode cX1_cut 1 = .ok (.iload_n 2, 1) := by decide +kernel
theorem dX1_cut_2 : decode cX1_cut 2 = .ok (.ixor, 1) := by decide +kernel
theorem dX1_cut_3 : decode cX1_cut 3 = .ok (.ldc 99, 2) := by decide +kernel
theorem dX1_cut_5 : decode cX1_cut 5 = .ok (.bipush 8, 2) := by decide +kernel
theorem dX1_cut_7 : decode cX1_cut 7 = .ok (.invokestatic 107, 3) := by decide +kernel
theorem dX1_cut_10 : decode cX1_cut 10 = .ok (.lload_n 3, 1) := by decide +kernel
theorem dX1_cut_11 : decode cX1_cut 11 = .ok (.invokestatic 103, 3) := by decide +kernel
theorem dX1_cut_14 : decode cX1_cut 14 = .ok (.invokestatic 100, 3) := by decide +kernel
theorem dX1_cut_17 : decode cX1_cut 17 = .ok (.ireturn, 1) := by decide +kernel
theorem dX1_between_0 : decode cX1_between 0 = .ok (.iload_n 0, 1) := by decide +kernel
theorem dX1_between_1 : decode cX1_between 1 = .ok (.iload_n 1, 1) := by decide +kernel
theorem dX1_between_2 : decode cX1_between 2 = .ok (.bipush 32, 2) := by decide +kernel
theorem dX1_between_4 : decode cX1_between 4 = .ok (.invokestatic 107, 3) := by decide +kernel
theorem dX1_between_7 : decode cX1_between 7 = .ok (.ixor, 1) := by decide +kernel
theorem dX1_between_8 : decode cX1_between 8 = .ok (.istore_n 2, 1) := by decide +kernel
theorem dX1_between_9 : decode cX1_between 9 = .ok (.iload_n 2, 1) := by decide +kernel
theorem dX1_between_10 : decode cX1_between 10 = .ok (.bipush 24, 2) := by decide +kernel
theorem dX1_between_12 : decode cX1_between 12 = .ok (.ishl, 1) := by decide +kernel
theorem dX1_between_13 : decode cX1_between 13 = .ok (.iload_n 2, 1) := by decide +kernel
theorem dX1_between_14 : decode cX1_between 14 = .ok (.bipush 8, 2) := by decide +kernel
theorem dX1_between_16 : decode cX1_between 16 = .ok (.ishr, 1) := by decide +kernel
theorem dX1_between_17 : decode cX1_between 17 = .ok (.sipush 255, 3) := by decide +kernel
theorem dX1_between_20 : decode cX1_between 20 = .ok (.iand, 1) := by decide +kernel
theorem dX1_between_21 : decode cX1_between 21 = .ok (.bipush 16, 2) := by decide +kernel
theorem dX1_between_23 : decode cX1_between 23 = .ok (.ishl, 1) := by decide +kernel
theorem dX1_between_24 : decode cX1_between 24 = .ok (.ior, 1) := by decide +kernel
theorem dX1_between_25 : decode cX1_between 25 = .ok (.iload_n 2, 1) := by decide +kernel
theorem dX1_between_26 : decode cX1_between 26 = .ok (.bipush 16, 2) := by decide +kernel
theorem dX1_between_28 : decode cX1_between 28 = .ok (.ishr, 1) := by decide +kernel
theorem dX1_between_29 : decode cX1_between 29 = .ok (.sipush 255, 3) := by decide +kernel
theorem dX1_between_32 : decode cX1_between 32 = .ok (.iand, 1) := by decide +kernel
theorem dX1_between_33 : decode cX1_between 33 = .ok (.bipush 8, 2) := by decide +kernel
theorem dX1_between_35 : decode cX1_between 35 = .ok (.ishl, 1) := by decide +kernel
theorem dX1_between_36 : decode cX1_between 36 = .ok (.ior, 1) := by decide +kernel
theorem dX1_between_37 : decode cX1_between 37 = .ok (.iload_n 2, 1) := by decide +kernel
theorem dX1_between_38 : decode cX1_between 38 = .ok (.bipush 24, 2) := by decide +kernel
theorem dX1_between_40 : decode cX1_between 40 = .ok (.iushr, 1) := by decide +kernel
theorem dX1_between_41 : decode cX1_between 41 = .ok (.ior, 1) := by decide +kernel
theorem dX1_between_42 : decode cX1_between 42 = .ok (.ireturn, 1) := by decide +kernel
theorem dX1_forged_0 : decode cX1_forged 0 = .ok (.aload_n 0, 1) := by decide +kernel
theorem dX1_forged_1 : decode cX1_forged 1 = .ok (.iconst 0, 1) := by decide +kernel
theorem dX1_forged_2 : decode cX1_forged 2 = .ok (.aload_n 0, 1) := by decide +kernel
theorem dX1_forged_3 : decode cX1_forged 3 = .ok (.getfield 14, 3) := by decide +kernel
theorem dX1_forged_6 : decode cX1_forged 6 = .ok (.invokevirtual 95, 3) := by decide +kernel
theorem dX1_forged_9 : decode cX1_forged 9 = .ok (.iload_n 1, 1) := by decide +kernel
theorem dX1_forged_10 : decode cX1_forged 10 = .ok (.iconst (-1), 1) := by decide +kernel
theorem dX1_forged_11 : decode cX1_forged 11 = .ok (.ixor, 1) := by decide +kernel
theorem dX1_forged_12 : decode cX1_forged 12 = .ok (.invokestatic 110, 3) := by decide +kernel
theorem dX1_forged_15 : decode cX1_forged 15 = .ok (.ireturn, 1) := by decide +kernel
theorem dX1_mended_0 : decode cX1_mended 0 = .ok (.iload_n 1, 1) := by decide +kernel
theorem dX1_mended_1 : decode cX1_mended 1 = .ok (.ifCond .lt 13, 3) := by decide +kernel
theorem dX1_mended_4 : decode cX1_mended 4 = .ok (.iload_n 1, 1) := by decide +kernel
theorem dX1_mended_5 : decode cX1_mended 5 = .ok (.aload_n 0, 1) := by decide +kernel
theorem dX1_mended_6 : decode cX1_mended 6 = .ok (.getfield 14, 3) := by decide +kernel
theorem dX1_mended_9 : decode cX1_mended 9 = .ok (.iconst 4, 1) := by decide +kernel
theorem dX1_mended_10 : decode cX1_mended 10 = .ok (.isub, 1) := by decide +kernel
theorem dX1_mended_11 : decode cX1_mended 11 = .ok (.if_icmp .le 5, 3) := by decide +kernel
theorem dX1_mended_14 : decode cX1_mended 14 = .ok (.iconst 0, 1) := by decide +kernel
theorem dX1_mended_15 : decode cX1_mended 15 = .ok (.ireturn, 1) := by decide +kernel
theorem dX1_mended_16 : decode cX1_mended 16 = .ok (.iload_n 2, 1) := by decide +kernel
theorem dX1_mended_17 : decode cX1_mended 17 = .ok (.iconst (-1), 1) := by decide +kernel
theorem dX1_mended_18 : decode cX1_mended 18 = .ok (.ixor, 1) := by decide +kernel
theorem dX1_mended_19 : decode cX1_mended 19 = .ok (.istore_n 3, 1) := by decide +kernel
theorem dX1_mended_20 : decode cX1_mended 20 = .ok (.aload_n 0, 1) := by decide +kernel
theorem dX1_mended_21 : decode cX1_mended 21 = .ok (.getfield 14, 3) := by decide +kernel
theorem dX1_mended_24 : decode cX1_mended 24 = .ok (.iconst 1, 1) := by decide +kernel
theorem dX1_mended_25 : decode cX1_mended 25 = .ok (.isub, 1) := by decide +kernel
theorem dX1_mended_26 : decode cX1_mended 26 = .ok (.istore 4, 2) := by decide +kernel
theorem dX1_mended_28 : decode cX1_mended 28 = .ok (.iload 4, 2) := by decide +kernel
theorem dX1_mended_30 : decode cX1_mended 30 = .ok (.iload_n 1, 1) := by decide +kernel
theorem dX1_mended_31 : decode cX1_mended 31 = .ok (.iconst 4, 1) := by decide +kernel
theorem dX1_mended_32 : decode cX1_mended 32 = .ok (.iadd, 1) := by decide +kernel
theorem dX1_mended_33 : decode cX1_mended 33 = .ok (.if_icmp .lt 23, 3) := by decide +kernel
theorem dX1_mended_36 : decode cX1_mended 36 = .ok (.iload_n 3, 1) := by decide +kernel
theorem dX1_mended_37 : decode cX1_mended 37 = .ok (.bipush 8, 2) := by decide +kernel
theorem dX1_mended_39 : decode cX1_mended 39 = .ok (.invokestatic 107, 3) := by decide +kernel
theorem dX1_mended_42 : decode cX1_mended 42 = .ok (.aload_n 0, 1) := by decide +kernel
theorem dX1_mended_43 : decode cX1_mended 43 = .ok (.iload 4, 2) := by decide +kernel
theorem dX1_mended_45 : decode cX1_mended 45 = .ok (.invokevirtual 27, 3) := by decide +kernel
theorem dX1_mended_48 : decode cX1_mended 48 = .ok (.ixor, 1) := by decide +kernel
theorem dX1_mended_49 : decode cX1_mended 49 = .ok (.istore_n 3, 1) := by decide +kernel
theorem dX1_mended_50 : decode cX1_mended 50 = .ok (.iinc 4 (-1), 3) := by decide +kernel
theorem dX1_mended_53 : decode cX1_mended 53 = .ok (.goto (-25), 3) := by decide +kernel
theorem dX1_mended_56 : decode cX1_mended 56 = .ok (.aload_n 0, 1) := by decide +kernel
theorem dX1_mended_57 : decode cX1_mended 57 = .ok (.iconst 0, 1) := by decide +kernel
theorem dX1_mended_58 : decode cX1_mended 58 = .ok (.iload_n 1, 1) := by decide +kernel
theorem dX1_mended_59 : decode cX1_mended 59 = .ok (.invokevirtual 95, 3) := by decide +kernel
theorem dX1_mended_62 : decode cX1_mended 62 = .ok (.iload_n 3, 1) := by decide +kernel
theorem dX1_mended_63 : decode cX1_mended 63 = .ok (.invokestatic 110, 3) := by decide +kernel
theorem dX1_mended_66 : decode cX1_mended 66 = .ok (.ireturn, 1) := by decide +kernel
end
section
/-! pasted from kit/laws/BITS.to-paste: the families bt and wb -/
def bt (x : Int32) (i : Nat) : Bool := x.toBitVec.getLsbD i
theorem b_ext {x y : Int32} (h : ∀ i, i < 32 → bt x i = bt y i) : x = y := Int32.toBitVec_inj.mp (BitVec.eq_of_getLsbD_eq (fun i hi => h i hi))
theorem b_or (x y : Int32) (i : Nat) : bt (x ||| y) i = (bt x i || bt y i) := by unfold bt; rw [Int32.toBitVec_or, BitVec.getLsbD_or]
theorem b_and (x y : Int32) (i : Nat) : bt (x &&& y) i = (bt x i && bt y i) := by unfold bt; rw [Int32.toBitVec_and, BitVec.getLsbD_and]
theorem b_xor (x y : Int32) (i : Nat) : bt (x ^^^ y) i = (bt x i ^^ bt y i) := by unfold bt; rw [Int32.toBitVec_xor, BitVec.getLsbD_xor]
theorem b_big {x : Int32} {i : Nat} (h : 32 ≤ i) : bt x i = false := BitVec.getLsbD_of_ge _ _ h
theorem b_255 (i : Nat) : bt 255 i = decide (i < 8) := by
  rcases Nat.lt_or_ge i 32 with h | h
  · exact (by decide +kernel : ∀ i, i < 32 → bt 255 i = decide (i < 8)) i h
  · rw [b_big h, decide_eq_false (by omega)]
theorem b_65535 (i : Nat) : bt 65535 i = decide (i < 16) := by
  rcases Nat.lt_or_ge i 32 with h | h
  · exact (by decide +kernel : ∀ i, i < 32 → bt 65535 i = decide (i < 16)) i h
  · rw [b_big h, decide_eq_false (by omega)]
theorem b_m1 : ∀ i, i < 32 → bt (-1) i = true := by decide +kernel
theorem b_0 (i : Nat) : bt 0 i = false := BitVec.getLsbD_zero
theorem s_l : ∀ n, n < 32 → ((nI n &&& 31).toBitVec.smod 32).toNat = n := by decide +kernel
theorem s_u : ∀ n, n < 32 → (((nI n).toUInt32 &&& Int32.toUInt32 31).toBitVec % 32).toNat = n := by decide +kernel
theorem b_shl (n : Nat) (hn : n < 32) (x : Int32) {i : Nat} (hi : i < 32) : bt (x <<< (nI n &&& 31)) i = (decide (n ≤ i) && bt x (i - n)) := by
  unfold bt
  rw [Int32.toBitVec_shiftLeft]
  show (x.toBitVec <<< ((nI n &&& 31).toBitVec.smod 32).toNat).getLsbD i = _
  rw [s_l n hn, BitVec.getLsbD_shiftLeft]
  rcases Nat.lt_or_ge i n with h | h
  · simp [h, Nat.not_le.mpr h]
  · simp [hi, h, Nat.not_lt.mpr h]
theorem b_ushr (n : Nat) (hn : n < 32) (x : Int32) (i : Nat) : bt ((x.toUInt32 >>> ((nI n).toUInt32 &&& Int32.toUInt32 31)).toInt32) i = bt x (n + i) := by
  show (x.toUInt32 >>> ((nI n).toUInt32 &&& Int32.toUInt32 31)).toBitVec.getLsbD i = x.toUInt32.toBitVec.getLsbD (n + i)
  rw [UInt32.toBitVec_shiftRight]
  show (x.toUInt32.toBitVec >>> (((nI n).toUInt32 &&& Int32.toUInt32 31).toBitVec % 32).toNat).getLsbD i = _
  rw [s_u n hn, BitVec.getLsbD_ushiftRight]
theorem b_sshr (n : Nat) (hn : n < 32) (x : Int32) {i : Nat} (hi : i < 32) : bt (x >>> (nI n &&& 31)) i = if n + i < 32 then bt x (n + i) else bt x 31 := by
  unfold bt
  rw [Int32.toBitVec_shiftRight]
  show (x.toBitVec.sshiftRight ((nI n &&& 31).toBitVec.smod 32).toNat).getLsbD i = _
  rw [s_l n hn, BitVec.getLsbD_sshiftRight, BitVec.msb_eq_getLsbD_last]
  simp [hi]
theorem b_shl8 (x : Int32) {i : Nat} (hi : i < 32) : bt (x <<< ((8 : Int32) &&& 31)) i = (decide (8 ≤ i) && bt x (i - 8)) := b_shl 8 (by omega) x hi
theorem b_shl16 (x : Int32) {i : Nat} (hi : i < 32) : bt (x <<< ((16 : Int32) &&& 31)) i = (decide (16 ≤ i) && bt x (i - 16)) := b_shl 16 (by omega) x hi
theorem b_shl24 (x : Int32) {i : Nat} (hi : i < 32) : bt (x <<< ((24 : Int32) &&& 31)) i = (decide (24 ≤ i) && bt x (i - 24)) := b_shl 24 (by omega) x hi
theorem b_sshr8 (x : Int32) {i : Nat} (hi : i < 32) : bt (x >>> ((8 : Int32) &&& 31)) i = if 8 + i < 32 then bt x (8 + i) else bt x 31 := b_sshr 8 (by omega) x hi
/-! ===== lN n to 2^64: shifts, and, or, masks, one bit ===== -/
theorem wb_tb (n : Nat) : (lN n).toBitVec = BitVec.ofNat 64 n := rfl
theorem wb_inj {a b : Int64} (h : a.toBitVec = b.toBitVec) : a = b := Int64.toBitVec_inj.mp h
theorem wb_tn {n : Nat} (h : n < 2 ^ 64) : (lN n).toBitVec.toNat = n := by rw [wb_tb, BitVec.toNat_ofNat, Nat.mod_eq_of_lt h]
theorem wb_of (x : Int64) : ∃ n, n < 2 ^ 64 ∧ x = lN n := ⟨x.toBitVec.toNat, x.toBitVec.isLt, wb_inj (by rw [wb_tb]; simp)⟩
theorem wb_of32 (x : Int32) : ∃ n, n < 2 ^ 32 ∧ x = nI n := ⟨x.toBitVec.toNat, x.toBitVec.isLt, Int32.toBitVec_inj.mp (by show _ = BitVec.ofNat 32 _; simp)⟩
theorem wb_c : ∀ k, k < 64 → ((nI k).toInt64 &&& 63) = lN k := by decide +kernel
theorem wb_cu : ∀ k, k < 64 → ((nI k).toInt64.toUInt64 &&& Int64.toUInt64 63) = UInt64.ofNat k := by decide +kernel
theorem wb_sm : ∀ k, k < 64 → (BitVec.ofNat 64 k).smod 64 = BitVec.ofNat 64 k := by decide +kernel
theorem wb_pw {a b : Nat} (h : a ≤ b) : 2 ^ b = 2 ^ a * 2 ^ (b - a) := by rw [← Nat.pow_add]; congr 1; omega
theorem wb_lt2 {a b : Nat} (h : a < b) : 2 ^ a < 2 ^ b := Nat.pow_lt_pow_right (by decide) h
theorem wb_mod (n : Nat) : lN n = lN (n % 2 ^ 64) := wb_inj (by rw [wb_tb, wb_tb]; apply BitVec.eq_of_toNat_eq; rw [BitVec.toNat_ofNat, BitVec.toNat_ofNat, Nat.mod_mod])
theorem wb_shr {n k : Nat} (hn : n < 2 ^ 64) (hk : k < 64) : ((lN n).toUInt64 >>> ((nI k).toInt64.toUInt64 &&& Int64.toUInt64 63)).toInt64 = lN (n / 2 ^ k) := by
  rw [wb_cu k hk]
  apply wb_inj
  apply BitVec.eq_of_toNat_eq
  show ((lN n).toUInt64 >>> UInt64.ofNat k).toNat = (BitVec.ofNat 64 _).toNat
  have h1 : (UInt64.ofNat k).toNat = k := by
    show (BitVec.ofNat 64 k).toNat = k
    rw [BitVec.toNat_ofNat, Nat.mod_eq_of_lt (by omega)]
  have h2 : (lN n).toUInt64.toNat = n := wb_tn hn
  rw [UInt64.toNat_shiftRight, h1, h2, Nat.mod_eq_of_lt hk, Nat.shiftRight_eq_div_pow, BitVec.toNat_ofNat, Nat.mod_eq_of_lt (Nat.lt_of_le_of_lt (Nat.div_le_self _ _) hn)]
theorem wb_shl (n : Nat) {k : Nat} (hk : k < 64) : lN n <<< ((nI k).toInt64 &&& 63) = lN (n * 2 ^ k) := by
  rw [wb_c k hk]
  apply wb_inj
  rw [Int64.toBitVec_shiftLeft, wb_tb, wb_tb, wb_tb, wb_sm k hk]
  apply BitVec.eq_of_toNat_eq
  rw [BitVec.shiftLeft_eq', BitVec.toNat_shiftLeft, BitVec.toNat_ofNat, BitVec.toNat_ofNat, BitVec.toNat_ofNat, Nat.mod_eq_of_lt (show k < 2 ^ 64 by omega), Nat.shiftLeft_eq, Nat.mul_mod, Nat.mod_mod, ← Nat.mul_mod]
theorem wb_and {a b : Nat} (ha : a < 2 ^ 64) (hb : b < 2 ^ 64) : lN a &&& lN b = lN (a &&& b) := by
  apply wb_inj
  rw [Int64.toBitVec_and, wb_tb, wb_tb, wb_tb]
  apply BitVec.eq_of_toNat_eq
  rw [BitVec.toNat_and, BitVec.toNat_ofNat, BitVec.toNat_ofNat, BitVec.toNat_ofNat, Nat.mod_eq_of_lt ha, Nat.mod_eq_of_lt hb, Nat.mod_eq_of_lt (Nat.and_lt_two_pow _ hb)]
theorem wb_or {a b : Nat} (ha : a < 2 ^ 64) (hb : b < 2 ^ 64) : lN a ||| lN b = lN (a ||| b) := by
  apply wb_inj
  rw [Int64.toBitVec_or, wb_tb, wb_tb, wb_tb]
  apply BitVec.eq_of_toNat_eq
  rw [BitVec.toNat_or, BitVec.toNat_ofNat, BitVec.toNat_ofNat, BitVec.toNat_ofNat, Nat.mod_eq_of_lt ha, Nat.mod_eq_of_lt hb, Nat.mod_eq_of_lt (Nat.or_lt_two_pow ha hb)]
theorem wb_mask {n k : Nat} (hn : n < 2 ^ 64) (hk : k < 64) : lN n &&& lN (2 ^ k - 1) = lN (n % 2 ^ k) := by
  rw [wb_and hn (by have := wb_lt2 hk; omega), Nat.and_two_pow_sub_one_eq_mod]
theorem wb_a1 {n : Nat} (hn : n < 2 ^ 64) : lN n &&& 1 = lN (n % 2) := wb_mask (k := 1) hn (by decide)
theorem wb_bit {n k : Nat} (hn : n < 2 ^ 64) (hk : k < 64) : ((lN n).toUInt64 >>> ((nI k).toInt64.toUInt64 &&& Int64.toUInt64 63)).toInt64 &&& 1 = lN (n / 2 ^ k % 2) := by
  rw [wb_shr hn hk, wb_a1 (Nat.lt_of_le_of_lt (Nat.div_le_self _ _) hn)]
theorem wb_xor {q k : Nat} (hk : k < 63) (h : 2 ^ k ≤ q) (h2 : q < 2 ^ (k + 1)) : lN q ^^^ lN (2 ^ k) = lN (q - 2 ^ k) := by
  obtain ⟨r, rfl⟩ : ∃ r, q = 2 ^ k + r := ⟨q - 2 ^ k, by omega⟩
  have hr : r < 2 ^ k := by rw [Nat.pow_succ] at h2; omega
  have hx : (2 ^ k + r) ^^^ 2 ^ k = r := by
    apply Nat.eq_of_testBit_eq
    intro i
    rw [Nat.testBit_xor, Nat.testBit_two_pow]
    rcases Nat.lt_trichotomy i k with h | h | h
    · rw [Nat.testBit_two_pow_add_gt h]
      simp [show ¬ k = i by omega]
    · subst h
      rw [Nat.testBit_two_pow_add_eq]
      simp
    · have a1 : 2 ^ (k + 1) ≤ 2 ^ i := Nat.pow_le_pow_right (by decide) h
      rw [Nat.testBit_lt_two_pow (show 2 ^ k + r < 2 ^ i by omega), Nat.testBit_lt_two_pow (show r < 2 ^ i by omega)]
      simp [show ¬ k = i by omega]
  have b1 := wb_lt2 (show k + 1 < 64 by omega)
  have b2 := wb_lt2 (show k < 64 by omega)
  apply wb_inj
  rw [Int64.toBitVec_xor, wb_tb, wb_tb, wb_tb]
  apply BitVec.eq_of_toNat_eq
  rw [BitVec.toNat_xor, BitVec.toNat_ofNat, BitVec.toNat_ofNat, BitVec.toNat_ofNat, Nat.mod_eq_of_lt (by omega : 2 ^ k + r < 2 ^ 64), Nat.mod_eq_of_lt b2, hx, Nat.add_sub_cancel_left, Nat.mod_eq_of_lt (by omega)]
/-! shifts of Java, by name -/
def sh_l (x y : Int32) : Int32 := x <<< (y &&& 31)
def sh_u (x y : Int32) : Int32 := (x.toUInt32 >>> (y.toUInt32 &&& Int32.toUInt32 31)).toInt32
def sh_s (x y : Int32) : Int32 := x >>> (y &&& 31)
def sh_L (x : Int64) (y : Int32) : Int64 := x <<< (y.toInt64 &&& 63)
def sh_U (x : Int64) (y : Int32) : Int64 := (x.toUInt64 >>> (y.toInt64.toUInt64 &&& Int64.toUInt64 63)).toInt64
theorem bt_su (n : Nat) (hn : n < 32) (x : Int32) (i : Nat) : bt (sh_u x (nI n)) i = bt x (n + i) := b_ushr n hn x i
theorem bt_sl (n : Nat) (hn : n < 32) (x : Int32) {i : Nat} (hi : i < 32) : bt (sh_l x (nI n)) i = (decide (n ≤ i) && bt x (i - n)) := b_shl n hn x hi
theorem bt_su1 (x : Int32) (i : Nat) : bt (sh_u x 1) i = bt x (1 + i) := b_ushr 1 (by omega) x i
theorem bt_sl1 (x : Int32) {i : Nat} (hi : i < 32) : bt (sh_l x 1) i = (decide (1 ≤ i) && bt x (i - 1)) := b_shl 1 (by omega) x hi
theorem b_1 (i : Nat) : bt 1 i = decide (i = 0) := by
  rcases Nat.lt_or_ge i 32 with h | h
  · exact (by decide +kernel : ∀ i, i < 32 → bt 1 i = decide (i = 0)) i h
  · rw [b_big h, decide_eq_false (by omega)]
/-! the register: one to the right, one back -/
def cr_r (r : Int32) : Int32 := if r &&& 1 = 0 then sh_u r 1 else sh_u r 1 ^^^ (-2097792136)
def cr_b (r : Int32) : Int32 := if r < 0 then sh_l (r ^^^ (-2097792136)) 1 ||| 1 else sh_l r 1
theorem cr_bit0 (r : Int32) : r &&& 1 = 0 ↔ bt r 0 = false := by
  constructor
  · intro h
    have h1 : bt (r &&& 1) 0 = bt 0 0 := by rw [h]
    rw [b_and, b_1, b_0] at h1
    simpa using h1
  · intro h
    refine b_ext fun i hi => ?_
    rw [b_and, b_1, b_0]
    by_cases e : i = 0
    · subst e; rw [h]; rfl
    · simp [e]
theorem cr_rbit (r : Int32) (i : Nat) : bt (cr_r r) i = (bt r (1 + i) ^^ (bt r 0 && bt (-2097792136) i)) := by
  unfold cr_r
  by_cases h : r &&& 1 = 0
  · rw [if_pos h, bt_su1, (cr_bit0 r).mp h]; simp
  · have h0 : bt r 0 = true := by
      cases hb : bt r 0
      · exact absurd ((cr_bit0 r).mpr hb) h
      · rfl
    rw [if_neg h, b_xor, bt_su1, h0]; simp
theorem cr_neg (r : Int32) : r < 0 ↔ bt r 31 = true := by
  have h : bt r 31 = r.toBitVec.msb := (BitVec.msb_eq_getLsbD_last _).symm
  rw [h, BitVec.msb_eq_toInt, decide_eq_true_iff, Int32.lt_iff_toInt_lt]
  exact Iff.rfl
theorem cr_P31 : bt (-2097792136) 31 = true := by decide +kernel
theorem cr_bbit (r : Int32) (i : Nat) (hi : i < 32) : bt (cr_b r) i = if i = 0 then bt r 31 else (bt r (i - 1) ^^ (bt r 31 && bt (-2097792136) (i - 1))) := by
  unfold cr_b
  by_cases h : r < 0
  · have h31 := (cr_neg r).mp h
    rw [if_pos h, b_or, bt_sl1 _ hi, b_1, b_xor, h31]
    by_cases e : i = 0
    · simp [e]
    · simp [e, show 1 ≤ i by omega]
  · have h31 : bt r 31 = false := by
      cases hb : bt r 31
      · rfl
      · exact absurd ((cr_neg r).mpr hb) h
    rw [if_neg h, bt_sl1 _ hi, h31]
    by_cases e : i = 0
    · simp [e]
    · simp [e, show 1 ≤ i by omega]
theorem cr_rb (r : Int32) : cr_r (cr_b r) = r := by
  refine b_ext fun i hi => ?_
  rw [cr_rbit]
  rcases Nat.lt_or_ge (1 + i) 32 with h | h
  · rw [cr_bbit _ _ h, cr_bbit _ 0 (by omega), if_neg (by omega), if_pos rfl, show 1 + i - 1 = i by omega]
    cases bt r i <;> cases bt r 31 <;> cases bt (-2097792136) i <;> rfl
  · have e : i = 31 := by omega
    subst e
    rw [b_big (show 32 ≤ 1 + 31 by omega), cr_bbit _ 0 (by omega), if_pos rfl, cr_P31]
    simp
theorem cr_br (r : Int32) : cr_b (cr_r r) = r := by
  refine b_ext fun i hi => ?_
  have h31 : bt (cr_r r) 31 = bt r 0 := by
    rw [cr_rbit, b_big (show 32 ≤ 1 + 31 by omega), cr_P31]; simp
  rw [cr_bbit _ _ hi, h31]
  by_cases e : i = 0
  · rw [if_pos e, e]
  · rw [if_neg e, cr_rbit, show 1 + (i - 1) = i by omega]
    cases bt r i <;> cases bt r 0 <;> cases bt (-2097792136) (i - 1) <;> rfl
theorem cr_rx (a b : Int32) : cr_r (a ^^^ b) = cr_r a ^^^ cr_r b := by
  refine b_ext fun i hi => ?_
  rw [b_xor, cr_rbit, cr_rbit, cr_rbit, b_xor, b_xor]
  cases bt a (1 + i) <;> cases bt b (1 + i) <;> cases bt a 0 <;> cases bt b 0 <;> cases bt (-2097792136) i <;> rfl
theorem cr_bx (a b : Int32) : cr_b (a ^^^ b) = cr_b a ^^^ cr_b b := by
  have h := cr_rx (cr_b a) (cr_b b)
  rw [cr_rb, cr_rb] at h
  rw [← h, cr_br]
/-! iterates -/
def cr_it (f : Int32 → Int32) : Nat → Int32 → Int32
  | 0, a => a
  | n + 1, a => f (cr_it f n a)
theorem cr_it_s (f : Int32 → Int32) (n : Nat) (a : Int32) : cr_it f n (f a) = f (cr_it f n a) := by
  induction n with
  | zero => rfl
  | succ n ih => show f (cr_it f n (f a)) = f (f (cr_it f n a)); rw [ih]
theorem cr_it_add (f : Int32 → Int32) (m n : Nat) (a : Int32) : cr_it f (m + n) a = cr_it f m (cr_it f n a) := by
  induction m with
  | zero => rw [Nat.zero_add]; rfl
  | succ m ih => rw [Nat.succ_add]; show f (cr_it f (m + n) a) = f (cr_it f m (cr_it f n a)); rw [ih]
theorem cr_it_inv {f g : Int32 → Int32} (h : ∀ a, f (g a) = a) (n : Nat) (a : Int32) : cr_it f n (cr_it g n a) = a := by
  induction n with
  | zero => rfl
  | succ n ih =>
    show f (cr_it f n (g (cr_it g n a))) = a
    rw [← cr_it_s f n, h, ih]
/-- linear, and one with the step to the right -/
def cr_Lin (F : Int32 → Int32) : Prop := (∀ a b, F (a ^^^ b) = F a ^^^ F b) ∧ ∀ a, F (cr_r a) = cr_r (F a)
theorem cr_Lin.zero {F : Int32 → Int32} (h : cr_Lin F) : F 0 = 0 := by
  have h1 := h.1 0 0
  rw [Int32.xor_self, Int32.xor_self] at h1
  exact h1
theorem cr_Lin_r : cr_Lin cr_r := ⟨cr_rx, fun _ => rfl⟩
theorem cr_Lin_b : cr_Lin cr_b := ⟨cr_bx, fun a => by rw [cr_br, cr_rb]⟩
theorem cr_Lin.it {F : Int32 → Int32} (h : cr_Lin F) (n : Nat) : cr_Lin (cr_it F n) := by
  constructor
  · intro a b
    induction n with
    | zero => rfl
    | succ n ih => show F _ = F _ ^^^ F _; rw [ih, h.1]
  · intro a
    induction n with
    | zero => rfl
    | succ n ih => show F _ = cr_r (F _); rw [ih, h.2]
theorem cr_Lin.rit {F : Int32 → Int32} (h : cr_Lin F) (n : Nat) (a : Int32) : F (cr_it cr_r n a) = cr_it cr_r n (F a) := by
  induction n with
  | zero => rfl
  | succ n ih => show F (cr_r _) = cr_r _; rw [h.2, ih]
/-! products -/
def cr_ms (u v : Int32) : Nat → Int32
  | 0 => 0
  | j + 1 => if bt v (31 - j) = true then cr_ms u v j ^^^ cr_it cr_r j u else cr_ms u v j
theorem cr_ms_s (u v : Int32) (j : Nat) : cr_ms u v (j + 1) = if bt v (31 - j) = true then cr_ms u v j ^^^ cr_it cr_r j u else cr_ms u v j := rfl
def cr_mul (u v : Int32) : Int32 := cr_ms u v 32
theorem cr_Lin.ms {F : Int32 → Int32} (h : cr_Lin F) (u v : Int32) (j : Nat) : F (cr_ms u v j) = cr_ms (F u) v j := by
  induction j with
  | zero => exact h.zero
  | succ j ih =>
    rw [cr_ms_s, cr_ms_s]
    by_cases hv : bt v (31 - j) = true
    · rw [if_pos hv, if_pos hv, h.1, ih, h.rit]
    · rw [if_neg hv, if_neg hv, ih]
theorem cr_Lin.mul {F : Int32 → Int32} (h : cr_Lin F) (u v : Int32) : F (cr_mul u v) = cr_mul (F u) v := h.ms u v 32
theorem cr_ms_x (a b v : Int32) (j : Nat) : cr_ms (a ^^^ b) v j = cr_ms a v j ^^^ cr_ms b v j := by
  induction j with
  | zero => exact Int32.xor_self.symm
  | succ j ih =>
    rw [cr_ms_s, cr_ms_s, cr_ms_s]
    by_cases hv : bt v (31 - j) = true
    · rw [if_pos hv, if_pos hv, if_pos hv, ih, (cr_Lin_r.it j).1]
      refine b_ext fun i _ => ?_
      simp only [b_xor]
      cases bt (cr_ms a v j) i <;> cases bt (cr_ms b v j) i <;> cases bt (cr_it cr_r j a) i <;> cases bt (cr_it cr_r j b) i <;> rfl
    · rw [if_neg hv, if_neg hv, if_neg hv, ih]
theorem cr_Lin_mul (v : Int32) : cr_Lin (fun u => cr_mul u v) := ⟨fun a b => cr_ms_x a b v 32, fun a => (cr_Lin_r.ms a v 32).symm⟩
theorem cr_it1 : ∀ j, j < 32 → ∀ i, i < 32 → bt (cr_it cr_r j (-2147483648)) i = decide (i = 31 - j) := by decide +kernel
theorem cr_ms1 (v : Int32) : ∀ j, j ≤ 32 → ∀ i, i < 32 → bt (cr_ms (-2147483648) v j) i = (decide (32 ≤ i + j) && bt v i) := by
  intro j
  induction j with
  | zero => intro _ i hi; show bt 0 i = _; rw [b_0, decide_eq_false (by omega)]; rfl
  | succ j ih =>
    intro hj i hi
    have ih := ih (by omega) i hi
    rw [cr_ms_s]
    by_cases e : i = 31 - j
    · by_cases hv : bt v (31 - j) = true
      · rw [if_pos hv, b_xor, ih, cr_it1 j (by omega) i hi, decide_eq_false (show ¬ 32 ≤ i + j by omega), decide_eq_true e, decide_eq_true (show 32 ≤ i + (j + 1) by omega), e, hv]; rfl
      · rw [if_neg hv, ih, decide_eq_false (show ¬ 32 ≤ i + j by omega), decide_eq_true (show 32 ≤ i + (j + 1) by omega), e]
        cases hb : bt v (31 - j)
        · rfl
        · exact absurd hb hv
    · have hd : decide (32 ≤ i + (j + 1)) = decide (32 ≤ i + j) := by
        apply decide_eq_decide.mpr; omega
      by_cases hv : bt v (31 - j) = true
      · rw [if_pos hv, b_xor, ih, cr_it1 j (by omega) i hi, decide_eq_false e, hd]; simp
      · rw [if_neg hv, ih, hd]
theorem cr_mul1 (v : Int32) : cr_mul (-2147483648) v = v := by
  refine b_ext fun i hi => ?_
  unfold cr_mul
  rw [cr_ms1 v 32 (by omega) i hi, decide_eq_true (show 32 ≤ i + 32 by omega)]; rfl
theorem cr_comm (u v : Int32) : cr_mul u v = cr_mul v u := by
  have h : cr_mul (cr_mul (-2147483648) u) v = cr_mul (cr_mul (-2147483648) v) u := (cr_Lin_mul v).mul (-2147483648) u
  rwa [cr_mul1, cr_mul1] at h
theorem cr_asc (u v w : Int32) : cr_mul (cr_mul u v) w = cr_mul (cr_mul u w) v := (cr_Lin_mul w).mul u v
theorem cr_assoc (u v w : Int32) : cr_mul (cr_mul u v) w = cr_mul u (cr_mul v w) := by
  rw [cr_comm u (cr_mul v w), cr_asc v w u, cr_comm v u]
theorem cr_mr (u : Int32) : cr_mul u (-2147483648) = u := by rw [cr_comm, cr_mul1]
theorem cr_Lin.by1 {F : Int32 → Int32} (h : cr_Lin F) (u : Int32) : cr_mul (F (-2147483648)) u = F u := by
  have h1 := h.mul (-2147483648) u
  rw [cr_mul1] at h1
  exact h1.symm
/-! powers -/
def cr_pw (b : Int32) : Nat → Int32
  | 0 => -2147483648
  | n + 1 => cr_mul (cr_pw b n) b
theorem cr_pw_add (b : Int32) (m n : Nat) : cr_pw b (m + n) = cr_mul (cr_pw b m) (cr_pw b n) := by
  induction n with
  | zero => exact (cr_mr _).symm
  | succ n ih => show cr_mul (cr_pw b (m + n)) b = cr_mul (cr_pw b m) (cr_mul (cr_pw b n) b); rw [ih, cr_assoc]
theorem cr_pw_1 (b : Int32) : cr_pw b 1 = b := cr_mul1 b
theorem cr_pw_Lin {F : Int32 → Int32} (h : cr_Lin F) (n : Nat) (u : Int32) : cr_mul (cr_pw (F (-2147483648)) n) u = cr_it F n u := by
  induction n with
  | zero => exact cr_mul1 u
  | succ n ih =>
    show cr_mul (cr_mul (cr_pw (F (-2147483648)) n) (F (-2147483648))) u = F (cr_it F n u)
    rw [cr_asc, cr_comm, h.by1, ih]
/-! one byte -/
def cr_w (r b : Int32) : Int32 := cr_it cr_r 8 (r ^^^ b)
theorem cr_sp (r b : Int32) : cr_r (r ^^^ b) = cr_r (r ^^^ (b &&& 1)) ^^^ sh_u b 1 := by
  refine b_ext fun i hi => ?_
  rw [b_xor, cr_rbit, cr_rbit, bt_su1, b_xor, b_xor, b_xor, b_xor, b_and, b_and, b_1, b_1, decide_eq_true (rfl : (0 : Nat) = 0), decide_eq_false (show ¬ 1 + i = 0 by omega)]
  cases bt r (1 + i) <;> cases bt b (1 + i) <;> cases bt r 0 <;> cases bt b 0 <;> cases bt (-2097792136) i <;> rfl
def cr_wb (r b : Int32) : Nat → Int32
  | 0 => r
  | k + 1 => cr_r (cr_wb r b k ^^^ (sh_s b (nI k) &&& 1))
theorem cr_sb (b : Int32) (hb : ¬ b < 0) (k : Nat) (hk : k < 32) : sh_s b (nI k) = sh_u b (nI k) := by
  have h31 : bt b 31 = false := by
    cases h : bt b 31
    · rfl
    · exact absurd ((cr_neg b).mpr h) hb
  refine b_ext fun i hi => ?_
  rw [bt_su k hk]
  show bt (b >>> (nI k &&& 31)) i = _
  rw [b_sshr k hk b hi]
  by_cases h : k + i < 32
  · rw [if_pos h]
  · rw [if_neg h, h31, b_big (by omega)]
theorem cr_uu (b : Int32) (k : Nat) (hk : k + 1 < 32) : sh_u (sh_u b (nI k)) 1 = sh_u b (nI (k + 1)) := by
  refine b_ext fun i hi => ?_
  rw [bt_su1, bt_su k (by omega), bt_su (k + 1) hk, Nat.add_assoc]
theorem cr_wb_it (r b : Int32) (hb : ¬ b < 0) : ∀ k, k < 32 → cr_it cr_r k (r ^^^ b) = cr_wb r b k ^^^ sh_u b (nI k) := by
  intro k
  induction k with
  | zero =>
    intro _
    show r ^^^ b = r ^^^ sh_u b (nI 0)
    rw [show sh_u b (nI 0) = b from b_ext fun i _ => by rw [bt_su 0 (by omega), Nat.zero_add]]
  | succ k ih =>
    intro hk
    show cr_r (cr_it cr_r k (r ^^^ b)) = cr_r (cr_wb r b k ^^^ (sh_s b (nI k) &&& 1)) ^^^ _
    rw [ih (by omega), cr_sp (cr_wb r b k) (sh_u b (nI k)), cr_sb b hb k (by omega), cr_uu b k hk]
theorem cr_hi {b : Int32} (h : ∀ i, 8 ≤ i → bt b i = false) : sh_u b (nI 8) = 0 := by
  refine b_ext fun i hi => ?_
  rw [bt_su 8 (by omega), b_0, h _ (by omega)]
theorem cr_byte (x : Int32) : ∀ i, 8 ≤ i → bt (x &&& 255) i = false := by
  intro i hi
  rw [b_and, b_255, decide_eq_false (by omega), Bool.and_false]
theorem cr_bpos (x : Int32) : ¬ (x &&& 255) < 0 := by
  rw [cr_neg, cr_byte x 31 (by omega)]; decide
/-- the reference's byte, bit by bit -/
theorem cr_wb8 (r x : Int32) : cr_wb r (x &&& 255) 8 = cr_w r (x &&& 255) := by
  have h := cr_wb_it r (x &&& 255) (cr_bpos x) 8 (by omega)
  rw [cr_hi (cr_byte x), Int32.xor_zero] at h
  exact h.symm
theorem cr_wb0 (r : Int32) : cr_wb r 0 8 = cr_it cr_r 8 r := by
  have h := cr_wb_it r 0 (by decide) 8 (by omega)
  rw [cr_hi (fun i _ => b_0 i), Int32.xor_zero, Int32.xor_zero] at h
  exact h.symm
/-- a byte by the table of eight steps -/
theorem cr_lo (y : Int32) : ∀ k, k ≤ 8 → cr_it cr_r k y = cr_it cr_r k (y &&& 255) ^^^ sh_u (y &&& (-256)) (nI k) := by
  intro k
  have hm : ∀ i, i < 32 → bt (-256) i = decide (8 ≤ i) := by decide +kernel
  induction k with
  | zero =>
    intro _
    show y = (y &&& 255) ^^^ sh_u (y &&& (-256)) (nI 0)
    refine b_ext fun i hi => ?_
    rw [b_xor, bt_su 0 (by omega), Nat.zero_add, b_and, b_and, b_255, hm i hi]
    by_cases h : i < 8
    · rw [decide_eq_true h, decide_eq_false (show ¬ 8 ≤ i by omega)]; simp
    · rw [decide_eq_false h, decide_eq_true (show 8 ≤ i by omega)]; simp
  | succ k ih =>
    intro hk
    have hz : sh_u (y &&& (-256)) (nI k) &&& 1 = 0 := by
      rw [cr_bit0, bt_su k (by omega), b_and, hm _ (by omega), decide_eq_false (by omega), Bool.and_false]
    show cr_r (cr_it cr_r k y) = cr_r (cr_it cr_r k (y &&& 255)) ^^^ _
    rw [ih (by omega), cr_sp, hz, Int32.xor_zero, cr_uu _ k (by omega)]
theorem cr_tab (r x : Int32) : sh_u r 8 ^^^ cr_it cr_r 8 ((r ^^^ (x &&& 255)) &&& 255) = cr_w r (x &&& 255) := by
  unfold cr_w
  have hm : ∀ i, i < 32 → bt (-256) i = decide (8 ≤ i) := by decide +kernel
  rw [cr_lo (r ^^^ (x &&& 255)) 8 (by omega), Int32.xor_comm]
  congr 1
  refine b_ext fun i hi => ?_
  show bt (sh_u r (nI 8)) i = _
  rw [bt_su 8 (by omega), bt_su 8 (by omega), b_and, b_xor, cr_byte x (8 + i) (by omega)]
  by_cases h : 8 + i < 32
  · rw [hm _ h, decide_eq_true (show 8 ≤ 8 + i by omega)]; simp
  · rw [b_big (x := r) (show 32 ≤ 8 + i by omega)]; simp
/-! a row of bytes -/
def cr_by (f : Nat → Int32) (k : Nat) : Int32 := f k &&& 255
def cr_rg (f : Nat → Int32) (a : Nat) (r : Int32) : Nat → Int32
  | 0 => r
  | j + 1 => cr_w (cr_rg f a r j) (cr_by f (a + j))
theorem cr_w_x (r d b : Int32) : cr_w (r ^^^ d) b = cr_w r b ^^^ cr_it cr_r 8 d := by
  unfold cr_w
  rw [Int32.xor_assoc, Int32.xor_comm d b, ← Int32.xor_assoc, (cr_Lin_r.it 8).1]
theorem cr_rg_x (f : Nat → Int32) (a : Nat) (r d : Int32) (n : Nat) : cr_rg f a (r ^^^ d) n = cr_rg f a r n ^^^ cr_it (cr_it cr_r 8) n d := by
  induction n with
  | zero => rfl
  | succ n ih =>
    show cr_w _ _ = cr_w _ _ ^^^ cr_it cr_r 8 _
    rw [ih, cr_w_x]
theorem cr_rg_s (f : Nat → Int32) (a : Nat) (r : Int32) (n : Nat) : cr_rg f a r (n + 1) = cr_rg f (a + 1) (cr_w r (cr_by f a)) n := by
  induction n with
  | zero => rfl
  | succ n ih =>
    show cr_w (cr_rg f a r (n + 1)) _ = cr_w (cr_rg f (a + 1) _ n) _
    rw [ih, show a + (n + 1) = a + 1 + n by omega]
/-- the reference's way back: j bytes from the end e -/
def cr_bk (f : Nat → Int32) (e : Nat) (r : Int32) : Nat → Int32
  | 0 => r
  | j + 1 => cr_it cr_b 8 (cr_bk f e r j) ^^^ cr_by f (e - 1 - j)
theorem cr_bk_rg (f : Nat → Int32) (e : Nat) (r : Int32) : ∀ j, j ≤ e → cr_rg f (e - j) (cr_bk f e r j) j = r := by
  intro j
  induction j with
  | zero => intro _; rfl
  | succ j ih =>
    intro hj
    rw [cr_rg_s, show e - (j + 1) + 1 = e - j by omega]
    show cr_rg f (e - j) (cr_w (cr_it cr_b 8 (cr_bk f e r j) ^^^ cr_by f (e - 1 - j)) (cr_by f (e - (j + 1)))) j = r
    rw [show e - (j + 1) = e - 1 - j by omega]
    unfold cr_w
    rw [Int32.xor_assoc, Int32.xor_self, Int32.xor_zero, cr_it_inv cr_rb]
    exact ih (by omega)
theorem cr_x3 (a b c : Int32) : a ^^^ (b ^^^ c) = b ^^^ (a ^^^ c) := by rw [← Int32.xor_assoc, Int32.xor_comm a b, Int32.xor_assoc]
/-- what is cut off by a power, and what is come back to byte by byte, are the same -/
theorem cr_cut_bk (f : Nat → Int32) (e j : Nat) (hj : j ≤ e) (sum : Int32) : cr_mul (cr_pw (cr_it cr_b 8 (-2147483648)) j) (sum ^^^ (cr_rg f (e - j) (-1) j ^^^ (-1))) ^^^ (-1) = cr_bk f e (sum ^^^ (-1)) j := by
  have h := cr_bk_rg f e (sum ^^^ (-1)) j hj
  have hL : cr_Lin (cr_it cr_b 8) := cr_Lin_b.it 8
  rw [cr_pw_Lin hL]
  generalize hz : cr_bk f e (sum ^^^ (-1)) j = z at h ⊢
  have e1 : z = (-1) ^^^ ((-1) ^^^ z) := by rw [← Int32.xor_assoc, Int32.xor_self, Int32.zero_xor]
  rw [e1, cr_rg_x] at h
  have h2 : sum ^^^ (cr_rg f (e - j) (-1) j ^^^ (-1)) = cr_it (cr_it cr_r 8) j ((-1) ^^^ z) := by
    have h3 : cr_it (cr_it cr_r 8) j ((-1) ^^^ z) = cr_rg f (e - j) (-1) j ^^^ (cr_rg f (e - j) (-1) j ^^^ cr_it (cr_it cr_r 8) j ((-1) ^^^ z)) := by rw [← Int32.xor_assoc, Int32.xor_self, Int32.zero_xor]
    rw [h3, h]; exact cr_x3 _ _ _
  rw [h2, cr_it_inv (fun a => cr_it_inv cr_br 8 a), Int32.xor_comm, ← Int32.xor_assoc, Int32.xor_self, Int32.zero_xor]
/-! words -/
def lb (x : Int64) (i : Nat) : Bool := x.toBitVec.getLsbD i
theorem lb_ext {x y : Int64} (h : ∀ i, i < 64 → lb x i = lb y i) : x = y := Int64.toBitVec_inj.mp (BitVec.eq_of_getLsbD_eq (fun i hi => h i hi))
theorem lb_or (x y : Int64) (i : Nat) : lb (x ||| y) i = (lb x i || lb y i) := by unfold lb; rw [Int64.toBitVec_or, BitVec.getLsbD_or]
theorem lb_and (x y : Int64) (i : Nat) : lb (x &&& y) i = (lb x i && lb y i) := by unfold lb; rw [Int64.toBitVec_and, BitVec.getLsbD_and]
theorem lb_0 (i : Nat) : lb 0 i = false := BitVec.getLsbD_zero
theorem lb_m : ∀ i, i < 64 → lb 4294967295 i = decide (i < 32) := by decide +kernel
theorem lb_i (x : Int32) (i : Nat) (hi : i < 64) : lb x.toInt64 i = if i < 32 then bt x i else bt x 31 := by
  unfold lb bt
  rw [Int32.toBitVec_toInt64, BitVec.getLsbD_signExtend, BitVec.msb_eq_getLsbD_last, decide_eq_true hi]
  rfl
theorem bt_l (x : Int64) (i : Nat) (hi : i < 32) : bt x.toInt32 i = lb x i := by
  unfold lb bt
  rw [Int64.toBitVec_toInt32, BitVec.getLsbD_signExtend, decide_eq_true hi, Bool.true_and, if_pos (by omega)]
theorem lb_s : ∀ n, n < 64 → (((nI n).toInt64 &&& 63).toBitVec.smod 64).toNat = n := by decide +kernel
theorem lb_sL (n : Nat) (hn : n < 64) (x : Int64) {i : Nat} (hi : i < 64) : lb (sh_L x (nI n)) i = (decide (n ≤ i) && lb x (i - n)) := by
  unfold lb sh_L
  rw [Int64.toBitVec_shiftLeft]
  show (x.toBitVec <<< (((nI n).toInt64 &&& 63).toBitVec.smod 64).toNat).getLsbD i = _
  rw [lb_s n hn, BitVec.getLsbD_shiftLeft]
  rcases Nat.lt_or_ge i n with h | h
  · simp [h, Nat.not_le.mpr h]
  · simp [hi, h, Nat.not_lt.mpr h]
theorem lb_by (x : Int32) (i : Nat) (hi : i < 64) : lb (x &&& 255).toInt64 i = (decide (i < 8) && bt x i) := by
  rw [lb_i _ _ hi]
  by_cases h : i < 32
  · rw [if_pos h, b_and, b_255, Bool.and_comm]
  · rw [if_neg h, cr_byte x 31 (by omega), decide_eq_false (by omega), Bool.false_and]
/-- a word of four bytes -/
def wo_4 (f : Nat → Int32) (p : Nat) : Int32 := (((f p &&& 255) ||| sh_l (f (p + 1) &&& 255) 8) ||| sh_l (f (p + 2) &&& 255) 16) ||| sh_l (f (p + 3) &&& 255) 24
def wo_u (f : Nat → Int32) (p : Nat) : Int64 := (wo_4 f p).toInt64 &&& 4294967295
def wo_8 (f : Nat → Int32) (p : Nat) : Int64 := wo_u f p ||| sh_L (wo_u f (p + 4)) 32
/-- the reference's number -/
def wo_n (f : Nat → Int32) (p : Nat) : Nat → Int64
  | 0 => 0
  | k + 1 => wo_n f p k ||| sh_L (f (p + k) &&& 255).toInt64 (8 * nI k)
theorem wo_n_b (f : Nat → Int32) (p : Nat) : ∀ k, k ≤ 8 → ∀ i, i < 64 → lb (wo_n f p k) i = (decide (i < 8 * k) && bt (f (p + i / 8)) (i % 8)) := by
  intro k
  induction k with
  | zero => intro _ i _; show lb 0 i = _; rw [lb_0, decide_eq_false (by omega), Bool.false_and]
  | succ k ih =>
    intro hk i hi
    have e8 : (8 : Int32) * nI k = nI (8 * k) := pk_mul 8 k
    show lb (wo_n f p k ||| sh_L (f (p + k) &&& 255).toInt64 (8 * nI k)) i = _
    rw [lb_or, ih (by omega) i hi, e8, lb_sL (8 * k) (by omega) _ hi, lb_by (f (p + k)) (i - 8 * k) (by omega)]
    by_cases h1 : i < 8 * k
    · rw [decide_eq_true h1, decide_eq_true (show i < 8 * (k + 1) by omega), decide_eq_false (show ¬ 8 * k ≤ i by omega)]; simp
    · by_cases h2 : i < 8 * (k + 1)
      · have q1 : i / 8 = k := by omega
        have q2 : i % 8 = i - 8 * k := by omega
        rw [decide_eq_false h1, decide_eq_true h2, decide_eq_true (show 8 * k ≤ i by omega), decide_eq_true (show i - 8 * k < 8 by omega), q1, q2]; simp
      · rw [decide_eq_false h1, decide_eq_false h2, decide_eq_false (show ¬ i - 8 * k < 8 by omega)]; simp
theorem wo_4_b (f : Nat → Int32) (p i : Nat) (hi : i < 32) : bt (wo_4 f p) i = bt (f (p + i / 8)) (i % 8) := by
  unfold wo_4
  rw [b_or, b_or, b_or]
  show (((bt (f p &&& 255) i || bt (sh_l (f (p + 1) &&& 255) (nI 8)) i) || bt (sh_l (f (p + 2) &&& 255) (nI 16)) i) || bt (sh_l (f (p + 3) &&& 255) (nI 24)) i) = _
  rw [bt_sl 8 (by omega) _ hi, bt_sl 16 (by omega) _ hi, bt_sl 24 (by omega) _ hi, b_and, b_and, b_and, b_and, b_255, b_255, b_255, b_255]
  rcases (show i < 8 ∨ (8 ≤ i ∧ i < 16) ∨ (16 ≤ i ∧ i < 24) ∨ (24 ≤ i ∧ i < 32) by omega) with h | h | h | h
  · rw [show i / 8 = 0 by omega, show i % 8 = i by omega, decide_eq_true h, decide_eq_false (show ¬ 8 ≤ i by omega), decide_eq_false (show ¬ 16 ≤ i by omega), decide_eq_false (show ¬ 24 ≤ i by omega)]; simp
  · rw [show i / 8 = 1 by omega, show i % 8 = i - 8 by omega, decide_eq_false (show ¬ i < 8 by omega), decide_eq_true (show 8 ≤ i by omega), decide_eq_true (show i - 8 < 8 by omega), decide_eq_false (show ¬ 16 ≤ i by omega), decide_eq_false (show ¬ 24 ≤ i by omega)]; simp
  · rw [show i / 8 = 2 by omega, show i % 8 = i - 16 by omega, decide_eq_false (show ¬ i < 8 by omega), decide_eq_false (show ¬ i - 8 < 8 by omega), decide_eq_true (show 16 ≤ i by omega), decide_eq_true (show i - 16 < 8 by omega), decide_eq_false (show ¬ 24 ≤ i by omega)]; simp
  · rw [show i / 8 = 3 by omega, show i % 8 = i - 24 by omega, decide_eq_false (show ¬ i < 8 by omega), decide_eq_false (show ¬ i - 8 < 8 by omega), decide_eq_false (show ¬ i - 16 < 8 by omega), decide_eq_true (show 24 ≤ i by omega), decide_eq_true (show i - 24 < 8 by omega)]; simp
theorem wo_u_b (f : Nat → Int32) (p i : Nat) (hi : i < 64) : lb (wo_u f p) i = (decide (i < 32) && bt (f (p + i / 8)) (i % 8)) := by
  unfold wo_u
  rw [lb_and, lb_m i hi, lb_i _ _ hi]
  by_cases h : i < 32
  · rw [if_pos h, wo_4_b f p i h, decide_eq_true h]; simp
  · rw [decide_eq_false h]; simp
theorem wo_n4 (f : Nat → Int32) (p : Nat) : wo_n f p 4 = wo_u f p := by
  refine lb_ext fun i hi => ?_
  rw [wo_n_b f p 4 (by omega) i hi, wo_u_b f p i hi]
theorem wo_n4i (f : Nat → Int32) (p : Nat) : (wo_n f p 4).toInt32 = wo_4 f p := by
  refine b_ext fun i hi => ?_
  rw [bt_l _ _ hi, wo_n_b f p 4 (by omega) i (by omega), wo_4_b f p i hi, decide_eq_true (show i < 8 * 4 by omega), Bool.true_and]
theorem wo_n8 (f : Nat → Int32) (p : Nat) : wo_n f p 8 = wo_8 f p := by
  refine lb_ext fun i hi => ?_
  unfold wo_8
  rw [wo_n_b f p 8 (by omega) i hi, lb_or, wo_u_b f p i hi]
  show _ = (_ || lb (sh_L (wo_u f (p + 4)) (nI 32)) i)
  rw [lb_sL 32 (by omega) _ hi, wo_u_b f (p + 4) (i - 32) (by omega)]
  by_cases h : i < 32
  · rw [decide_eq_true h, decide_eq_true (show i < 8 * 8 by omega), decide_eq_false (show ¬ 32 ≤ i by omega)]; simp
  · rw [decide_eq_false h, decide_eq_true (show i < 8 * 8 by omega), decide_eq_true (show 32 ≤ i by omega), decide_eq_true (show i - 32 < 32 by omega), show p + 4 + (i - 32) / 8 = p + i / 8 by omega, show (i - 32) % 8 = i % 8 by omega]; simp
/-! the narrow sum -/
def na_rt (x k : Int32) : Int32 := sh_l x k ||| sh_u x (32 - k)
def na_ln (l w : Int32) : Int32 := na_rt (l + w * (-2048144777)) 13 * (-1640531535)
def na_fo (f : Nat → Int32) (a q : Nat) (s : Int32) : Nat → Int32
  | 0 => s
  | j + 1 => na_ln (na_fo f a q s j) (wo_4 f (a + 16 * j + 4 * q))
def na_la (f : Nat → Int32) (a b : Nat) (s : Int32) : Int32 :=
  na_rt (na_fo f a 0 (s + (-1640531535) + (-2048144777)) ((b - a) / 16)) 1 + na_rt (na_fo f a 1 (s + (-2048144777)) ((b - a) / 16)) 7 + na_rt (na_fo f a 2 s ((b - a) / 16)) 12 + na_rt (na_fo f a 3 (s - (-1640531535)) ((b - a) / 16)) 18
def na_w4 (f : Nat → Int32) (p : Nat) (h : Int32) : Nat → Int32
  | 0 => h
  | j + 1 => na_rt (na_w4 f p h j + wo_4 f (p + 4 * j) * (-1028477379)) 17 * 668265263
def na_w1 (f : Nat → Int32) (p : Nat) (h : Int32) : Nat → Int32
  | 0 => h
  | j + 1 => na_rt (na_w1 f p h j + (f (p + j) &&& 255) * 374761393) 11 * (-1640531535)
def na_s1 (h : Int32) : Int32 := (h ^^^ sh_u h 15) * (-2048144777)
def na_s2 (h : Int32) : Int32 := (h ^^^ sh_u h 13) * (-1028477379)
def na_s3 (h : Int32) : Int32 := h ^^^ sh_u h 16
def na_h0 (f : Nat → Int32) (a b : Nat) (s : Int32) : Int32 := if 16 ≤ b - a then na_la f a b s else s + 374761393
/-- where the words behind the lanes begin, how many there are, where the bytes begin -/
def na_p (a b : Nat) : Nat := b - (b - a) % 16
def na_c (a b : Nat) : Nat := (b - a) % 16 / 4
def na_sum (f : Nat → Int32) (a b : Nat) (s : Int32) : Int32 :=
  na_s3 (na_s2 (na_s1 (na_w1 f (na_p a b + 4 * na_c a b) (na_w4 f (na_p a b) (na_h0 f a b s + nI (b - a)) (na_c a b)) (b - (na_p a b + 4 * na_c a b)))))
/-! the wide sum -/
def wi_rt (x : Int64) (k : Int32) : Int64 := sh_L x k ||| sh_U x (64 - k)
def wi_ln (l w : Int64) : Int64 := wi_rt (l + w * (-4417276706812531889)) 31 * (-7046029288634856825)
def wi_fo (f : Nat → Int32) (a q : Nat) (s : Int64) : Nat → Int64
  | 0 => s
  | j + 1 => wi_ln (wi_fo f a q s j) (wo_8 f (a + 32 * j + 8 * q))
def wi_wl (h l : Int64) : Int64 := (h ^^^ wi_ln 0 l) * (-7046029288634856825) + (-8796714831421723037)
def wi_l4 (a b c d : Int64) : Int64 := wi_wl (wi_wl (wi_wl (wi_wl (wi_rt a 1 + wi_rt b 7 + wi_rt c 12 + wi_rt d 18) a) b) c) d
def wi_la (f : Nat → Int32) (a b : Nat) (s : Int64) : Int64 :=
  wi_l4 (wi_fo f a 0 (s + (-7046029288634856825) + (-4417276706812531889)) ((b - a) / 32)) (wi_fo f a 1 (s + (-4417276706812531889)) ((b - a) / 32)) (wi_fo f a 2 s ((b - a) / 32)) (wi_fo f a 3 (s - (-7046029288634856825)) ((b - a) / 32))
def wi_w8 (f : Nat → Int32) (p : Nat) (h : Int64) : Nat → Int64
  | 0 => h
  | j + 1 => wi_rt (wi_w8 f p h j ^^^ wi_ln 0 (wo_8 f (p + 8 * j))) 27 * (-7046029288634856825) + (-8796714831421723037)
def wi_w4 (f : Nat → Int32) (p : Nat) (h : Int64) : Int64 := wi_rt (h ^^^ wo_u f p * (-7046029288634856825)) 23 * (-4417276706812531889) + 1609587929392839161
def wi_w1 (f : Nat → Int32) (p : Nat) (h : Int64) : Nat → Int64
  | 0 => h
  | j + 1 => wi_rt (wi_w1 f p h j ^^^ (f (p + j) &&& 255).toInt64 * 2870177450012600261) 11 * (-7046029288634856825)
def wi_s1 (h : Int64) : Int64 := (h ^^^ sh_U h 33) * (-4417276706812531889)
def wi_s2 (h : Int64) : Int64 := (h ^^^ sh_U h 29) * 1609587929392839161
def wi_s3 (h : Int64) : Int64 := h ^^^ sh_U h 32
def wi_h0 (f : Nat → Int32) (a b : Nat) (s : Int64) : Int64 := if 32 ≤ b - a then wi_la f a b s else s + 2870177450012600261
def wi_p (a b : Nat) : Nat := b - (b - a) % 32
def wi_c (a b : Nat) : Nat := (b - a) % 32 / 8
def wi_d (a b : Nat) : Nat := (b - a) % 8 / 4
def wi_o (f : Nat → Int32) (p : Nat) (h : Int64) (d : Nat) : Int64 := if d = 0 then h else wi_w4 f p h
def wi_sum (f : Nat → Int32) (a b : Nat) (s : Int64) : Int64 :=
  wi_s3 (wi_s2 (wi_s1 (wi_w1 f (wi_p a b + 8 * wi_c a b + 4 * wi_d a b) (wi_o f (wi_p a b + 8 * wi_c a b) (wi_w8 f (wi_p a b) (wi_h0 f a b s + lN (b - a)) (wi_c a b)) (wi_d a b)) (b - (wi_p a b + 8 * wi_c a b + 4 * wi_d a b)))))
theorem wi_ln0 (w : Int64) : wi_ln 0 w = wi_rt (w * (-4417276706812531889)) 31 * (-7046029288634856825) := by unfold wi_ln; rw [Int64.zero_add]
/-! the four bytes turned round -/
def tu_x (w : Int32) : Int32 := ((sh_l w 24 ||| sh_l (w &&& 65280) 8) ||| (sh_u w 8 &&& 65280)) ||| sh_u w 24
def tu_m (w : Int32) : Int32 := ((sh_l w 24 ||| sh_l (sh_s w 8 &&& 255) 16) ||| sh_l (sh_s w 16 &&& 255) 8) ||| sh_u w 24
theorem b_65280 : ∀ i, i < 32 → bt 65280 i = (decide (8 ≤ i) && decide (i < 16)) := by decide +kernel
theorem tu_eq (w : Int32) : tu_x w = tu_m w := by
  unfold tu_x tu_m
  congr 1
  refine b_ext fun i hi => ?_
  rw [b_or, b_or, b_or, b_or]
  show ((bt (sh_l w (nI 24)) i || bt (sh_l (w &&& 65280) (nI 8)) i) || bt (sh_u w (nI 8) &&& 65280) i) = ((bt (sh_l w (nI 24)) i || bt (sh_l ((w >>> (nI 8 &&& 31)) &&& 255) (nI 16)) i) || bt (sh_l ((w >>> (nI 16 &&& 31)) &&& 255) (nI 8)) i)
  rw [bt_sl 24 (by omega) _ hi, bt_sl 8 (by omega) _ hi, bt_sl 16 (by omega) _ hi, bt_sl 8 (by omega) _ hi, b_and, b_and, b_and, b_and, b_255, b_255, bt_su 8 (by omega), b_65280 i hi, b_65280 (i - 8) (by omega), b_sshr 8 (by omega) w (i := i - 16) (by omega), b_sshr 16 (by omega) w (i := i - 8) (by omega)]
  rcases (show i < 8 ∨ (8 ≤ i ∧ i < 16) ∨ (16 ≤ i ∧ i < 24) ∨ (24 ≤ i ∧ i < 32) by omega) with h | h | h | h
  · simp [show ¬ 8 ≤ i by omega, show ¬ 16 ≤ i by omega, show ¬ 24 ≤ i by omega]
  · rw [if_pos (show 16 + (i - 8) < 32 by omega), show 16 + (i - 8) = 8 + i by omega]
    simp [show 8 ≤ i by omega, show i < 16 by omega, show ¬ 16 ≤ i by omega, show ¬ 24 ≤ i by omega, show ¬ 8 ≤ i - 8 by omega, show i - 8 < 8 by omega]
  · rw [if_pos (show 8 + (i - 16) < 32 by omega), show 8 + (i - 16) = i - 8 by omega]
    simp [show 8 ≤ i by omega, show ¬ i < 16 by omega, show 16 ≤ i by omega, show ¬ 24 ≤ i by omega, show 8 ≤ i - 8 by omega, show i - 8 < 16 by omega, show ¬ i - 8 < 8 by omega, show i - 16 < 8 by omega]
  · simp [show 8 ≤ i by omega, show ¬ i < 16 by omega, show 16 ≤ i by omega, show 24 ≤ i by omega, show ¬ i - 8 < 16 by omega, show ¬ i - 8 < 8 by omega, show ¬ i - 16 < 8 by omega]
end
section
/-! the walk's own small rows -/
theorem q_lv {ls : Array Slot} {nL : Nat} {l l' : List (Nat × Value)} (h : lv_has ls nL l) (e : l = l') : lv_has ls nL l' := e ▸ h
section QQ
variable {p : Program} {l : Launch} {e : Env} {R : Room} {s : State} {m : MethodId} {args : Array Value} {below : List Frame} {meth : Method} {c : Code} {H : Heap} {locs : List Loc} {cells slots : Nat} {Q : State → Prop}
variable {cc bytes : ByteArray} {pc nL maxL index n : Nat} {ls : Array Slot} {rest st As : List Value} {Ts ws : List Cond} {own C : String} {y : MethodName} {ret : Option FieldType} {rm : Room} {Pc : Array Value → State → Prop} {r : Value} {b : Addr}
theorem q_ti {x : Int32} (y : Int32) (h : x = y) (k : W p l e R s m args below meth c H locs cells slots Q (F0 m pc ls (.int y :: rest))) : W p l e R s m args below meth c H locs cells slots Q (F0 m pc ls (.int x :: rest)) := by subst h; exact k
theorem q_tl {x : Int64} (y : Int64) (h : x = y) (k : W p l e R s m args below meth c H locs cells slots Q (F0 m pc ls (.long y :: rest))) : W p l e R s m args below meth c H locs cells slots Q (F0 m pc ls (.long x :: rest)) := by subst h; exact k
theorem q_S (S : CallFix p m c cc nL s args Ts own) (hM : Met l y ws rm (va_Pc As (fun _ => True)) (k2_QcV r) 0 0 (fun _ => False)) (cw : CallB R s args own index y bytes maxL ret ws rm 0 0 n ∧ (Cond.static y).before args s = true) (hn : As.length = n) (hsize : ls.size = nL) (hst : st = As.reverse ++ rest) (hW : (rest.map fun v => v.category).sum ≤ 8) (hdg : decode cc pc = .ok (.invokestatic index, 3)) (hf : cells ≤ R.cells ∧ slots ≤ R.slots) (kk : W p l e R s m args below meth c H locs cells slots Q (F0 m (pc + 3) ls (r :: rest))) : W p l e R s m args below meth c H locs cells slots Q (F0 m pc ls st) :=
  W.callV (W.runS (As := As) (rest := rest) (g := F0 m pc ls st) S hM cw ⟨fun _ _ _ _ q => q, fun _ _ _ => ⟨rfl, trivial⟩⟩ rfl hn hsize hst (lv_room hW) hdg hf) kk
theorem q_V (S : CallFix p m c cc nL s args Ts own) (hM : Met l y ws rm Pc (k2_QcV r) 0 0 (fun _ => False)) (cw : CallW R s args own C index y bytes maxL ret ws rm 0 0 n) (hp : PreV s H C b Pc As) (hn : As.length = n) (hsize : ls.size = nL) (hst : st = As.reverse ++ .ref b :: rest) (hW : (rest.map fun v => v.category).sum ≤ 8) (hdg : decode cc pc = .ok (.invokevirtual index, 3)) (hf : cells ≤ R.cells ∧ slots ≤ R.slots) (kk : W p l e R s m args below meth c H locs cells slots Q (F0 m (pc + 3) ls (r :: rest))) : W p l e R s m args below meth c H locs cells slots Q (F0 m pc ls st) :=
  W.callV (W.runV (As := As) (rest := rest) (g := F0 m pc ls st) S hM cw hp rfl hn hsize hst (lv_room hW) hdg hf) kk
variable {D : va_G} {cl : List vw_C} {tys : List (ClassId × FieldType)} {wd : va_W} {a : Nat}
theorem q_bald (hexec : p.tables.exec = Jvm.exec) (hb : c.code = cc) (hK : va_K D cl tys s) (hP : va_P D cl wd H) (q0 t0 : Nat) {cA : ClassId} {nn : Nat} {f : Nat → Int32} (ha : wd[q0]? = some (a, .inl (cA, nn, .inl f))) (ht : tys[t0]? = some (cA, .byte)) {i : Int32} {j : Nat} (hi : i = nI j) (hj : j < nn) (hn : nn < 2 ^ 31) (hdg : decode cc pc = .ok (.baload, 1))
    (kk : W p l e R s m args below meth c H locs cells slots Q (F0 m (pc + 1) ls (.int (f j) :: rest))) : W p l e R s m args below meth c H locs cells slots Q (F0 m pc ls (.int i :: .ref a :: rest)) := by
  subst hi
  refine va_bald hexec hb hK hP q0 t0 ha ht (vp_in_nI hj hn) hdg ?_
  rw [nI_clamp (by omega)]
  exact kk
theorem q_iald (hexec : p.tables.exec = Jvm.exec) (hb : c.code = cc) (hK : va_K D cl tys s) (hP : va_P D cl wd H) (q0 t0 : Nat) {cA : ClassId} {nn : Nat} {f : Nat → Int32} (ha : wd[q0]? = some (a, .inl (cA, nn, .inl f))) (ht : tys[t0]? = some (cA, .int)) {i : Int32} {j : Nat} (hi : i = nI j) (hj : j < nn) (hn : nn < 2 ^ 31) (hdg : decode cc pc = .ok (.iaload, 1))
    (kk : W p l e R s m args below meth c H locs cells slots Q (F0 m (pc + 1) ls (.int (f j) :: rest))) : W p l e R s m args below meth c H locs cells slots Q (F0 m pc ls (.int i :: .ref a :: rest)) := by
  subst hi
  refine va_iald hexec hb hK hP q0 t0 ha ht (vp_in_nI hj hn) hdg ?_
  rw [nI_clamp (by omega)]
  exact kk
end QQ
/-! the worlds: an object with its two rows, one of the reference with its row -/
abbrev xC (h0 a0 a1 : Nat) (cB cI : ClassId) (n : Nat) (ns : Int32) (wd : Int64) (f g : Nat → Int32) : va_W := [(h0, .inr (0, [.ref a0, .ref a1, .int (nI n), .int ns, .long wd])), (a0, .inl (cB, 65536, .inl f)), (a1, .inl (cI, 256, .inl g))]
abbrev xT (cB cI : ClassId) : List (ClassId × FieldType) := [(cB, .byte), (cI, .int)]
abbrev mC (h0 a0 : Nat) (cB : ClassId) (n : Nat) (ns : Int32) (wd : Int64) (f : Nat → Int32) : va_W := [(h0, .inr (1, [.ref a0, .int (nI n), .int ns, .long wd])), (a0, .inl (cB, 65536, .inl f))]
abbrev mT (cB : ClassId) : List (ClassId × FieldType) := [(cB, .byte)]
def xW (dC : Nat → ClassId) (dI : Nat → Nat → Nat) (h0 a0 a1 : Nat) (cB cI : ClassId) (n : Nat) (ns : Int32) (wd : Int64) (f g : Nat → Int32) : State → Prop := fun U => va_P (dC, dI) vwCl (xC h0 a0 a1 cB cI n ns wd f g) U.heap ∧ va_K (dC, dI) vwCl (xT cB cI) U
def mW (dC : Nat → ClassId) (dI : Nat → Nat → Nat) (h0 a0 : Nat) (cB : ClassId) (n : Nat) (ns : Int32) (wd : Int64) (f : Nat → Int32) : State → Prop := fun U => va_P (dC, dI) vwCl (mC h0 a0 cB n ns wd f) U.heap ∧ va_K (dC, dI) vwCl (mT cB) U
theorem xw_pre {dC : Nat → ClassId} {dI : Nat → Nat → Nat} {h0 a0 a1 : Nat} {cB cI : ClassId} {n : Nat} {ns : Int32} {wd : Int64} {f g : Nat → Int32} {s : State} {H : Heap} (hP : va_P (dC, dI) vwCl (xC h0 a0 a1 cB cI n ns wd f g) H) (hK : va_K (dC, dI) vwCl (xT cB cI) s) (As : List Value) : PreV s H RX0 h0 (va_Pc (.ref h0 :: As) (xW dC dI h0 a0 a1 cB cI n ns wd f g)) As :=
  ⟨fun a U g mk q => ⟨q.1, q.2.1, va_K.moved (u := U) (U := U.calling g mk a) (Vm.Alike.refl U.vm) q.2.2⟩, va_recv hK hP (ci := 0) (q0 := 0) rfl rfl, fun U hU hW => ⟨rfl, by rw [hU]; exact hP, va_K.moved hW.alike hK⟩⟩
theorem mw_pre {dC : Nat → ClassId} {dI : Nat → Nat → Nat} {h0 a0 : Nat} {cB : ClassId} {n : Nat} {ns : Int32} {wd : Int64} {f : Nat → Int32} {s : State} {H : Heap} (hP : va_P (dC, dI) vwCl (mC h0 a0 cB n ns wd f) H) (hK : va_K (dC, dI) vwCl (mT cB) s) (As : List Value) : PreV s H RX1 h0 (va_Pc (.ref h0 :: As) (mW dC dI h0 a0 cB n ns wd f)) As :=
  ⟨fun a U g mk q => ⟨q.1, q.2.1, va_K.moved (u := U) (U := U.calling g mk a) (Vm.Alike.refl U.vm) q.2.2⟩, va_recv hK hP (ci := 1) (q0 := 0) rfl rfl, fun U hU hW => ⟨rfl, by rw [hU]; exact hP, va_K.moved hW.alike hK⟩⟩
/-! one place, a part, where four bytes are -/
def by_at (n : Nat) (f : Nat → Int32) (k : Int32) : Int32 := if k < 0 then -1 else if nI n ≤ k then -1 else f k.toNatClampNeg &&& 255
theorem by_in {n : Nat} {f : Nat → Int32} {j : Nat} (hj : j < n) (hn : n < 2 ^ 31) : by_at n f (nI j) = f j &&& 255 := by
  unfold by_at
  rw [if_neg (nI_pos (by omega)), if_neg (nI_ge hj hn), nI_clamp (by omega)]
def pt_n (n : Nat) (x y : Int32) : Int32 := if x < 0 then 0 else if y < x then 0 else if nI n < y then 0 else 1
theorem pt_some {n : Nat} {x y : Int32} (hn : n ≤ 65536) (h : ¬ pt_n n x y = 0) : ∃ a b : Nat, x = nI a ∧ y = nI b ∧ a ≤ b ∧ b ≤ n := by
  unfold pt_n at h
  by_cases h1 : x < 0
  · rw [if_pos h1] at h; exact absurd rfl h
  · rw [if_neg h1] at h
    by_cases h2 : y < x
    · rw [if_pos h2] at h; exact absurd rfl h
    · rw [if_neg h2] at h
      by_cases h3 : nI n < y
      · rw [if_pos h3] at h; exact absurd rfl h
      · obtain ⟨a, ha, rfl⟩ := nI_of h1
        have h4 : ¬ y < 0 := fun q => h2 (by
          rw [Int32.lt_iff_toInt_lt] at q ⊢
          rw [nI_toInt ha]
          have : (0 : Int32).toInt = 0 := rfl
          omega)
        obtain ⟨b, hb, rfl⟩ := nI_of h4
        rw [nI_ltI hb ha] at h2
        rw [nI_ltI (by omega) hb] at h3
        exact ⟨a, b, rfl, rfl, by omega, by omega⟩
theorem me_some {n : Nat} {x : Int32} (hn : n ≤ 65536) (h0 : ¬ x < 0) (h : x ≤ nI n - 4) : ∃ k : Nat, x = nI k ∧ k + 4 ≤ n := by
  obtain ⟨k, hk, rfl⟩ := nI_of h0
  refine ⟨k, rfl, ?_⟩
  rw [Int32.le_iff_toInt_le, nI_toInt hk, show nI n - 4 = nI n - nI 4 from rfl, pk_sub_toInt (by omega) (by omega)] at h
  omega
/-! the answers of the public methods, one for both sides -/
def an_na (n : Nat) (f : Nat → Int32) (x y s : Int32) : Int32 := if pt_n n x y = 0 then na_sum f 0 0 s else na_sum f x.toNatClampNeg y.toNatClampNeg s
def an_wi (n : Nat) (f : Nat → Int32) (x y : Int32) (s : Int64) : Int64 := if pt_n n x y = 0 then wi_sum f 0 0 s else wi_sum f x.toNatClampNeg y.toNatClampNeg s
def an_po (n : Nat) (f : Nat → Int32) (x y : Int32) : Int32 := if pt_n n x y = 0 then 0 else cr_rg f x.toNatClampNeg (-1) (y.toNatClampNeg - x.toNatClampNeg) ^^^ (-1)
def an_ma (x b : Int32) : Int32 := if b = 0 then na_rt x 17 + (-1568478504) else na_rt (x - (-1568478504)) 15
def an_jo (a b : Int32) (n : Int64) : Int32 := cr_mul (cr_pw (cr_it cr_r 8 (-2147483648)) n.toBitVec.toNat) a ^^^ b
def an_cu (a b : Int32) (n : Int64) : Int32 := cr_mul (cr_pw (cr_it cr_b 8 (-2147483648)) n.toBitVec.toNat) (a ^^^ b)
def an_fo (n : Nat) (f : Nat → Int32) (sum : Int32) : Int32 := tu_m (cr_rg f 0 (-1) n ^^^ cr_it cr_b 32 (sum ^^^ (-1)))
def an_me (n : Nat) (f : Nat → Int32) (x sum : Int32) : Int32 := if x < 0 then 0 else if x ≤ nI n - 4 then tu_m (cr_rg f 0 (-1) x.toNatClampNeg ^^^ cr_it cr_b 32 (cr_bk f n (sum ^^^ (-1)) (n - (x.toNatClampNeg + 4)))) else 0
theorem cr_bitu (v : Int32) (k : Nat) (hk : k < 32) : sh_u v (nI k) &&& 1 = 0 ↔ bt v k = false := by
  rw [cr_bit0, bt_su k hk]; exact Iff.rfl
/-- a bit of a long, as the power loops read it -/
theorem lo_bit (x : Int64) (k : Nat) (hk : k < 64) : lg_cmp (sh_U x (nI k) &&& 1) 0 = 0 ↔ x.toBitVec.toNat / 2 ^ k % 2 = 0 := by
  rw [lg_cmp_eq]
  obtain ⟨N, hN, rfl⟩ := wb_of x
  rw [wb_tn hN]
  unfold sh_U
  rw [wb_bit hN hk]
  constructor
  · intro h
    have h1 : (lN (N / 2 ^ k % 2)).toBitVec.toNat = (0 : Int64).toBitVec.toNat := by rw [h]
    rw [wb_tn (by omega)] at h1
    exact h1
  · intro h
    rw [h]; rfl
theorem cr_r_t {r : Int32} (h : r &&& 1 = 0) : sh_u r 1 = cr_r r := by unfold cr_r; rw [if_pos h]
theorem cr_r_f {r : Int32} (h : ¬ r &&& 1 = 0) : sh_u r 1 ^^^ (-2097792136) = cr_r r := by unfold cr_r; rw [if_neg h]
theorem cr_b_t {r : Int32} (h : ¬ 0 ≤ r) : sh_l (r ^^^ (-2097792136)) 1 ||| 1 = cr_b r := by unfold cr_b; rw [if_pos (Int32.not_le.mp h)]
theorem cr_b_f {r : Int32} (h : 0 ≤ r) : sh_l r 1 = cr_b r := by unfold cr_b; rw [if_neg (Int32.not_lt.mpr h)]
theorem cr_ms_bit {u v : Int32} {j d : Nat} (hj : j + (d + 1) = 32) (h : ¬ sh_u v (nI d) &&& 1 = 0) : cr_ms u v j ^^^ cr_it cr_r j u = cr_ms u v (j + 1) := by
  have h1 : bt v (31 - j) = true := by
    rw [show 31 - j = d by omega]
    cases hb : bt v d
    · exact absurd ((cr_bitu v d (by omega)).mpr hb) h
    · rfl
  show _ = if bt v (31 - j) = true then _ else _
  rw [if_pos h1]
theorem cr_ms_nobit {u v : Int32} {j d : Nat} (hj : j + (d + 1) = 32) (h : sh_u v (nI d) &&& 1 = 0) : cr_ms u v j = cr_ms u v (j + 1) := by
  have h1 : ¬ bt v (31 - j) = true := by
    rw [show 31 - j = d by omega, (cr_bitu v d (by omega)).mp h]; decide
  show _ = if bt v (31 - j) = true then _ else _
  rw [if_neg h1]
theorem pw_sq (b : Int32) (j : Nat) : cr_mul (cr_pw b (2 ^ j)) (cr_pw b (2 ^ j)) = cr_pw b (2 ^ (j + 1)) := by
  rw [← cr_pw_add, show 2 ^ j + 2 ^ j = 2 ^ (j + 1) by rw [Nat.pow_succ]; omega]
theorem pw_bit {b : Int32} {ex : Int64} {j : Nat} (hj : j < 64) (h : ¬ lg_cmp (sh_U ex (nI j) &&& 1) 0 = 0) : cr_mul (cr_pw b (2 ^ j)) (cr_pw b (ex.toBitVec.toNat % 2 ^ j)) = cr_pw b (ex.toBitVec.toNat % 2 ^ (j + 1)) := by
  rw [lo_bit ex j hj] at h
  rw [← cr_pw_add, Nat.mod_pow_succ, show ex.toBitVec.toNat / 2 ^ j % 2 = 1 by omega, Nat.mul_one, Nat.add_comm]
theorem pw_nobit {b : Int32} {ex : Int64} {j : Nat} (hj : j < 64) (h : lg_cmp (sh_U ex (nI j) &&& 1) 0 = 0) : cr_pw b (ex.toBitVec.toNat % 2 ^ j) = cr_pw b (ex.toBitVec.toNat % 2 ^ (j + 1)) := by
  rw [lo_bit ex j hj] at h
  rw [Nat.mod_pow_succ, h, Nat.mul_zero, Nat.add_zero]
theorem pw_dbl (b : Int32) (k : Nat) : cr_mul (cr_pw b k) (cr_pw b k) = cr_pw b (2 * k) := by
  rw [← cr_pw_add, show k + k = 2 * k by omega]
theorem pw_half (N d : Nat) : N / 2 ^ (d + 1) = N / 2 ^ d / 2 := by rw [Nat.pow_succ, Nat.div_div_eq_div_mul]
theorem pw_dbit {b : Int32} {ex : Int64} {d : Nat} (hd : d < 64) (h : ¬ lg_cmp (sh_U ex (nI d) &&& 1) 0 = 0) : cr_mul (cr_pw b (2 * (ex.toBitVec.toNat / 2 ^ (d + 1)))) b = cr_pw b (ex.toBitVec.toNat / 2 ^ d) := by
  rw [lo_bit ex d hd] at h
  show cr_pw b (2 * (ex.toBitVec.toNat / 2 ^ (d + 1)) + 1) = _
  rw [pw_half, show 2 * (ex.toBitVec.toNat / 2 ^ d / 2) + 1 = ex.toBitVec.toNat / 2 ^ d by omega]
theorem pw_dnobit {b : Int32} {ex : Int64} {d : Nat} (hd : d < 64) (h : lg_cmp (sh_U ex (nI d) &&& 1) 0 = 0) : cr_pw b (2 * (ex.toBitVec.toNat / 2 ^ (d + 1))) = cr_pw b (ex.toBitVec.toNat / 2 ^ d) := by
  rw [lo_bit ex d hd] at h
  rw [pw_half, show 2 * (ex.toBitVec.toNat / 2 ^ d / 2) = ex.toBitVec.toNat / 2 ^ d by omega]
theorem xx_1 (a : Int32) : (a ^^^ (-1)) ^^^ (-1) = a := by rw [Int32.xor_assoc, Int32.xor_self, Int32.xor_zero]
theorem na_pc {a b : Nat} (hab : a ≤ b) : na_p a b + 4 * na_c a b ≤ b ∧ b < na_p a b + 4 * na_c a b + 4 ∧ a ≤ na_p a b ∧ na_c a b ≤ 3 := by
  unfold na_p na_c
  omega
theorem wi_pc {a b : Nat} (hab : a ≤ b) : wi_p a b + 8 * wi_c a b ≤ b ∧ b < wi_p a b + 8 * wi_c a b + 8 ∧ a ≤ wi_p a b ∧ wi_c a b ≤ 3 ∧ wi_p a b + 8 * wi_c a b + 4 * wi_d a b ≤ b ∧ b < wi_p a b + 8 * wi_c a b + 4 * wi_d a b + 4 := by
  unfold wi_p wi_c wi_d
  omega
theorem me_x {n k : Nat} {f : Nat → Int32} {sum : Int32} (hk : k + 4 ≤ n) (hn : n ≤ 65536) : tu_x (((cr_rg f 0 (-1) (k - 0) ^^^ (-1)) ^^^ (-1)) ^^^ cr_it cr_b 32 (an_cu sum (cr_rg f (k + 4) (-1) (n - (k + 4)) ^^^ (-1)) (lN (n - (k + 4))) ^^^ (-1))) = tu_m (cr_rg f 0 (-1) k ^^^ cr_it cr_b 32 (cr_bk f n (sum ^^^ (-1)) (n - (k + 4)))) := by
  have h := cr_cut_bk f n (n - (k + 4)) (by omega) sum
  rw [show n - (n - (k + 4)) = k + 4 by omega] at h
  unfold an_cu
  rw [tu_eq, xx_1, wb_tn (by omega), h]
  rfl
end
section
set_option maxHeartbeats 4000000 in
set_option maxRecDepth 100000 in
theorem c_X_rotated (l : Launch) (x : Int32) (k : Int32) : Met l yX0_rotated wsX0_rotated ({ frames := 0, cells := 0, slots := 0, locals := 0 } : Room) (va_Pc [.int x, .int k] (fun _ => True)) (k2_QcV (.int (na_rt x k))) 0 0 (fun _ => False) := by
  refine Met.ofW (cc := cX0_rotated) (maxL := 2) (ret := some .int) (by decide) rfl ?_
  intro p e s m args below meth c s₁ B hml hv
  obtain ⟨rfl, hv⟩ := hv
  have hx := B.exec
  have hb := B.bytes
  have hr := B.returns
  have hts := atoms_spec (ws := wsX0_rotated) B.pre
  have hown : s.vm.findClass RX0 = some m.cls := findClass_of_methodNamed B.named
  have hlocks := B.notSynchronized
  have hl := lv_entry ([.int x, .int k]) (n := 2) (Nat.le_of_ble_eq_true rfl)
  rw [lg_entry_eq]
  generalize (lg_sl ([.int x, .int k]) ++ List.replicate (2 - (lg_sl ([.int x, .int k])).length) Slot.unset).toArray = ls at hl ⊢
  have hl : lv_has ls 2 [(0, .int (x)), (1, .int (k))] := hl
  refine lv_iload_n hx hb dX0_rotated_0 rfl (lv_at hl 0 rfl) ?_
  refine lv_iload_n hx hb dX0_rotated_1 rfl (lv_at hl 1 rfl) ?_
  refine lv_ishl hx hb dX0_rotated_2 ?_
  refine q_ti (y := sh_l (x) (k)) rfl ?_
  refine lv_iload_n hx hb dX0_rotated_3 rfl (lv_at hl 0 rfl) ?_
  refine lv_bipush (v := 32) hx hb dX0_rotated_4 (by decide) ?_
  refine lv_iload_n hx hb dX0_rotated_6 rfl (lv_at hl 1 rfl) ?_
  refine lv_isub hx hb dX0_rotated_7 ?_
  refine lv_iushr (v := sh_u (x) ((32 - k))) hx hb dX0_rotated_8 rfl ?_
  refine lv_ior hx hb dX0_rotated_9 ?_
  exact W.iret (v := ((sh_l (x) (k)) ||| (sh_u (x) ((32 - k))))) hx hb hr (fun t ht _ => ⟨congrArg (fun z => Outcome.returned (some (Value.int z))) (rfl), ht⟩) (fun _ h => by cases h) dX0_rotated_10
set_option maxHeartbeats 4000000 in
set_option maxRecDepth 100000 in
theorem c_X_rotatedLong (l : Launch) (x : Int64) (k : Int32) : Met l yX0_rotatedLong wsX0_rotatedLong ({ frames := 0, cells := 0, slots := 0, locals := 0 } : Room) (va_Pc [.long x, .int k] (fun _ => True)) (k2_QcV (.long (wi_rt x k))) 0 0 (fun _ => False) := by
  refine Met.ofW (cc := cX0_rotatedLong) (maxL := 3) (ret := some .long) (by decide) rfl ?_
  intro p e s m args below meth c s₁ B hml hv
  obtain ⟨rfl, hv⟩ := hv
  have hx := B.exec
  have hb := B.bytes
  have hr := B.returns
  have hts := atoms_spec (ws := wsX0_rotatedLong) B.pre
  have hown : s.vm.findClass RX0 = some m.cls := findClass_of_methodNamed B.named
  have hlocks := B.notSynchronized
  have hl := lv_entry ([.long x, .int k]) (n := 3) (Nat.le_of_ble_eq_true rfl)
  rw [lg_entry_eq]
  generalize (lg_sl ([.long x, .int k]) ++ List.replicate (3 - (lg_sl ([.long x, .int k])).length) Slot.unset).toArray = ls at hl ⊢
  have hl : lv_has ls 3 [(0, .long (x)), (2, .int (k))] := hl
  refine lv_lload_n hx hb dX0_rotatedLong_0 rfl (lv_at hl 0 rfl) ?_
  refine lv_iload_n hx hb dX0_rotatedLong_1 rfl (lv_at hl 1 rfl) ?_
  refine lv_lshl (v := sh_L (x) (k)) hx hb dX0_rotatedLong_2 rfl ?_
  refine lv_lload_n hx hb dX0_rotatedLong_3 rfl (lv_at hl 0 rfl) ?_
  refine lv_bipush (v := 64) hx hb dX0_rotatedLong_4 (by decide) ?_
  refine lv_iload_n hx hb dX0_rotatedLong_6 rfl (lv_at hl 1 rfl) ?_
  refine lv_isub hx hb dX0_rotatedLong_7 ?_
  refine lv_lushr (v := sh_U (x) ((64 - k))) hx hb dX0_rotatedLong_8 rfl ?_
  refine lv_lor hx hb dX0_rotatedLong_9 ?_
  exact W.lret (v := ((sh_L (x) (k)) ||| (sh_U (x) ((64 - k))))) hx hb hr (fun t ht _ => ⟨congrArg (fun z => Outcome.returned (some (Value.long z))) (rfl), ht⟩) (fun _ h => by cases h) dX0_rotatedLong_10
set_option maxHeartbeats 4000000 in
set_option maxRecDepth 100000 in
theorem c_X_narrowLane (l : Launch) (x : Int32) (w : Int32) : Met l yX0_narrowLane wsX0_narrowLane ({ frames := 1, cells := 0, slots := 0, locals := 21 } : Room) (va_Pc [.int x, .int w] (fun _ => True)) (k2_QcV (.int (na_ln x w))) 0 0 (fun _ => False) := by
  refine Met.ofW (cc := cX0_narrowLane) (maxL := 2) (ret := some .int) (by decide) rfl ?_
  intro p e s m args below meth c s₁ B hml hv
  obtain ⟨rfl, hv⟩ := hv
  have hx := B.exec
  have hb := B.bytes
  have hr := B.returns
  have hts := atoms_spec (ws := wsX0_narrowLane) B.pre
  have hown : s.vm.findClass RX0 = some m.cls := findClass_of_methodNamed B.named
  have hlocks := B.notSynchronized
  have hl := lv_entry ([.int x, .int w]) (n := 2) (Nat.le_of_ble_eq_true rfl)
  rw [lg_entry_eq]
  generalize (lg_sl ([.int x, .int w]) ++ List.replicate (2 - (lg_sl ([.int x, .int w])).length) Slot.unset).toArray = ls at hl ⊢
  have hl : lv_has ls 2 [(0, .int (x)), (1, .int (w))] := hl
  refine lv_iload_n hx hb dX0_narrowLane_0 rfl (lv_at hl 0 rfl) ?_
  refine lv_iload_n hx hb dX0_narrowLane_1 rfl (lv_at hl 1 rfl) ?_
  refine lv_ldc (v := -2048144777) hx hb hown (hts (.constant RX0 102 (-2048144777)) (by decide +kernel)) dX0_narrowLane_2 ?_
  refine lv_imul hx hb dX0_narrowLane_4 ?_
  refine lv_iadd hx hb dX0_narrowLane_5 ?_
  refine lv_bipush (v := 13) hx hb dX0_narrowLane_6 (by decide) ?_
  refine q_S (As := [.int ((x + (w * (-2048144777)))), .int (13)]) (rest := []) ⟨hx, hb, hml, hown, hts⟩ (c_X_rotated l ((x + (w * (-2048144777)))) (13)) (va_cwS 2 hts gX0_narrowLane_X0_rotated rfl rfl rfl (by decide +kernel) ⟨Nat.le_of_ble_eq_true rfl, Nat.le_of_ble_eq_true rfl⟩) rfl hl.1 rfl (Nat.le_of_ble_eq_true rfl) dX0_narrowLane_8 ⟨Nat.zero_le _, Nat.zero_le _⟩ ?_
  refine lv_ldc (v := -1640531535) hx hb hown (hts (.constant RX0 98 (-1640531535)) (by decide +kernel)) dX0_narrowLane_11 ?_
  refine lv_imul hx hb dX0_narrowLane_13 ?_
  exact W.iret (v := ((na_rt ((x + (w * (-2048144777)))) 13) * (-1640531535))) hx hb hr (fun t ht _ => ⟨congrArg (fun z => Outcome.returned (some (Value.int z))) (rfl), ht⟩) (fun _ h => by cases h) dX0_narrowLane_14
set_option maxHeartbeats 4000000 in
set_option maxRecDepth 100000 in
theorem c_X_narrowStirred (l : Launch) (h : Int32) : Met l yX0_narrowStirred wsX0_narrowStirred ({ frames := 0, cells := 0, slots := 0, locals := 0 } : Room) (va_Pc [.int h] (fun _ => True)) (k2_QcV (.int (na_s3 (na_s2 (na_s1 h))))) 0 0 (fun _ => False) := by
  refine Met.ofW (cc := cX0_narrowStirred) (maxL := 1) (ret := some .int) (by decide) rfl ?_
  intro p e s m args below meth c s₁ B hml hv
  obtain ⟨rfl, hv⟩ := hv
  have hx := B.exec
  have hb := B.bytes
  have hr := B.returns
  have hts := atoms_spec (ws := wsX0_narrowStirred) B.pre
  have hown : s.vm.findClass RX0 = some m.cls := findClass_of_methodNamed B.named
  have hlocks := B.notSynchronized
  have hl := lv_entry ([.int h]) (n := 1) (Nat.le_of_ble_eq_true rfl)
  rw [lg_entry_eq]
  generalize (lg_sl ([.int h]) ++ List.replicate (1 - (lg_sl ([.int h])).length) Slot.unset).toArray = ls at hl ⊢
  have hl : lv_has ls 1 [(0, .int (h))] := hl
  refine lv_iload_n hx hb dX0_narrowStirred_0 rfl (lv_at hl 0 rfl) ?_
  refine lv_iload_n hx hb dX0_narrowStirred_1 rfl (lv_at hl 0 rfl) ?_
  refine lv_bipush (v := 15) hx hb dX0_narrowStirred_2 (by decide) ?_
  refine lv_iushr (v := sh_u (h) (15)) hx hb dX0_narrowStirred_4 rfl ?_
  refine lv_ixor hx hb dX0_narrowStirred_5 ?_
  refine lv_ldc (v := -2048144777) hx hb hown (hts (.constant RX0 102 (-2048144777)) (by decide +kernel)) dX0_narrowStirred_6 ?_
  refine lv_imul hx hb dX0_narrowStirred_8 ?_
  refine q_ti (y := na_s1 h) (rfl) ?_
  refine lv_istore_n (lv' := [(0, .int (na_s1 h))]) hx hb dX0_narrowStirred_9 rfl hl (by decide) rfl (fun ls hl => ?_)
  refine lv_iload_n hx hb dX0_narrowStirred_10 rfl (lv_at hl 0 rfl) ?_
  refine lv_iload_n hx hb dX0_narrowStirred_11 rfl (lv_at hl 0 rfl) ?_
  refine lv_bipush (v := 13) hx hb dX0_narrowStirred_12 (by decide) ?_
  refine lv_iushr (v := sh_u (na_s1 h) (13)) hx hb dX0_narrowStirred_14 rfl ?_
  refine lv_ixor hx hb dX0_narrowStirred_15 ?_
  refine lv_ldc (v := -1028477379) hx hb hown (hts (.constant RX0 96 (-1028477379)) (by decide +kernel)) dX0_narrowStirred_16 ?_
  refine lv_imul hx hb dX0_narrowStirred_18 ?_
  refine q_ti (y := na_s2 (na_s1 h)) (rfl) ?_
  refine lv_istore_n (lv' := [(0, .int (na_s2 (na_s1 h)))]) hx hb dX0_narrowStirred_19 rfl hl (by decide) rfl (fun ls hl => ?_)
  refine lv_iload_n hx hb dX0_narrowStirred_20 rfl (lv_at hl 0 rfl) ?_
  refine lv_iload_n hx hb dX0_narrowStirred_21 rfl (lv_at hl 0 rfl) ?_
  refine lv_bipush (v := 16) hx hb dX0_narrowStirred_22 (by decide) ?_
  refine lv_iushr (v := sh_u (na_s2 (na_s1 h)) (16)) hx hb dX0_narrowStirred_24 rfl ?_
  refine lv_ixor hx hb dX0_narrowStirred_25 ?_
  exact W.iret (v := (na_s2 (na_s1 h) ^^^ (sh_u (na_s2 (na_s1 h)) (16)))) hx hb hr (fun t ht _ => ⟨congrArg (fun z => Outcome.returned (some (Value.int z))) (rfl), ht⟩) (fun _ h => by cases h) dX0_narrowStirred_26
set_option maxHeartbeats 4000000 in
set_option maxRecDepth 100000 in
theorem c_X_wideLane (l : Launch) (x : Int64) (w : Int64) : Met l yX0_wideLane wsX0_wideLane ({ frames := 1, cells := 0, slots := 0, locals := 22 } : Room) (va_Pc [.long x, .long w] (fun _ => True)) (k2_QcV (.long (wi_ln x w))) 0 0 (fun _ => False) := by
  refine Met.ofW (cc := cX0_wideLane) (maxL := 4) (ret := some .long) (by decide) rfl ?_
  intro p e s m args below meth c s₁ B hml hv
  obtain ⟨rfl, hv⟩ := hv
  have hx := B.exec
  have hb := B.bytes
  have hr := B.returns
  have hts := atoms_spec (ws := wsX0_wideLane) B.pre
  have hown : s.vm.findClass RX0 = some m.cls := findClass_of_methodNamed B.named
  have hlocks := B.notSynchronized
  have hl := lv_entry ([.long x, .long w]) (n := 4) (Nat.le_of_ble_eq_true rfl)
  rw [lg_entry_eq]
  generalize (lg_sl ([.long x, .long w]) ++ List.replicate (4 - (lg_sl ([.long x, .long w])).length) Slot.unset).toArray = ls at hl ⊢
  have hl : lv_has ls 4 [(0, .long (x)), (2, .long (w))] := hl
  refine lv_lload_n hx hb dX0_wideLane_0 rfl (lv_at hl 0 rfl) ?_
  refine lv_lload_n hx hb dX0_wideLane_1 rfl (lv_at hl 1 rfl) ?_
  refine lv_ldc2 (v := -4417276706812531889) hx hb hown (hts (.constantLong RX0 126 (-4417276706812531889)) (by decide +kernel)) dX0_wideLane_2 ?_
  refine lv_lmul hx hb dX0_wideLane_5 ?_
  refine lv_ladd hx hb dX0_wideLane_6 ?_
  refine lv_bipush (v := 31) hx hb dX0_wideLane_7 (by decide) ?_
  refine q_S (As := [.long ((x + (w * (-4417276706812531889)))), .int (31)]) (rest := []) ⟨hx, hb, hml, hown, hts⟩ (c_X_rotatedLong l ((x + (w * (-4417276706812531889)))) (31)) (va_cwS 2 hts gX0_wideLane_X0_rotatedLong rfl rfl rfl (by decide +kernel) ⟨Nat.le_of_ble_eq_true rfl, Nat.le_of_ble_eq_true rfl⟩) rfl hl.1 rfl (Nat.le_of_ble_eq_true rfl) dX0_wideLane_9 ⟨Nat.zero_le _, Nat.zero_le _⟩ ?_
  refine lv_ldc2 (v := -7046029288634856825) hx hb hown (hts (.constantLong RX0 122 (-7046029288634856825)) (by decide +kernel)) dX0_wideLane_12 ?_
  refine lv_lmul hx hb dX0_wideLane_15 ?_
  exact W.lret (v := ((wi_rt ((x + (w * (-4417276706812531889)))) 31) * (-7046029288634856825))) hx hb hr (fun t ht _ => ⟨congrArg (fun z => Outcome.returned (some (Value.long z))) (rfl), ht⟩) (fun _ h => by cases h) dX0_wideLane_16
set_option maxHeartbeats 4000000 in
set_option maxRecDepth 100000 in
theorem c_X_withLane (l : Launch) (h : Int64) (x : Int64) : Met l yX0_withLane wsX0_withLane ({ frames := 2, cells := 0, slots := 0, locals := 45 } : Room) (va_Pc [.long h, .long x] (fun _ => True)) (k2_QcV (.long (wi_wl h x))) 0 0 (fun _ => False) := by
  refine Met.ofW (cc := cX0_withLane) (maxL := 4) (ret := some .long) (by decide) rfl ?_
  intro p e s m args below meth c s₁ B hml hv
  obtain ⟨rfl, hv⟩ := hv
  have hx := B.exec
  have hb := B.bytes
  have hr := B.returns
  have hts := atoms_spec (ws := wsX0_withLane) B.pre
  have hown : s.vm.findClass RX0 = some m.cls := findClass_of_methodNamed B.named
  have hlocks := B.notSynchronized
  have hl := lv_entry ([.long h, .long x]) (n := 4) (Nat.le_of_ble_eq_true rfl)
  rw [lg_entry_eq]
  generalize (lg_sl ([.long h, .long x]) ++ List.replicate (4 - (lg_sl ([.long h, .long x])).length) Slot.unset).toArray = ls at hl ⊢
  have hl : lv_has ls 4 [(0, .long (h)), (2, .long (x))] := hl
  refine lv_lload_n hx hb dX0_withLane_0 rfl (lv_at hl 0 rfl) ?_
  refine lv_lconst (v := 0) hx hb dX0_withLane_1 (by decide) ?_
  refine lv_lload_n hx hb dX0_withLane_2 rfl (lv_at hl 1 rfl) ?_
  refine q_S (As := [.long (0), .long (x)]) (rest := [.long (h)]) ⟨hx, hb, hml, hown, hts⟩ (c_X_wideLane l (0) (x)) (va_cwS 2 hts gX0_withLane_X0_wideLane rfl rfl rfl (by decide +kernel) ⟨Nat.le_of_ble_eq_true rfl, Nat.le_of_ble_eq_true rfl⟩) rfl hl.1 rfl (Nat.le_of_ble_eq_true rfl) dX0_withLane_3 ⟨Nat.zero_le _, Nat.zero_le _⟩ ?_
  refine lv_lxor hx hb dX0_withLane_6 ?_
  refine lv_ldc2 (v := -7046029288634856825) hx hb hown (hts (.constantLong RX0 122 (-7046029288634856825)) (by decide +kernel)) dX0_withLane_7 ?_
  refine lv_lmul hx hb dX0_withLane_10 ?_
  refine lv_ldc2 (v := -8796714831421723037) hx hb hown (hts (.constantLong RX0 124 (-8796714831421723037)) (by decide +kernel)) dX0_withLane_11 ?_
  refine lv_ladd hx hb dX0_withLane_14 ?_
  exact W.lret (v := (((h ^^^ (wi_ln 0 x)) * (-7046029288634856825)) + (-8796714831421723037))) hx hb hr (fun t ht _ => ⟨congrArg (fun z => Outcome.returned (some (Value.long z))) (rfl), ht⟩) (fun _ h => by cases h) dX0_withLane_15
set_option maxHeartbeats 4000000 in
set_option maxRecDepth 100000 in
theorem c_X_wideStirred (l : Launch) (h : Int64) : Met l yX0_wideStirred wsX0_wideStirred ({ frames := 0, cells := 0, slots := 0, locals := 0 } : Room) (va_Pc [.long h] (fun _ => True)) (k2_QcV (.long (wi_s3 (wi_s2 (wi_s1 h))))) 0 0 (fun _ => False) := by
  refine Met.ofW (cc := cX0_wideStirred) (maxL := 2) (ret := some .long) (by decide) rfl ?_
  intro p e s m args below meth c s₁ B hml hv
  obtain ⟨rfl, hv⟩ := hv
  have hx := B.exec
  have hb := B.bytes
  have hr := B.returns
  have hts := atoms_spec (ws := wsX0_wideStirred) B.pre
  have hown : s.vm.findClass RX0 = some m.cls := findClass_of_methodNamed B.named
  have hlocks := B.notSynchronized
  have hl := lv_entry ([.long h]) (n := 2) (Nat.le_of_ble_eq_true rfl)
  rw [lg_entry_eq]
  generalize (lg_sl ([.long h]) ++ List.replicate (2 - (lg_sl ([.long h])).length) Slot.unset).toArray = ls at hl ⊢
  have hl : lv_has ls 2 [(0, .long (h))] := hl
  refine lv_lload_n hx hb dX0_wideStirred_0 rfl (lv_at hl 0 rfl) ?_
  refine lv_lload_n hx hb dX0_wideStirred_1 rfl (lv_at hl 0 rfl) ?_
  refine lv_bipush (v := 33) hx hb dX0_wideStirred_2 (by decide) ?_
  refine lv_lushr (v := sh_U (h) (33)) hx hb dX0_wideStirred_4 rfl ?_
  refine lv_lxor hx hb dX0_wideStirred_5 ?_
  refine lv_ldc2 (v := -4417276706812531889) hx hb hown (hts (.constantLong RX0 126 (-4417276706812531889)) (by decide +kernel)) dX0_wideStirred_6 ?_
  refine lv_lmul hx hb dX0_wideStirred_9 ?_
  refine q_tl (y := wi_s1 h) (rfl) ?_
  refine lv_lstore_n (lv' := [(0, .long (wi_s1 h))]) hx hb dX0_wideStirred_10 rfl hl (by decide) rfl (fun ls hl => ?_)
  refine lv_lload_n hx hb dX0_wideStirred_11 rfl (lv_at hl 0 rfl) ?_
  refine lv_lload_n hx hb dX0_wideStirred_12 rfl (lv_at hl 0 rfl) ?_
  refine lv_bipush (v := 29) hx hb dX0_wideStirred_13 (by decide) ?_
  refine lv_lushr (v := sh_U (wi_s1 h) (29)) hx hb dX0_wideStirred_15 rfl ?_
  refine lv_lxor hx hb dX0_wideStirred_16 ?_
  refine lv_ldc2 (v := 1609587929392839161) hx hb hown (hts (.constantLong RX0 128 (1609587929392839161)) (by decide +kernel)) dX0_wideStirred_17 ?_
  refine lv_lmul hx hb dX0_wideStirred_20 ?_
  refine q_tl (y := wi_s2 (wi_s1 h)) (rfl) ?_
  refine lv_lstore_n (lv' := [(0, .long (wi_s2 (wi_s1 h)))]) hx hb dX0_wideStirred_21 rfl hl (by decide) rfl (fun ls hl => ?_)
  refine lv_lload_n hx hb dX0_wideStirred_22 rfl (lv_at hl 0 rfl) ?_
  refine lv_lload_n hx hb dX0_wideStirred_23 rfl (lv_at hl 0 rfl) ?_
  refine lv_bipush (v := 32) hx hb dX0_wideStirred_24 (by decide) ?_
  refine lv_lushr (v := sh_U (wi_s2 (wi_s1 h)) (32)) hx hb dX0_wideStirred_26 rfl ?_
  refine lv_lxor hx hb dX0_wideStirred_27 ?_
  exact W.lret (v := (wi_s2 (wi_s1 h) ^^^ (sh_U (wi_s2 (wi_s1 h)) (32)))) hx hb hr (fun t ht _ => ⟨congrArg (fun z => Outcome.returned (some (Value.long z))) (rfl), ht⟩) (fun _ h => by cases h) dX0_wideStirred_28
set_option maxHeartbeats 4000000 in
set_option maxRecDepth 100000 in
theorem c_X_movedOn (l : Launch) (r : Int32) (k : Nat) (hk : k < 2 ^ 31) : Met l yX0_movedOn wsX0_movedOn ({ frames := 0, cells := 0, slots := 0, locals := 0 } : Room) (va_Pc [.int r, .int (nI k)] (fun _ => True)) (k2_QcV (.int (cr_it cr_r k r))) 0 0 (fun _ => False) := by
  refine Met.ofW (cc := cX0_movedOn) (maxL := 3) (ret := some .int) (by decide) rfl ?_
  intro p e s m args below meth c s₁ B hml hv
  obtain ⟨rfl, hv⟩ := hv
  have hx := B.exec
  have hb := B.bytes
  have hr := B.returns
  have hts := atoms_spec (ws := wsX0_movedOn) B.pre
  have hown : s.vm.findClass RX0 = some m.cls := findClass_of_methodNamed B.named
  have hlocks := B.notSynchronized
  have hl := lv_entry ([.int r, .int (nI k)]) (n := 3) (Nat.le_of_ble_eq_true rfl)
  rw [lg_entry_eq]
  generalize (lg_sl ([.int r, .int (nI k)]) ++ List.replicate (3 - (lg_sl ([.int r, .int (nI k)])).length) Slot.unset).toArray = ls at hl ⊢
  have hl : lv_has ls 3 [(0, .int (r)), (1, .int (nI k))] := hl
  refine lv_iconst (v := 0) hx hb dX0_movedOn_0 (by decide) ?_
  refine lv_istore_n (lv' := [(2, .int (0)), (0, .int (r)), (1, .int (nI k))]) hx hb dX0_movedOn_1 rfl hl (by decide) rfl (fun ls hl => ?_)
  have L2 : ∀ (d j : Nat), j + d = k → ∀ ls : Array Slot, lv_has ls 3 [(0, .int (cr_it cr_r (j) r)), (1, .int (nI k)), (2, .int (nI (j)))] → W p l e (headSpec wsX0_movedOn ({ frames := 0, cells := 0, slots := 0, locals := 0 } : Room)).room s m [Value.int r, .int (nI k)].toArray below meth c s.heap [] 0 0 (MQ below (k2_QcV (.int (cr_it cr_r k r))) [Value.int r, .int (nI k)].toArray s 0 0 (fun _ => False)) (F0 m 2 ls []) := by
    intro d
    induction d with
    | zero =>
      intro j hj ls hl
      obtain rfl : k = j := by omega
      refine lv_iload_n hx hb dX0_movedOn_2 rfl (lv_at hl 2 rfl) ?_
      refine lv_iload_n hx hb dX0_movedOn_3 rfl (lv_at hl 1 rfl) ?_
      refine lv_icmp_ge (tgt := 32) hx hb dX0_movedOn_4 (by decide) (fun c_4 => ?_) (fun c_4 => ?_)
      · refine lv_iload_n hx hb dX0_movedOn_32 rfl (lv_at hl 0 rfl) ?_
        exact W.iret (v := cr_it cr_r (k) r) hx hb hr (fun t ht _ => ⟨congrArg (fun z => Outcome.returned (some (Value.int z))) (rfl), ht⟩) (fun _ h => by cases h) dX0_movedOn_33
      · exact absurd (nI_le (Nat.le_refl k) hk) c_4
    | succ d ih =>
      intro j hj ls hl
      have hjl : j < k := by omega
      refine lv_iload_n hx hb dX0_movedOn_2 rfl (lv_at hl 2 rfl) ?_
      refine lv_iload_n hx hb dX0_movedOn_3 rfl (lv_at hl 1 rfl) ?_
      refine lv_icmp_ge (tgt := 32) hx hb dX0_movedOn_4 (by decide) (fun c_4 => ?_) (fun c_4 => ?_)
      · exact absurd c_4 (nI_ge hjl hk)
      · refine lv_iload_n hx hb dX0_movedOn_7 rfl (lv_at hl 0 rfl) ?_
        refine lv_iconst (v := 1) hx hb dX0_movedOn_8 (by decide) ?_
        refine lv_iand hx hb dX0_movedOn_9 ?_
        refine lv_if_eq (tgt := 22) hx hb dX0_movedOn_10 (by decide) (fun c_10 => ?_) (fun c_10 => ?_)
        · refine lv_iload_n hx hb dX0_movedOn_22 rfl (lv_at hl 0 rfl) ?_
          refine lv_iconst (v := 1) hx hb dX0_movedOn_23 (by decide) ?_
          refine lv_iushr (v := sh_u (cr_it cr_r (j) r) (1)) hx hb dX0_movedOn_24 rfl ?_
          refine q_ti (y := cr_it cr_r (j + 1) r) (cr_r_t c_10) ?_
          refine lv_istore_n (lv' := [(0, .int (cr_it cr_r (j + 1) r)), (1, .int (nI k)), (2, .int (nI (j)))]) hx hb dX0_movedOn_25 rfl hl (by decide) rfl (fun ls hl => ?_)
          refine lv_iinc (v := nI (j + 1)) (lv' := [(2, .int (nI (j + 1))), (0, .int (cr_it cr_r (j + 1) r)), (1, .int (nI k))]) hx hb dX0_movedOn_26 hl (k := 2) rfl (nI_add j 1) (by decide) rfl (fun ls hl => ?_)
          refine lv_goto (tgt := 2) hx hb dX0_movedOn_29 (by decide) ?_
          exact ih (j + 1) (by omega) ls (lv_sub hl [1, 2, 0] rfl)
        · refine lv_iload_n hx hb dX0_movedOn_13 rfl (lv_at hl 0 rfl) ?_
          refine lv_iconst (v := 1) hx hb dX0_movedOn_14 (by decide) ?_
          refine lv_iushr (v := sh_u (cr_it cr_r (j) r) (1)) hx hb dX0_movedOn_15 rfl ?_
          refine lv_ldc (v := -2097792136) hx hb hown (hts (.constant RX0 137 (-2097792136)) (by decide +kernel)) dX0_movedOn_16 ?_
          refine lv_ixor hx hb dX0_movedOn_18 ?_
          refine q_ti (y := cr_it cr_r (j + 1) r) (cr_r_f c_10) ?_
          refine lv_goto (tgt := 25) hx hb dX0_movedOn_19 (by decide) ?_
          refine lv_istore_n (lv' := [(0, .int (cr_it cr_r (j + 1) r)), (1, .int (nI k)), (2, .int (nI (j)))]) hx hb dX0_movedOn_25 rfl hl (by decide) rfl (fun ls hl => ?_)
          refine lv_iinc (v := nI (j + 1)) (lv' := [(2, .int (nI (j + 1))), (0, .int (cr_it cr_r (j + 1) r)), (1, .int (nI k))]) hx hb dX0_movedOn_26 hl (k := 2) rfl (nI_add j 1) (by decide) rfl (fun ls hl => ?_)
          refine lv_goto (tgt := 2) hx hb dX0_movedOn_29 (by decide) ?_
          exact ih (j + 1) (by omega) ls (lv_sub hl [1, 2, 0] rfl)
  exact L2 (k) 0 (by omega) ls (lv_sub hl [1, 2, 0] rfl)
set_option maxHeartbeats 4000000 in
set_option maxRecDepth 100000 in
theorem c_X_movedBack (l : Launch) (r : Int32) (k : Nat) (hk : k < 2 ^ 31) : Met l yX0_movedBack wsX0_movedBack ({ frames := 0, cells := 0, slots := 0, locals := 0 } : Room) (va_Pc [.int r, .int (nI k)] (fun _ => True)) (k2_QcV (.int (cr_it cr_b k r))) 0 0 (fun _ => False) := by
  refine Met.ofW (cc := cX0_movedBack) (maxL := 3) (ret := some .int) (by decide) rfl ?_
  intro p e s m args below meth c s₁ B hml hv
  obtain ⟨rfl, hv⟩ := hv
  have hx := B.exec
  have hb := B.bytes
  have hr := B.returns
  have hts := atoms_spec (ws := wsX0_movedBack) B.pre
  have hown : s.vm.findClass RX0 = some m.cls := findClass_of_methodNamed B.named
  have hlocks := B.notSynchronized
  have hl := lv_entry ([.int r, .int (nI k)]) (n := 3) (Nat.le_of_ble_eq_true rfl)
  rw [lg_entry_eq]
  generalize (lg_sl ([.int r, .int (nI k)]) ++ List.replicate (3 - (lg_sl ([.int r, .int (nI k)])).length) Slot.unset).toArray = ls at hl ⊢
  have hl : lv_has ls 3 [(0, .int (r)), (1, .int (nI k))] := hl
  refine lv_iconst (v := 0) hx hb dX0_movedBack_0 (by decide) ?_
  refine lv_istore_n (lv' := [(2, .int (0)), (0, .int (r)), (1, .int (nI k))]) hx hb dX0_movedBack_1 rfl hl (by decide) rfl (fun ls hl => ?_)
  have L2 : ∀ (d j : Nat), j + d = k → ∀ ls : Array Slot, lv_has ls 3 [(0, .int (cr_it cr_b (j) r)), (1, .int (nI k)), (2, .int (nI (j)))] → W p l e (headSpec wsX0_movedBack ({ frames := 0, cells := 0, slots := 0, locals := 0 } : Room)).room s m [Value.int r, .int (nI k)].toArray below meth c s.heap [] 0 0 (MQ below (k2_QcV (.int (cr_it cr_b k r))) [Value.int r, .int (nI k)].toArray s 0 0 (fun _ => False)) (F0 m 2 ls []) := by
    intro d
    induction d with
    | zero =>
      intro j hj ls hl
      obtain rfl : k = j := by omega
      refine lv_iload_n hx hb dX0_movedBack_2 rfl (lv_at hl 2 rfl) ?_
      refine lv_iload_n hx hb dX0_movedBack_3 rfl (lv_at hl 1 rfl) ?_
      refine lv_icmp_ge (tgt := 32) hx hb dX0_movedBack_4 (by decide) (fun c_4 => ?_) (fun c_4 => ?_)
      · refine lv_iload_n hx hb dX0_movedBack_32 rfl (lv_at hl 0 rfl) ?_
        exact W.iret (v := cr_it cr_b (k) r) hx hb hr (fun t ht _ => ⟨congrArg (fun z => Outcome.returned (some (Value.int z))) (rfl), ht⟩) (fun _ h => by cases h) dX0_movedBack_33
      · exact absurd (nI_le (Nat.le_refl k) hk) c_4
    | succ d ih =>
      intro j hj ls hl
      have hjl : j < k := by omega
      refine lv_iload_n hx hb dX0_movedBack_2 rfl (lv_at hl 2 rfl) ?_
      refine lv_iload_n hx hb dX0_movedBack_3 rfl (lv_at hl 1 rfl) ?_
      refine lv_icmp_ge (tgt := 32) hx hb dX0_movedBack_4 (by decide) (fun c_4 => ?_) (fun c_4 => ?_)
      · exact absurd c_4 (nI_ge hjl hk)
      · refine lv_iload_n hx hb dX0_movedBack_7 rfl (lv_at hl 0 rfl) ?_
        refine lv_if_ge (tgt := 22) hx hb dX0_movedBack_8 (by decide) (fun c_8 => ?_) (fun c_8 => ?_)
        · refine lv_iload_n hx hb dX0_movedBack_22 rfl (lv_at hl 0 rfl) ?_
          refine lv_iconst (v := 1) hx hb dX0_movedBack_23 (by decide) ?_
          refine lv_ishl hx hb dX0_movedBack_24 ?_
          refine q_ti (y := sh_l (cr_it cr_b (j) r) (1)) rfl ?_
          refine q_ti (y := cr_it cr_b (j + 1) r) (cr_b_f c_8) ?_
          refine lv_istore_n (lv' := [(0, .int (cr_it cr_b (j + 1) r)), (1, .int (nI k)), (2, .int (nI (j)))]) hx hb dX0_movedBack_25 rfl hl (by decide) rfl (fun ls hl => ?_)
          refine lv_iinc (v := nI (j + 1)) (lv' := [(2, .int (nI (j + 1))), (0, .int (cr_it cr_b (j + 1) r)), (1, .int (nI k))]) hx hb dX0_movedBack_26 hl (k := 2) rfl (nI_add j 1) (by decide) rfl (fun ls hl => ?_)
          refine lv_goto (tgt := 2) hx hb dX0_movedBack_29 (by decide) ?_
          exact ih (j + 1) (by omega) ls (lv_sub hl [1, 2, 0] rfl)
        · refine lv_iload_n hx hb dX0_movedBack_11 rfl (lv_at hl 0 rfl) ?_
          refine lv_ldc (v := -2097792136) hx hb hown (hts (.constant RX0 137 (-2097792136)) (by decide +kernel)) dX0_movedBack_12 ?_
          refine lv_ixor hx hb dX0_movedBack_14 ?_
          refine lv_iconst (v := 1) hx hb dX0_movedBack_15 (by decide) ?_
          refine lv_ishl hx hb dX0_movedBack_16 ?_
          refine q_ti (y := sh_l ((cr_it cr_b (j) r ^^^ (-2097792136))) (1)) rfl ?_
          refine lv_iconst (v := 1) hx hb dX0_movedBack_17 (by decide) ?_
          refine lv_ior hx hb dX0_movedBack_18 ?_
          refine q_ti (y := cr_it cr_b (j + 1) r) (cr_b_t c_8) ?_
          refine lv_goto (tgt := 25) hx hb dX0_movedBack_19 (by decide) ?_
          refine lv_istore_n (lv' := [(0, .int (cr_it cr_b (j + 1) r)), (1, .int (nI k)), (2, .int (nI (j)))]) hx hb dX0_movedBack_25 rfl hl (by decide) rfl (fun ls hl => ?_)
          refine lv_iinc (v := nI (j + 1)) (lv' := [(2, .int (nI (j + 1))), (0, .int (cr_it cr_b (j + 1) r)), (1, .int (nI k))]) hx hb dX0_movedBack_26 hl (k := 2) rfl (nI_add j 1) (by decide) rfl (fun ls hl => ?_)
          refine lv_goto (tgt := 2) hx hb dX0_movedBack_29 (by decide) ?_
          exact ih (j + 1) (by omega) ls (lv_sub hl [1, 2, 0] rfl)
  exact L2 (k) 0 (by omega) ls (lv_sub hl [1, 2, 0] rfl)
set_option maxHeartbeats 4000000 in
set_option maxRecDepth 100000 in
theorem c_X_product (l : Launch) (a : Int32) (b : Int32) : Met l yX0_product wsX0_product ({ frames := 1, cells := 0, slots := 0, locals := 22 } : Room) (va_Pc [.int a, .int b] (fun _ => True)) (k2_QcV (.int (cr_mul b a))) 0 0 (fun _ => False) := by
  refine Met.ofW (cc := cX0_product) (maxL := 4) (ret := some .int) (by decide) rfl ?_
  intro p e s m args below meth c s₁ B hml hv
  obtain ⟨rfl, hv⟩ := hv
  have hx := B.exec
  have hb := B.bytes
  have hr := B.returns
  have hts := atoms_spec (ws := wsX0_product) B.pre
  have hown : s.vm.findClass RX0 = some m.cls := findClass_of_methodNamed B.named
  have hlocks := B.notSynchronized
  have hl := lv_entry ([.int a, .int b]) (n := 4) (Nat.le_of_ble_eq_true rfl)
  rw [lg_entry_eq]
  generalize (lg_sl ([.int a, .int b]) ++ List.replicate (4 - (lg_sl ([.int a, .int b])).length) Slot.unset).toArray = ls at hl ⊢
  have hl : lv_has ls 4 [(0, .int (a)), (1, .int (b))] := hl
  refine lv_iconst (v := 0) hx hb dX0_product_0 (by decide) ?_
  refine lv_istore_n (lv' := [(2, .int (0)), (0, .int (a)), (1, .int (b))]) hx hb dX0_product_1 rfl hl (by decide) rfl (fun ls hl => ?_)
  refine lv_bipush (v := 31) hx hb dX0_product_2 (by decide) ?_
  refine lv_istore_n (lv' := [(3, .int (31)), (2, .int (0)), (0, .int (a)), (1, .int (b))]) hx hb dX0_product_4 rfl hl (by decide) rfl (fun ls hl => ?_)
  have L5 : ∀ (d j : Nat), j + d = 32 → ∀ ls : Array Slot, lv_has ls 4 [(0, .int (a)), (1, .int (cr_it cr_r (j) b)), (2, .int (cr_ms b a (j))), (3, .int (nI d + (-1)))] → W p l e (headSpec wsX0_product ({ frames := 1, cells := 0, slots := 0, locals := 22 } : Room)).room s m [Value.int a, .int b].toArray below meth c s.heap [] 0 0 (MQ below (k2_QcV (.int (cr_mul b a))) [Value.int a, .int b].toArray s 0 0 (fun _ => False)) (F0 m 5 ls []) := by
    intro d
    induction d with
    | zero =>
      intro j hj ls hl
      obtain rfl : 32 = j := by omega
      refine lv_iload_n hx hb dX0_product_5 rfl (lv_at hl 3 rfl) ?_
      refine lv_if_lt (tgt := 33) hx hb dX0_product_6 (by decide) (fun c_6 => ?_) (fun c_6 => ?_)
      · refine lv_iload_n hx hb dX0_product_33 rfl (lv_at hl 2 rfl) ?_
        exact W.iret (v := cr_ms b a (32)) hx hb hr (fun t ht _ => ⟨congrArg (fun z => Outcome.returned (some (Value.int z))) (rfl), ht⟩) (fun _ h => by cases h) dX0_product_34
      · exact absurd (by decide) c_6
    | succ d ih =>
      intro j hj ls hl
      have hjl : j < 32 := by omega
      have hl : lv_has ls 4 [(0, .int (a)), (1, .int (cr_it cr_r (j) b)), (2, .int (cr_ms b a (j))), (3, .int (nI d))] := q_lv hl (congrArg (fun z => ([(0, .int (a)), (1, .int (cr_it cr_r (j) b)), (2, .int (cr_ms b a (j))), (3, Value.int z)] : List (Nat × Value))) (show (nI (d + 1) + (-1) : Int32) = nI d from pk_m1 d))
      refine lv_iload_n hx hb dX0_product_5 rfl (lv_at hl 3 rfl) ?_
      refine lv_if_lt (tgt := 33) hx hb dX0_product_6 (by decide) (fun c_6 => ?_) (fun c_6 => ?_)
      · exact absurd c_6 (nI_pos (by omega))
      · refine lv_iload_n hx hb dX0_product_9 rfl (lv_at hl 0 rfl) ?_
        refine lv_iload_n hx hb dX0_product_10 rfl (lv_at hl 3 rfl) ?_
        refine lv_iushr (v := sh_u (a) (nI d)) hx hb dX0_product_11 rfl ?_
        refine lv_iconst (v := 1) hx hb dX0_product_12 (by decide) ?_
        refine lv_iand hx hb dX0_product_13 ?_
        refine lv_if_eq (tgt := 21) hx hb dX0_product_14 (by decide) (fun c_14 => ?_) (fun c_14 => ?_)
        · refine lv_iload_n hx hb dX0_product_21 rfl (lv_at hl 1 rfl) ?_
          refine lv_iconst (v := 1) hx hb dX0_product_22 (by decide) ?_
          refine q_S (As := [.int (cr_it cr_r (j) b), .int (1)]) (rest := []) ⟨hx, hb, hml, hown, hts⟩ (c_X_movedOn l (cr_it cr_r (j) b) (1) (by omega)) (va_cwS 2 hts gX0_product_X0_movedOn rfl rfl rfl (by decide +kernel) ⟨Nat.le_of_ble_eq_true rfl, Nat.le_of_ble_eq_true rfl⟩) rfl hl.1 rfl (Nat.le_of_ble_eq_true rfl) dX0_product_23 ⟨Nat.zero_le _, Nat.zero_le _⟩ ?_
          refine q_ti (y := cr_it cr_r (j + 1) b) (rfl) ?_
          refine lv_istore_n (lv' := [(1, .int (cr_it cr_r (j + 1) b)), (0, .int (a)), (2, .int (cr_ms b a (j))), (3, .int (nI d))]) hx hb dX0_product_26 rfl hl (by decide) rfl (fun ls hl => ?_)
          refine lv_iinc (v := nI d + (-1)) (lv' := [(3, .int (nI d + (-1))), (1, .int (cr_it cr_r (j + 1) b)), (0, .int (a)), (2, .int (cr_ms b a (j)))]) hx hb dX0_product_27 hl (k := 3) rfl (congrArg (nI d + ·) (show Int32.ofInt (-1) = -1 by decide)) (by decide) rfl (fun ls hl => ?_)
          refine lv_goto (tgt := 5) hx hb dX0_product_30 (by decide) ?_
          have hl : lv_has ls 4 [(3, .int (nI d + (-1))), (1, .int (cr_it cr_r (j + 1) b)), (0, .int (a)), (2, .int (cr_ms b a (j + 1)))] := q_lv hl (congrArg (fun z => ([(3, .int (nI d + (-1))), (1, .int (cr_it cr_r (j + 1) b)), (0, .int (a)), (2, Value.int z)] : List (Nat × Value))) (show (cr_ms b a (j) : Int32) = cr_ms b a (j + 1) from cr_ms_nobit hj c_14))
          exact ih (j + 1) (by omega) ls (lv_sub hl [2, 1, 3, 0] rfl)
        · refine lv_iload_n hx hb dX0_product_17 rfl (lv_at hl 2 rfl) ?_
          refine lv_iload_n hx hb dX0_product_18 rfl (lv_at hl 1 rfl) ?_
          refine lv_ixor hx hb dX0_product_19 ?_
          refine q_ti (y := cr_ms b a (j + 1)) (cr_ms_bit hj c_14) ?_
          refine lv_istore_n (lv' := [(2, .int (cr_ms b a (j + 1))), (0, .int (a)), (1, .int (cr_it cr_r (j) b)), (3, .int (nI d))]) hx hb dX0_product_20 rfl hl (by decide) rfl (fun ls hl => ?_)
          refine lv_iload_n hx hb dX0_product_21 rfl (lv_at hl 2 rfl) ?_
          refine lv_iconst (v := 1) hx hb dX0_product_22 (by decide) ?_
          refine q_S (As := [.int (cr_it cr_r (j) b), .int (1)]) (rest := []) ⟨hx, hb, hml, hown, hts⟩ (c_X_movedOn l (cr_it cr_r (j) b) (1) (by omega)) (va_cwS 2 hts gX0_product_X0_movedOn rfl rfl rfl (by decide +kernel) ⟨Nat.le_of_ble_eq_true rfl, Nat.le_of_ble_eq_true rfl⟩) rfl hl.1 rfl (Nat.le_of_ble_eq_true rfl) dX0_product_23 ⟨Nat.zero_le _, Nat.zero_le _⟩ ?_
          refine q_ti (y := cr_it cr_r (j + 1) b) (rfl) ?_
          refine lv_istore_n (lv' := [(1, .int (cr_it cr_r (j + 1) b)), (2, .int (cr_ms b a (j + 1))), (0, .int (a)), (3, .int (nI d))]) hx hb dX0_product_26 rfl hl (by decide) rfl (fun ls hl => ?_)
          refine lv_iinc (v := nI d + (-1)) (lv' := [(3, .int (nI d + (-1))), (1, .int (cr_it cr_r (j + 1) b)), (2, .int (cr_ms b a (j + 1))), (0, .int (a))]) hx hb dX0_product_27 hl (k := 3) rfl (congrArg (nI d + ·) (show Int32.ofInt (-1) = -1 by decide)) (by decide) rfl (fun ls hl => ?_)
          refine lv_goto (tgt := 5) hx hb dX0_product_30 (by decide) ?_
          exact ih (j + 1) (by omega) ls (lv_sub hl [3, 1, 2, 0] rfl)
  have hl : lv_has ls 4 [(3, .int (nI 32 + (-1))), (2, .int (0)), (0, .int (a)), (1, .int (b))] := q_lv hl (congrArg (fun z => ([(3, Value.int z), (2, .int (0)), (0, .int (a)), (1, .int (b))] : List (Nat × Value))) (show (31 : Int32) = nI 32 + (-1) from by decide))
  exact L5 (32) 0 (by omega) ls (lv_sub hl [2, 3, 1, 0] rfl)
set_option maxHeartbeats 4000000 in
set_option maxRecDepth 100000 in
theorem c_X_power (l : Launch) (b : Int32) (ex : Int64) : Met l yX0_power wsX0_power ({ frames := 2, cells := 0, slots := 0, locals := 45 } : Room) (va_Pc [.int b, .long ex] (fun _ => True)) (k2_QcV (.int (cr_pw b (ex.toBitVec.toNat)))) 0 0 (fun _ => False) := by
  refine Met.ofW (cc := cX0_power) (maxL := 5) (ret := some .int) (by decide) rfl ?_
  intro p e s m args below meth c s₁ B hml hv
  obtain ⟨rfl, hv⟩ := hv
  have hx := B.exec
  have hb := B.bytes
  have hr := B.returns
  have hts := atoms_spec (ws := wsX0_power) B.pre
  have hown : s.vm.findClass RX0 = some m.cls := findClass_of_methodNamed B.named
  have hlocks := B.notSynchronized
  have hl := lv_entry ([.int b, .long ex]) (n := 5) (Nat.le_of_ble_eq_true rfl)
  rw [lg_entry_eq]
  generalize (lg_sl ([.int b, .long ex]) ++ List.replicate (5 - (lg_sl ([.int b, .long ex])).length) Slot.unset).toArray = ls at hl ⊢
  have hl : lv_has ls 5 [(0, .int (b)), (1, .long (ex))] := hl
  refine lv_ldc (v := -2147483648) hx hb hown (hts (.constant RX0 60 (-2147483648)) (by decide +kernel)) dX0_power_0 ?_
  refine lv_istore_n (lv' := [(3, .int ((-2147483648))), (0, .int (b)), (1, .long (ex))]) hx hb dX0_power_2 rfl hl (by decide) rfl (fun ls hl => ?_)
  refine lv_iconst (v := 0) hx hb dX0_power_3 (by decide) ?_
  refine lv_istore (lv' := [(4, .int (0)), (3, .int ((-2147483648))), (0, .int (b)), (1, .long (ex))]) hx hb dX0_power_4 hl (by decide) rfl (fun ls hl => ?_)
  have L6 : ∀ (d j : Nat), j + d = 64 → ∀ ls : Array Slot, lv_has ls 5 [(0, .int (cr_pw b (2 ^ (j)))), (1, .long (ex)), (3, .int (cr_pw b (ex.toBitVec.toNat % 2 ^ (j)))), (4, .int (nI (j)))] → W p l e (headSpec wsX0_power ({ frames := 2, cells := 0, slots := 0, locals := 45 } : Room)).room s m [Value.int b, .long ex].toArray below meth c s.heap [] 0 0 (MQ below (k2_QcV (.int (cr_pw b (ex.toBitVec.toNat)))) [Value.int b, .long ex].toArray s 0 0 (fun _ => False)) (F0 m 6 ls []) := by
    intro d
    induction d with
    | zero =>
      intro j hj ls hl
      obtain rfl : 64 = j := by omega
      refine lv_iload hx hb dX0_power_6 (lv_at hl 3 rfl) ?_
      refine lv_bipush (v := 64) hx hb dX0_power_8 (by decide) ?_
      refine lv_icmp_ge (tgt := 42) hx hb dX0_power_10 (by decide) (fun c_10 => ?_) (fun c_10 => ?_)
      · refine lv_iload_n hx hb dX0_power_42 rfl (lv_at hl 2 rfl) ?_
        exact W.iret (v := cr_pw b (ex.toBitVec.toNat % 2 ^ (64))) hx hb hr (fun t ht _ => ⟨congrArg (fun z => Outcome.returned (some (Value.int z))) (by rw [Nat.mod_eq_of_lt ex.toBitVec.isLt]), ht⟩) (fun _ h => by cases h) dX0_power_43
      · exact absurd (nI_le (a := 64) (b := 64) (Nat.le_refl _) (by omega)) c_10
    | succ d ih =>
      intro j hj ls hl
      have hjl : j < 64 := by omega
      refine lv_iload hx hb dX0_power_6 (lv_at hl 3 rfl) ?_
      refine lv_bipush (v := 64) hx hb dX0_power_8 (by decide) ?_
      refine lv_icmp_ge (tgt := 42) hx hb dX0_power_10 (by decide) (fun c_10 => ?_) (fun c_10 => ?_)
      · exact absurd c_10 (nI_ge (b := 64) hjl (by omega))
      · refine lv_lload_n hx hb dX0_power_13 rfl (lv_at hl 1 rfl) ?_
        refine lv_iload hx hb dX0_power_14 (lv_at hl 3 rfl) ?_
        refine lv_lushr (v := sh_U (ex) (nI (j))) hx hb dX0_power_16 rfl ?_
        refine lv_lconst (v := 1) hx hb dX0_power_17 (by decide) ?_
        refine lv_land hx hb dX0_power_18 ?_
        refine lv_lconst (v := 0) hx hb dX0_power_19 (by decide) ?_
        refine W.lcmp hx hb dX0_power_20 ?_
        refine lv_if_eq (tgt := 30) hx hb dX0_power_21 (by decide) (fun c_21 => ?_) (fun c_21 => ?_)
        · refine lv_iload_n hx hb dX0_power_30 rfl (lv_at hl 0 rfl) ?_
          refine lv_iload_n hx hb dX0_power_31 rfl (lv_at hl 0 rfl) ?_
          refine q_S (As := [.int (cr_pw b (2 ^ (j))), .int (cr_pw b (2 ^ (j)))]) (rest := []) ⟨hx, hb, hml, hown, hts⟩ (c_X_product l (cr_pw b (2 ^ (j))) (cr_pw b (2 ^ (j)))) (va_cwS 2 hts gX0_power_X0_product rfl rfl rfl (by decide +kernel) ⟨Nat.le_of_ble_eq_true rfl, Nat.le_of_ble_eq_true rfl⟩) rfl hl.1 rfl (Nat.le_of_ble_eq_true rfl) dX0_power_32 ⟨Nat.zero_le _, Nat.zero_le _⟩ ?_
          refine q_ti (y := cr_pw b (2 ^ (j + 1))) (pw_sq b j) ?_
          refine lv_istore_n (lv' := [(0, .int (cr_pw b (2 ^ (j + 1)))), (1, .long (ex)), (3, .int (cr_pw b (ex.toBitVec.toNat % 2 ^ (j)))), (4, .int (nI (j)))]) hx hb dX0_power_35 rfl hl (by decide) rfl (fun ls hl => ?_)
          refine lv_iinc (v := nI (j + 1)) (lv' := [(4, .int (nI (j + 1))), (0, .int (cr_pw b (2 ^ (j + 1)))), (1, .long (ex)), (3, .int (cr_pw b (ex.toBitVec.toNat % 2 ^ (j))))]) hx hb dX0_power_36 hl (k := 3) rfl (nI_add j 1) (by decide) rfl (fun ls hl => ?_)
          refine lv_goto (tgt := 6) hx hb dX0_power_39 (by decide) ?_
          have hl : lv_has ls 5 [(4, .int (nI (j + 1))), (0, .int (cr_pw b (2 ^ (j + 1)))), (1, .long (ex)), (3, .int (cr_pw b (ex.toBitVec.toNat % 2 ^ (j + 1))))] := q_lv hl (congrArg (fun z => ([(4, .int (nI (j + 1))), (0, .int (cr_pw b (2 ^ (j + 1)))), (1, .long (ex)), (3, Value.int z)] : List (Nat × Value))) (show (cr_pw b (ex.toBitVec.toNat % 2 ^ (j)) : Int32) = cr_pw b (ex.toBitVec.toNat % 2 ^ (j + 1)) from pw_nobit hjl c_21))
          exact ih (j + 1) (by omega) ls (lv_sub hl [1, 2, 3, 0] rfl)
        · refine lv_iload_n hx hb dX0_power_24 rfl (lv_at hl 2 rfl) ?_
          refine lv_iload_n hx hb dX0_power_25 rfl (lv_at hl 0 rfl) ?_
          refine q_S (As := [.int (cr_pw b (ex.toBitVec.toNat % 2 ^ (j))), .int (cr_pw b (2 ^ (j)))]) (rest := []) ⟨hx, hb, hml, hown, hts⟩ (c_X_product l (cr_pw b (ex.toBitVec.toNat % 2 ^ (j))) (cr_pw b (2 ^ (j)))) (va_cwS 2 hts gX0_power_X0_product rfl rfl rfl (by decide +kernel) ⟨Nat.le_of_ble_eq_true rfl, Nat.le_of_ble_eq_true rfl⟩) rfl hl.1 rfl (Nat.le_of_ble_eq_true rfl) dX0_power_26 ⟨Nat.zero_le _, Nat.zero_le _⟩ ?_
          refine q_ti (y := cr_pw b (ex.toBitVec.toNat % 2 ^ (j + 1))) (pw_bit hjl c_21) ?_
          refine lv_istore_n (lv' := [(3, .int (cr_pw b (ex.toBitVec.toNat % 2 ^ (j + 1)))), (0, .int (cr_pw b (2 ^ (j)))), (1, .long (ex)), (4, .int (nI (j)))]) hx hb dX0_power_29 rfl hl (by decide) rfl (fun ls hl => ?_)
          refine lv_iload_n hx hb dX0_power_30 rfl (lv_at hl 1 rfl) ?_
          refine lv_iload_n hx hb dX0_power_31 rfl (lv_at hl 1 rfl) ?_
          refine q_S (As := [.int (cr_pw b (2 ^ (j))), .int (cr_pw b (2 ^ (j)))]) (rest := []) ⟨hx, hb, hml, hown, hts⟩ (c_X_product l (cr_pw b (2 ^ (j))) (cr_pw b (2 ^ (j)))) (va_cwS 2 hts gX0_power_X0_product rfl rfl rfl (by decide +kernel) ⟨Nat.le_of_ble_eq_true rfl, Nat.le_of_ble_eq_true rfl⟩) rfl hl.1 rfl (Nat.le_of_ble_eq_true rfl) dX0_power_32 ⟨Nat.zero_le _, Nat.zero_le _⟩ ?_
          refine q_ti (y := cr_pw b (2 ^ (j + 1))) (pw_sq b j) ?_
          refine lv_istore_n (lv' := [(0, .int (cr_pw b (2 ^ (j + 1)))), (3, .int (cr_pw b (ex.toBitVec.toNat % 2 ^ (j + 1)))), (1, .long (ex)), (4, .int (nI (j)))]) hx hb dX0_power_35 rfl hl (by decide) rfl (fun ls hl => ?_)
          refine lv_iinc (v := nI (j + 1)) (lv' := [(4, .int (nI (j + 1))), (0, .int (cr_pw b (2 ^ (j + 1)))), (3, .int (cr_pw b (ex.toBitVec.toNat % 2 ^ (j + 1)))), (1, .long (ex))]) hx hb dX0_power_36 hl (k := 3) rfl (nI_add j 1) (by decide) rfl (fun ls hl => ?_)
          refine lv_goto (tgt := 6) hx hb dX0_power_39 (by decide) ?_
          exact ih (j + 1) (by omega) ls (lv_sub hl [1, 3, 2, 0] rfl)
  have hl : lv_has ls 5 [(4, .int (0)), (3, .int ((-2147483648))), (0, .int (cr_pw b (2 ^ 0))), (1, .long (ex))] := q_lv hl (congrArg (fun z => ([(4, .int (0)), (3, .int ((-2147483648))), (0, Value.int z), (1, .long (ex))] : List (Nat × Value))) (show (b : Int32) = cr_pw b (2 ^ 0) from (cr_pw_1 b).symm))
  have hl : lv_has ls 5 [(4, .int (0)), (3, .int (cr_pw b (ex.toBitVec.toNat % 2 ^ 0))), (0, .int (cr_pw b (2 ^ 0))), (1, .long (ex))] := q_lv hl (congrArg (fun z => ([(4, .int (0)), (3, Value.int z), (0, .int (cr_pw b (2 ^ 0))), (1, .long (ex))] : List (Nat × Value))) (show ((-2147483648) : Int32) = cr_pw b (ex.toBitVec.toNat % 2 ^ 0) from (show cr_pw b (ex.toBitVec.toNat % 1) = _ by rw [Nat.mod_one]; rfl).symm))
  exact L6 (64) 0 (by omega) ls (lv_sub hl [2, 3, 1, 0] rfl)
set_option maxHeartbeats 4000000 in
set_option maxRecDepth 100000 in
theorem c_X_turnedRound (l : Launch) (w : Int32) : Met l yX0_turnedRound wsX0_turnedRound ({ frames := 0, cells := 0, slots := 0, locals := 0 } : Room) (va_Pc [.int w] (fun _ => True)) (k2_QcV (.int (tu_x w))) 0 0 (fun _ => False) := by
  refine Met.ofW (cc := cX0_turnedRound) (maxL := 1) (ret := some .int) (by decide) rfl ?_
  intro p e s m args below meth c s₁ B hml hv
  obtain ⟨rfl, hv⟩ := hv
  have hx := B.exec
  have hb := B.bytes
  have hr := B.returns
  have hts := atoms_spec (ws := wsX0_turnedRound) B.pre
  have hown : s.vm.findClass RX0 = some m.cls := findClass_of_methodNamed B.named
  have hlocks := B.notSynchronized
  have hl := lv_entry ([.int w]) (n := 1) (Nat.le_of_ble_eq_true rfl)
  rw [lg_entry_eq]
  generalize (lg_sl ([.int w]) ++ List.replicate (1 - (lg_sl ([.int w])).length) Slot.unset).toArray = ls at hl ⊢
  have hl : lv_has ls 1 [(0, .int (w))] := hl
  refine lv_iload_n hx hb dX0_turnedRound_0 rfl (lv_at hl 0 rfl) ?_
  refine lv_bipush (v := 24) hx hb dX0_turnedRound_1 (by decide) ?_
  refine lv_ishl hx hb dX0_turnedRound_3 ?_
  refine q_ti (y := sh_l (w) (24)) rfl ?_
  refine lv_iload_n hx hb dX0_turnedRound_4 rfl (lv_at hl 0 rfl) ?_
  refine lv_ldc (v := 65280) hx hb hown (hts (.constant RX0 141 (65280)) (by decide +kernel)) dX0_turnedRound_5 ?_
  refine lv_iand hx hb dX0_turnedRound_7 ?_
  refine lv_bipush (v := 8) hx hb dX0_turnedRound_8 (by decide) ?_
  refine lv_ishl hx hb dX0_turnedRound_10 ?_
  refine q_ti (y := sh_l ((w &&& 65280)) (8)) rfl ?_
  refine lv_ior hx hb dX0_turnedRound_11 ?_
  refine lv_iload_n hx hb dX0_turnedRound_12 rfl (lv_at hl 0 rfl) ?_
  refine lv_bipush (v := 8) hx hb dX0_turnedRound_13 (by decide) ?_
  refine lv_iushr (v := sh_u (w) (8)) hx hb dX0_turnedRound_15 rfl ?_
  refine lv_ldc (v := 65280) hx hb hown (hts (.constant RX0 141 (65280)) (by decide +kernel)) dX0_turnedRound_16 ?_
  refine lv_iand hx hb dX0_turnedRound_18 ?_
  refine lv_ior hx hb dX0_turnedRound_19 ?_
  refine lv_iload_n hx hb dX0_turnedRound_20 rfl (lv_at hl 0 rfl) ?_
  refine lv_bipush (v := 24) hx hb dX0_turnedRound_21 (by decide) ?_
  refine lv_iushr (v := sh_u (w) (24)) hx hb dX0_turnedRound_23 rfl ?_
  refine lv_ior hx hb dX0_turnedRound_24 ?_
  exact W.iret (v := ((((sh_l (w) (24)) ||| (sh_l ((w &&& 65280)) (8))) ||| ((sh_u (w) (8)) &&& 65280)) ||| (sh_u (w) (24)))) hx hb hr (fun t ht _ => ⟨congrArg (fun z => Outcome.returned (some (Value.int z))) (rfl), ht⟩) (fun _ h => by cases h) dX0_turnedRound_25
set_option maxHeartbeats 4000000 in
set_option maxRecDepth 100000 in
theorem c_X_fourBetween (l : Launch) (x : Int32) (y : Int32) : Met l yX0_fourBetween wsX0_fourBetween ({ frames := 1, cells := 0, slots := 0, locals := 22 } : Room) (va_Pc [.int x, .int y] (fun _ => True)) (k2_QcV (.int (tu_x ((x ^^^ (-1)) ^^^ cr_it cr_b 32 (y ^^^ (-1)))))) 0 0 (fun _ => False) := by
  refine Met.ofW (cc := cX0_fourBetween) (maxL := 2) (ret := some .int) (by decide) rfl ?_
  intro p e s m args below meth c s₁ B hml hv
  obtain ⟨rfl, hv⟩ := hv
  have hx := B.exec
  have hb := B.bytes
  have hr := B.returns
  have hts := atoms_spec (ws := wsX0_fourBetween) B.pre
  have hown : s.vm.findClass RX0 = some m.cls := findClass_of_methodNamed B.named
  have hlocks := B.notSynchronized
  have hl := lv_entry ([.int x, .int y]) (n := 2) (Nat.le_of_ble_eq_true rfl)
  rw [lg_entry_eq]
  generalize (lg_sl ([.int x, .int y]) ++ List.replicate (2 - (lg_sl ([.int x, .int y])).length) Slot.unset).toArray = ls at hl ⊢
  have hl : lv_has ls 2 [(0, .int (x)), (1, .int (y))] := hl
  refine lv_iload_n hx hb dX0_fourBetween_0 rfl (lv_at hl 0 rfl) ?_
  refine lv_iconst (v := -1) hx hb dX0_fourBetween_1 (by decide) ?_
  refine lv_ixor hx hb dX0_fourBetween_2 ?_
  refine lv_iload_n hx hb dX0_fourBetween_3 rfl (lv_at hl 1 rfl) ?_
  refine lv_iconst (v := -1) hx hb dX0_fourBetween_4 (by decide) ?_
  refine lv_ixor hx hb dX0_fourBetween_5 ?_
  refine lv_bipush (v := 32) hx hb dX0_fourBetween_6 (by decide) ?_
  refine q_S (As := [.int ((y ^^^ (-1))), .int (32)]) (rest := [.int ((x ^^^ (-1)))]) ⟨hx, hb, hml, hown, hts⟩ (c_X_movedBack l ((y ^^^ (-1))) (32) (by omega)) (va_cwS 2 hts gX0_fourBetween_X0_movedBack rfl rfl rfl (by decide +kernel) ⟨Nat.le_of_ble_eq_true rfl, Nat.le_of_ble_eq_true rfl⟩) rfl hl.1 rfl (Nat.le_of_ble_eq_true rfl) dX0_fourBetween_8 ⟨Nat.zero_le _, Nat.zero_le _⟩ ?_
  refine lv_ixor hx hb dX0_fourBetween_11 ?_
  refine q_S (As := [.int (((x ^^^ (-1)) ^^^ (cr_it cr_b 32 ((y ^^^ (-1))))))]) (rest := []) ⟨hx, hb, hml, hown, hts⟩ (c_X_turnedRound l (((x ^^^ (-1)) ^^^ (cr_it cr_b 32 ((y ^^^ (-1))))))) (va_cwS 1 hts gX0_fourBetween_X0_turnedRound rfl rfl rfl (by decide +kernel) ⟨Nat.le_of_ble_eq_true rfl, Nat.le_of_ble_eq_true rfl⟩) rfl hl.1 rfl (Nat.le_of_ble_eq_true rfl) dX0_fourBetween_12 ⟨Nat.zero_le _, Nat.zero_le _⟩ ?_
  exact W.iret (v := (tu_x (((x ^^^ (-1)) ^^^ (cr_it cr_b 32 ((y ^^^ (-1)))))))) hx hb hr (fun t ht _ => ⟨congrArg (fun z => Outcome.returned (some (Value.int z))) (rfl), ht⟩) (fun _ h => by cases h) dX0_fourBetween_15
end
section
set_option maxHeartbeats 4000000 in
set_option maxRecDepth 100000 in
theorem c_M_rotated (l : Launch) (x : Int32) (k : Int32) : Met l yX1_rotated wsM_rotated ({ frames := 0, cells := 0, slots := 0, locals := 0 } : Room) (va_Pc [.int x, .int k] (fun _ => True)) (k2_QcV (.int (na_rt x k))) 0 0 (fun _ => False) := by
  refine Met.ofW (cc := cX1_rotated) (maxL := 2) (ret := some .int) (by decide) rfl ?_
  intro p e s m args below meth c s₁ B hml hv
  obtain ⟨rfl, hv⟩ := hv
  have hx := B.exec
  have hb := B.bytes
  have hr := B.returns
  have hts := atoms_spec (ws := wsM_rotated) B.pre
  have hown : s.vm.findClass RX1 = some m.cls := findClass_of_methodNamed B.named
  have hlocks := B.notSynchronized
  have hl := lv_entry ([.int x, .int k]) (n := 2) (Nat.le_of_ble_eq_true rfl)
  rw [lg_entry_eq]
  generalize (lg_sl ([.int x, .int k]) ++ List.replicate (2 - (lg_sl ([.int x, .int k])).length) Slot.unset).toArray = ls at hl ⊢
  have hl : lv_has ls 2 [(0, .int (x)), (1, .int (k))] := hl
  refine lv_iload_n hx hb dX1_rotated_0 rfl (lv_at hl 0 rfl) ?_
  refine lv_iload_n hx hb dX1_rotated_1 rfl (lv_at hl 1 rfl) ?_
  refine lv_ishl hx hb dX1_rotated_2 ?_
  refine q_ti (y := sh_l (x) (k)) rfl ?_
  refine lv_iload_n hx hb dX1_rotated_3 rfl (lv_at hl 0 rfl) ?_
  refine lv_bipush (v := 32) hx hb dX1_rotated_4 (by decide) ?_
  refine lv_iload_n hx hb dX1_rotated_6 rfl (lv_at hl 1 rfl) ?_
  refine lv_isub hx hb dX1_rotated_7 ?_
  refine lv_iushr (v := sh_u (x) ((32 - k))) hx hb dX1_rotated_8 rfl ?_
  refine lv_ior hx hb dX1_rotated_9 ?_
  exact W.iret (v := ((sh_l (x) (k)) ||| (sh_u (x) ((32 - k))))) hx hb hr (fun t ht _ => ⟨congrArg (fun z => Outcome.returned (some (Value.int z))) (rfl), ht⟩) (fun _ h => by cases h) dX1_rotated_10
set_option maxHeartbeats 4000000 in
set_option maxRecDepth 100000 in
theorem c_M_turned (l : Launch) (x : Int64) (k : Int32) : Met l yX1_turned wsM_turned ({ frames := 0, cells := 0, slots := 0, locals := 0 } : Room) (va_Pc [.long x, .int k] (fun _ => True)) (k2_QcV (.long (wi_rt x k))) 0 0 (fun _ => False) := by
  refine Met.ofW (cc := cX1_turned) (maxL := 3) (ret := some .long) (by decide) rfl ?_
  intro p e s m args below meth c s₁ B hml hv
  obtain ⟨rfl, hv⟩ := hv
  have hx := B.exec
  have hb := B.bytes
  have hr := B.returns
  have hts := atoms_spec (ws := wsM_turned) B.pre
  have hown : s.vm.findClass RX1 = some m.cls := findClass_of_methodNamed B.named
  have hlocks := B.notSynchronized
  have hl := lv_entry ([.long x, .int k]) (n := 3) (Nat.le_of_ble_eq_true rfl)
  rw [lg_entry_eq]
  generalize (lg_sl ([.long x, .int k]) ++ List.replicate (3 - (lg_sl ([.long x, .int k])).length) Slot.unset).toArray = ls at hl ⊢
  have hl : lv_has ls 3 [(0, .long (x)), (2, .int (k))] := hl
  refine lv_lload_n hx hb dX1_turned_0 rfl (lv_at hl 0 rfl) ?_
  refine lv_iload_n hx hb dX1_turned_1 rfl (lv_at hl 1 rfl) ?_
  refine lv_lshl (v := sh_L (x) (k)) hx hb dX1_turned_2 rfl ?_
  refine lv_lload_n hx hb dX1_turned_3 rfl (lv_at hl 0 rfl) ?_
  refine lv_bipush (v := 64) hx hb dX1_turned_4 (by decide) ?_
  refine lv_iload_n hx hb dX1_turned_6 rfl (lv_at hl 1 rfl) ?_
  refine lv_isub hx hb dX1_turned_7 ?_
  refine lv_lushr (v := sh_U (x) ((64 - k))) hx hb dX1_turned_8 rfl ?_
  refine lv_lor hx hb dX1_turned_9 ?_
  exact W.lret (v := ((sh_L (x) (k)) ||| (sh_U (x) ((64 - k))))) hx hb hr (fun t ht _ => ⟨congrArg (fun z => Outcome.returned (some (Value.long z))) (rfl), ht⟩) (fun _ h => by cases h) dX1_turned_10
set_option maxHeartbeats 4000000 in
set_option maxRecDepth 100000 in
theorem c_M_join (l : Launch) (h : Int64) (x : Int64) : Met l yX1_join wsM_join ({ frames := 1, cells := 0, slots := 0, locals := 22 } : Room) (va_Pc [.long h, .long x] (fun _ => True)) (k2_QcV (.long (wi_wl h x))) 0 0 (fun _ => False) := by
  refine Met.ofW (cc := cX1_join) (maxL := 4) (ret := some .long) (by decide) rfl ?_
  intro p e s m args below meth c s₁ B hml hv
  obtain ⟨rfl, hv⟩ := hv
  have hx := B.exec
  have hb := B.bytes
  have hr := B.returns
  have hts := atoms_spec (ws := wsM_join) B.pre
  have hown : s.vm.findClass RX1 = some m.cls := findClass_of_methodNamed B.named
  have hlocks := B.notSynchronized
  have hl := lv_entry ([.long h, .long x]) (n := 4) (Nat.le_of_ble_eq_true rfl)
  rw [lg_entry_eq]
  generalize (lg_sl ([.long h, .long x]) ++ List.replicate (4 - (lg_sl ([.long h, .long x])).length) Slot.unset).toArray = ls at hl ⊢
  have hl : lv_has ls 4 [(0, .long (h)), (2, .long (x))] := hl
  refine lv_lload_n hx hb dX1_join_0 rfl (lv_at hl 0 rfl) ?_
  refine lv_lload_n hx hb dX1_join_1 rfl (lv_at hl 1 rfl) ?_
  refine lv_ldc2 (v := -4417276706812531889) hx hb hown (hts (.constantLong RX1 56 (-4417276706812531889)) (wsM_self _ (wsM_nin (by decide +kernel)))) dX1_join_2 ?_
  refine lv_lmul hx hb dX1_join_5 ?_
  refine lv_bipush (v := 31) hx hb dX1_join_6 (by decide) ?_
  refine q_S (As := [.long ((x * (-4417276706812531889))), .int (31)]) (rest := [.long (h)]) ⟨hx, hb, hml, hown, hts⟩ (c_M_turned l ((x * (-4417276706812531889))) (31)) (va_cwS 2 hts gX1_join_X1_turned rfl rfl rfl (by decide +kernel) ⟨Nat.le_of_ble_eq_true rfl, Nat.le_of_ble_eq_true rfl⟩) rfl hl.1 rfl (Nat.le_of_ble_eq_true rfl) dX1_join_8 ⟨Nat.zero_le _, Nat.zero_le _⟩ ?_
  refine lv_ldc2 (v := -7046029288634856825) hx hb hown (hts (.constantLong RX1 62 (-7046029288634856825)) (wsM_self _ (wsM_nin (by decide +kernel)))) dX1_join_11 ?_
  refine lv_lmul hx hb dX1_join_14 ?_
  refine lv_lxor hx hb dX1_join_15 ?_
  refine lv_ldc2 (v := -7046029288634856825) hx hb hown (hts (.constantLong RX1 62 (-7046029288634856825)) (wsM_self _ (wsM_nin (by decide +kernel)))) dX1_join_16 ?_
  refine lv_lmul hx hb dX1_join_19 ?_
  refine lv_ldc2 (v := -8796714831421723037) hx hb hown (hts (.constantLong RX1 64 (-8796714831421723037)) (wsM_self _ (wsM_nin (by decide +kernel)))) dX1_join_20 ?_
  refine lv_ladd hx hb dX1_join_23 ?_
  exact W.lret (v := (((h ^^^ ((wi_rt ((x * (-4417276706812531889))) 31) * (-7046029288634856825))) * (-7046029288634856825)) + (-8796714831421723037))) hx hb hr (fun t ht _ => ⟨congrArg (fun z => Outcome.returned (some (Value.long z))) (by unfold wi_wl; rw [wi_ln0]), ht⟩) (fun _ h => by cases h) dX1_join_24
set_option maxHeartbeats 4000000 in
set_option maxRecDepth 100000 in
theorem c_M_right (l : Launch) (r : Int32) : Met l yX1_right wsM_right ({ frames := 0, cells := 0, slots := 0, locals := 0 } : Room) (va_Pc [.int r] (fun _ => True)) (k2_QcV (.int (cr_r r))) 0 0 (fun _ => False) := by
  refine Met.ofW (cc := cX1_right) (maxL := 1) (ret := some .int) (by decide) rfl ?_
  intro p e s m args below meth c s₁ B hml hv
  obtain ⟨rfl, hv⟩ := hv
  have hx := B.exec
  have hb := B.bytes
  have hr := B.returns
  have hts := atoms_spec (ws := wsM_right) B.pre
  have hown : s.vm.findClass RX1 = some m.cls := findClass_of_methodNamed B.named
  have hlocks := B.notSynchronized
  have hl := lv_entry ([.int r]) (n := 1) (Nat.le_of_ble_eq_true rfl)
  rw [lg_entry_eq]
  generalize (lg_sl ([.int r]) ++ List.replicate (1 - (lg_sl ([.int r])).length) Slot.unset).toArray = ls at hl ⊢
  have hl : lv_has ls 1 [(0, .int (r))] := hl
  refine lv_iload_n hx hb dX1_right_0 rfl (lv_at hl 0 rfl) ?_
  refine lv_iconst (v := 1) hx hb dX1_right_1 (by decide) ?_
  refine lv_iand hx hb dX1_right_2 ?_
  refine lv_if_ne (tgt := 12) hx hb dX1_right_3 (by decide) (fun c_3 => ?_) (fun c_3 => ?_)
  · refine lv_iload_n hx hb dX1_right_12 rfl (lv_at hl 0 rfl) ?_
    refine lv_iconst (v := 1) hx hb dX1_right_13 (by decide) ?_
    refine lv_iushr (v := sh_u (r) (1)) hx hb dX1_right_14 rfl ?_
    refine lv_ldc (v := -2097792136) hx hb hown (hts (.constant RX1 85 (-2097792136)) (wsM_self _ (wsM_nin (by decide +kernel)))) dX1_right_15 ?_
    refine lv_ixor hx hb dX1_right_17 ?_
    exact W.iret (v := ((sh_u (r) (1)) ^^^ (-2097792136))) hx hb hr (fun t ht _ => ⟨congrArg (fun z => Outcome.returned (some (Value.int z))) (cr_r_f c_3), ht⟩) (fun _ h => by cases h) dX1_right_18
  · refine lv_iload_n hx hb dX1_right_6 rfl (lv_at hl 0 rfl) ?_
    refine lv_iconst (v := 1) hx hb dX1_right_7 (by decide) ?_
    refine lv_iushr (v := sh_u (r) (1)) hx hb dX1_right_8 rfl ?_
    refine lv_goto (tgt := 18) hx hb dX1_right_9 (by decide) ?_
    exact W.iret (v := (sh_u (r) (1))) hx hb hr (fun t ht _ => ⟨congrArg (fun z => Outcome.returned (some (Value.int z))) (cr_r_t c_3), ht⟩) (fun _ h => by cases h) dX1_right_18
set_option maxHeartbeats 4000000 in
set_option maxRecDepth 100000 in
theorem c_M_before (l : Launch) (r : Int32) : Met l yX1_before wsM_before ({ frames := 0, cells := 0, slots := 0, locals := 0 } : Room) (va_Pc [.int r] (fun _ => True)) (k2_QcV (.int (cr_b r))) 0 0 (fun _ => False) := by
  refine Met.ofW (cc := cX1_before) (maxL := 1) (ret := some .int) (by decide) rfl ?_
  intro p e s m args below meth c s₁ B hml hv
  obtain ⟨rfl, hv⟩ := hv
  have hx := B.exec
  have hb := B.bytes
  have hr := B.returns
  have hts := atoms_spec (ws := wsM_before) B.pre
  have hown : s.vm.findClass RX1 = some m.cls := findClass_of_methodNamed B.named
  have hlocks := B.notSynchronized
  have hl := lv_entry ([.int r]) (n := 1) (Nat.le_of_ble_eq_true rfl)
  rw [lg_entry_eq]
  generalize (lg_sl ([.int r]) ++ List.replicate (1 - (lg_sl ([.int r])).length) Slot.unset).toArray = ls at hl ⊢
  have hl : lv_has ls 1 [(0, .int (r))] := hl
  refine lv_iload_n hx hb dX1_before_0 rfl (lv_at hl 0 rfl) ?_
  refine lv_if_ge (tgt := 15) hx hb dX1_before_1 (by decide) (fun c_1 => ?_) (fun c_1 => ?_)
  · refine lv_iload_n hx hb dX1_before_15 rfl (lv_at hl 0 rfl) ?_
    refine lv_iconst (v := 1) hx hb dX1_before_16 (by decide) ?_
    refine lv_ishl hx hb dX1_before_17 ?_
    refine q_ti (y := sh_l (r) (1)) rfl ?_
    exact W.iret (v := (sh_l (r) (1))) hx hb hr (fun t ht _ => ⟨congrArg (fun z => Outcome.returned (some (Value.int z))) (cr_b_f c_1), ht⟩) (fun _ h => by cases h) dX1_before_18
  · refine lv_iload_n hx hb dX1_before_4 rfl (lv_at hl 0 rfl) ?_
    refine lv_ldc (v := -2097792136) hx hb hown (hts (.constant RX1 85 (-2097792136)) (wsM_self _ (wsM_nin (by decide +kernel)))) dX1_before_5 ?_
    refine lv_ixor hx hb dX1_before_7 ?_
    refine lv_iconst (v := 1) hx hb dX1_before_8 (by decide) ?_
    refine lv_ishl hx hb dX1_before_9 ?_
    refine q_ti (y := sh_l ((r ^^^ (-2097792136))) (1)) rfl ?_
    refine lv_iconst (v := 1) hx hb dX1_before_10 (by decide) ?_
    refine lv_ior hx hb dX1_before_11 ?_
    refine lv_goto (tgt := 18) hx hb dX1_before_12 (by decide) ?_
    exact W.iret (v := ((sh_l ((r ^^^ (-2097792136))) (1)) ||| 1)) hx hb hr (fun t ht _ => ⟨congrArg (fun z => Outcome.returned (some (Value.int z))) (cr_b_t c_1), ht⟩) (fun _ h => by cases h) dX1_before_18
set_option maxHeartbeats 4000000 in
set_option maxRecDepth 100000 in
theorem c_M_withByte (l : Launch) (r : Int32) (b : Int32) : Met l yX1_withByte wsM_withByte ({ frames := 1, cells := 0, slots := 0, locals := 20 } : Room) (va_Pc [.int r, .int b] (fun _ => True)) (k2_QcV (.int (cr_wb r b 8))) 0 0 (fun _ => False) := by
  refine Met.ofW (cc := cX1_withByte) (maxL := 4) (ret := some .int) (by decide) rfl ?_
  intro p e s m args below meth c s₁ B hml hv
  obtain ⟨rfl, hv⟩ := hv
  have hx := B.exec
  have hb := B.bytes
  have hr := B.returns
  have hts := atoms_spec (ws := wsM_withByte) B.pre
  have hown : s.vm.findClass RX1 = some m.cls := findClass_of_methodNamed B.named
  have hlocks := B.notSynchronized
  have hl := lv_entry ([.int r, .int b]) (n := 4) (Nat.le_of_ble_eq_true rfl)
  rw [lg_entry_eq]
  generalize (lg_sl ([.int r, .int b]) ++ List.replicate (4 - (lg_sl ([.int r, .int b])).length) Slot.unset).toArray = ls at hl ⊢
  have hl : lv_has ls 4 [(0, .int (r)), (1, .int (b))] := hl
  refine lv_iload_n hx hb dX1_withByte_0 rfl (lv_at hl 0 rfl) ?_
  refine lv_istore_n (lv' := [(2, .int (r)), (0, .int (r)), (1, .int (b))]) hx hb dX1_withByte_1 rfl hl (by decide) rfl (fun ls hl => ?_)
  refine lv_iconst (v := 0) hx hb dX1_withByte_2 (by decide) ?_
  refine lv_istore_n (lv' := [(3, .int (0)), (2, .int (r)), (0, .int (r)), (1, .int (b))]) hx hb dX1_withByte_3 rfl hl (by decide) rfl (fun ls hl => ?_)
  have L4 : ∀ (d j : Nat), j + d = 8 → ∀ ls : Array Slot, lv_has ls 4 [(0, .int (r)), (1, .int (b)), (2, .int (cr_wb r b (j))), (3, .int (nI (j)))] → W p l e (headSpec wsM_withByte ({ frames := 1, cells := 0, slots := 0, locals := 20 } : Room)).room s m [Value.int r, .int b].toArray below meth c s.heap [] 0 0 (MQ below (k2_QcV (.int (cr_wb r b 8))) [Value.int r, .int b].toArray s 0 0 (fun _ => False)) (F0 m 4 ls []) := by
    intro d
    induction d with
    | zero =>
      intro j hj ls hl
      obtain rfl : 8 = j := by omega
      refine lv_iload_n hx hb dX1_withByte_4 rfl (lv_at hl 3 rfl) ?_
      refine lv_bipush (v := 8) hx hb dX1_withByte_5 (by decide) ?_
      refine lv_icmp_ge (tgt := 27) hx hb dX1_withByte_7 (by decide) (fun c_7 => ?_) (fun c_7 => ?_)
      · refine lv_iload_n hx hb dX1_withByte_27 rfl (lv_at hl 2 rfl) ?_
        exact W.iret (v := cr_wb r b (8)) hx hb hr (fun t ht _ => ⟨congrArg (fun z => Outcome.returned (some (Value.int z))) (rfl), ht⟩) (fun _ h => by cases h) dX1_withByte_28
      · exact absurd (nI_le (a := 8) (b := 8) (Nat.le_refl _) (by omega)) c_7
    | succ d ih =>
      intro j hj ls hl
      have hjl : j < 8 := by omega
      refine lv_iload_n hx hb dX1_withByte_4 rfl (lv_at hl 3 rfl) ?_
      refine lv_bipush (v := 8) hx hb dX1_withByte_5 (by decide) ?_
      refine lv_icmp_ge (tgt := 27) hx hb dX1_withByte_7 (by decide) (fun c_7 => ?_) (fun c_7 => ?_)
      · exact absurd c_7 (nI_ge (b := 8) hjl (by omega))
      · refine lv_iload_n hx hb dX1_withByte_10 rfl (lv_at hl 2 rfl) ?_
        refine lv_iload_n hx hb dX1_withByte_11 rfl (lv_at hl 1 rfl) ?_
        refine lv_iload_n hx hb dX1_withByte_12 rfl (lv_at hl 3 rfl) ?_
        refine lv_ishr hx hb dX1_withByte_13 ?_
        refine q_ti (y := sh_s (b) (nI (j))) rfl ?_
        refine lv_iconst (v := 1) hx hb dX1_withByte_14 (by decide) ?_
        refine lv_iand hx hb dX1_withByte_15 ?_
        refine lv_ixor hx hb dX1_withByte_16 ?_
        refine q_S (As := [.int ((cr_wb r b (j) ^^^ ((sh_s (b) (nI (j))) &&& 1)))]) (rest := []) ⟨hx, hb, hml, hown, hts⟩ (c_M_right l ((cr_wb r b (j) ^^^ ((sh_s (b) (nI (j))) &&& 1)))) (va_cwS 1 hts gX1_withByte_X1_right rfl rfl rfl (by decide +kernel) ⟨Nat.le_of_ble_eq_true rfl, Nat.le_of_ble_eq_true rfl⟩) rfl hl.1 rfl (Nat.le_of_ble_eq_true rfl) dX1_withByte_17 ⟨Nat.zero_le _, Nat.zero_le _⟩ ?_
        refine q_ti (y := cr_wb r b (j + 1)) (rfl) ?_
        refine lv_istore_n (lv' := [(2, .int (cr_wb r b (j + 1))), (0, .int (r)), (1, .int (b)), (3, .int (nI (j)))]) hx hb dX1_withByte_20 rfl hl (by decide) rfl (fun ls hl => ?_)
        refine lv_iinc (v := nI (j + 1)) (lv' := [(3, .int (nI (j + 1))), (2, .int (cr_wb r b (j + 1))), (0, .int (r)), (1, .int (b))]) hx hb dX1_withByte_21 hl (k := 3) rfl (nI_add j 1) (by decide) rfl (fun ls hl => ?_)
        refine lv_goto (tgt := 4) hx hb dX1_withByte_24 (by decide) ?_
        exact ih (j + 1) (by omega) ls (lv_sub hl [2, 3, 1, 0] rfl)
  exact L4 (8) 0 (by omega) ls (lv_sub hl [2, 3, 1, 0] rfl)
set_option maxHeartbeats 4000000 in
set_option maxRecDepth 100000 in
theorem c_M_back (l : Launch) (r : Int32) (k : Nat) (hk : k < 2 ^ 31) : Met l yX1_back wsM_back ({ frames := 1, cells := 0, slots := 0, locals := 20 } : Room) (va_Pc [.int r, .int (nI k)] (fun _ => True)) (k2_QcV (.int (cr_it cr_b k r))) 0 0 (fun _ => False) := by
  refine Met.ofW (cc := cX1_back) (maxL := 4) (ret := some .int) (by decide) rfl ?_
  intro p e s m args below meth c s₁ B hml hv
  obtain ⟨rfl, hv⟩ := hv
  have hx := B.exec
  have hb := B.bytes
  have hr := B.returns
  have hts := atoms_spec (ws := wsM_back) B.pre
  have hown : s.vm.findClass RX1 = some m.cls := findClass_of_methodNamed B.named
  have hlocks := B.notSynchronized
  have hl := lv_entry ([.int r, .int (nI k)]) (n := 4) (Nat.le_of_ble_eq_true rfl)
  rw [lg_entry_eq]
  generalize (lg_sl ([.int r, .int (nI k)]) ++ List.replicate (4 - (lg_sl ([.int r, .int (nI k)])).length) Slot.unset).toArray = ls at hl ⊢
  have hl : lv_has ls 4 [(0, .int (r)), (1, .int (nI k))] := hl
  refine lv_iload_n hx hb dX1_back_0 rfl (lv_at hl 0 rfl) ?_
  refine lv_istore_n (lv' := [(2, .int (r)), (0, .int (r)), (1, .int (nI k))]) hx hb dX1_back_1 rfl hl (by decide) rfl (fun ls hl => ?_)
  refine lv_iconst (v := 0) hx hb dX1_back_2 (by decide) ?_
  refine lv_istore_n (lv' := [(3, .int (0)), (2, .int (r)), (0, .int (r)), (1, .int (nI k))]) hx hb dX1_back_3 rfl hl (by decide) rfl (fun ls hl => ?_)
  have L4 : ∀ (d j : Nat), j + d = k → ∀ ls : Array Slot, lv_has ls 4 [(0, .int (r)), (1, .int (nI k)), (2, .int (cr_it cr_b (j) r)), (3, .int (nI (j)))] → W p l e (headSpec wsM_back ({ frames := 1, cells := 0, slots := 0, locals := 20 } : Room)).room s m [Value.int r, .int (nI k)].toArray below meth c s.heap [] 0 0 (MQ below (k2_QcV (.int (cr_it cr_b k r))) [Value.int r, .int (nI k)].toArray s 0 0 (fun _ => False)) (F0 m 4 ls []) := by
    intro d
    induction d with
    | zero =>
      intro j hj ls hl
      obtain rfl : k = j := by omega
      refine lv_iload_n hx hb dX1_back_4 rfl (lv_at hl 3 rfl) ?_
      refine lv_iload_n hx hb dX1_back_5 rfl (lv_at hl 1 rfl) ?_
      refine lv_icmp_ge (tgt := 20) hx hb dX1_back_6 (by decide) (fun c_6 => ?_) (fun c_6 => ?_)
      · refine lv_iload_n hx hb dX1_back_20 rfl (lv_at hl 2 rfl) ?_
        exact W.iret (v := cr_it cr_b (k) r) hx hb hr (fun t ht _ => ⟨congrArg (fun z => Outcome.returned (some (Value.int z))) (rfl), ht⟩) (fun _ h => by cases h) dX1_back_21
      · exact absurd (nI_le (Nat.le_refl k) hk) c_6
    | succ d ih =>
      intro j hj ls hl
      have hjl : j < k := by omega
      refine lv_iload_n hx hb dX1_back_4 rfl (lv_at hl 3 rfl) ?_
      refine lv_iload_n hx hb dX1_back_5 rfl (lv_at hl 1 rfl) ?_
      refine lv_icmp_ge (tgt := 20) hx hb dX1_back_6 (by decide) (fun c_6 => ?_) (fun c_6 => ?_)
      · exact absurd c_6 (nI_ge hjl hk)
      · refine lv_iload_n hx hb dX1_back_9 rfl (lv_at hl 2 rfl) ?_
        refine q_S (As := [.int (cr_it cr_b (j) r)]) (rest := []) ⟨hx, hb, hml, hown, hts⟩ (c_M_before l (cr_it cr_b (j) r)) (va_cwS 1 hts gX1_back_X1_before rfl rfl rfl (by decide +kernel) ⟨Nat.le_of_ble_eq_true rfl, Nat.le_of_ble_eq_true rfl⟩) rfl hl.1 rfl (Nat.le_of_ble_eq_true rfl) dX1_back_10 ⟨Nat.zero_le _, Nat.zero_le _⟩ ?_
        refine q_ti (y := cr_it cr_b (j + 1) r) (rfl) ?_
        refine lv_istore_n (lv' := [(2, .int (cr_it cr_b (j + 1) r)), (0, .int (r)), (1, .int (nI k)), (3, .int (nI (j)))]) hx hb dX1_back_13 rfl hl (by decide) rfl (fun ls hl => ?_)
        refine lv_iinc (v := nI (j + 1)) (lv' := [(3, .int (nI (j + 1))), (2, .int (cr_it cr_b (j + 1) r)), (0, .int (r)), (1, .int (nI k))]) hx hb dX1_back_14 hl (k := 3) rfl (nI_add j 1) (by decide) rfl (fun ls hl => ?_)
        refine lv_goto (tgt := 4) hx hb dX1_back_17 (by decide) ?_
        exact ih (j + 1) (by omega) ls (lv_sub hl [2, 3, 1, 0] rfl)
  exact L4 (k) 0 (by omega) ls (lv_sub hl [2, 3, 1, 0] rfl)
set_option maxHeartbeats 4000000 in
set_option maxRecDepth 100000 in
theorem c_M_times (l : Launch) (a : Int32) (b : Int32) : Met l yX1_times wsM_times ({ frames := 1, cells := 0, slots := 0, locals := 20 } : Room) (va_Pc [.int a, .int b] (fun _ => True)) (k2_QcV (.int (cr_mul a b))) 0 0 (fun _ => False) := by
  refine Met.ofW (cc := cX1_times) (maxL := 5) (ret := some .int) (by decide) rfl ?_
  intro p e s m args below meth c s₁ B hml hv
  obtain ⟨rfl, hv⟩ := hv
  have hx := B.exec
  have hb := B.bytes
  have hr := B.returns
  have hts := atoms_spec (ws := wsM_times) B.pre
  have hown : s.vm.findClass RX1 = some m.cls := findClass_of_methodNamed B.named
  have hlocks := B.notSynchronized
  have hl := lv_entry ([.int a, .int b]) (n := 5) (Nat.le_of_ble_eq_true rfl)
  rw [lg_entry_eq]
  generalize (lg_sl ([.int a, .int b]) ++ List.replicate (5 - (lg_sl ([.int a, .int b])).length) Slot.unset).toArray = ls at hl ⊢
  have hl : lv_has ls 5 [(0, .int (a)), (1, .int (b))] := hl
  refine lv_iconst (v := 0) hx hb dX1_times_0 (by decide) ?_
  refine lv_istore_n (lv' := [(2, .int (0)), (0, .int (a)), (1, .int (b))]) hx hb dX1_times_1 rfl hl (by decide) rfl (fun ls hl => ?_)
  refine lv_iload_n hx hb dX1_times_2 rfl (lv_at hl 1 rfl) ?_
  refine lv_istore_n (lv' := [(3, .int (a)), (2, .int (0)), (0, .int (a)), (1, .int (b))]) hx hb dX1_times_3 rfl hl (by decide) rfl (fun ls hl => ?_)
  refine lv_bipush (v := 31) hx hb dX1_times_4 (by decide) ?_
  refine lv_istore (lv' := [(4, .int (31)), (3, .int (a)), (2, .int (0)), (0, .int (a)), (1, .int (b))]) hx hb dX1_times_6 hl (by decide) rfl (fun ls hl => ?_)
  have L8 : ∀ (d j : Nat), j + d = 32 → ∀ ls : Array Slot, lv_has ls 5 [(0, .int (a)), (1, .int (b)), (2, .int (cr_ms a b (j))), (3, .int (cr_it cr_r (j) a)), (4, .int (nI d + (-1)))] → W p l e (headSpec wsM_times ({ frames := 1, cells := 0, slots := 0, locals := 20 } : Room)).room s m [Value.int a, .int b].toArray below meth c s.heap [] 0 0 (MQ below (k2_QcV (.int (cr_mul a b))) [Value.int a, .int b].toArray s 0 0 (fun _ => False)) (F0 m 8 ls []) := by
    intro d
    induction d with
    | zero =>
      intro j hj ls hl
      obtain rfl : 32 = j := by omega
      refine lv_iload hx hb dX1_times_8 (lv_at hl 4 rfl) ?_
      refine lv_if_lt (tgt := 37) hx hb dX1_times_10 (by decide) (fun c_10 => ?_) (fun c_10 => ?_)
      · refine lv_iload_n hx hb dX1_times_37 rfl (lv_at hl 2 rfl) ?_
        exact W.iret (v := cr_ms a b (32)) hx hb hr (fun t ht _ => ⟨congrArg (fun z => Outcome.returned (some (Value.int z))) (rfl), ht⟩) (fun _ h => by cases h) dX1_times_38
      · exact absurd (by decide) c_10
    | succ d ih =>
      intro j hj ls hl
      have hjl : j < 32 := by omega
      have hl : lv_has ls 5 [(0, .int (a)), (1, .int (b)), (2, .int (cr_ms a b (j))), (3, .int (cr_it cr_r (j) a)), (4, .int (nI d))] := q_lv hl (congrArg (fun z => ([(0, .int (a)), (1, .int (b)), (2, .int (cr_ms a b (j))), (3, .int (cr_it cr_r (j) a)), (4, Value.int z)] : List (Nat × Value))) (show (nI (d + 1) + (-1) : Int32) = nI d from pk_m1 d))
      refine lv_iload hx hb dX1_times_8 (lv_at hl 4 rfl) ?_
      refine lv_if_lt (tgt := 37) hx hb dX1_times_10 (by decide) (fun c_10 => ?_) (fun c_10 => ?_)
      · exact absurd c_10 (nI_pos (by omega))
      · refine lv_iload_n hx hb dX1_times_13 rfl (lv_at hl 1 rfl) ?_
        refine lv_iload hx hb dX1_times_14 (lv_at hl 4 rfl) ?_
        refine lv_iushr (v := sh_u (b) (nI d)) hx hb dX1_times_16 rfl ?_
        refine lv_iconst (v := 1) hx hb dX1_times_17 (by decide) ?_
        refine lv_iand hx hb dX1_times_18 ?_
        refine lv_if_eq (tgt := 26) hx hb dX1_times_19 (by decide) (fun c_19 => ?_) (fun c_19 => ?_)
        · refine lv_iload_n hx hb dX1_times_26 rfl (lv_at hl 3 rfl) ?_
          refine q_S (As := [.int (cr_it cr_r (j) a)]) (rest := []) ⟨hx, hb, hml, hown, hts⟩ (c_M_right l (cr_it cr_r (j) a)) (va_cwS 1 hts gX1_times_X1_right rfl rfl rfl (by decide +kernel) ⟨Nat.le_of_ble_eq_true rfl, Nat.le_of_ble_eq_true rfl⟩) rfl hl.1 rfl (Nat.le_of_ble_eq_true rfl) dX1_times_27 ⟨Nat.zero_le _, Nat.zero_le _⟩ ?_
          refine q_ti (y := cr_it cr_r (j + 1) a) (rfl) ?_
          refine lv_istore_n (lv' := [(3, .int (cr_it cr_r (j + 1) a)), (0, .int (a)), (1, .int (b)), (2, .int (cr_ms a b (j))), (4, .int (nI d))]) hx hb dX1_times_30 rfl hl (by decide) rfl (fun ls hl => ?_)
          refine lv_iinc (v := nI d + (-1)) (lv' := [(4, .int (nI d + (-1))), (3, .int (cr_it cr_r (j + 1) a)), (0, .int (a)), (1, .int (b)), (2, .int (cr_ms a b (j)))]) hx hb dX1_times_31 hl (k := 4) rfl (congrArg (nI d + ·) (show Int32.ofInt (-1) = -1 by decide)) (by decide) rfl (fun ls hl => ?_)
          refine lv_goto (tgt := 8) hx hb dX1_times_34 (by decide) ?_
          have hl : lv_has ls 5 [(4, .int (nI d + (-1))), (3, .int (cr_it cr_r (j + 1) a)), (0, .int (a)), (1, .int (b)), (2, .int (cr_ms a b (j + 1)))] := q_lv hl (congrArg (fun z => ([(4, .int (nI d + (-1))), (3, .int (cr_it cr_r (j + 1) a)), (0, .int (a)), (1, .int (b)), (2, Value.int z)] : List (Nat × Value))) (show (cr_ms a b (j) : Int32) = cr_ms a b (j + 1) from cr_ms_nobit hj c_19))
          exact ih (j + 1) (by omega) ls (lv_sub hl [2, 3, 4, 1, 0] rfl)
        · refine lv_iload_n hx hb dX1_times_22 rfl (lv_at hl 2 rfl) ?_
          refine lv_iload_n hx hb dX1_times_23 rfl (lv_at hl 3 rfl) ?_
          refine lv_ixor hx hb dX1_times_24 ?_
          refine q_ti (y := cr_ms a b (j + 1)) (cr_ms_bit hj c_19) ?_
          refine lv_istore_n (lv' := [(2, .int (cr_ms a b (j + 1))), (0, .int (a)), (1, .int (b)), (3, .int (cr_it cr_r (j) a)), (4, .int (nI d))]) hx hb dX1_times_25 rfl hl (by decide) rfl (fun ls hl => ?_)
          refine lv_iload_n hx hb dX1_times_26 rfl (lv_at hl 3 rfl) ?_
          refine q_S (As := [.int (cr_it cr_r (j) a)]) (rest := []) ⟨hx, hb, hml, hown, hts⟩ (c_M_right l (cr_it cr_r (j) a)) (va_cwS 1 hts gX1_times_X1_right rfl rfl rfl (by decide +kernel) ⟨Nat.le_of_ble_eq_true rfl, Nat.le_of_ble_eq_true rfl⟩) rfl hl.1 rfl (Nat.le_of_ble_eq_true rfl) dX1_times_27 ⟨Nat.zero_le _, Nat.zero_le _⟩ ?_
          refine q_ti (y := cr_it cr_r (j + 1) a) (rfl) ?_
          refine lv_istore_n (lv' := [(3, .int (cr_it cr_r (j + 1) a)), (2, .int (cr_ms a b (j + 1))), (0, .int (a)), (1, .int (b)), (4, .int (nI d))]) hx hb dX1_times_30 rfl hl (by decide) rfl (fun ls hl => ?_)
          refine lv_iinc (v := nI d + (-1)) (lv' := [(4, .int (nI d + (-1))), (3, .int (cr_it cr_r (j + 1) a)), (2, .int (cr_ms a b (j + 1))), (0, .int (a)), (1, .int (b))]) hx hb dX1_times_31 hl (k := 4) rfl (congrArg (nI d + ·) (show Int32.ofInt (-1) = -1 by decide)) (by decide) rfl (fun ls hl => ?_)
          refine lv_goto (tgt := 8) hx hb dX1_times_34 (by decide) ?_
          exact ih (j + 1) (by omega) ls (lv_sub hl [3, 4, 2, 1, 0] rfl)
  have hl : lv_has ls 5 [(4, .int (nI 32 + (-1))), (3, .int (a)), (2, .int (0)), (0, .int (a)), (1, .int (b))] := q_lv hl (congrArg (fun z => ([(4, Value.int z), (3, .int (a)), (2, .int (0)), (0, .int (a)), (1, .int (b))] : List (Nat × Value))) (show (31 : Int32) = nI 32 + (-1) from by decide))
  exact L8 (32) 0 (by omega) ls (lv_sub hl [3, 4, 2, 1, 0] rfl)
set_option maxHeartbeats 4000000 in
set_option maxRecDepth 100000 in
theorem c_M_power (l : Launch) (b : Int32) (ex : Int64) : Met l yX1_power wsM_power ({ frames := 2, cells := 0, slots := 0, locals := 44 } : Room) (va_Pc [.int b, .long ex] (fun _ => True)) (k2_QcV (.int (cr_pw b (ex.toBitVec.toNat)))) 0 0 (fun _ => False) := by
  refine Met.ofW (cc := cX1_power) (maxL := 5) (ret := some .int) (by decide) rfl ?_
  intro p e s m args below meth c s₁ B hml hv
  obtain ⟨rfl, hv⟩ := hv
  have hx := B.exec
  have hb := B.bytes
  have hr := B.returns
  have hts := atoms_spec (ws := wsM_power) B.pre
  have hown : s.vm.findClass RX1 = some m.cls := findClass_of_methodNamed B.named
  have hlocks := B.notSynchronized
  have hl := lv_entry ([.int b, .long ex]) (n := 5) (Nat.le_of_ble_eq_true rfl)
  rw [lg_entry_eq]
  generalize (lg_sl ([.int b, .long ex]) ++ List.replicate (5 - (lg_sl ([.int b, .long ex])).length) Slot.unset).toArray = ls at hl ⊢
  have hl : lv_has ls 5 [(0, .int (b)), (1, .long (ex))] := hl
  refine lv_ldc (v := -2147483648) hx hb hown (hts (.constant RX1 99 (-2147483648)) (wsM_self _ (wsM_nin (by decide +kernel)))) dX1_power_0 ?_
  refine lv_istore_n (lv' := [(3, .int ((-2147483648))), (0, .int (b)), (1, .long (ex))]) hx hb dX1_power_2 rfl hl (by decide) rfl (fun ls hl => ?_)
  refine lv_bipush (v := 63) hx hb dX1_power_3 (by decide) ?_
  refine lv_istore (lv' := [(4, .int (63)), (3, .int ((-2147483648))), (0, .int (b)), (1, .long (ex))]) hx hb dX1_power_5 hl (by decide) rfl (fun ls hl => ?_)
  have L7 : ∀ (d j : Nat), j + d = 64 → ∀ ls : Array Slot, lv_has ls 5 [(0, .int (b)), (1, .long (ex)), (3, .int (cr_pw b (ex.toBitVec.toNat / 2 ^ d))), (4, .int (nI d + (-1)))] → W p l e (headSpec wsM_power ({ frames := 2, cells := 0, slots := 0, locals := 44 } : Room)).room s m [Value.int b, .long ex].toArray below meth c s.heap [] 0 0 (MQ below (k2_QcV (.int (cr_pw b (ex.toBitVec.toNat)))) [Value.int b, .long ex].toArray s 0 0 (fun _ => False)) (F0 m 7 ls []) := by
    intro d
    induction d with
    | zero =>
      intro j hj ls hl
      obtain rfl : 64 = j := by omega
      refine lv_iload hx hb dX1_power_7 (lv_at hl 3 rfl) ?_
      refine lv_if_lt (tgt := 41) hx hb dX1_power_9 (by decide) (fun c_9 => ?_) (fun c_9 => ?_)
      · refine lv_iload_n hx hb dX1_power_41 rfl (lv_at hl 2 rfl) ?_
        exact W.iret (v := cr_pw b (ex.toBitVec.toNat / 2 ^ 0)) hx hb hr (fun t ht _ => ⟨congrArg (fun z => Outcome.returned (some (Value.int z))) (by rw [Nat.pow_zero, Nat.div_one]), ht⟩) (fun _ h => by cases h) dX1_power_42
      · exact absurd (by decide) c_9
    | succ d ih =>
      intro j hj ls hl
      have hjl : j < 64 := by omega
      have hl : lv_has ls 5 [(0, .int (b)), (1, .long (ex)), (3, .int (cr_pw b (ex.toBitVec.toNat / 2 ^ (d + 1)))), (4, .int (nI d))] := q_lv hl (congrArg (fun z => ([(0, .int (b)), (1, .long (ex)), (3, .int (cr_pw b (ex.toBitVec.toNat / 2 ^ (d + 1)))), (4, Value.int z)] : List (Nat × Value))) (show (nI (d + 1) + (-1) : Int32) = nI d from pk_m1 d))
      refine lv_iload hx hb dX1_power_7 (lv_at hl 3 rfl) ?_
      refine lv_if_lt (tgt := 41) hx hb dX1_power_9 (by decide) (fun c_9 => ?_) (fun c_9 => ?_)
      · exact absurd c_9 (nI_pos (by omega))
      · refine lv_iload_n hx hb dX1_power_12 rfl (lv_at hl 2 rfl) ?_
        refine lv_iload_n hx hb dX1_power_13 rfl (lv_at hl 2 rfl) ?_
        refine q_S (As := [.int (cr_pw b (ex.toBitVec.toNat / 2 ^ (d + 1))), .int (cr_pw b (ex.toBitVec.toNat / 2 ^ (d + 1)))]) (rest := []) ⟨hx, hb, hml, hown, hts⟩ (c_M_times l (cr_pw b (ex.toBitVec.toNat / 2 ^ (d + 1))) (cr_pw b (ex.toBitVec.toNat / 2 ^ (d + 1)))) (va_cwS 2 hts gX1_power_X1_times rfl rfl rfl (by decide +kernel) ⟨Nat.le_of_ble_eq_true rfl, Nat.le_of_ble_eq_true rfl⟩) rfl hl.1 rfl (Nat.le_of_ble_eq_true rfl) dX1_power_14 ⟨Nat.zero_le _, Nat.zero_le _⟩ ?_
        refine q_ti (y := cr_pw b (2 * (ex.toBitVec.toNat / 2 ^ (d + 1)))) (pw_dbl _ _) ?_
        refine lv_istore_n (lv' := [(3, .int (cr_pw b (2 * (ex.toBitVec.toNat / 2 ^ (d + 1))))), (0, .int (b)), (1, .long (ex)), (4, .int (nI d))]) hx hb dX1_power_17 rfl hl (by decide) rfl (fun ls hl => ?_)
        refine lv_lload_n hx hb dX1_power_18 rfl (lv_at hl 2 rfl) ?_
        refine lv_iload hx hb dX1_power_19 (lv_at hl 3 rfl) ?_
        refine lv_lushr (v := sh_U (ex) (nI d)) hx hb dX1_power_21 rfl ?_
        refine lv_lconst (v := 1) hx hb dX1_power_22 (by decide) ?_
        refine lv_land hx hb dX1_power_23 ?_
        refine lv_lconst (v := 0) hx hb dX1_power_24 (by decide) ?_
        refine W.lcmp hx hb dX1_power_25 ?_
        refine lv_if_eq (tgt := 35) hx hb dX1_power_26 (by decide) (fun c_26 => ?_) (fun c_26 => ?_)
        · refine lv_iinc (v := nI d + (-1)) (lv' := [(4, .int (nI d + (-1))), (3, .int (cr_pw b (2 * (ex.toBitVec.toNat / 2 ^ (d + 1))))), (0, .int (b)), (1, .long (ex))]) hx hb dX1_power_35 hl (k := 3) rfl (congrArg (nI d + ·) (show Int32.ofInt (-1) = -1 by decide)) (by decide) rfl (fun ls hl => ?_)
          refine lv_goto (tgt := 7) hx hb dX1_power_38 (by decide) ?_
          have hl : lv_has ls 5 [(4, .int (nI d + (-1))), (3, .int (cr_pw b (ex.toBitVec.toNat / 2 ^ d))), (0, .int (b)), (1, .long (ex))] := q_lv hl (congrArg (fun z => ([(4, .int (nI d + (-1))), (3, Value.int z), (0, .int (b)), (1, .long (ex))] : List (Nat × Value))) (show (cr_pw b (2 * (ex.toBitVec.toNat / 2 ^ (d + 1))) : Int32) = cr_pw b (ex.toBitVec.toNat / 2 ^ d) from pw_dnobit (by omega) c_26))
          exact ih (j + 1) (by omega) ls (lv_sub hl [2, 3, 1, 0] rfl)
        · refine lv_iload_n hx hb dX1_power_29 rfl (lv_at hl 0 rfl) ?_
          refine lv_iload_n hx hb dX1_power_30 rfl (lv_at hl 1 rfl) ?_
          refine q_S (As := [.int (cr_pw b (2 * (ex.toBitVec.toNat / 2 ^ (d + 1)))), .int (b)]) (rest := []) ⟨hx, hb, hml, hown, hts⟩ (c_M_times l (cr_pw b (2 * (ex.toBitVec.toNat / 2 ^ (d + 1)))) (b)) (va_cwS 2 hts gX1_power_X1_times rfl rfl rfl (by decide +kernel) ⟨Nat.le_of_ble_eq_true rfl, Nat.le_of_ble_eq_true rfl⟩) rfl hl.1 rfl (Nat.le_of_ble_eq_true rfl) dX1_power_31 ⟨Nat.zero_le _, Nat.zero_le _⟩ ?_
          refine q_ti (y := cr_pw b (ex.toBitVec.toNat / 2 ^ d)) (pw_dbit (by omega) c_26) ?_
          refine lv_istore_n (lv' := [(3, .int (cr_pw b (ex.toBitVec.toNat / 2 ^ d))), (0, .int (b)), (1, .long (ex)), (4, .int (nI d))]) hx hb dX1_power_34 rfl hl (by decide) rfl (fun ls hl => ?_)
          refine lv_iinc (v := nI d + (-1)) (lv' := [(4, .int (nI d + (-1))), (3, .int (cr_pw b (ex.toBitVec.toNat / 2 ^ d))), (0, .int (b)), (1, .long (ex))]) hx hb dX1_power_35 hl (k := 3) rfl (congrArg (nI d + ·) (show Int32.ofInt (-1) = -1 by decide)) (by decide) rfl (fun ls hl => ?_)
          refine lv_goto (tgt := 7) hx hb dX1_power_38 (by decide) ?_
          exact ih (j + 1) (by omega) ls (lv_sub hl [2, 3, 1, 0] rfl)
  have hl : lv_has ls 5 [(4, .int (63)), (3, .int (cr_pw b (ex.toBitVec.toNat / 2 ^ 64))), (0, .int (b)), (1, .long (ex))] := q_lv hl (congrArg (fun z => ([(4, .int (63)), (3, Value.int z), (0, .int (b)), (1, .long (ex))] : List (Nat × Value))) (show ((-2147483648) : Int32) = cr_pw b (ex.toBitVec.toNat / 2 ^ 64) from (show cr_pw b _ = _ by rw [Nat.div_eq_of_lt ex.toBitVec.isLt]; rfl).symm))
  have hl : lv_has ls 5 [(4, .int (nI 64 + (-1))), (3, .int (cr_pw b (ex.toBitVec.toNat / 2 ^ 64))), (0, .int (b)), (1, .long (ex))] := q_lv hl (congrArg (fun z => ([(4, Value.int z), (3, .int (cr_pw b (ex.toBitVec.toNat / 2 ^ 64))), (0, .int (b)), (1, .long (ex))] : List (Nat × Value))) (show (63 : Int32) = nI 64 + (-1) from by decide))
  exact L7 (64) 0 (by omega) ls (lv_sub hl [2, 3, 1, 0] rfl)
set_option maxHeartbeats 4000000 in
set_option maxRecDepth 100000 in
theorem c_M_between (l : Launch) (x : Int32) (w : Int32) : Met l yX1_between wsM_between ({ frames := 2, cells := 0, slots := 0, locals := 43 } : Room) (va_Pc [.int x, .int w] (fun _ => True)) (k2_QcV (.int (tu_m (x ^^^ cr_it cr_b 32 w)))) 0 0 (fun _ => False) := by
  refine Met.ofW (cc := cX1_between) (maxL := 3) (ret := some .int) (by decide) rfl ?_
  intro p e s m args below meth c s₁ B hml hv
  obtain ⟨rfl, hv⟩ := hv
  have hx := B.exec
  have hb := B.bytes
  have hr := B.returns
  have hts := atoms_spec (ws := wsM_between) B.pre
  have hown : s.vm.findClass RX1 = some m.cls := findClass_of_methodNamed B.named
  have hlocks := B.notSynchronized
  have hl := lv_entry ([.int x, .int w]) (n := 3) (Nat.le_of_ble_eq_true rfl)
  rw [lg_entry_eq]
  generalize (lg_sl ([.int x, .int w]) ++ List.replicate (3 - (lg_sl ([.int x, .int w])).length) Slot.unset).toArray = ls at hl ⊢
  have hl : lv_has ls 3 [(0, .int (x)), (1, .int (w))] := hl
  refine lv_iload_n hx hb dX1_between_0 rfl (lv_at hl 0 rfl) ?_
  refine lv_iload_n hx hb dX1_between_1 rfl (lv_at hl 1 rfl) ?_
  refine lv_bipush (v := 32) hx hb dX1_between_2 (by decide) ?_
  refine q_S (As := [.int (w), .int (32)]) (rest := [.int (x)]) ⟨hx, hb, hml, hown, hts⟩ (c_M_back l (w) (32) (by omega)) (va_cwS 2 hts gX1_between_X1_back rfl rfl rfl (by decide +kernel) ⟨Nat.le_of_ble_eq_true rfl, Nat.le_of_ble_eq_true rfl⟩) rfl hl.1 rfl (Nat.le_of_ble_eq_true rfl) dX1_between_4 ⟨Nat.zero_le _, Nat.zero_le _⟩ ?_
  refine lv_ixor hx hb dX1_between_7 ?_
  refine lv_istore_n (lv' := [(2, .int ((x ^^^ (cr_it cr_b 32 w)))), (0, .int (x)), (1, .int (w))]) hx hb dX1_between_8 rfl hl (by decide) rfl (fun ls hl => ?_)
  refine lv_iload_n hx hb dX1_between_9 rfl (lv_at hl 0 rfl) ?_
  refine lv_bipush (v := 24) hx hb dX1_between_10 (by decide) ?_
  refine lv_ishl hx hb dX1_between_12 ?_
  refine q_ti (y := sh_l ((x ^^^ (cr_it cr_b 32 w))) (24)) rfl ?_
  refine lv_iload_n hx hb dX1_between_13 rfl (lv_at hl 0 rfl) ?_
  refine lv_bipush (v := 8) hx hb dX1_between_14 (by decide) ?_
  refine lv_ishr hx hb dX1_between_16 ?_
  refine q_ti (y := sh_s ((x ^^^ (cr_it cr_b 32 w))) (8)) rfl ?_
  refine lv_sipush (v := 255) hx hb dX1_between_17 (by decide) ?_
  refine lv_iand hx hb dX1_between_20 ?_
  refine lv_bipush (v := 16) hx hb dX1_between_21 (by decide) ?_
  refine lv_ishl hx hb dX1_between_23 ?_
  refine q_ti (y := sh_l (((sh_s ((x ^^^ (cr_it cr_b 32 w))) (8)) &&& 255)) (16)) rfl ?_
  refine lv_ior hx hb dX1_between_24 ?_
  refine lv_iload_n hx hb dX1_between_25 rfl (lv_at hl 0 rfl) ?_
  refine lv_bipush (v := 16) hx hb dX1_between_26 (by decide) ?_
  refine lv_ishr hx hb dX1_between_28 ?_
  refine q_ti (y := sh_s ((x ^^^ (cr_it cr_b 32 w))) (16)) rfl ?_
  refine lv_sipush (v := 255) hx hb dX1_between_29 (by decide) ?_
  refine lv_iand hx hb dX1_between_32 ?_
  refine lv_bipush (v := 8) hx hb dX1_between_33 (by decide) ?_
  refine lv_ishl hx hb dX1_between_35 ?_
  refine q_ti (y := sh_l (((sh_s ((x ^^^ (cr_it cr_b 32 w))) (16)) &&& 255)) (8)) rfl ?_
  refine lv_ior hx hb dX1_between_36 ?_
  refine lv_iload_n hx hb dX1_between_37 rfl (lv_at hl 0 rfl) ?_
  refine lv_bipush (v := 24) hx hb dX1_between_38 (by decide) ?_
  refine lv_iushr (v := sh_u ((x ^^^ (cr_it cr_b 32 w))) (24)) hx hb dX1_between_40 rfl ?_
  refine lv_ior hx hb dX1_between_41 ?_
  exact W.iret (v := ((((sh_l ((x ^^^ (cr_it cr_b 32 w))) (24)) ||| (sh_l (((sh_s ((x ^^^ (cr_it cr_b 32 w))) (8)) &&& 255)) (16))) ||| (sh_l (((sh_s ((x ^^^ (cr_it cr_b 32 w))) (16)) &&& 255)) (8))) ||| (sh_u ((x ^^^ (cr_it cr_b 32 w))) (24)))) hx hb hr (fun t ht _ => ⟨congrArg (fun z => Outcome.returned (some (Value.int z))) (rfl), ht⟩) (fun _ h => by cases h) dX1_between_42
end
section
set_option maxHeartbeats 4000000 in
set_option maxRecDepth 100000 in
theorem c_X_size (l : Launch) (dC : Nat → ClassId) (dI : Nat → Nat → Nat) (h0 a0 a1 : Nat) (cB cI : ClassId) (n : Nat) (ns : Int32) (wd : Int64) (f g : Nat → Int32) : Met l yX0_size wsX0_size ({ frames := 0, cells := 0, slots := 0, locals := 0 } : Room) (va_Pc [.ref h0] (xW dC dI h0 a0 a1 cB cI n ns wd f g)) (k2_QcV (.int (nI n))) 0 0 (fun _ => False) := by
  refine Met.ofW (cc := cX0_size) (maxL := 1) (ret := some .int) (by decide) rfl ?_
  intro p e s m args below meth c s₁ B hml hv
  obtain ⟨rfl, hP, hK⟩ := hv
  have hx := B.exec
  have hb := B.bytes
  have hr := B.returns
  have hts := atoms_spec (ws := wsX0_size) B.pre
  have hown : s.vm.findClass RX0 = some m.cls := findClass_of_methodNamed B.named
  have hlocks := B.notSynchronized
  have hin : ∀ w ∈ u_ws RX0 TX0 5, w ∈ wsX0_size := by decide +kernel
  have hl := lv_entry ([.ref h0]) (n := 1) (Nat.le_of_ble_eq_true rfl)
  rw [lg_entry_eq]
  generalize (lg_sl ([.ref h0]) ++ List.replicate (1 - (lg_sl ([.ref h0])).length) Slot.unset).toArray = ls at hl ⊢
  have hl : lv_has ls 1 [(0, .ref h0)] := hl
  refine lv_aload_n hx hb dX0_size_0 rfl (lv_at hl 0 rfl) ?_
  refine va_get (D := (dC, dI)) (ci := 0) (v := .int (nI n)) (C := RX0) (T := TX0) (N := 5) hx hb hts hin hown hK hP 0 rfl rfl 2 (by decide) (hts (.fieldLink RX0 22 "StreamSums" "count" "I") (by decide +kernel)) (fun _ h9 => h9) rfl dX0_size_1 ?_
  exact W.iret (v := nI n) hx hb hr (fun t ht _ => ⟨congrArg (fun z => Outcome.returned (some (Value.int z))) (rfl), ht⟩) (fun _ h => by cases h) dX0_size_4
set_option maxHeartbeats 4000000 in
set_option maxRecDepth 100000 in
theorem c_X_byteAt (l : Launch) (dC : Nat → ClassId) (dI : Nat → Nat → Nat) (h0 a0 a1 : Nat) (cB cI : ClassId) (n : Nat) (ns : Int32) (wd : Int64) (f g : Nat → Int32) (k : Int32) (hn : n ≤ 65536) : Met l yX0_byteAt wsX0_byteAt ({ frames := 0, cells := 0, slots := 0, locals := 0 } : Room) (va_Pc [.ref h0, .int k] (xW dC dI h0 a0 a1 cB cI n ns wd f g)) (k2_QcV (.int (by_at n f k))) 0 0 (fun _ => False) := by
  refine Met.ofW (cc := cX0_byteAt) (maxL := 2) (ret := some .int) (by decide) rfl ?_
  intro p e s m args below meth c s₁ B hml hv
  obtain ⟨rfl, hP, hK⟩ := hv
  have hx := B.exec
  have hb := B.bytes
  have hr := B.returns
  have hts := atoms_spec (ws := wsX0_byteAt) B.pre
  have hown : s.vm.findClass RX0 = some m.cls := findClass_of_methodNamed B.named
  have hlocks := B.notSynchronized
  have hin : ∀ w ∈ u_ws RX0 TX0 5, w ∈ wsX0_byteAt := by decide +kernel
  have hl := lv_entry ([.ref h0, .int k]) (n := 2) (Nat.le_of_ble_eq_true rfl)
  rw [lg_entry_eq]
  generalize (lg_sl ([.ref h0, .int k]) ++ List.replicate (2 - (lg_sl ([.ref h0, .int k])).length) Slot.unset).toArray = ls at hl ⊢
  have hl : lv_has ls 2 [(0, .ref h0), (1, .int (k))] := hl
  refine lv_iload_n hx hb dX0_byteAt_0 rfl (lv_at hl 1 rfl) ?_
  refine lv_if_lt (tgt := 25) hx hb dX0_byteAt_1 (by decide) (fun c_1 => ?_) (fun c_1 => ?_)
  · refine lv_iconst (v := -1) hx hb dX0_byteAt_25 (by decide) ?_
    exact W.iret (v := (-1)) hx hb hr (fun t ht _ => ⟨congrArg (fun z => Outcome.returned (some (Value.int z))) (by unfold by_at; rw [if_pos c_1]), ht⟩) (fun _ h => by cases h) dX0_byteAt_26
  · obtain ⟨j, hj, hkj⟩ := nI_of c_1
    refine lv_iload_n hx hb dX0_byteAt_4 rfl (lv_at hl 1 rfl) ?_
    refine lv_aload_n hx hb dX0_byteAt_5 rfl (lv_at hl 0 rfl) ?_
    refine va_get (D := (dC, dI)) (ci := 0) (v := .int (nI n)) (C := RX0) (T := TX0) (N := 5) hx hb hts hin hown hK hP 0 rfl rfl 2 (by decide) (hts (.fieldLink RX0 22 "StreamSums" "count" "I") (by decide +kernel)) (fun _ h9 => h9) rfl dX0_byteAt_6 ?_
    refine lv_icmp_ge (tgt := 25) hx hb dX0_byteAt_9 (by decide) (fun c_9 => ?_) (fun c_9 => ?_)
    · refine lv_iconst (v := -1) hx hb dX0_byteAt_25 (by decide) ?_
      exact W.iret (v := (-1)) hx hb hr (fun t ht _ => ⟨congrArg (fun z => Outcome.returned (some (Value.int z))) (by unfold by_at; rw [if_neg c_1, if_pos c_9]), ht⟩) (fun _ h => by cases h) dX0_byteAt_26
    · have hjn : j < n := by
        rw [hkj, nI_leI (by omega) hj] at c_9
        omega
      refine lv_aload_n hx hb dX0_byteAt_12 rfl (lv_at hl 0 rfl) ?_
      refine va_get (D := (dC, dI)) (ci := 0) (v := .ref a0) (C := RX0) (T := TX0) (N := 5) hx hb hts hin hown hK hP 0 rfl rfl 0 (by decide) (hts (.fieldLink RX0 10 "StreamSums" "bytes" "[B") (by decide +kernel)) (fun _ h9 => h9) rfl dX0_byteAt_13 ?_
      refine lv_iload_n hx hb dX0_byteAt_16 rfl (lv_at hl 1 rfl) ?_
      refine q_bald (j := j) hx hb hK hP 1 0 rfl rfl hkj (by omega) (by omega) dX0_byteAt_17 ?_
      refine lv_sipush (v := 255) hx hb dX0_byteAt_18 (by decide) ?_
      refine lv_iand hx hb dX0_byteAt_21 ?_
      refine lv_goto (tgt := 26) hx hb dX0_byteAt_22 (by decide) ?_
      exact W.iret (v := ((f (j)) &&& 255)) hx hb hr (fun t ht _ => ⟨congrArg (fun z => Outcome.returned (some (Value.int z))) (by unfold by_at; rw [if_neg c_1, if_neg (by rw [hkj]; exact nI_ge hjn (by omega)), hkj, nI_clamp hj]), ht⟩) (fun _ h => by cases h) dX0_byteAt_26
set_option maxHeartbeats 4000000 in
set_option maxRecDepth 100000 in
theorem c_X_byteIn (l : Launch) (dC : Nat → ClassId) (dI : Nat → Nat → Nat) (h0 a0 a1 : Nat) (cB cI : ClassId) (n : Nat) (ns : Int32) (wd : Int64) (f g : Nat → Int32) (j : Nat) (hj : j < n) (hn : n ≤ 65536) : Met l yX0_byteAt wsX0_byteAt ({ frames := 0, cells := 0, slots := 0, locals := 0 } : Room) (va_Pc [.ref h0, .int (nI j)] (xW dC dI h0 a0 a1 cB cI n ns wd f g)) (k2_QcV (.int (f j &&& 255))) 0 0 (fun _ => False) := by
  have h := c_X_byteAt l dC dI h0 a0 a1 cB cI n ns wd f g (nI j) hn
  rw [by_in hj (by omega)] at h
  exact h
set_option maxHeartbeats 4000000 in
set_option maxRecDepth 100000 in
theorem c_X_isPart (l : Launch) (dC : Nat → ClassId) (dI : Nat → Nat → Nat) (h0 a0 a1 : Nat) (cB cI : ClassId) (n : Nat) (ns : Int32) (wd : Int64) (f g : Nat → Int32) (x : Int32) (y : Int32) : Met l yX0_isPart wsX0_isPart ({ frames := 0, cells := 0, slots := 0, locals := 0 } : Room) (va_Pc [.ref h0, .int x, .int y] (xW dC dI h0 a0 a1 cB cI n ns wd f g)) (k2_QcV (.int (pt_n n x y))) 0 0 (fun _ => False) := by
  refine Met.ofW (cc := cX0_isPart) (maxL := 3) (ret := some .boolean) (by decide) rfl ?_
  intro p e s m args below meth c s₁ B hml hv
  obtain ⟨rfl, hP, hK⟩ := hv
  have hx := B.exec
  have hb := B.bytes
  have hr := B.returns
  have hts := atoms_spec (ws := wsX0_isPart) B.pre
  have hown : s.vm.findClass RX0 = some m.cls := findClass_of_methodNamed B.named
  have hlocks := B.notSynchronized
  have hin : ∀ w ∈ u_ws RX0 TX0 5, w ∈ wsX0_isPart := by decide +kernel
  have hl := lv_entry ([.ref h0, .int x, .int y]) (n := 3) (Nat.le_of_ble_eq_true rfl)
  rw [lg_entry_eq]
  generalize (lg_sl ([.ref h0, .int x, .int y]) ++ List.replicate (3 - (lg_sl ([.ref h0, .int x, .int y])).length) Slot.unset).toArray = ls at hl ⊢
  have hl : lv_has ls 3 [(0, .ref h0), (1, .int (x)), (2, .int (y))] := hl
  refine lv_iconst (v := 0) hx hb dX0_isPart_0 (by decide) ?_
  refine lv_iload_n hx hb dX0_isPart_1 rfl (lv_at hl 1 rfl) ?_
  refine lv_icmp_gt (tgt := 22) hx hb dX0_isPart_2 (by decide) (fun c_2 => ?_) (fun c_2 => ?_)
  · refine lv_iconst (v := 0) hx hb dX0_isPart_22 (by decide) ?_
    exact W.zret (v := 0) hx hb hr (by decide) (fun t ht _ => ⟨congrArg (fun z => Outcome.returned (some (Value.int z))) (by unfold pt_n; rw [if_pos c_2]), ht⟩) (fun _ h => by cases h) dX0_isPart_23
  · refine lv_iload_n hx hb dX0_isPart_5 rfl (lv_at hl 1 rfl) ?_
    refine lv_iload_n hx hb dX0_isPart_6 rfl (lv_at hl 2 rfl) ?_
    refine lv_icmp_gt (tgt := 22) hx hb dX0_isPart_7 (by decide) (fun c_7 => ?_) (fun c_7 => ?_)
    · refine lv_iconst (v := 0) hx hb dX0_isPart_22 (by decide) ?_
      exact W.zret (v := 0) hx hb hr (by decide) (fun t ht _ => ⟨congrArg (fun z => Outcome.returned (some (Value.int z))) (by unfold pt_n; rw [if_neg c_2, if_pos c_7]), ht⟩) (fun _ h => by cases h) dX0_isPart_23
    · refine lv_iload_n hx hb dX0_isPart_10 rfl (lv_at hl 2 rfl) ?_
      refine lv_aload_n hx hb dX0_isPart_11 rfl (lv_at hl 0 rfl) ?_
      refine va_get (D := (dC, dI)) (ci := 0) (v := .int (nI n)) (C := RX0) (T := TX0) (N := 5) hx hb hts hin hown hK hP 0 rfl rfl 2 (by decide) (hts (.fieldLink RX0 22 "StreamSums" "count" "I") (by decide +kernel)) (fun _ h9 => h9) rfl dX0_isPart_12 ?_
      refine lv_icmp_gt (tgt := 22) hx hb dX0_isPart_15 (by decide) (fun c_15 => ?_) (fun c_15 => ?_)
      · refine lv_iconst (v := 0) hx hb dX0_isPart_22 (by decide) ?_
        exact W.zret (v := 0) hx hb hr (by decide) (fun t ht _ => ⟨congrArg (fun z => Outcome.returned (some (Value.int z))) (by unfold pt_n; rw [if_neg c_2, if_neg c_7, if_pos c_15]), ht⟩) (fun _ h => by cases h) dX0_isPart_23
      · refine lv_iconst (v := 1) hx hb dX0_isPart_18 (by decide) ?_
        refine lv_goto (tgt := 23) hx hb dX0_isPart_19 (by decide) ?_
        exact W.zret (v := 1) hx hb hr (by decide) (fun t ht _ => ⟨congrArg (fun z => Outcome.returned (some (Value.int z))) (by unfold pt_n; rw [if_neg c_2, if_neg c_7, if_neg c_15]), ht⟩) (fun _ h => by cases h) dX0_isPart_23
set_option maxHeartbeats 4000000 in
set_option maxRecDepth 100000 in
theorem c_X_word (l : Launch) (dC : Nat → ClassId) (dI : Nat → Nat → Nat) (h0 a0 a1 : Nat) (cB cI : ClassId) (n : Nat) (ns : Int32) (wd : Int64) (f g : Nat → Int32) (j : Nat) (hj : j ≤ 65532) : Met l yX0_word wsX0_word ({ frames := 0, cells := 0, slots := 0, locals := 0 } : Room) (va_Pc [.ref h0, .int (nI j)] (xW dC dI h0 a0 a1 cB cI n ns wd f g)) (k2_QcV (.int (wo_4 f j))) 0 0 (fun _ => False) := by
  refine Met.ofW (cc := cX0_word) (maxL := 2) (ret := some .int) (by decide) rfl ?_
  intro p e s m args below meth c s₁ B hml hv
  obtain ⟨rfl, hP, hK⟩ := hv
  have hx := B.exec
  have hb := B.bytes
  have hr := B.returns
  have hts := atoms_spec (ws := wsX0_word) B.pre
  have hown : s.vm.findClass RX0 = some m.cls := findClass_of_methodNamed B.named
  have hlocks := B.notSynchronized
  have hin : ∀ w ∈ u_ws RX0 TX0 5, w ∈ wsX0_word := by decide +kernel
  have hl := lv_entry ([.ref h0, .int (nI j)]) (n := 2) (Nat.le_of_ble_eq_true rfl)
  rw [lg_entry_eq]
  generalize (lg_sl ([.ref h0, .int (nI j)]) ++ List.replicate (2 - (lg_sl ([.ref h0, .int (nI j)])).length) Slot.unset).toArray = ls at hl ⊢
  have hl : lv_has ls 2 [(0, .ref h0), (1, .int (nI j))] := hl
  refine lv_iload_n hx hb dX0_word_0 rfl (lv_at hl 1 rfl) ?_
  refine lv_if_lt (tgt := 10) hx hb dX0_word_1 (by decide) (fun c_1 => ?_) (fun c_1 => ?_)
  · exact absurd c_1 (nI_pos (by omega))
  · refine lv_iload_n hx hb dX0_word_4 rfl (lv_at hl 1 rfl) ?_
    refine lv_ldc (v := 65532) hx hb hown (hts (.constant RX0 82 (65532)) (by decide +kernel)) dX0_word_5 ?_
    refine lv_icmp_le (tgt := 12) hx hb dX0_word_7 (by decide) (fun c_7 => ?_) (fun c_7 => ?_)
    · refine lv_aload_n hx hb dX0_word_12 rfl (lv_at hl 0 rfl) ?_
      refine va_get (D := (dC, dI)) (ci := 0) (v := .ref a0) (C := RX0) (T := TX0) (N := 5) hx hb hts hin hown hK hP 0 rfl rfl 0 (by decide) (hts (.fieldLink RX0 10 "StreamSums" "bytes" "[B") (by decide +kernel)) (fun _ h9 => h9) rfl dX0_word_13 ?_
      refine lv_iload_n hx hb dX0_word_16 rfl (lv_at hl 1 rfl) ?_
      refine q_bald (j := j) hx hb hK hP 1 0 rfl rfl rfl (by omega) (by omega) dX0_word_17 ?_
      refine lv_sipush (v := 255) hx hb dX0_word_18 (by decide) ?_
      refine lv_iand hx hb dX0_word_21 ?_
      refine lv_aload_n hx hb dX0_word_22 rfl (lv_at hl 0 rfl) ?_
      refine va_get (D := (dC, dI)) (ci := 0) (v := .ref a0) (C := RX0) (T := TX0) (N := 5) hx hb hts hin hown hK hP 0 rfl rfl 0 (by decide) (hts (.fieldLink RX0 10 "StreamSums" "bytes" "[B") (by decide +kernel)) (fun _ h9 => h9) rfl dX0_word_23 ?_
      refine lv_iload_n hx hb dX0_word_26 rfl (lv_at hl 1 rfl) ?_
      refine lv_iconst (v := 1) hx hb dX0_word_27 (by decide) ?_
      refine lv_iadd hx hb dX0_word_28 ?_
      refine q_ti (y := nI (j + 1)) (nI_add j 1) ?_
      refine q_bald (j := j + 1) hx hb hK hP 1 0 rfl rfl rfl (by omega) (by omega) dX0_word_29 ?_
      refine lv_sipush (v := 255) hx hb dX0_word_30 (by decide) ?_
      refine lv_iand hx hb dX0_word_33 ?_
      refine lv_bipush (v := 8) hx hb dX0_word_34 (by decide) ?_
      refine lv_ishl hx hb dX0_word_36 ?_
      refine q_ti (y := sh_l (((f (j + 1)) &&& 255)) (8)) rfl ?_
      refine lv_ior hx hb dX0_word_37 ?_
      refine lv_aload_n hx hb dX0_word_38 rfl (lv_at hl 0 rfl) ?_
      refine va_get (D := (dC, dI)) (ci := 0) (v := .ref a0) (C := RX0) (T := TX0) (N := 5) hx hb hts hin hown hK hP 0 rfl rfl 0 (by decide) (hts (.fieldLink RX0 10 "StreamSums" "bytes" "[B") (by decide +kernel)) (fun _ h9 => h9) rfl dX0_word_39 ?_
      refine lv_iload_n hx hb dX0_word_42 rfl (lv_at hl 1 rfl) ?_
      refine lv_iconst (v := 2) hx hb dX0_word_43 (by decide) ?_
      refine lv_iadd hx hb dX0_word_44 ?_
      refine q_ti (y := nI (j + 2)) (nI_add j 2) ?_
      refine q_bald (j := j + 2) hx hb hK hP 1 0 rfl rfl rfl (by omega) (by omega) dX0_word_45 ?_
      refine lv_sipush (v := 255) hx hb dX0_word_46 (by decide) ?_
      refine lv_iand hx hb dX0_word_49 ?_
      refine lv_bipush (v := 16) hx hb dX0_word_50 (by decide) ?_
      refine lv_ishl hx hb dX0_word_52 ?_
      refine q_ti (y := sh_l (((f (j + 2)) &&& 255)) (16)) rfl ?_
      refine lv_ior hx hb dX0_word_53 ?_
      refine lv_aload_n hx hb dX0_word_54 rfl (lv_at hl 0 rfl) ?_
      refine va_get (D := (dC, dI)) (ci := 0) (v := .ref a0) (C := RX0) (T := TX0) (N := 5) hx hb hts hin hown hK hP 0 rfl rfl 0 (by decide) (hts (.fieldLink RX0 10 "StreamSums" "bytes" "[B") (by decide +kernel)) (fun _ h9 => h9) rfl dX0_word_55 ?_
      refine lv_iload_n hx hb dX0_word_58 rfl (lv_at hl 1 rfl) ?_
      refine lv_iconst (v := 3) hx hb dX0_word_59 (by decide) ?_
      refine lv_iadd hx hb dX0_word_60 ?_
      refine q_ti (y := nI (j + 3)) (nI_add j 3) ?_
      refine q_bald (j := j + 3) hx hb hK hP 1 0 rfl rfl rfl (by omega) (by omega) dX0_word_61 ?_
      refine lv_sipush (v := 255) hx hb dX0_word_62 (by decide) ?_
      refine lv_iand hx hb dX0_word_65 ?_
      refine lv_bipush (v := 24) hx hb dX0_word_66 (by decide) ?_
      refine lv_ishl hx hb dX0_word_68 ?_
      refine q_ti (y := sh_l (((f (j + 3)) &&& 255)) (24)) rfl ?_
      refine lv_ior hx hb dX0_word_69 ?_
      exact W.iret (v := (((((f (j)) &&& 255) ||| (sh_l (((f (j + 1)) &&& 255)) (8))) ||| (sh_l (((f (j + 2)) &&& 255)) (16))) ||| (sh_l (((f (j + 3)) &&& 255)) (24)))) hx hb hr (fun t ht _ => ⟨congrArg (fun z => Outcome.returned (some (Value.int z))) (rfl), ht⟩) (fun _ h => by cases h) dX0_word_70
    · exact absurd (nI_le (b := 65532) hj (by omega)) c_7
set_option maxHeartbeats 4000000 in
set_option maxRecDepth 100000 in
theorem c_X_unsignedWord (l : Launch) (dC : Nat → ClassId) (dI : Nat → Nat → Nat) (h0 a0 a1 : Nat) (cB cI : ClassId) (n : Nat) (ns : Int32) (wd : Int64) (f g : Nat → Int32) (j : Nat) (hj : j ≤ 65532) : Met l yX0_unsignedWord wsX0_unsignedWord ({ frames := 1, cells := 0, slots := 0, locals := 21 } : Room) (va_Pc [.ref h0, .int (nI j)] (xW dC dI h0 a0 a1 cB cI n ns wd f g)) (k2_QcV (.long (wo_u f j))) 0 0 (fun _ => False) := by
  refine Met.ofW (cc := cX0_unsignedWord) (maxL := 2) (ret := some .long) (by decide) rfl ?_
  intro p e s m args below meth c s₁ B hml hv
  obtain ⟨rfl, hP, hK⟩ := hv
  have hx := B.exec
  have hb := B.bytes
  have hr := B.returns
  have hts := atoms_spec (ws := wsX0_unsignedWord) B.pre
  have hown : s.vm.findClass RX0 = some m.cls := findClass_of_methodNamed B.named
  have hlocks := B.notSynchronized
  have hl := lv_entry ([.ref h0, .int (nI j)]) (n := 2) (Nat.le_of_ble_eq_true rfl)
  rw [lg_entry_eq]
  generalize (lg_sl ([.ref h0, .int (nI j)]) ++ List.replicate (2 - (lg_sl ([.ref h0, .int (nI j)])).length) Slot.unset).toArray = ls at hl ⊢
  have hl : lv_has ls 2 [(0, .ref h0), (1, .int (nI j))] := hl
  refine lv_aload_n hx hb dX0_unsignedWord_0 rfl (lv_at hl 0 rfl) ?_
  refine lv_iload_n hx hb dX0_unsignedWord_1 rfl (lv_at hl 1 rfl) ?_
  refine q_V (As := [.int (nI j)]) (rest := []) ⟨hx, hb, hml, hown, hts⟩ (c_X_word l dC dI h0 a0 a1 cB cI n ns wd f g (j) (by omega)) (cwV 1 hts gX0_unsignedWord_X0_word rfl rfl rfl (by decide +kernel) ⟨Nat.le_of_ble_eq_true rfl, Nat.le_of_ble_eq_true rfl⟩) (xw_pre hP hK _) rfl hl.1 rfl (Nat.le_of_ble_eq_true rfl) dX0_unsignedWord_2 ⟨Nat.zero_le _, Nat.zero_le _⟩ ?_
  refine lv_i2l (v := ((wo_4 f j)).toInt64) hx hb dX0_unsignedWord_5 rfl ?_
  refine lv_ldc2 (v := 4294967295) hx hb hown (hts (.constantLong RX0 86 (4294967295)) (by decide +kernel)) dX0_unsignedWord_6 ?_
  refine lv_land hx hb dX0_unsignedWord_9 ?_
  exact W.lret (v := (((wo_4 f j)).toInt64 &&& 4294967295)) hx hb hr (fun t ht _ => ⟨congrArg (fun z => Outcome.returned (some (Value.long z))) (rfl), ht⟩) (fun _ h => by cases h) dX0_unsignedWord_10
set_option maxHeartbeats 4000000 in
set_option maxRecDepth 100000 in
theorem c_X_longWord (l : Launch) (dC : Nat → ClassId) (dI : Nat → Nat → Nat) (h0 a0 a1 : Nat) (cB cI : ClassId) (n : Nat) (ns : Int32) (wd : Int64) (f g : Nat → Int32) (j : Nat) (hj : j ≤ 65528) : Met l yX0_longWord wsX0_longWord ({ frames := 2, cells := 0, slots := 0, locals := 42 } : Room) (va_Pc [.ref h0, .int (nI j)] (xW dC dI h0 a0 a1 cB cI n ns wd f g)) (k2_QcV (.long (wo_8 f j))) 0 0 (fun _ => False) := by
  refine Met.ofW (cc := cX0_longWord) (maxL := 2) (ret := some .long) (by decide) rfl ?_
  intro p e s m args below meth c s₁ B hml hv
  obtain ⟨rfl, hP, hK⟩ := hv
  have hx := B.exec
  have hb := B.bytes
  have hr := B.returns
  have hts := atoms_spec (ws := wsX0_longWord) B.pre
  have hown : s.vm.findClass RX0 = some m.cls := findClass_of_methodNamed B.named
  have hlocks := B.notSynchronized
  have hl := lv_entry ([.ref h0, .int (nI j)]) (n := 2) (Nat.le_of_ble_eq_true rfl)
  rw [lg_entry_eq]
  generalize (lg_sl ([.ref h0, .int (nI j)]) ++ List.replicate (2 - (lg_sl ([.ref h0, .int (nI j)])).length) Slot.unset).toArray = ls at hl ⊢
  have hl : lv_has ls 2 [(0, .ref h0), (1, .int (nI j))] := hl
  refine lv_aload_n hx hb dX0_longWord_0 rfl (lv_at hl 0 rfl) ?_
  refine lv_iload_n hx hb dX0_longWord_1 rfl (lv_at hl 1 rfl) ?_
  refine q_V (As := [.int (nI j)]) (rest := []) ⟨hx, hb, hml, hown, hts⟩ (c_X_unsignedWord l dC dI h0 a0 a1 cB cI n ns wd f g (j) (by omega)) (cwV 1 hts gX0_longWord_X0_unsignedWord rfl rfl rfl (by decide +kernel) ⟨Nat.le_of_ble_eq_true rfl, Nat.le_of_ble_eq_true rfl⟩) (xw_pre hP hK _) rfl hl.1 rfl (Nat.le_of_ble_eq_true rfl) dX0_longWord_2 ⟨Nat.zero_le _, Nat.zero_le _⟩ ?_
  refine lv_aload_n hx hb dX0_longWord_5 rfl (lv_at hl 0 rfl) ?_
  refine lv_iload_n hx hb dX0_longWord_6 rfl (lv_at hl 1 rfl) ?_
  refine lv_iconst (v := 4) hx hb dX0_longWord_7 (by decide) ?_
  refine lv_iadd hx hb dX0_longWord_8 ?_
  refine q_ti (y := nI (j + 4)) (nI_add j 4) ?_
  refine q_V (As := [.int (nI (j + 4))]) (rest := [.long ((wo_u f j))]) ⟨hx, hb, hml, hown, hts⟩ (c_X_unsignedWord l dC dI h0 a0 a1 cB cI n ns wd f g (j + 4) (by omega)) (cwV 1 hts gX0_longWord_X0_unsignedWord rfl rfl rfl (by decide +kernel) ⟨Nat.le_of_ble_eq_true rfl, Nat.le_of_ble_eq_true rfl⟩) (xw_pre hP hK _) rfl hl.1 rfl (Nat.le_of_ble_eq_true rfl) dX0_longWord_9 ⟨Nat.zero_le _, Nat.zero_le _⟩ ?_
  refine lv_bipush (v := 32) hx hb dX0_longWord_12 (by decide) ?_
  refine lv_lshl (v := sh_L ((wo_u f (j + 4))) (32)) hx hb dX0_longWord_14 rfl ?_
  refine lv_lor hx hb dX0_longWord_15 ?_
  exact W.lret (v := ((wo_u f j) ||| (sh_L ((wo_u f (j + 4))) (32)))) hx hb hr (fun t ht _ => ⟨congrArg (fun z => Outcome.returned (some (Value.long z))) (rfl), ht⟩) (fun _ h => by cases h) dX0_longWord_16
set_option maxHeartbeats 4000000 in
set_option maxRecDepth 100000 in
theorem c_X_polySum (l : Launch) (dC : Nat → ClassId) (dI : Nat → Nat → Nat) (h0 a0 a1 : Nat) (cB cI : ClassId) (n : Nat) (ns : Int32) (wd : Int64) (f g : Nat → Int32) (a : Nat) (b : Nat) (hab : a ≤ b) (hbn : b ≤ n) (hn : n ≤ 65536) (hg : ∀ i, i < 256 → g i = cr_it cr_r 8 (nI i)) : Met l yX0_polySum wsX0_polySum ({ frames := 1, cells := 0, slots := 0, locals := 21 } : Room) (va_Pc [.ref h0, .int (nI a), .int (nI b)] (xW dC dI h0 a0 a1 cB cI n ns wd f g)) (k2_QcV (.int (cr_rg f a (-1) (b - a) ^^^ (-1)))) 0 0 (fun _ => False) := by
  refine Met.ofW (cc := cX0_polySum) (maxL := 5) (ret := some .int) (by decide) rfl ?_
  intro p e s m args below meth c s₁ B hml hv
  obtain ⟨rfl, hP, hK⟩ := hv
  have hx := B.exec
  have hb := B.bytes
  have hr := B.returns
  have hts := atoms_spec (ws := wsX0_polySum) B.pre
  have hown : s.vm.findClass RX0 = some m.cls := findClass_of_methodNamed B.named
  have hlocks := B.notSynchronized
  have hin : ∀ w ∈ u_ws RX0 TX0 5, w ∈ wsX0_polySum := by decide +kernel
  have hl := lv_entry ([.ref h0, .int (nI a), .int (nI b)]) (n := 5) (Nat.le_of_ble_eq_true rfl)
  rw [lg_entry_eq]
  generalize (lg_sl ([.ref h0, .int (nI a), .int (nI b)]) ++ List.replicate (5 - (lg_sl ([.ref h0, .int (nI a), .int (nI b)])).length) Slot.unset).toArray = ls at hl ⊢
  have hl : lv_has ls 5 [(0, .ref h0), (1, .int (nI a)), (2, .int (nI b))] := hl
  refine lv_iconst (v := -1) hx hb dX0_polySum_0 (by decide) ?_
  refine lv_istore_n (lv' := [(3, .int ((-1))), (0, .ref h0), (1, .int (nI a)), (2, .int (nI b))]) hx hb dX0_polySum_1 rfl hl (by decide) rfl (fun ls hl => ?_)
  refine lv_iload_n hx hb dX0_polySum_2 rfl (lv_at hl 2 rfl) ?_
  refine lv_istore (lv' := [(4, .int (nI a)), (3, .int ((-1))), (0, .ref h0), (1, .int (nI a)), (2, .int (nI b))]) hx hb dX0_polySum_3 hl (by decide) rfl (fun ls hl => ?_)
  have L5 : ∀ (d j : Nat), j + d = b - a → ∀ ls : Array Slot, lv_has ls 5 [(0, .ref h0), (1, .int (nI a)), (2, .int (nI b)), (3, .int (cr_rg f a (-1) (j))), (4, .int (nI (a + (j))))] → W p l e (headSpec wsX0_polySum ({ frames := 1, cells := 0, slots := 0, locals := 21 } : Room)).room s m [Value.ref h0, .int (nI a), .int (nI b)].toArray below meth c s.heap [] 0 0 (MQ below (k2_QcV (.int (cr_rg f a (-1) (b - a) ^^^ (-1)))) [Value.ref h0, .int (nI a), .int (nI b)].toArray s 0 0 (fun _ => False)) (F0 m 5 ls []) := by
    intro d
    induction d with
    | zero =>
      intro j hj ls hl
      obtain rfl : b - a = j := by omega
      refine lv_iload hx hb dX0_polySum_5 (lv_at hl 4 rfl) ?_
      refine lv_iload_n hx hb dX0_polySum_7 rfl (lv_at hl 2 rfl) ?_
      refine lv_icmp_ge (tgt := 40) hx hb dX0_polySum_8 (by decide) (fun c_8 => ?_) (fun c_8 => ?_)
      · refine lv_iload_n hx hb dX0_polySum_40 rfl (lv_at hl 3 rfl) ?_
        refine lv_iconst (v := -1) hx hb dX0_polySum_41 (by decide) ?_
        refine lv_ixor hx hb dX0_polySum_42 ?_
        exact W.iret (v := (cr_rg f a (-1) ((b - a)) ^^^ (-1))) hx hb hr (fun t ht _ => ⟨congrArg (fun z => Outcome.returned (some (Value.int z))) (rfl), ht⟩) (fun _ h => by cases h) dX0_polySum_43
      · exact absurd (nI_le (by omega) (by omega)) c_8
    | succ d ih =>
      intro j hj ls hl
      have hjl : j < b - a := by omega
      refine lv_iload hx hb dX0_polySum_5 (lv_at hl 4 rfl) ?_
      refine lv_iload_n hx hb dX0_polySum_7 rfl (lv_at hl 2 rfl) ?_
      refine lv_icmp_ge (tgt := 40) hx hb dX0_polySum_8 (by decide) (fun c_8 => ?_) (fun c_8 => ?_)
      · exact absurd c_8 (nI_ge (by omega) (by omega))
      · refine lv_iload_n hx hb dX0_polySum_11 rfl (lv_at hl 3 rfl) ?_
        refine lv_bipush (v := 8) hx hb dX0_polySum_12 (by decide) ?_
        refine lv_iushr (v := sh_u (cr_rg f a (-1) (j)) (8)) hx hb dX0_polySum_14 rfl ?_
        refine lv_aload_n hx hb dX0_polySum_15 rfl (lv_at hl 0 rfl) ?_
        refine va_get (D := (dC, dI)) (ci := 0) (v := .ref a1) (C := RX0) (T := TX0) (N := 5) hx hb hts hin hown hK hP 0 rfl rfl 1 (by decide) (hts (.fieldLink RX0 14 "StreamSums" "eightSteps" "[I") (by decide +kernel)) (fun _ h9 => h9) rfl dX0_polySum_16 ?_
        refine lv_iload_n hx hb dX0_polySum_19 rfl (lv_at hl 3 rfl) ?_
        refine lv_aload_n hx hb dX0_polySum_20 rfl (lv_at hl 0 rfl) ?_
        refine lv_iload hx hb dX0_polySum_21 (lv_at hl 4 rfl) ?_
        refine q_V (As := [.int (nI (a + (j)))]) (rest := [.int (cr_rg f a (-1) (j)), .ref a1, .int ((sh_u (cr_rg f a (-1) (j)) (8)))]) ⟨hx, hb, hml, hown, hts⟩ (c_X_byteIn l dC dI h0 a0 a1 cB cI n ns wd f g (a + j) (by omega) (hn)) (cwV 1 hts gX0_polySum_X0_byteAt rfl rfl rfl (by decide +kernel) ⟨Nat.le_of_ble_eq_true rfl, Nat.le_of_ble_eq_true rfl⟩) (xw_pre hP hK _) rfl hl.1 rfl (Nat.le_of_ble_eq_true rfl) dX0_polySum_23 ⟨Nat.zero_le _, Nat.zero_le _⟩ ?_
        refine lv_ixor hx hb dX0_polySum_26 ?_
        refine lv_sipush (v := 255) hx hb dX0_polySum_27 (by decide) ?_
        refine lv_iand hx hb dX0_polySum_30 ?_
        refine q_iald (j := (((cr_rg f a (-1) j) ^^^ (f (a + j) &&& 255)).toBitVec.toNat % 2 ^ 8)) hx hb hK hP 2 1 rfl rfl (pk_and _ 8 (by decide)) (by omega) (by omega) dX0_polySum_31 ?_
        refine q_ti (y := cr_it cr_r 8 (((cr_rg f a (-1) j) ^^^ (f (a + j) &&& 255)) &&& 255)) (by rw [hg _ (by omega), ← pk_and (m := 255) _ 8 (by decide)]) ?_
        refine lv_ixor hx hb dX0_polySum_32 ?_
        refine q_ti (y := cr_rg f a (-1) (j + 1)) (cr_tab _ _) ?_
        refine lv_istore_n (lv' := [(3, .int (cr_rg f a (-1) (j + 1))), (0, .ref h0), (1, .int (nI a)), (2, .int (nI b)), (4, .int (nI (a + (j))))]) hx hb dX0_polySum_33 rfl hl (by decide) rfl (fun ls hl => ?_)
        refine lv_iinc (v := nI (a + (j + 1))) (lv' := [(4, .int (nI (a + (j + 1)))), (3, .int (cr_rg f a (-1) (j + 1))), (0, .ref h0), (1, .int (nI a)), (2, .int (nI b))]) hx hb dX0_polySum_34 hl (k := 4) rfl (nI_add _ 1) (by decide) rfl (fun ls hl => ?_)
        refine lv_goto (tgt := 5) hx hb dX0_polySum_37 (by decide) ?_
        exact ih (j + 1) (by omega) ls (lv_sub hl [2, 3, 4, 1, 0] rfl)
  exact L5 (b - a) 0 (by omega) ls (lv_sub hl [2, 3, 4, 1, 0] rfl)
set_option maxHeartbeats 4000000 in
set_option maxRecDepth 100000 in
theorem c_X_poly (l : Launch) (dC : Nat → ClassId) (dI : Nat → Nat → Nat) (h0 a0 a1 : Nat) (cB cI : ClassId) (n : Nat) (ns : Int32) (wd : Int64) (f g : Nat → Int32) (hn : n ≤ 65536) (hg : ∀ i, i < 256 → g i = cr_it cr_r 8 (nI i)) : Met l yX0_poly wsX0_poly ({ frames := 2, cells := 0, slots := 0, locals := 45 } : Room) (va_Pc [.ref h0] (xW dC dI h0 a0 a1 cB cI n ns wd f g)) (k2_QcV (.int (cr_rg f 0 (-1) n ^^^ (-1)))) 0 0 (fun _ => False) := by
  refine Met.ofW (cc := cX0_poly) (maxL := 1) (ret := some .int) (by decide) rfl ?_
  intro p e s m args below meth c s₁ B hml hv
  obtain ⟨rfl, hP, hK⟩ := hv
  have hx := B.exec
  have hb := B.bytes
  have hr := B.returns
  have hts := atoms_spec (ws := wsX0_poly) B.pre
  have hown : s.vm.findClass RX0 = some m.cls := findClass_of_methodNamed B.named
  have hlocks := B.notSynchronized
  have hin : ∀ w ∈ u_ws RX0 TX0 5, w ∈ wsX0_poly := by decide +kernel
  have hl := lv_entry ([.ref h0]) (n := 1) (Nat.le_of_ble_eq_true rfl)
  rw [lg_entry_eq]
  generalize (lg_sl ([.ref h0]) ++ List.replicate (1 - (lg_sl ([.ref h0])).length) Slot.unset).toArray = ls at hl ⊢
  have hl : lv_has ls 1 [(0, .ref h0)] := hl
  refine lv_aload_n hx hb dX0_poly_0 rfl (lv_at hl 0 rfl) ?_
  refine lv_iconst (v := 0) hx hb dX0_poly_1 (by decide) ?_
  refine lv_aload_n hx hb dX0_poly_2 rfl (lv_at hl 0 rfl) ?_
  refine va_get (D := (dC, dI)) (ci := 0) (v := .int (nI n)) (C := RX0) (T := TX0) (N := 5) hx hb hts hin hown hK hP 0 rfl rfl 2 (by decide) (hts (.fieldLink RX0 22 "StreamSums" "count" "I") (by decide +kernel)) (fun _ h9 => h9) rfl dX0_poly_3 ?_
  refine q_V (As := [.int (0), .int (nI n)]) (rest := []) ⟨hx, hb, hml, hown, hts⟩ (c_X_polySum l dC dI h0 a0 a1 cB cI n ns wd f g (0) (n) (by omega) (by omega) (hn) (hg)) (cwV 2 hts gX0_poly_X0_polySum rfl rfl rfl (by decide +kernel) ⟨Nat.le_of_ble_eq_true rfl, Nat.le_of_ble_eq_true rfl⟩) (xw_pre hP hK _) rfl hl.1 rfl (Nat.le_of_ble_eq_true rfl) dX0_poly_6 ⟨Nat.zero_le _, Nat.zero_le _⟩ ?_
  exact W.iret (v := (cr_rg f 0 (-1) (n - 0) ^^^ (-1))) hx hb hr (fun t ht _ => ⟨congrArg (fun z => Outcome.returned (some (Value.int z))) (rfl), ht⟩) (fun _ h => by cases h) dX0_poly_9
set_option maxHeartbeats 4000000 in
set_option maxRecDepth 100000 in
theorem c_X_polyOf (l : Launch) (dC : Nat → ClassId) (dI : Nat → Nat → Nat) (h0 a0 a1 : Nat) (cB cI : ClassId) (n : Nat) (ns : Int32) (wd : Int64) (f g : Nat → Int32) (x : Int32) (y : Int32) (hn : n ≤ 65536) (hg : ∀ i, i < 256 → g i = cr_it cr_r 8 (nI i)) : Met l yX0_polyOf wsX0_polyOf ({ frames := 2, cells := 0, slots := 0, locals := 45 } : Room) (va_Pc [.ref h0, .int x, .int y] (xW dC dI h0 a0 a1 cB cI n ns wd f g)) (k2_QcV (.int (an_po n f x y))) 0 0 (fun _ => False) := by
  refine Met.ofW (cc := cX0_polyOf) (maxL := 3) (ret := some .int) (by decide) rfl ?_
  intro p e s m args below meth c s₁ B hml hv
  obtain ⟨rfl, hP, hK⟩ := hv
  have hx := B.exec
  have hb := B.bytes
  have hr := B.returns
  have hts := atoms_spec (ws := wsX0_polyOf) B.pre
  have hown : s.vm.findClass RX0 = some m.cls := findClass_of_methodNamed B.named
  have hlocks := B.notSynchronized
  have hl := lv_entry ([.ref h0, .int x, .int y]) (n := 3) (Nat.le_of_ble_eq_true rfl)
  rw [lg_entry_eq]
  generalize (lg_sl ([.ref h0, .int x, .int y]) ++ List.replicate (3 - (lg_sl ([.ref h0, .int x, .int y])).length) Slot.unset).toArray = ls at hl ⊢
  have hl : lv_has ls 3 [(0, .ref h0), (1, .int (x)), (2, .int (y))] := hl
  refine lv_aload_n hx hb dX0_polyOf_0 rfl (lv_at hl 0 rfl) ?_
  refine lv_iload_n hx hb dX0_polyOf_1 rfl (lv_at hl 1 rfl) ?_
  refine lv_iload_n hx hb dX0_polyOf_2 rfl (lv_at hl 2 rfl) ?_
  refine q_V (As := [.int (x), .int (y)]) (rest := []) ⟨hx, hb, hml, hown, hts⟩ (c_X_isPart l dC dI h0 a0 a1 cB cI n ns wd f g (x) (y)) (cwV 2 hts gX0_polyOf_X0_isPart rfl rfl rfl (by decide +kernel) ⟨Nat.le_of_ble_eq_true rfl, Nat.le_of_ble_eq_true rfl⟩) (xw_pre hP hK _) rfl hl.1 rfl (Nat.le_of_ble_eq_true rfl) dX0_polyOf_3 ⟨Nat.zero_le _, Nat.zero_le _⟩ ?_
  refine lv_if_eq (tgt := 18) hx hb dX0_polyOf_6 (by decide) (fun c_6 => ?_) (fun c_6 => ?_)
  · refine lv_aload_n hx hb dX0_polyOf_18 rfl (lv_at hl 0 rfl) ?_
    refine lv_iconst (v := 0) hx hb dX0_polyOf_19 (by decide) ?_
    refine lv_iconst (v := 0) hx hb dX0_polyOf_20 (by decide) ?_
    refine q_V (As := [.int (0), .int (0)]) (rest := []) ⟨hx, hb, hml, hown, hts⟩ (c_X_polySum l dC dI h0 a0 a1 cB cI n ns wd f g (0) (0) (by omega) (by omega) (hn) (hg)) (cwV 2 hts gX0_polyOf_X0_polySum rfl rfl rfl (by decide +kernel) ⟨Nat.le_of_ble_eq_true rfl, Nat.le_of_ble_eq_true rfl⟩) (xw_pre hP hK _) rfl hl.1 rfl (Nat.le_of_ble_eq_true rfl) dX0_polyOf_21 ⟨Nat.zero_le _, Nat.zero_le _⟩ ?_
    exact W.iret (v := (cr_rg f 0 (-1) (0 - 0) ^^^ (-1))) hx hb hr (fun t ht _ => ⟨congrArg (fun z => Outcome.returned (some (Value.int z))) (by unfold an_po; rw [if_pos c_6]; exact Int32.xor_self), ht⟩) (fun _ h => by cases h) dX0_polyOf_24
  · obtain ⟨a, b, hxa, hyb, hab, hbn⟩ := pt_some hn c_6
    refine lv_aload_n hx hb dX0_polyOf_9 rfl (lv_at hl 0 rfl) ?_
    refine lv_iload_n hx hb dX0_polyOf_10 rfl (lv_at hl 1 rfl) ?_
    refine q_ti (y := nI a) (hxa) ?_
    refine lv_iload_n hx hb dX0_polyOf_11 rfl (lv_at hl 2 rfl) ?_
    refine q_ti (y := nI b) (hyb) ?_
    refine q_V (As := [.int (nI a), .int (nI b)]) (rest := []) ⟨hx, hb, hml, hown, hts⟩ (c_X_polySum l dC dI h0 a0 a1 cB cI n ns wd f g (a) (b) (by omega) (by omega) (hn) (hg)) (cwV 2 hts gX0_polyOf_X0_polySum rfl rfl rfl (by decide +kernel) ⟨Nat.le_of_ble_eq_true rfl, Nat.le_of_ble_eq_true rfl⟩) (xw_pre hP hK _) rfl hl.1 rfl (Nat.le_of_ble_eq_true rfl) dX0_polyOf_12 ⟨Nat.zero_le _, Nat.zero_le _⟩ ?_
    refine lv_goto (tgt := 24) hx hb dX0_polyOf_15 (by decide) ?_
    exact W.iret (v := (cr_rg f a (-1) (b - a) ^^^ (-1))) hx hb hr (fun t ht _ => ⟨congrArg (fun z => Outcome.returned (some (Value.int z))) (by unfold an_po; rw [if_neg c_6, hxa, hyb, nI_clamp (by omega), nI_clamp (by omega)]), ht⟩) (fun _ h => by cases h) dX0_polyOf_24
set_option maxHeartbeats 4000000 in
set_option maxRecDepth 100000 in
theorem c_X_masked (l : Launch) (dC : Nat → ClassId) (dI : Nat → Nat → Nat) (h0 a0 a1 : Nat) (cB cI : ClassId) (n : Nat) (ns : Int32) (wd : Int64) (f g : Nat → Int32) (x : Int32) (b : Int32) : Met l yX0_masked wsX0_masked ({ frames := 1, cells := 0, slots := 0, locals := 21 } : Room) (va_Pc [.ref h0, .int x, .int b] (xW dC dI h0 a0 a1 cB cI n ns wd f g)) (k2_QcV (.int (an_ma x b))) 0 0 (fun _ => False) := by
  refine Met.ofW (cc := cX0_masked) (maxL := 3) (ret := some .int) (by decide) rfl ?_
  intro p e s m args below meth c s₁ B hml hv
  obtain ⟨rfl, hP, hK⟩ := hv
  have hx := B.exec
  have hb := B.bytes
  have hr := B.returns
  have hts := atoms_spec (ws := wsX0_masked) B.pre
  have hown : s.vm.findClass RX0 = some m.cls := findClass_of_methodNamed B.named
  have hlocks := B.notSynchronized
  have hl := lv_entry ([.ref h0, .int x, .int b]) (n := 3) (Nat.le_of_ble_eq_true rfl)
  rw [lg_entry_eq]
  generalize (lg_sl ([.ref h0, .int x, .int b]) ++ List.replicate (3 - (lg_sl ([.ref h0, .int x, .int b])).length) Slot.unset).toArray = ls at hl ⊢
  have hl : lv_has ls 3 [(0, .ref h0), (1, .int (x)), (2, .int (b))] := hl
  refine lv_iload_n hx hb dX0_masked_0 rfl (lv_at hl 2 rfl) ?_
  refine lv_if_eq (tgt := 16) hx hb dX0_masked_1 (by decide) (fun c_1 => ?_) (fun c_1 => ?_)
  · refine lv_iload_n hx hb dX0_masked_16 rfl (lv_at hl 1 rfl) ?_
    refine lv_bipush (v := 17) hx hb dX0_masked_17 (by decide) ?_
    refine q_S (As := [.int (x), .int (17)]) (rest := []) ⟨hx, hb, hml, hown, hts⟩ (c_X_rotated l (x) (17)) (va_cwS 2 hts gX0_masked_X0_rotated rfl rfl rfl (by decide +kernel) ⟨Nat.le_of_ble_eq_true rfl, Nat.le_of_ble_eq_true rfl⟩) rfl hl.1 rfl (Nat.le_of_ble_eq_true rfl) dX0_masked_19 ⟨Nat.zero_le _, Nat.zero_le _⟩ ?_
    refine lv_ldc (v := -1568478504) hx hb hown (hts (.constant RX0 56 (-1568478504)) (by decide +kernel)) dX0_masked_22 ?_
    refine lv_iadd hx hb dX0_masked_24 ?_
    exact W.iret (v := ((na_rt x 17) + (-1568478504))) hx hb hr (fun t ht _ => ⟨congrArg (fun z => Outcome.returned (some (Value.int z))) (by unfold an_ma; rw [if_pos c_1]), ht⟩) (fun _ h => by cases h) dX0_masked_25
  · refine lv_iload_n hx hb dX0_masked_4 rfl (lv_at hl 1 rfl) ?_
    refine lv_ldc (v := -1568478504) hx hb hown (hts (.constant RX0 56 (-1568478504)) (by decide +kernel)) dX0_masked_5 ?_
    refine lv_isub hx hb dX0_masked_7 ?_
    refine lv_bipush (v := 15) hx hb dX0_masked_8 (by decide) ?_
    refine q_S (As := [.int ((x - (-1568478504))), .int (15)]) (rest := []) ⟨hx, hb, hml, hown, hts⟩ (c_X_rotated l ((x - (-1568478504))) (15)) (va_cwS 2 hts gX0_masked_X0_rotated rfl rfl rfl (by decide +kernel) ⟨Nat.le_of_ble_eq_true rfl, Nat.le_of_ble_eq_true rfl⟩) rfl hl.1 rfl (Nat.le_of_ble_eq_true rfl) dX0_masked_10 ⟨Nat.zero_le _, Nat.zero_le _⟩ ?_
    refine lv_goto (tgt := 25) hx hb dX0_masked_13 (by decide) ?_
    exact W.iret (v := (na_rt ((x - (-1568478504))) 15)) hx hb hr (fun t ht _ => ⟨congrArg (fun z => Outcome.returned (some (Value.int z))) (by unfold an_ma; rw [if_neg c_1]), ht⟩) (fun _ h => by cases h) dX0_masked_25
set_option maxHeartbeats 4000000 in
set_option maxRecDepth 100000 in
theorem c_X_joined (l : Launch) (dC : Nat → ClassId) (dI : Nat → Nat → Nat) (h0 a0 a1 : Nat) (cB cI : ClassId) (n : Nat) (ns : Int32) (wd : Int64) (f g : Nat → Int32) (a : Int32) (b : Int32) (ex : Int64) : Met l yX0_joined wsX0_joined ({ frames := 3, cells := 0, slots := 0, locals := 69 } : Room) (va_Pc [.ref h0, .int a, .int b, .long ex] (xW dC dI h0 a0 a1 cB cI n ns wd f g)) (k2_QcV (.int (an_jo a b ex))) 0 0 (fun _ => False) := by
  refine Met.ofW (cc := cX0_joined) (maxL := 5) (ret := some .int) (by decide) rfl ?_
  intro p e s m args below meth c s₁ B hml hv
  obtain ⟨rfl, hP, hK⟩ := hv
  have hx := B.exec
  have hb := B.bytes
  have hr := B.returns
  have hts := atoms_spec (ws := wsX0_joined) B.pre
  have hown : s.vm.findClass RX0 = some m.cls := findClass_of_methodNamed B.named
  have hlocks := B.notSynchronized
  have hl := lv_entry ([.ref h0, .int a, .int b, .long ex]) (n := 5) (Nat.le_of_ble_eq_true rfl)
  rw [lg_entry_eq]
  generalize (lg_sl ([.ref h0, .int a, .int b, .long ex]) ++ List.replicate (5 - (lg_sl ([.ref h0, .int a, .int b, .long ex])).length) Slot.unset).toArray = ls at hl ⊢
  have hl : lv_has ls 5 [(0, .ref h0), (1, .int (a)), (2, .int (b)), (3, .long (ex))] := hl
  refine lv_iload_n hx hb dX0_joined_0 rfl (lv_at hl 1 rfl) ?_
  refine lv_ldc (v := -2147483648) hx hb hown (hts (.constant RX0 60 (-2147483648)) (by decide +kernel)) dX0_joined_1 ?_
  refine lv_bipush (v := 8) hx hb dX0_joined_3 (by decide) ?_
  refine q_S (As := [.int ((-2147483648)), .int (8)]) (rest := [.int (a)]) ⟨hx, hb, hml, hown, hts⟩ (c_X_movedOn l (-2147483648) (8) (by omega)) (va_cwS 2 hts gX0_joined_X0_movedOn rfl rfl rfl (by decide +kernel) ⟨Nat.le_of_ble_eq_true rfl, Nat.le_of_ble_eq_true rfl⟩) rfl hl.1 rfl (Nat.le_of_ble_eq_true rfl) dX0_joined_5 ⟨Nat.zero_le _, Nat.zero_le _⟩ ?_
  refine lv_lload_n hx hb dX0_joined_8 rfl (lv_at hl 3 rfl) ?_
  refine q_S (As := [.int ((cr_it cr_r 8 (-2147483648))), .long (ex)]) (rest := [.int (a)]) ⟨hx, hb, hml, hown, hts⟩ (c_X_power l ((cr_it cr_r 8 (-2147483648))) (ex)) (va_cwS 2 hts gX0_joined_X0_power rfl rfl rfl (by decide +kernel) ⟨Nat.le_of_ble_eq_true rfl, Nat.le_of_ble_eq_true rfl⟩) rfl hl.1 rfl (Nat.le_of_ble_eq_true rfl) dX0_joined_9 ⟨Nat.zero_le _, Nat.zero_le _⟩ ?_
  refine q_S (As := [.int (a), .int ((cr_pw ((cr_it cr_r 8 (-2147483648))) (ex.toBitVec.toNat)))]) (rest := []) ⟨hx, hb, hml, hown, hts⟩ (c_X_product l (a) ((cr_pw ((cr_it cr_r 8 (-2147483648))) (ex.toBitVec.toNat)))) (va_cwS 2 hts gX0_joined_X0_product rfl rfl rfl (by decide +kernel) ⟨Nat.le_of_ble_eq_true rfl, Nat.le_of_ble_eq_true rfl⟩) rfl hl.1 rfl (Nat.le_of_ble_eq_true rfl) dX0_joined_12 ⟨Nat.zero_le _, Nat.zero_le _⟩ ?_
  refine lv_iload_n hx hb dX0_joined_15 rfl (lv_at hl 2 rfl) ?_
  refine lv_ixor hx hb dX0_joined_16 ?_
  exact W.iret (v := ((cr_mul ((cr_pw ((cr_it cr_r 8 (-2147483648))) (ex.toBitVec.toNat))) a) ^^^ b)) hx hb hr (fun t ht _ => ⟨congrArg (fun z => Outcome.returned (some (Value.int z))) (rfl), ht⟩) (fun _ h => by cases h) dX0_joined_17
set_option maxHeartbeats 4000000 in
set_option maxRecDepth 100000 in
theorem c_X_cut (l : Launch) (dC : Nat → ClassId) (dI : Nat → Nat → Nat) (h0 a0 a1 : Nat) (cB cI : ClassId) (n : Nat) (ns : Int32) (wd : Int64) (f g : Nat → Int32) (a : Int32) (b : Int32) (ex : Int64) : Met l yX0_cut wsX0_cut ({ frames := 3, cells := 0, slots := 0, locals := 69 } : Room) (va_Pc [.ref h0, .int a, .int b, .long ex] (xW dC dI h0 a0 a1 cB cI n ns wd f g)) (k2_QcV (.int (an_cu a b ex))) 0 0 (fun _ => False) := by
  refine Met.ofW (cc := cX0_cut) (maxL := 5) (ret := some .int) (by decide) rfl ?_
  intro p e s m args below meth c s₁ B hml hv
  obtain ⟨rfl, hP, hK⟩ := hv
  have hx := B.exec
  have hb := B.bytes
  have hr := B.returns
  have hts := atoms_spec (ws := wsX0_cut) B.pre
  have hown : s.vm.findClass RX0 = some m.cls := findClass_of_methodNamed B.named
  have hlocks := B.notSynchronized
  have hl := lv_entry ([.ref h0, .int a, .int b, .long ex]) (n := 5) (Nat.le_of_ble_eq_true rfl)
  rw [lg_entry_eq]
  generalize (lg_sl ([.ref h0, .int a, .int b, .long ex]) ++ List.replicate (5 - (lg_sl ([.ref h0, .int a, .int b, .long ex])).length) Slot.unset).toArray = ls at hl ⊢
  have hl : lv_has ls 5 [(0, .ref h0), (1, .int (a)), (2, .int (b)), (3, .long (ex))] := hl
  refine lv_iload_n hx hb dX0_cut_0 rfl (lv_at hl 1 rfl) ?_
  refine lv_iload_n hx hb dX0_cut_1 rfl (lv_at hl 2 rfl) ?_
  refine lv_ixor hx hb dX0_cut_2 ?_
  refine lv_ldc (v := -2147483648) hx hb hown (hts (.constant RX0 60 (-2147483648)) (by decide +kernel)) dX0_cut_3 ?_
  refine lv_bipush (v := 8) hx hb dX0_cut_5 (by decide) ?_
  refine q_S (As := [.int ((-2147483648)), .int (8)]) (rest := [.int ((a ^^^ b))]) ⟨hx, hb, hml, hown, hts⟩ (c_X_movedBack l (-2147483648) (8) (by omega)) (va_cwS 2 hts gX0_cut_X0_movedBack rfl rfl rfl (by decide +kernel) ⟨Nat.le_of_ble_eq_true rfl, Nat.le_of_ble_eq_true rfl⟩) rfl hl.1 rfl (Nat.le_of_ble_eq_true rfl) dX0_cut_7 ⟨Nat.zero_le _, Nat.zero_le _⟩ ?_
  refine lv_lload_n hx hb dX0_cut_10 rfl (lv_at hl 3 rfl) ?_
  refine q_S (As := [.int ((cr_it cr_b 8 (-2147483648))), .long (ex)]) (rest := [.int ((a ^^^ b))]) ⟨hx, hb, hml, hown, hts⟩ (c_X_power l ((cr_it cr_b 8 (-2147483648))) (ex)) (va_cwS 2 hts gX0_cut_X0_power rfl rfl rfl (by decide +kernel) ⟨Nat.le_of_ble_eq_true rfl, Nat.le_of_ble_eq_true rfl⟩) rfl hl.1 rfl (Nat.le_of_ble_eq_true rfl) dX0_cut_11 ⟨Nat.zero_le _, Nat.zero_le _⟩ ?_
  refine q_S (As := [.int ((a ^^^ b)), .int ((cr_pw ((cr_it cr_b 8 (-2147483648))) (ex.toBitVec.toNat)))]) (rest := []) ⟨hx, hb, hml, hown, hts⟩ (c_X_product l ((a ^^^ b)) ((cr_pw ((cr_it cr_b 8 (-2147483648))) (ex.toBitVec.toNat)))) (va_cwS 2 hts gX0_cut_X0_product rfl rfl rfl (by decide +kernel) ⟨Nat.le_of_ble_eq_true rfl, Nat.le_of_ble_eq_true rfl⟩) rfl hl.1 rfl (Nat.le_of_ble_eq_true rfl) dX0_cut_14 ⟨Nat.zero_le _, Nat.zero_le _⟩ ?_
  exact W.iret (v := (cr_mul ((cr_pw ((cr_it cr_b 8 (-2147483648))) (ex.toBitVec.toNat))) ((a ^^^ b)))) hx hb hr (fun t ht _ => ⟨congrArg (fun z => Outcome.returned (some (Value.int z))) (rfl), ht⟩) (fun _ h => by cases h) dX0_cut_17
set_option maxHeartbeats 4000000 in
set_option maxRecDepth 100000 in
theorem c_X_forged (l : Launch) (dC : Nat → ClassId) (dI : Nat → Nat → Nat) (h0 a0 a1 : Nat) (cB cI : ClassId) (n : Nat) (ns : Int32) (wd : Int64) (f g : Nat → Int32) (sum : Int32) (hn : n ≤ 65536) (hg : ∀ i, i < 256 → g i = cr_it cr_r 8 (nI i)) : Met l yX0_forged wsX0_forged ({ frames := 3, cells := 0, slots := 0, locals := 65 } : Room) (va_Pc [.ref h0, .int sum] (xW dC dI h0 a0 a1 cB cI n ns wd f g)) (k2_QcV (.int (an_fo n f sum))) 0 0 (fun _ => False) := by
  refine Met.ofW (cc := cX0_forged) (maxL := 2) (ret := some .int) (by decide) rfl ?_
  intro p e s m args below meth c s₁ B hml hv
  obtain ⟨rfl, hP, hK⟩ := hv
  have hx := B.exec
  have hb := B.bytes
  have hr := B.returns
  have hts := atoms_spec (ws := wsX0_forged) B.pre
  have hown : s.vm.findClass RX0 = some m.cls := findClass_of_methodNamed B.named
  have hlocks := B.notSynchronized
  have hl := lv_entry ([.ref h0, .int sum]) (n := 2) (Nat.le_of_ble_eq_true rfl)
  rw [lg_entry_eq]
  generalize (lg_sl ([.ref h0, .int sum]) ++ List.replicate (2 - (lg_sl ([.ref h0, .int sum])).length) Slot.unset).toArray = ls at hl ⊢
  have hl : lv_has ls 2 [(0, .ref h0), (1, .int (sum))] := hl
  refine lv_aload_n hx hb dX0_forged_0 rfl (lv_at hl 0 rfl) ?_
  refine q_V (As := []) (rest := []) ⟨hx, hb, hml, hown, hts⟩ (c_X_poly l dC dI h0 a0 a1 cB cI n ns wd f g (hn) (hg)) (cwV 0 hts gX0_forged_X0_poly rfl rfl rfl (by decide +kernel) ⟨Nat.le_of_ble_eq_true rfl, Nat.le_of_ble_eq_true rfl⟩) (xw_pre hP hK _) rfl hl.1 rfl (Nat.le_of_ble_eq_true rfl) dX0_forged_1 ⟨Nat.zero_le _, Nat.zero_le _⟩ ?_
  refine lv_iload_n hx hb dX0_forged_4 rfl (lv_at hl 1 rfl) ?_
  refine q_S (As := [.int ((cr_rg f 0 (-1) n ^^^ (-1))), .int (sum)]) (rest := []) ⟨hx, hb, hml, hown, hts⟩ (c_X_fourBetween l ((cr_rg f 0 (-1) n ^^^ (-1))) (sum)) (va_cwS 2 hts gX0_forged_X0_fourBetween rfl rfl rfl (by decide +kernel) ⟨Nat.le_of_ble_eq_true rfl, Nat.le_of_ble_eq_true rfl⟩) rfl hl.1 rfl (Nat.le_of_ble_eq_true rfl) dX0_forged_5 ⟨Nat.zero_le _, Nat.zero_le _⟩ ?_
  exact W.iret (v := (tu_x ((((cr_rg f 0 (-1) n ^^^ (-1))) ^^^ (-1)) ^^^ cr_it cr_b 32 (sum ^^^ (-1))))) hx hb hr (fun t ht _ => ⟨congrArg (fun z => Outcome.returned (some (Value.int z))) (by unfold an_fo; rw [tu_eq, xx_1]), ht⟩) (fun _ h => by cases h) dX0_forged_8
set_option maxHeartbeats 4000000 in
set_option maxRecDepth 100000 in
theorem c_X_mended (l : Launch) (dC : Nat → ClassId) (dI : Nat → Nat → Nat) (h0 a0 a1 : Nat) (cB cI : ClassId) (n : Nat) (ns : Int32) (wd : Int64) (f g : Nat → Int32) (x : Int32) (sum : Int32) (hn : n ≤ 65536) (hg : ∀ i, i < 256 → g i = cr_it cr_r 8 (nI i)) : Met l yX0_mended wsX0_mended ({ frames := 4, cells := 0, slots := 0, locals := 93 } : Room) (va_Pc [.ref h0, .int x, .int sum] (xW dC dI h0 a0 a1 cB cI n ns wd f g)) (k2_QcV (.int (an_me n f x sum))) 0 0 (fun _ => False) := by
  refine Met.ofW (cc := cX0_mended) (maxL := 5) (ret := some .int) (by decide) rfl ?_
  intro p e s m args below meth c s₁ B hml hv
  obtain ⟨rfl, hP, hK⟩ := hv
  have hx := B.exec
  have hb := B.bytes
  have hr := B.returns
  have hts := atoms_spec (ws := wsX0_mended) B.pre
  have hown : s.vm.findClass RX0 = some m.cls := findClass_of_methodNamed B.named
  have hlocks := B.notSynchronized
  have hin : ∀ w ∈ u_ws RX0 TX0 5, w ∈ wsX0_mended := by decide +kernel
  have hl := lv_entry ([.ref h0, .int x, .int sum]) (n := 5) (Nat.le_of_ble_eq_true rfl)
  rw [lg_entry_eq]
  generalize (lg_sl ([.ref h0, .int x, .int sum]) ++ List.replicate (5 - (lg_sl ([.ref h0, .int x, .int sum])).length) Slot.unset).toArray = ls at hl ⊢
  have hl : lv_has ls 5 [(0, .ref h0), (1, .int (x)), (2, .int (sum))] := hl
  refine lv_iload_n hx hb dX0_mended_0 rfl (lv_at hl 1 rfl) ?_
  refine lv_if_lt (tgt := 14) hx hb dX0_mended_1 (by decide) (fun c_1 => ?_) (fun c_1 => ?_)
  · refine lv_iconst (v := 0) hx hb dX0_mended_14 (by decide) ?_
    exact W.iret (v := 0) hx hb hr (fun t ht _ => ⟨congrArg (fun z => Outcome.returned (some (Value.int z))) (by unfold an_me; rw [if_pos c_1]), ht⟩) (fun _ h => by cases h) dX0_mended_15
  · refine lv_iload_n hx hb dX0_mended_4 rfl (lv_at hl 1 rfl) ?_
    refine lv_aload_n hx hb dX0_mended_5 rfl (lv_at hl 0 rfl) ?_
    refine va_get (D := (dC, dI)) (ci := 0) (v := .int (nI n)) (C := RX0) (T := TX0) (N := 5) hx hb hts hin hown hK hP 0 rfl rfl 2 (by decide) (hts (.fieldLink RX0 22 "StreamSums" "count" "I") (by decide +kernel)) (fun _ h9 => h9) rfl dX0_mended_6 ?_
    refine lv_iconst (v := 4) hx hb dX0_mended_9 (by decide) ?_
    refine lv_isub hx hb dX0_mended_10 ?_
    refine lv_icmp_le (tgt := 16) hx hb dX0_mended_11 (by decide) (fun c_11 => ?_) (fun c_11 => ?_)
    · obtain ⟨k, hxk, hk⟩ := me_some hn c_1 c_11
      refine lv_iload_n hx hb dX0_mended_16 rfl (lv_at hl 1 rfl) ?_
      refine q_ti (y := nI k) (hxk) ?_
      refine lv_iconst (v := 4) hx hb dX0_mended_17 (by decide) ?_
      refine lv_iadd hx hb dX0_mended_18 ?_
      refine q_ti (y := nI (k + 4)) (nI_add k 4) ?_
      refine lv_istore_n (lv' := [(3, .int (nI (k + 4))), (0, .ref h0), (1, .int (x)), (2, .int (sum))]) hx hb dX0_mended_19 rfl hl (by decide) rfl (fun ls hl => ?_)
      refine lv_aload_n hx hb dX0_mended_20 rfl (lv_at hl 1 rfl) ?_
      refine lv_iload_n hx hb dX0_mended_21 rfl (lv_at hl 3 rfl) ?_
      refine lv_aload_n hx hb dX0_mended_22 rfl (lv_at hl 1 rfl) ?_
      refine lv_iload_n hx hb dX0_mended_23 rfl (lv_at hl 0 rfl) ?_
      refine lv_aload_n hx hb dX0_mended_24 rfl (lv_at hl 1 rfl) ?_
      refine va_get (D := (dC, dI)) (ci := 0) (v := .int (nI n)) (C := RX0) (T := TX0) (N := 5) hx hb hts hin hown hK hP 0 rfl rfl 2 (by decide) (hts (.fieldLink RX0 22 "StreamSums" "count" "I") (by decide +kernel)) (fun _ h9 => h9) rfl dX0_mended_25 ?_
      refine q_V (As := [.int (nI (k + 4)), .int (nI n)]) (rest := [.int (sum), .ref h0]) ⟨hx, hb, hml, hown, hts⟩ (c_X_polySum l dC dI h0 a0 a1 cB cI n ns wd f g (k + 4) (n) (by omega) (by omega) (hn) (hg)) (cwV 2 hts gX0_mended_X0_polySum rfl rfl rfl (by decide +kernel) ⟨Nat.le_of_ble_eq_true rfl, Nat.le_of_ble_eq_true rfl⟩) (xw_pre hP hK _) rfl hl.1 rfl (Nat.le_of_ble_eq_true rfl) dX0_mended_28 ⟨Nat.zero_le _, Nat.zero_le _⟩ ?_
      refine lv_aload_n hx hb dX0_mended_31 rfl (lv_at hl 1 rfl) ?_
      refine va_get (D := (dC, dI)) (ci := 0) (v := .int (nI n)) (C := RX0) (T := TX0) (N := 5) hx hb hts hin hown hK hP 0 rfl rfl 2 (by decide) (hts (.fieldLink RX0 22 "StreamSums" "count" "I") (by decide +kernel)) (fun _ h9 => h9) rfl dX0_mended_32 ?_
      refine lv_iload_n hx hb dX0_mended_35 rfl (lv_at hl 0 rfl) ?_
      refine lv_isub hx hb dX0_mended_36 ?_
      refine q_ti (y := nI (n - (k + 4))) (pk_sub hk) ?_
      refine lv_i2l (v := (nI (n - (k + 4))).toInt64) hx hb dX0_mended_37 rfl ?_
      refine q_tl (y := lN (n - (k + 4))) (nI_l (by omega)) ?_
      refine q_V (As := [.int (sum), .int ((cr_rg f (k + 4) (-1) (n - (k + 4)) ^^^ (-1))), .long (lN (n - (k + 4)))]) (rest := []) ⟨hx, hb, hml, hown, hts⟩ (c_X_cut l dC dI h0 a0 a1 cB cI n ns wd f g (sum) ((cr_rg f (k + 4) (-1) (n - (k + 4)) ^^^ (-1))) (lN (n - (k + 4)))) (cwV 3 hts gX0_mended_X0_cut rfl rfl rfl (by decide +kernel) ⟨Nat.le_of_ble_eq_true rfl, Nat.le_of_ble_eq_true rfl⟩) (xw_pre hP hK _) rfl hl.1 rfl (Nat.le_of_ble_eq_true rfl) dX0_mended_38 ⟨Nat.zero_le _, Nat.zero_le _⟩ ?_
      refine lv_istore (lv' := [(4, .int ((an_cu sum ((cr_rg f (k + 4) (-1) (n - (k + 4)) ^^^ (-1))) (lN (n - (k + 4)))))), (3, .int (nI (k + 4))), (0, .ref h0), (1, .int (x)), (2, .int (sum))]) hx hb dX0_mended_41 hl (by decide) rfl (fun ls hl => ?_)
      refine lv_aload_n hx hb dX0_mended_43 rfl (lv_at hl 2 rfl) ?_
      refine lv_iconst (v := 0) hx hb dX0_mended_44 (by decide) ?_
      refine lv_iload_n hx hb dX0_mended_45 rfl (lv_at hl 3 rfl) ?_
      refine q_ti (y := nI k) (hxk) ?_
      refine q_V (As := [.int (0), .int (nI k)]) (rest := []) ⟨hx, hb, hml, hown, hts⟩ (c_X_polySum l dC dI h0 a0 a1 cB cI n ns wd f g (0) (k) (by omega) (by omega) (hn) (hg)) (cwV 2 hts gX0_mended_X0_polySum rfl rfl rfl (by decide +kernel) ⟨Nat.le_of_ble_eq_true rfl, Nat.le_of_ble_eq_true rfl⟩) (xw_pre hP hK _) rfl hl.1 rfl (Nat.le_of_ble_eq_true rfl) dX0_mended_46 ⟨Nat.zero_le _, Nat.zero_le _⟩ ?_
      refine lv_iload hx hb dX0_mended_49 (lv_at hl 0 rfl) ?_
      refine q_S (As := [.int ((cr_rg f 0 (-1) (k - 0) ^^^ (-1))), .int ((an_cu sum ((cr_rg f (k + 4) (-1) (n - (k + 4)) ^^^ (-1))) (lN (n - (k + 4)))))]) (rest := []) ⟨hx, hb, hml, hown, hts⟩ (c_X_fourBetween l ((cr_rg f 0 (-1) (k - 0) ^^^ (-1))) ((an_cu sum ((cr_rg f (k + 4) (-1) (n - (k + 4)) ^^^ (-1))) (lN (n - (k + 4)))))) (va_cwS 2 hts gX0_mended_X0_fourBetween rfl rfl rfl (by decide +kernel) ⟨Nat.le_of_ble_eq_true rfl, Nat.le_of_ble_eq_true rfl⟩) rfl hl.1 rfl (Nat.le_of_ble_eq_true rfl) dX0_mended_51 ⟨Nat.zero_le _, Nat.zero_le _⟩ ?_
      exact W.iret (v := (tu_x ((((cr_rg f 0 (-1) (k - 0) ^^^ (-1))) ^^^ (-1)) ^^^ cr_it cr_b 32 (((an_cu sum ((cr_rg f (k + 4) (-1) (n - (k + 4)) ^^^ (-1))) (lN (n - (k + 4))))) ^^^ (-1))))) hx hb hr (fun t ht _ => ⟨congrArg (fun z => Outcome.returned (some (Value.int z))) (by unfold an_me; rw [if_neg c_1, if_pos c_11, hxk, nI_clamp (by omega)]; exact me_x hk hn), ht⟩) (fun _ h => by cases h) dX0_mended_54
    · refine lv_iconst (v := 0) hx hb dX0_mended_14 (by decide) ?_
      exact W.iret (v := 0) hx hb hr (fun t ht _ => ⟨congrArg (fun z => Outcome.returned (some (Value.int z))) (by unfold an_me; rw [if_neg c_1, if_neg c_11]), ht⟩) (fun _ h => by cases h) dX0_mended_15
end
section
set_option maxHeartbeats 4000000 in
set_option maxRecDepth 100000 in
theorem c_X_narrowOfLanes (l : Launch) (dC : Nat → ClassId) (dI : Nat → Nat → Nat) (h0 a0 a1 : Nat) (cB cI : ClassId) (n : Nat) (ns : Int32) (wd : Int64) (f g : Nat → Int32) (a : Nat) (b : Nat) (sd : Int32) (hab : a ≤ b) (hbn : b ≤ n) (hn : n ≤ 65536) : Met l yX0_narrowOfLanes wsX0_narrowOfLanes ({ frames := 2, cells := 0, slots := 0, locals := 42 } : Room) (va_Pc [.ref h0, .int (nI a), .int (nI b), .int sd] (xW dC dI h0 a0 a1 cB cI n ns wd f g)) (k2_QcV (.int (na_la f a b sd))) 0 0 (fun _ => False) := by
  refine Met.ofW (cc := cX0_narrowOfLanes) (maxL := 9) (ret := some .int) (by decide) rfl ?_
  intro p e s m args below meth c s₁ B hml hv
  obtain ⟨rfl, hP, hK⟩ := hv
  have hx := B.exec
  have hb := B.bytes
  have hr := B.returns
  have hts := atoms_spec (ws := wsX0_narrowOfLanes) B.pre
  have hown : s.vm.findClass RX0 = some m.cls := findClass_of_methodNamed B.named
  have hlocks := B.notSynchronized
  have hl := lv_entry ([.ref h0, .int (nI a), .int (nI b), .int sd]) (n := 9) (Nat.le_of_ble_eq_true rfl)
  rw [lg_entry_eq]
  generalize (lg_sl ([.ref h0, .int (nI a), .int (nI b), .int sd]) ++ List.replicate (9 - (lg_sl ([.ref h0, .int (nI a), .int (nI b), .int sd])).length) Slot.unset).toArray = ls at hl ⊢
  have hl : lv_has ls 9 [(0, .ref h0), (1, .int (nI a)), (2, .int (nI b)), (3, .int (sd))] := hl
  refine lv_iload_n hx hb dX0_narrowOfLanes_0 rfl (lv_at hl 3 rfl) ?_
  refine lv_ldc (v := -1640531535) hx hb hown (hts (.constant RX0 98 (-1640531535)) (by decide +kernel)) dX0_narrowOfLanes_1 ?_
  refine lv_iadd hx hb dX0_narrowOfLanes_3 ?_
  refine lv_ldc (v := -2048144777) hx hb hown (hts (.constant RX0 102 (-2048144777)) (by decide +kernel)) dX0_narrowOfLanes_4 ?_
  refine lv_iadd hx hb dX0_narrowOfLanes_6 ?_
  refine lv_istore (lv' := [(4, .int (((sd + (-1640531535)) + (-2048144777)))), (0, .ref h0), (1, .int (nI a)), (2, .int (nI b)), (3, .int (sd))]) hx hb dX0_narrowOfLanes_7 hl (by decide) rfl (fun ls hl => ?_)
  refine lv_iload_n hx hb dX0_narrowOfLanes_9 rfl (lv_at hl 4 rfl) ?_
  refine lv_ldc (v := -2048144777) hx hb hown (hts (.constant RX0 102 (-2048144777)) (by decide +kernel)) dX0_narrowOfLanes_10 ?_
  refine lv_iadd hx hb dX0_narrowOfLanes_12 ?_
  refine lv_istore (lv' := [(5, .int ((sd + (-2048144777)))), (4, .int (((sd + (-1640531535)) + (-2048144777)))), (0, .ref h0), (1, .int (nI a)), (2, .int (nI b)), (3, .int (sd))]) hx hb dX0_narrowOfLanes_13 hl (by decide) rfl (fun ls hl => ?_)
  refine lv_iload_n hx hb dX0_narrowOfLanes_15 rfl (lv_at hl 5 rfl) ?_
  refine lv_istore (lv' := [(6, .int (sd)), (5, .int ((sd + (-2048144777)))), (4, .int (((sd + (-1640531535)) + (-2048144777)))), (0, .ref h0), (1, .int (nI a)), (2, .int (nI b)), (3, .int (sd))]) hx hb dX0_narrowOfLanes_16 hl (by decide) rfl (fun ls hl => ?_)
  refine lv_iload_n hx hb dX0_narrowOfLanes_18 rfl (lv_at hl 6 rfl) ?_
  refine lv_ldc (v := -1640531535) hx hb hown (hts (.constant RX0 98 (-1640531535)) (by decide +kernel)) dX0_narrowOfLanes_19 ?_
  refine lv_isub hx hb dX0_narrowOfLanes_21 ?_
  refine lv_istore (lv' := [(7, .int ((sd - (-1640531535)))), (6, .int (sd)), (5, .int ((sd + (-2048144777)))), (4, .int (((sd + (-1640531535)) + (-2048144777)))), (0, .ref h0), (1, .int (nI a)), (2, .int (nI b)), (3, .int (sd))]) hx hb dX0_narrowOfLanes_22 hl (by decide) rfl (fun ls hl => ?_)
  refine lv_iload_n hx hb dX0_narrowOfLanes_24 rfl (lv_at hl 5 rfl) ?_
  refine lv_istore (lv' := [(8, .int (nI a)), (7, .int ((sd - (-1640531535)))), (6, .int (sd)), (5, .int ((sd + (-2048144777)))), (4, .int (((sd + (-1640531535)) + (-2048144777)))), (0, .ref h0), (1, .int (nI a)), (2, .int (nI b)), (3, .int (sd))]) hx hb dX0_narrowOfLanes_25 hl (by decide) rfl (fun ls hl => ?_)
  have L27 : ∀ (d j : Nat), j + d = (b - a) / 16 → ∀ ls : Array Slot, lv_has ls 9 [(0, .ref h0), (1, .int (nI a)), (2, .int (nI b)), (3, .int (sd)), (4, .int (na_fo f a 0 (sd + (-1640531535) + (-2048144777)) (j))), (5, .int (na_fo f a 1 (sd + (-2048144777)) (j))), (6, .int (na_fo f a 2 sd (j))), (7, .int (na_fo f a 3 (sd - (-1640531535)) (j))), (8, .int (nI (a + 16 * (j))))] → W p l e (headSpec wsX0_narrowOfLanes ({ frames := 2, cells := 0, slots := 0, locals := 42 } : Room)).room s m [Value.ref h0, .int (nI a), .int (nI b), .int sd].toArray below meth c s.heap [] 0 0 (MQ below (k2_QcV (.int (na_la f a b sd))) [Value.ref h0, .int (nI a), .int (nI b), .int sd].toArray s 0 0 (fun _ => False)) (F0 m 27 ls []) := by
    intro d
    induction d with
    | zero =>
      intro j hj ls hl
      obtain rfl : (b - a) / 16 = j := by omega
      refine lv_iload_n hx hb dX0_narrowOfLanes_27 rfl (lv_at hl 2 rfl) ?_
      refine lv_iload hx hb dX0_narrowOfLanes_28 (lv_at hl 8 rfl) ?_
      refine lv_isub hx hb dX0_narrowOfLanes_30 ?_
      refine q_ti (y := nI (b - (a + 16 * ((b - a) / 16)))) (pk_sub (by omega)) ?_
      refine lv_bipush (v := 16) hx hb dX0_narrowOfLanes_31 (by decide) ?_
      refine lv_icmp_lt (tgt := 102) hx hb dX0_narrowOfLanes_33 (by decide) (fun c_33 => ?_) (fun c_33 => ?_)
      · refine lv_iload hx hb dX0_narrowOfLanes_102 (lv_at hl 4 rfl) ?_
        refine lv_iconst (v := 1) hx hb dX0_narrowOfLanes_104 (by decide) ?_
        refine q_S (As := [.int (na_fo f a 0 (sd + (-1640531535) + (-2048144777)) (((b - a) / 16))), .int (1)]) (rest := []) ⟨hx, hb, hml, hown, hts⟩ (c_X_rotated l (na_fo f a 0 (sd + (-1640531535) + (-2048144777)) (((b - a) / 16))) (1)) (va_cwS 2 hts gX0_narrowOfLanes_X0_rotated rfl rfl rfl (by decide +kernel) ⟨Nat.le_of_ble_eq_true rfl, Nat.le_of_ble_eq_true rfl⟩) rfl hl.1 rfl (Nat.le_of_ble_eq_true rfl) dX0_narrowOfLanes_105 ⟨Nat.zero_le _, Nat.zero_le _⟩ ?_
        refine lv_iload hx hb dX0_narrowOfLanes_108 (lv_at hl 5 rfl) ?_
        refine lv_bipush (v := 7) hx hb dX0_narrowOfLanes_110 (by decide) ?_
        refine q_S (As := [.int (na_fo f a 1 (sd + (-2048144777)) (((b - a) / 16))), .int (7)]) (rest := [.int ((na_rt (na_fo f a 0 (sd + (-1640531535) + (-2048144777)) (((b - a) / 16))) 1))]) ⟨hx, hb, hml, hown, hts⟩ (c_X_rotated l (na_fo f a 1 (sd + (-2048144777)) (((b - a) / 16))) (7)) (va_cwS 2 hts gX0_narrowOfLanes_X0_rotated rfl rfl rfl (by decide +kernel) ⟨Nat.le_of_ble_eq_true rfl, Nat.le_of_ble_eq_true rfl⟩) rfl hl.1 rfl (Nat.le_of_ble_eq_true rfl) dX0_narrowOfLanes_112 ⟨Nat.zero_le _, Nat.zero_le _⟩ ?_
        refine lv_iadd hx hb dX0_narrowOfLanes_115 ?_
        refine lv_iload hx hb dX0_narrowOfLanes_116 (lv_at hl 6 rfl) ?_
        refine lv_bipush (v := 12) hx hb dX0_narrowOfLanes_118 (by decide) ?_
        refine q_S (As := [.int (na_fo f a 2 sd (((b - a) / 16))), .int (12)]) (rest := [.int (((na_rt (na_fo f a 0 (sd + (-1640531535) + (-2048144777)) (((b - a) / 16))) 1) + (na_rt (na_fo f a 1 (sd + (-2048144777)) (((b - a) / 16))) 7)))]) ⟨hx, hb, hml, hown, hts⟩ (c_X_rotated l (na_fo f a 2 sd (((b - a) / 16))) (12)) (va_cwS 2 hts gX0_narrowOfLanes_X0_rotated rfl rfl rfl (by decide +kernel) ⟨Nat.le_of_ble_eq_true rfl, Nat.le_of_ble_eq_true rfl⟩) rfl hl.1 rfl (Nat.le_of_ble_eq_true rfl) dX0_narrowOfLanes_120 ⟨Nat.zero_le _, Nat.zero_le _⟩ ?_
        refine lv_iadd hx hb dX0_narrowOfLanes_123 ?_
        refine lv_iload hx hb dX0_narrowOfLanes_124 (lv_at hl 7 rfl) ?_
        refine lv_bipush (v := 18) hx hb dX0_narrowOfLanes_126 (by decide) ?_
        refine q_S (As := [.int (na_fo f a 3 (sd - (-1640531535)) (((b - a) / 16))), .int (18)]) (rest := [.int ((((na_rt (na_fo f a 0 (sd + (-1640531535) + (-2048144777)) (((b - a) / 16))) 1) + (na_rt (na_fo f a 1 (sd + (-2048144777)) (((b - a) / 16))) 7)) + (na_rt (na_fo f a 2 sd (((b - a) / 16))) 12)))]) ⟨hx, hb, hml, hown, hts⟩ (c_X_rotated l (na_fo f a 3 (sd - (-1640531535)) (((b - a) / 16))) (18)) (va_cwS 2 hts gX0_narrowOfLanes_X0_rotated rfl rfl rfl (by decide +kernel) ⟨Nat.le_of_ble_eq_true rfl, Nat.le_of_ble_eq_true rfl⟩) rfl hl.1 rfl (Nat.le_of_ble_eq_true rfl) dX0_narrowOfLanes_128 ⟨Nat.zero_le _, Nat.zero_le _⟩ ?_
        refine lv_iadd hx hb dX0_narrowOfLanes_131 ?_
        exact W.iret (v := ((((na_rt (na_fo f a 0 (sd + (-1640531535) + (-2048144777)) (((b - a) / 16))) 1) + (na_rt (na_fo f a 1 (sd + (-2048144777)) (((b - a) / 16))) 7)) + (na_rt (na_fo f a 2 sd (((b - a) / 16))) 12)) + (na_rt (na_fo f a 3 (sd - (-1640531535)) (((b - a) / 16))) 18))) hx hb hr (fun t ht _ => ⟨congrArg (fun z => Outcome.returned (some (Value.int z))) (rfl), ht⟩) (fun _ h => by cases h) dX0_narrowOfLanes_132
      · exact absurd (nI_lt (b := 16) (by omega) (by omega)) c_33
    | succ d ih =>
      intro j hj ls hl
      have hjl : j < (b - a) / 16 := by omega
      refine lv_iload_n hx hb dX0_narrowOfLanes_27 rfl (lv_at hl 2 rfl) ?_
      refine lv_iload hx hb dX0_narrowOfLanes_28 (lv_at hl 8 rfl) ?_
      refine lv_isub hx hb dX0_narrowOfLanes_30 ?_
      refine q_ti (y := nI (b - (a + 16 * j))) (pk_sub (by omega)) ?_
      refine lv_bipush (v := 16) hx hb dX0_narrowOfLanes_31 (by decide) ?_
      refine lv_icmp_lt (tgt := 102) hx hb dX0_narrowOfLanes_33 (by decide) (fun c_33 => ?_) (fun c_33 => ?_)
      · exact absurd c_33 (nI_nlt (b := 16) (by omega) (by omega))
      · refine lv_iload hx hb dX0_narrowOfLanes_36 (lv_at hl 4 rfl) ?_
        refine lv_aload_n hx hb dX0_narrowOfLanes_38 rfl (lv_at hl 0 rfl) ?_
        refine lv_iload hx hb dX0_narrowOfLanes_39 (lv_at hl 8 rfl) ?_
        refine q_V (As := [.int (nI (a + 16 * (j)))]) (rest := [.int (na_fo f a 0 (sd + (-1640531535) + (-2048144777)) (j))]) ⟨hx, hb, hml, hown, hts⟩ (c_X_word l dC dI h0 a0 a1 cB cI n ns wd f g (a + 16 * j) (by omega)) (cwV 1 hts gX0_narrowOfLanes_X0_word rfl rfl rfl (by decide +kernel) ⟨Nat.le_of_ble_eq_true rfl, Nat.le_of_ble_eq_true rfl⟩) (xw_pre hP hK _) rfl hl.1 rfl (Nat.le_of_ble_eq_true rfl) dX0_narrowOfLanes_41 ⟨Nat.zero_le _, Nat.zero_le _⟩ ?_
        refine q_S (As := [.int (na_fo f a 0 (sd + (-1640531535) + (-2048144777)) (j)), .int ((wo_4 f (a + 16 * j)))]) (rest := []) ⟨hx, hb, hml, hown, hts⟩ (c_X_narrowLane l (na_fo f a 0 (sd + (-1640531535) + (-2048144777)) (j)) ((wo_4 f (a + 16 * j)))) (va_cwS 2 hts gX0_narrowOfLanes_X0_narrowLane rfl rfl rfl (by decide +kernel) ⟨Nat.le_of_ble_eq_true rfl, Nat.le_of_ble_eq_true rfl⟩) rfl hl.1 rfl (Nat.le_of_ble_eq_true rfl) dX0_narrowOfLanes_44 ⟨Nat.zero_le _, Nat.zero_le _⟩ ?_
        refine q_ti (y := na_fo f a 0 (sd + (-1640531535) + (-2048144777)) (j + 1)) (rfl) ?_
        refine lv_istore (lv' := [(4, .int (na_fo f a 0 (sd + (-1640531535) + (-2048144777)) (j + 1))), (0, .ref h0), (1, .int (nI a)), (2, .int (nI b)), (3, .int (sd)), (5, .int (na_fo f a 1 (sd + (-2048144777)) (j))), (6, .int (na_fo f a 2 sd (j))), (7, .int (na_fo f a 3 (sd - (-1640531535)) (j))), (8, .int (nI (a + 16 * (j))))]) hx hb dX0_narrowOfLanes_47 hl (by decide) rfl (fun ls hl => ?_)
        refine lv_iload hx hb dX0_narrowOfLanes_49 (lv_at hl 5 rfl) ?_
        refine lv_aload_n hx hb dX0_narrowOfLanes_51 rfl (lv_at hl 1 rfl) ?_
        refine lv_iload hx hb dX0_narrowOfLanes_52 (lv_at hl 8 rfl) ?_
        refine lv_iconst (v := 4) hx hb dX0_narrowOfLanes_54 (by decide) ?_
        refine lv_iadd hx hb dX0_narrowOfLanes_55 ?_
        refine q_ti (y := nI (a + 16 * j + 4)) (nI_add _ 4) ?_
        refine q_V (As := [.int (nI (a + 16 * j + 4))]) (rest := [.int (na_fo f a 1 (sd + (-2048144777)) (j))]) ⟨hx, hb, hml, hown, hts⟩ (c_X_word l dC dI h0 a0 a1 cB cI n ns wd f g (a + 16 * j + 4) (by omega)) (cwV 1 hts gX0_narrowOfLanes_X0_word rfl rfl rfl (by decide +kernel) ⟨Nat.le_of_ble_eq_true rfl, Nat.le_of_ble_eq_true rfl⟩) (xw_pre hP hK _) rfl hl.1 rfl (Nat.le_of_ble_eq_true rfl) dX0_narrowOfLanes_56 ⟨Nat.zero_le _, Nat.zero_le _⟩ ?_
        refine q_S (As := [.int (na_fo f a 1 (sd + (-2048144777)) (j)), .int ((wo_4 f (a + 16 * j + 4)))]) (rest := []) ⟨hx, hb, hml, hown, hts⟩ (c_X_narrowLane l (na_fo f a 1 (sd + (-2048144777)) (j)) ((wo_4 f (a + 16 * j + 4)))) (va_cwS 2 hts gX0_narrowOfLanes_X0_narrowLane rfl rfl rfl (by decide +kernel) ⟨Nat.le_of_ble_eq_true rfl, Nat.le_of_ble_eq_true rfl⟩) rfl hl.1 rfl (Nat.le_of_ble_eq_true rfl) dX0_narrowOfLanes_59 ⟨Nat.zero_le _, Nat.zero_le _⟩ ?_
        refine q_ti (y := na_fo f a 1 (sd + (-2048144777)) (j + 1)) (rfl) ?_
        refine lv_istore (lv' := [(5, .int (na_fo f a 1 (sd + (-2048144777)) (j + 1))), (4, .int (na_fo f a 0 (sd + (-1640531535) + (-2048144777)) (j + 1))), (0, .ref h0), (1, .int (nI a)), (2, .int (nI b)), (3, .int (sd)), (6, .int (na_fo f a 2 sd (j))), (7, .int (na_fo f a 3 (sd - (-1640531535)) (j))), (8, .int (nI (a + 16 * (j))))]) hx hb dX0_narrowOfLanes_62 hl (by decide) rfl (fun ls hl => ?_)
        refine lv_iload hx hb dX0_narrowOfLanes_64 (lv_at hl 6 rfl) ?_
        refine lv_aload_n hx hb dX0_narrowOfLanes_66 rfl (lv_at hl 2 rfl) ?_
        refine lv_iload hx hb dX0_narrowOfLanes_67 (lv_at hl 8 rfl) ?_
        refine lv_bipush (v := 8) hx hb dX0_narrowOfLanes_69 (by decide) ?_
        refine lv_iadd hx hb dX0_narrowOfLanes_71 ?_
        refine q_ti (y := nI (a + 16 * j + 8)) (nI_add _ 8) ?_
        refine q_V (As := [.int (nI (a + 16 * j + 8))]) (rest := [.int (na_fo f a 2 sd (j))]) ⟨hx, hb, hml, hown, hts⟩ (c_X_word l dC dI h0 a0 a1 cB cI n ns wd f g (a + 16 * j + 8) (by omega)) (cwV 1 hts gX0_narrowOfLanes_X0_word rfl rfl rfl (by decide +kernel) ⟨Nat.le_of_ble_eq_true rfl, Nat.le_of_ble_eq_true rfl⟩) (xw_pre hP hK _) rfl hl.1 rfl (Nat.le_of_ble_eq_true rfl) dX0_narrowOfLanes_72 ⟨Nat.zero_le _, Nat.zero_le _⟩ ?_
        refine q_S (As := [.int (na_fo f a 2 sd (j)), .int ((wo_4 f (a + 16 * j + 8)))]) (rest := []) ⟨hx, hb, hml, hown, hts⟩ (c_X_narrowLane l (na_fo f a 2 sd (j)) ((wo_4 f (a + 16 * j + 8)))) (va_cwS 2 hts gX0_narrowOfLanes_X0_narrowLane rfl rfl rfl (by decide +kernel) ⟨Nat.le_of_ble_eq_true rfl, Nat.le_of_ble_eq_true rfl⟩) rfl hl.1 rfl (Nat.le_of_ble_eq_true rfl) dX0_narrowOfLanes_75 ⟨Nat.zero_le _, Nat.zero_le _⟩ ?_
        refine q_ti (y := na_fo f a 2 sd (j + 1)) (rfl) ?_
        refine lv_istore (lv' := [(6, .int (na_fo f a 2 sd (j + 1))), (5, .int (na_fo f a 1 (sd + (-2048144777)) (j + 1))), (4, .int (na_fo f a 0 (sd + (-1640531535) + (-2048144777)) (j + 1))), (0, .ref h0), (1, .int (nI a)), (2, .int (nI b)), (3, .int (sd)), (7, .int (na_fo f a 3 (sd - (-1640531535)) (j))), (8, .int (nI (a + 16 * (j))))]) hx hb dX0_narrowOfLanes_78 hl (by decide) rfl (fun ls hl => ?_)
        refine lv_iload hx hb dX0_narrowOfLanes_80 (lv_at hl 7 rfl) ?_
        refine lv_aload_n hx hb dX0_narrowOfLanes_82 rfl (lv_at hl 3 rfl) ?_
        refine lv_iload hx hb dX0_narrowOfLanes_83 (lv_at hl 8 rfl) ?_
        refine lv_bipush (v := 12) hx hb dX0_narrowOfLanes_85 (by decide) ?_
        refine lv_iadd hx hb dX0_narrowOfLanes_87 ?_
        refine q_ti (y := nI (a + 16 * j + 12)) (nI_add _ 12) ?_
        refine q_V (As := [.int (nI (a + 16 * j + 12))]) (rest := [.int (na_fo f a 3 (sd - (-1640531535)) (j))]) ⟨hx, hb, hml, hown, hts⟩ (c_X_word l dC dI h0 a0 a1 cB cI n ns wd f g (a + 16 * j + 12) (by omega)) (cwV 1 hts gX0_narrowOfLanes_X0_word rfl rfl rfl (by decide +kernel) ⟨Nat.le_of_ble_eq_true rfl, Nat.le_of_ble_eq_true rfl⟩) (xw_pre hP hK _) rfl hl.1 rfl (Nat.le_of_ble_eq_true rfl) dX0_narrowOfLanes_88 ⟨Nat.zero_le _, Nat.zero_le _⟩ ?_
        refine q_S (As := [.int (na_fo f a 3 (sd - (-1640531535)) (j)), .int ((wo_4 f (a + 16 * j + 12)))]) (rest := []) ⟨hx, hb, hml, hown, hts⟩ (c_X_narrowLane l (na_fo f a 3 (sd - (-1640531535)) (j)) ((wo_4 f (a + 16 * j + 12)))) (va_cwS 2 hts gX0_narrowOfLanes_X0_narrowLane rfl rfl rfl (by decide +kernel) ⟨Nat.le_of_ble_eq_true rfl, Nat.le_of_ble_eq_true rfl⟩) rfl hl.1 rfl (Nat.le_of_ble_eq_true rfl) dX0_narrowOfLanes_91 ⟨Nat.zero_le _, Nat.zero_le _⟩ ?_
        refine q_ti (y := na_fo f a 3 (sd - (-1640531535)) (j + 1)) (rfl) ?_
        refine lv_istore (lv' := [(7, .int (na_fo f a 3 (sd - (-1640531535)) (j + 1))), (6, .int (na_fo f a 2 sd (j + 1))), (5, .int (na_fo f a 1 (sd + (-2048144777)) (j + 1))), (4, .int (na_fo f a 0 (sd + (-1640531535) + (-2048144777)) (j + 1))), (0, .ref h0), (1, .int (nI a)), (2, .int (nI b)), (3, .int (sd)), (8, .int (nI (a + 16 * (j))))]) hx hb dX0_narrowOfLanes_94 hl (by decide) rfl (fun ls hl => ?_)
        refine lv_iinc (v := nI (a + 16 * (j + 1))) (lv' := [(8, .int (nI (a + 16 * (j + 1)))), (7, .int (na_fo f a 3 (sd - (-1640531535)) (j + 1))), (6, .int (na_fo f a 2 sd (j + 1))), (5, .int (na_fo f a 1 (sd + (-2048144777)) (j + 1))), (4, .int (na_fo f a 0 (sd + (-1640531535) + (-2048144777)) (j + 1))), (0, .ref h0), (1, .int (nI a)), (2, .int (nI b)), (3, .int (sd))]) hx hb dX0_narrowOfLanes_96 hl (k := 8) rfl (by rw [show a + 16 * (j + 1) = a + 16 * j + 16 by omega]; exact nI_add _ 16) (by decide) rfl (fun ls hl => ?_)
        refine lv_goto (tgt := 27) hx hb dX0_narrowOfLanes_99 (by decide) ?_
        exact ih (j + 1) (by omega) ls (lv_sub hl [5, 6, 7, 8, 4, 3, 2, 1, 0] rfl)
  exact L27 ((b - a) / 16) 0 (by omega) ls (lv_sub hl [5, 6, 7, 8, 4, 3, 2, 1, 0] rfl)
set_option maxHeartbeats 4000000 in
set_option maxRecDepth 100000 in
theorem c_X_narrowSum (l : Launch) (dC : Nat → ClassId) (dI : Nat → Nat → Nat) (h0 a0 a1 : Nat) (cB cI : ClassId) (n : Nat) (ns : Int32) (wd : Int64) (f g : Nat → Int32) (a : Nat) (b : Nat) (sd : Int32) (hab : a ≤ b) (hbn : b ≤ n) (hn : n ≤ 65536) : Met l yX0_narrowSum wsX0_narrowSum ({ frames := 3, cells := 0, slots := 0, locals := 70 } : Room) (va_Pc [.ref h0, .int (nI a), .int (nI b), .int sd] (xW dC dI h0 a0 a1 cB cI n ns wd f g)) (k2_QcV (.int (na_sum f a b sd))) 0 0 (fun _ => False) := by
  refine Met.ofW (cc := cX0_narrowSum) (maxL := 7) (ret := some .int) (by decide) rfl ?_
  intro p e s m args below meth c s₁ B hml hv
  obtain ⟨rfl, hP, hK⟩ := hv
  have hx := B.exec
  have hb := B.bytes
  have hr := B.returns
  have hts := atoms_spec (ws := wsX0_narrowSum) B.pre
  have hown : s.vm.findClass RX0 = some m.cls := findClass_of_methodNamed B.named
  have hlocks := B.notSynchronized
  have hl := lv_entry ([.ref h0, .int (nI a), .int (nI b), .int sd]) (n := 7) (Nat.le_of_ble_eq_true rfl)
  rw [lg_entry_eq]
  generalize (lg_sl ([.ref h0, .int (nI a), .int (nI b), .int sd]) ++ List.replicate (7 - (lg_sl ([.ref h0, .int (nI a), .int (nI b), .int sd])).length) Slot.unset).toArray = ls at hl ⊢
  have hl : lv_has ls 7 [(0, .ref h0), (1, .int (nI a)), (2, .int (nI b)), (3, .int (sd))] := hl
  have hpc := na_pc hab
  obtain ⟨hp1, hp2, hp3, hp4⟩ := hpc
  refine lv_iload_n hx hb dX0_narrowSum_0 rfl (lv_at hl 2 rfl) ?_
  refine lv_iload_n hx hb dX0_narrowSum_1 rfl (lv_at hl 1 rfl) ?_
  refine lv_isub hx hb dX0_narrowSum_2 ?_
  refine q_ti (y := nI (b - a)) (pk_sub hab) ?_
  refine lv_istore (lv' := [(4, .int (nI (b - a))), (0, .ref h0), (1, .int (nI a)), (2, .int (nI b)), (3, .int (sd))]) hx hb dX0_narrowSum_3 hl (by decide) rfl (fun ls hl => ?_)
  have J26 : ∀ ls : Array Slot, lv_has ls 7 [(4, .int (nI (b - a))), (0, .ref h0), (1, .int (nI a)), (2, .int (nI b)), (3, .int (sd))] → W p l e (headSpec wsX0_narrowSum ({ frames := 3, cells := 0, slots := 0, locals := 70 } : Room)).room s m [Value.ref h0, .int (nI a), .int (nI b), .int sd].toArray below meth c s.heap [] 0 0 (MQ below (k2_QcV (.int (na_sum f a b sd))) [Value.ref h0, .int (nI a), .int (nI b), .int sd].toArray s 0 0 (fun _ => False)) (F0 m 26 ls [.int (na_h0 f a b sd)]) := by
    intro ls hl
    refine lv_istore (lv' := [(5, .int (na_h0 f a b sd)), (4, .int (nI (b - a))), (0, .ref h0), (1, .int (nI a)), (2, .int (nI b)), (3, .int (sd))]) hx hb dX0_narrowSum_26 hl (by decide) rfl (fun ls hl => ?_)
    refine lv_iload hx hb dX0_narrowSum_28 (lv_at hl 0 rfl) ?_
    refine lv_iload hx hb dX0_narrowSum_30 (lv_at hl 1 rfl) ?_
    refine lv_iadd hx hb dX0_narrowSum_32 ?_
    refine lv_istore (lv' := [(5, .int ((na_h0 f a b sd + nI (b - a)))), (4, .int (nI (b - a))), (0, .ref h0), (1, .int (nI a)), (2, .int (nI b)), (3, .int (sd))]) hx hb dX0_narrowSum_33 hl (by decide) rfl (fun ls hl => ?_)
    refine lv_iload_n hx hb dX0_narrowSum_35 rfl (lv_at hl 4 rfl) ?_
    refine lv_iload hx hb dX0_narrowSum_36 (lv_at hl 1 rfl) ?_
    refine lv_bipush (v := 16) hx hb dX0_narrowSum_38 (by decide) ?_
    refine lv_irem hx hb dX0_narrowSum_40 (by decide) ?_
    refine q_ti (y := nI ((b - a) % 16)) (pk_rem (d := 16) (by omega) (by omega) (by omega)) ?_
    refine lv_isub hx hb dX0_narrowSum_41 ?_
    refine q_ti (y := nI (na_p a b)) (pk_sub (by omega)) ?_
    refine lv_istore (lv' := [(6, .int (nI (na_p a b))), (5, .int ((na_h0 f a b sd + nI (b - a)))), (4, .int (nI (b - a))), (0, .ref h0), (1, .int (nI a)), (2, .int (nI b)), (3, .int (sd))]) hx hb dX0_narrowSum_42 hl (by decide) rfl (fun ls hl => ?_)
    have L44 : ∀ (d j : Nat), j + d = na_c a b → ∀ ls : Array Slot, lv_has ls 7 [(0, .ref h0), (1, .int (nI a)), (2, .int (nI b)), (3, .int (sd)), (4, .int (nI (b - a))), (5, .int (na_w4 f (na_p a b) (na_h0 f a b sd + nI (b - a)) (j))), (6, .int (nI (na_p a b + 4 * (j))))] → W p l e (headSpec wsX0_narrowSum ({ frames := 3, cells := 0, slots := 0, locals := 70 } : Room)).room s m [Value.ref h0, .int (nI a), .int (nI b), .int sd].toArray below meth c s.heap [] 0 0 (MQ below (k2_QcV (.int (na_sum f a b sd))) [Value.ref h0, .int (nI a), .int (nI b), .int sd].toArray s 0 0 (fun _ => False)) (F0 m 44 ls []) := by
      intro d
      induction d with
      | zero =>
        intro j hj ls hl
        obtain rfl : na_c a b = j := by omega
        refine lv_iload_n hx hb dX0_narrowSum_44 rfl (lv_at hl 2 rfl) ?_
        refine lv_iload hx hb dX0_narrowSum_45 (lv_at hl 6 rfl) ?_
        refine lv_isub hx hb dX0_narrowSum_47 ?_
        refine q_ti (y := nI (b - (na_p a b + 4 * na_c a b))) (pk_sub (by omega)) ?_
        refine lv_iconst (v := 4) hx hb dX0_narrowSum_48 (by decide) ?_
        refine lv_icmp_lt (tgt := 80) hx hb dX0_narrowSum_49 (by decide) (fun c_49 => ?_) (fun c_49 => ?_)
        · have L80 : ∀ (d j : Nat), j + d = b - (na_p a b + 4 * na_c a b) → ∀ ls : Array Slot, lv_has ls 7 [(0, .ref h0), (1, .int (nI a)), (2, .int (nI b)), (3, .int (sd)), (4, .int (nI (b - a))), (5, .int (na_w1 f (na_p a b + 4 * na_c a b) (na_w4 f (na_p a b) (na_h0 f a b sd + nI (b - a)) (na_c a b)) (j))), (6, .int (nI ((na_p a b + 4 * na_c a b) + (j))))] → W p l e (headSpec wsX0_narrowSum ({ frames := 3, cells := 0, slots := 0, locals := 70 } : Room)).room s m [Value.ref h0, .int (nI a), .int (nI b), .int sd].toArray below meth c s.heap [] 0 0 (MQ below (k2_QcV (.int (na_sum f a b sd))) [Value.ref h0, .int (nI a), .int (nI b), .int sd].toArray s 0 0 (fun _ => False)) (F0 m 80 ls []) := by
            intro d
            induction d with
            | zero =>
              intro j hj ls hl
              obtain rfl : b - (na_p a b + 4 * na_c a b) = j := by omega
              refine lv_iload hx hb dX0_narrowSum_80 (lv_at hl 6 rfl) ?_
              refine lv_iload_n hx hb dX0_narrowSum_82 rfl (lv_at hl 2 rfl) ?_
              refine lv_icmp_ge (tgt := 114) hx hb dX0_narrowSum_83 (by decide) (fun c_83 => ?_) (fun c_83 => ?_)
              · refine lv_iload hx hb dX0_narrowSum_114 (lv_at hl 5 rfl) ?_
                refine q_S (As := [.int (na_w1 f (na_p a b + 4 * na_c a b) (na_w4 f (na_p a b) (na_h0 f a b sd + nI (b - a)) (na_c a b)) ((b - (na_p a b + 4 * na_c a b))))]) (rest := []) ⟨hx, hb, hml, hown, hts⟩ (c_X_narrowStirred l (na_w1 f (na_p a b + 4 * na_c a b) (na_w4 f (na_p a b) (na_h0 f a b sd + nI (b - a)) (na_c a b)) ((b - (na_p a b + 4 * na_c a b))))) (va_cwS 1 hts gX0_narrowSum_X0_narrowStirred rfl rfl rfl (by decide +kernel) ⟨Nat.le_of_ble_eq_true rfl, Nat.le_of_ble_eq_true rfl⟩) rfl hl.1 rfl (Nat.le_of_ble_eq_true rfl) dX0_narrowSum_116 ⟨Nat.zero_le _, Nat.zero_le _⟩ ?_
                exact W.iret (v := (na_s3 (na_s2 (na_s1 (na_w1 f (na_p a b + 4 * na_c a b) (na_w4 f (na_p a b) (na_h0 f a b sd + nI (b - a)) (na_c a b)) ((b - (na_p a b + 4 * na_c a b)))))))) hx hb hr (fun t ht _ => ⟨congrArg (fun z => Outcome.returned (some (Value.int z))) (rfl), ht⟩) (fun _ h => by cases h) dX0_narrowSum_119
              · exact absurd (nI_le (by omega) (by omega)) c_83
            | succ d ih =>
              intro j hj ls hl
              have hjl : j < b - (na_p a b + 4 * na_c a b) := by omega
              refine lv_iload hx hb dX0_narrowSum_80 (lv_at hl 6 rfl) ?_
              refine lv_iload_n hx hb dX0_narrowSum_82 rfl (lv_at hl 2 rfl) ?_
              refine lv_icmp_ge (tgt := 114) hx hb dX0_narrowSum_83 (by decide) (fun c_83 => ?_) (fun c_83 => ?_)
              · exact absurd c_83 (nI_ge (by omega) (by omega))
              · refine lv_iload hx hb dX0_narrowSum_86 (lv_at hl 5 rfl) ?_
                refine lv_aload_n hx hb dX0_narrowSum_88 rfl (lv_at hl 0 rfl) ?_
                refine lv_iload hx hb dX0_narrowSum_89 (lv_at hl 6 rfl) ?_
                refine q_V (As := [.int (nI ((na_p a b + 4 * na_c a b) + (j)))]) (rest := [.int (na_w1 f (na_p a b + 4 * na_c a b) (na_w4 f (na_p a b) (na_h0 f a b sd + nI (b - a)) (na_c a b)) (j))]) ⟨hx, hb, hml, hown, hts⟩ (c_X_byteIn l dC dI h0 a0 a1 cB cI n ns wd f g ((na_p a b + 4 * na_c a b) + j) (by omega) (hn)) (cwV 1 hts gX0_narrowSum_X0_byteAt rfl rfl rfl (by decide +kernel) ⟨Nat.le_of_ble_eq_true rfl, Nat.le_of_ble_eq_true rfl⟩) (xw_pre hP hK _) rfl hl.1 rfl (Nat.le_of_ble_eq_true rfl) dX0_narrowSum_91 ⟨Nat.zero_le _, Nat.zero_le _⟩ ?_
                refine lv_ldc (v := 374761393) hx hb hown (hts (.constant RX0 95 (374761393)) (by decide +kernel)) dX0_narrowSum_94 ?_
                refine lv_imul hx hb dX0_narrowSum_96 ?_
                refine lv_iadd hx hb dX0_narrowSum_97 ?_
                refine lv_bipush (v := 11) hx hb dX0_narrowSum_98 (by decide) ?_
                refine q_S (As := [.int ((na_w1 f (na_p a b + 4 * na_c a b) (na_w4 f (na_p a b) (na_h0 f a b sd + nI (b - a)) (na_c a b)) (j) + ((f ((na_p a b + 4 * na_c a b) + j) &&& 255) * 374761393))), .int (11)]) (rest := []) ⟨hx, hb, hml, hown, hts⟩ (c_X_rotated l ((na_w1 f (na_p a b + 4 * na_c a b) (na_w4 f (na_p a b) (na_h0 f a b sd + nI (b - a)) (na_c a b)) (j) + ((f ((na_p a b + 4 * na_c a b) + j) &&& 255) * 374761393))) (11)) (va_cwS 2 hts gX0_narrowSum_X0_rotated rfl rfl rfl (by decide +kernel) ⟨Nat.le_of_ble_eq_true rfl, Nat.le_of_ble_eq_true rfl⟩) rfl hl.1 rfl (Nat.le_of_ble_eq_true rfl) dX0_narrowSum_100 ⟨Nat.zero_le _, Nat.zero_le _⟩ ?_
                refine lv_ldc (v := -1640531535) hx hb hown (hts (.constant RX0 98 (-1640531535)) (by decide +kernel)) dX0_narrowSum_103 ?_
                refine lv_imul hx hb dX0_narrowSum_105 ?_
                refine q_ti (y := na_w1 f (na_p a b + 4 * na_c a b) (na_w4 f (na_p a b) (na_h0 f a b sd + nI (b - a)) (na_c a b)) (j + 1)) (rfl) ?_
                refine lv_istore (lv' := [(5, .int (na_w1 f (na_p a b + 4 * na_c a b) (na_w4 f (na_p a b) (na_h0 f a b sd + nI (b - a)) (na_c a b)) (j + 1))), (0, .ref h0), (1, .int (nI a)), (2, .int (nI b)), (3, .int (sd)), (4, .int (nI (b - a))), (6, .int (nI ((na_p a b + 4 * na_c a b) + (j))))]) hx hb dX0_narrowSum_106 hl (by decide) rfl (fun ls hl => ?_)
                refine lv_iinc (v := nI ((na_p a b + 4 * na_c a b) + (j + 1))) (lv' := [(6, .int (nI ((na_p a b + 4 * na_c a b) + (j + 1)))), (5, .int (na_w1 f (na_p a b + 4 * na_c a b) (na_w4 f (na_p a b) (na_h0 f a b sd + nI (b - a)) (na_c a b)) (j + 1))), (0, .ref h0), (1, .int (nI a)), (2, .int (nI b)), (3, .int (sd)), (4, .int (nI (b - a)))]) hx hb dX0_narrowSum_108 hl (k := 6) rfl (nI_add _ 1) (by decide) rfl (fun ls hl => ?_)
                refine lv_goto (tgt := 80) hx hb dX0_narrowSum_111 (by decide) ?_
                exact ih (j + 1) (by omega) ls (lv_sub hl [2, 3, 4, 5, 6, 1, 0] rfl)
          exact L80 (b - (na_p a b + 4 * na_c a b)) 0 (by omega) ls (lv_sub hl [0, 1, 2, 3, 4, 5, 6] rfl)
        · exact absurd (nI_lt (b := 4) (by omega) (by omega)) c_49
      | succ d ih =>
        intro j hj ls hl
        have hjl : j < na_c a b := by omega
        refine lv_iload_n hx hb dX0_narrowSum_44 rfl (lv_at hl 2 rfl) ?_
        refine lv_iload hx hb dX0_narrowSum_45 (lv_at hl 6 rfl) ?_
        refine lv_isub hx hb dX0_narrowSum_47 ?_
        refine q_ti (y := nI (b - (na_p a b + 4 * j))) (pk_sub (by omega)) ?_
        refine lv_iconst (v := 4) hx hb dX0_narrowSum_48 (by decide) ?_
        refine lv_icmp_lt (tgt := 80) hx hb dX0_narrowSum_49 (by decide) (fun c_49 => ?_) (fun c_49 => ?_)
        · exact absurd c_49 (nI_nlt (b := 4) (by omega) (by omega))
        · refine lv_iload hx hb dX0_narrowSum_52 (lv_at hl 5 rfl) ?_
          refine lv_aload_n hx hb dX0_narrowSum_54 rfl (lv_at hl 0 rfl) ?_
          refine lv_iload hx hb dX0_narrowSum_55 (lv_at hl 6 rfl) ?_
          refine q_V (As := [.int (nI (na_p a b + 4 * (j)))]) (rest := [.int (na_w4 f (na_p a b) (na_h0 f a b sd + nI (b - a)) (j))]) ⟨hx, hb, hml, hown, hts⟩ (c_X_word l dC dI h0 a0 a1 cB cI n ns wd f g (na_p a b + 4 * j) (by omega)) (cwV 1 hts gX0_narrowSum_X0_word rfl rfl rfl (by decide +kernel) ⟨Nat.le_of_ble_eq_true rfl, Nat.le_of_ble_eq_true rfl⟩) (xw_pre hP hK _) rfl hl.1 rfl (Nat.le_of_ble_eq_true rfl) dX0_narrowSum_57 ⟨Nat.zero_le _, Nat.zero_le _⟩ ?_
          refine lv_ldc (v := -1028477379) hx hb hown (hts (.constant RX0 96 (-1028477379)) (by decide +kernel)) dX0_narrowSum_60 ?_
          refine lv_imul hx hb dX0_narrowSum_62 ?_
          refine lv_iadd hx hb dX0_narrowSum_63 ?_
          refine lv_bipush (v := 17) hx hb dX0_narrowSum_64 (by decide) ?_
          refine q_S (As := [.int ((na_w4 f (na_p a b) (na_h0 f a b sd + nI (b - a)) (j) + ((wo_4 f (na_p a b + 4 * j)) * (-1028477379)))), .int (17)]) (rest := []) ⟨hx, hb, hml, hown, hts⟩ (c_X_rotated l ((na_w4 f (na_p a b) (na_h0 f a b sd + nI (b - a)) (j) + ((wo_4 f (na_p a b + 4 * j)) * (-1028477379)))) (17)) (va_cwS 2 hts gX0_narrowSum_X0_rotated rfl rfl rfl (by decide +kernel) ⟨Nat.le_of_ble_eq_true rfl, Nat.le_of_ble_eq_true rfl⟩) rfl hl.1 rfl (Nat.le_of_ble_eq_true rfl) dX0_narrowSum_66 ⟨Nat.zero_le _, Nat.zero_le _⟩ ?_
          refine lv_ldc (v := 668265263) hx hb hown (hts (.constant RX0 97 (668265263)) (by decide +kernel)) dX0_narrowSum_69 ?_
          refine lv_imul hx hb dX0_narrowSum_71 ?_
          refine q_ti (y := na_w4 f (na_p a b) (na_h0 f a b sd + nI (b - a)) (j + 1)) (rfl) ?_
          refine lv_istore (lv' := [(5, .int (na_w4 f (na_p a b) (na_h0 f a b sd + nI (b - a)) (j + 1))), (0, .ref h0), (1, .int (nI a)), (2, .int (nI b)), (3, .int (sd)), (4, .int (nI (b - a))), (6, .int (nI (na_p a b + 4 * (j))))]) hx hb dX0_narrowSum_72 hl (by decide) rfl (fun ls hl => ?_)
          refine lv_iinc (v := nI (na_p a b + 4 * (j + 1))) (lv' := [(6, .int (nI (na_p a b + 4 * (j + 1)))), (5, .int (na_w4 f (na_p a b) (na_h0 f a b sd + nI (b - a)) (j + 1))), (0, .ref h0), (1, .int (nI a)), (2, .int (nI b)), (3, .int (sd)), (4, .int (nI (b - a)))]) hx hb dX0_narrowSum_74 hl (k := 6) rfl (by rw [show na_p a b + 4 * (j + 1) = na_p a b + 4 * j + 4 by omega]; exact nI_add _ 4) (by decide) rfl (fun ls hl => ?_)
          refine lv_goto (tgt := 44) hx hb dX0_narrowSum_77 (by decide) ?_
          exact ih (j + 1) (by omega) ls (lv_sub hl [2, 3, 4, 5, 6, 1, 0] rfl)
    exact L44 (na_c a b) 0 (by omega) ls (lv_sub hl [3, 4, 5, 6, 2, 1, 0] rfl)
  refine lv_iload hx hb dX0_narrowSum_5 (lv_at hl 0 rfl) ?_
  refine lv_bipush (v := 16) hx hb dX0_narrowSum_7 (by decide) ?_
  refine lv_icmp_lt (tgt := 22) hx hb dX0_narrowSum_9 (by decide) (fun c_9 => ?_) (fun c_9 => ?_)
  · refine lv_iload_n hx hb dX0_narrowSum_22 rfl (lv_at hl 4 rfl) ?_
    refine lv_ldc (v := 374761393) hx hb hown (hts (.constant RX0 95 (374761393)) (by decide +kernel)) dX0_narrowSum_23 ?_
    refine lv_iadd hx hb dX0_narrowSum_25 ?_
    refine q_ti (y := na_h0 f a b sd) (by unfold na_h0; rw [if_neg (fun q => nI_nlt (a := b - a) (b := 16) q (by omega) c_9)]) ?_
    exact J26 ls (lv_sub hl [0, 1, 2, 3, 4] rfl)
  · refine lv_aload_n hx hb dX0_narrowSum_12 rfl (lv_at hl 1 rfl) ?_
    refine lv_iload_n hx hb dX0_narrowSum_13 rfl (lv_at hl 2 rfl) ?_
    refine lv_iload_n hx hb dX0_narrowSum_14 rfl (lv_at hl 3 rfl) ?_
    refine lv_iload_n hx hb dX0_narrowSum_15 rfl (lv_at hl 4 rfl) ?_
    refine q_V (As := [.int (nI a), .int (nI b), .int (sd)]) (rest := []) ⟨hx, hb, hml, hown, hts⟩ (c_X_narrowOfLanes l dC dI h0 a0 a1 cB cI n ns wd f g (a) (b) (sd) (by omega) (by omega) (hn)) (cwV 3 hts gX0_narrowSum_X0_narrowOfLanes rfl rfl rfl (by decide +kernel) ⟨Nat.le_of_ble_eq_true rfl, Nat.le_of_ble_eq_true rfl⟩) (xw_pre hP hK _) rfl hl.1 rfl (Nat.le_of_ble_eq_true rfl) dX0_narrowSum_16 ⟨Nat.zero_le _, Nat.zero_le _⟩ ?_
    refine q_ti (y := na_h0 f a b sd) (by unfold na_h0; rw [if_pos (Nat.not_lt.mp (fun q => c_9 (nI_lt (a := b - a) (b := 16) q (by omega))))]) ?_
    refine lv_goto (tgt := 26) hx hb dX0_narrowSum_19 (by decide) ?_
    exact J26 ls (lv_sub hl [0, 1, 2, 3, 4] rfl)
set_option maxHeartbeats 4000000 in
set_option maxRecDepth 100000 in
theorem c_X_narrow (l : Launch) (dC : Nat → ClassId) (dI : Nat → Nat → Nat) (h0 a0 a1 : Nat) (cB cI : ClassId) (n : Nat) (ns : Int32) (wd : Int64) (f g : Nat → Int32) (hn : n ≤ 65536) : Met l yX0_narrow wsX0_narrow ({ frames := 4, cells := 0, slots := 0, locals := 96 } : Room) (va_Pc [.ref h0] (xW dC dI h0 a0 a1 cB cI n ns wd f g)) (k2_QcV (.int (na_sum f 0 n ns))) 0 0 (fun _ => False) := by
  refine Met.ofW (cc := cX0_narrow) (maxL := 1) (ret := some .int) (by decide) rfl ?_
  intro p e s m args below meth c s₁ B hml hv
  obtain ⟨rfl, hP, hK⟩ := hv
  have hx := B.exec
  have hb := B.bytes
  have hr := B.returns
  have hts := atoms_spec (ws := wsX0_narrow) B.pre
  have hown : s.vm.findClass RX0 = some m.cls := findClass_of_methodNamed B.named
  have hlocks := B.notSynchronized
  have hin : ∀ w ∈ u_ws RX0 TX0 5, w ∈ wsX0_narrow := by decide +kernel
  have hl := lv_entry ([.ref h0]) (n := 1) (Nat.le_of_ble_eq_true rfl)
  rw [lg_entry_eq]
  generalize (lg_sl ([.ref h0]) ++ List.replicate (1 - (lg_sl ([.ref h0])).length) Slot.unset).toArray = ls at hl ⊢
  have hl : lv_has ls 1 [(0, .ref h0)] := hl
  refine lv_aload_n hx hb dX0_narrow_0 rfl (lv_at hl 0 rfl) ?_
  refine lv_iconst (v := 0) hx hb dX0_narrow_1 (by decide) ?_
  refine lv_aload_n hx hb dX0_narrow_2 rfl (lv_at hl 0 rfl) ?_
  refine va_get (D := (dC, dI)) (ci := 0) (v := .int (nI n)) (C := RX0) (T := TX0) (N := 5) hx hb hts hin hown hK hP 0 rfl rfl 2 (by decide) (hts (.fieldLink RX0 22 "StreamSums" "count" "I") (by decide +kernel)) (fun _ h9 => h9) rfl dX0_narrow_3 ?_
  refine lv_aload_n hx hb dX0_narrow_6 rfl (lv_at hl 0 rfl) ?_
  refine va_get (D := (dC, dI)) (ci := 0) (v := .int (ns)) (C := RX0) (T := TX0) (N := 5) hx hb hts hin hown hK hP 0 rfl rfl 3 (by decide) (hts (.fieldLink RX0 26 "StreamSums" "narrowSeed" "I") (by decide +kernel)) (fun _ h9 => h9) rfl dX0_narrow_7 ?_
  refine q_V (As := [.int (0), .int (nI n), .int (ns)]) (rest := []) ⟨hx, hb, hml, hown, hts⟩ (c_X_narrowSum l dC dI h0 a0 a1 cB cI n ns wd f g (0) (n) (ns) (by omega) (by omega) (hn)) (cwV 3 hts gX0_narrow_X0_narrowSum rfl rfl rfl (by decide +kernel) ⟨Nat.le_of_ble_eq_true rfl, Nat.le_of_ble_eq_true rfl⟩) (xw_pre hP hK _) rfl hl.1 rfl (Nat.le_of_ble_eq_true rfl) dX0_narrow_10 ⟨Nat.zero_le _, Nat.zero_le _⟩ ?_
  exact W.iret (v := (na_sum f 0 n ns)) hx hb hr (fun t ht _ => ⟨congrArg (fun z => Outcome.returned (some (Value.int z))) (rfl), ht⟩) (fun _ h => by cases h) dX0_narrow_13
set_option maxHeartbeats 4000000 in
set_option maxRecDepth 100000 in
theorem c_X_narrowOf (l : Launch) (dC : Nat → ClassId) (dI : Nat → Nat → Nat) (h0 a0 a1 : Nat) (cB cI : ClassId) (n : Nat) (ns : Int32) (wd : Int64) (f g : Nat → Int32) (x : Int32) (y : Int32) (sd : Int32) (hn : n ≤ 65536) : Met l yX0_narrowOf wsX0_narrowOf ({ frames := 4, cells := 0, slots := 0, locals := 96 } : Room) (va_Pc [.ref h0, .int x, .int y, .int sd] (xW dC dI h0 a0 a1 cB cI n ns wd f g)) (k2_QcV (.int (an_na n f x y sd))) 0 0 (fun _ => False) := by
  refine Met.ofW (cc := cX0_narrowOf) (maxL := 4) (ret := some .int) (by decide) rfl ?_
  intro p e s m args below meth c s₁ B hml hv
  obtain ⟨rfl, hP, hK⟩ := hv
  have hx := B.exec
  have hb := B.bytes
  have hr := B.returns
  have hts := atoms_spec (ws := wsX0_narrowOf) B.pre
  have hown : s.vm.findClass RX0 = some m.cls := findClass_of_methodNamed B.named
  have hlocks := B.notSynchronized
  have hl := lv_entry ([.ref h0, .int x, .int y, .int sd]) (n := 4) (Nat.le_of_ble_eq_true rfl)
  rw [lg_entry_eq]
  generalize (lg_sl ([.ref h0, .int x, .int y, .int sd]) ++ List.replicate (4 - (lg_sl ([.ref h0, .int x, .int y, .int sd])).length) Slot.unset).toArray = ls at hl ⊢
  have hl : lv_has ls 4 [(0, .ref h0), (1, .int (x)), (2, .int (y)), (3, .int (sd))] := hl
  refine lv_aload_n hx hb dX0_narrowOf_0 rfl (lv_at hl 0 rfl) ?_
  refine lv_iload_n hx hb dX0_narrowOf_1 rfl (lv_at hl 1 rfl) ?_
  refine lv_iload_n hx hb dX0_narrowOf_2 rfl (lv_at hl 2 rfl) ?_
  refine q_V (As := [.int (x), .int (y)]) (rest := []) ⟨hx, hb, hml, hown, hts⟩ (c_X_isPart l dC dI h0 a0 a1 cB cI n ns wd f g (x) (y)) (cwV 2 hts gX0_narrowOf_X0_isPart rfl rfl rfl (by decide +kernel) ⟨Nat.le_of_ble_eq_true rfl, Nat.le_of_ble_eq_true rfl⟩) (xw_pre hP hK _) rfl hl.1 rfl (Nat.le_of_ble_eq_true rfl) dX0_narrowOf_3 ⟨Nat.zero_le _, Nat.zero_le _⟩ ?_
  refine lv_if_eq (tgt := 19) hx hb dX0_narrowOf_6 (by decide) (fun c_6 => ?_) (fun c_6 => ?_)
  · refine lv_aload_n hx hb dX0_narrowOf_19 rfl (lv_at hl 0 rfl) ?_
    refine lv_iconst (v := 0) hx hb dX0_narrowOf_20 (by decide) ?_
    refine lv_iconst (v := 0) hx hb dX0_narrowOf_21 (by decide) ?_
    refine lv_iload_n hx hb dX0_narrowOf_22 rfl (lv_at hl 3 rfl) ?_
    refine q_V (As := [.int (0), .int (0), .int (sd)]) (rest := []) ⟨hx, hb, hml, hown, hts⟩ (c_X_narrowSum l dC dI h0 a0 a1 cB cI n ns wd f g (0) (0) (sd) (by omega) (by omega) (hn)) (cwV 3 hts gX0_narrowOf_X0_narrowSum rfl rfl rfl (by decide +kernel) ⟨Nat.le_of_ble_eq_true rfl, Nat.le_of_ble_eq_true rfl⟩) (xw_pre hP hK _) rfl hl.1 rfl (Nat.le_of_ble_eq_true rfl) dX0_narrowOf_23 ⟨Nat.zero_le _, Nat.zero_le _⟩ ?_
    exact W.iret (v := (na_sum f 0 0 sd)) hx hb hr (fun t ht _ => ⟨congrArg (fun z => Outcome.returned (some (Value.int z))) (by unfold an_na; rw [if_pos c_6]), ht⟩) (fun _ h => by cases h) dX0_narrowOf_26
  · obtain ⟨a, b, hxa, hyb, hab, hbn⟩ := pt_some hn c_6
    refine lv_aload_n hx hb dX0_narrowOf_9 rfl (lv_at hl 0 rfl) ?_
    refine lv_iload_n hx hb dX0_narrowOf_10 rfl (lv_at hl 1 rfl) ?_
    refine q_ti (y := nI a) (hxa) ?_
    refine lv_iload_n hx hb dX0_narrowOf_11 rfl (lv_at hl 2 rfl) ?_
    refine q_ti (y := nI b) (hyb) ?_
    refine lv_iload_n hx hb dX0_narrowOf_12 rfl (lv_at hl 3 rfl) ?_
    refine q_V (As := [.int (nI a), .int (nI b), .int (sd)]) (rest := []) ⟨hx, hb, hml, hown, hts⟩ (c_X_narrowSum l dC dI h0 a0 a1 cB cI n ns wd f g (a) (b) (sd) (by omega) (by omega) (hn)) (cwV 3 hts gX0_narrowOf_X0_narrowSum rfl rfl rfl (by decide +kernel) ⟨Nat.le_of_ble_eq_true rfl, Nat.le_of_ble_eq_true rfl⟩) (xw_pre hP hK _) rfl hl.1 rfl (Nat.le_of_ble_eq_true rfl) dX0_narrowOf_13 ⟨Nat.zero_le _, Nat.zero_le _⟩ ?_
    refine lv_goto (tgt := 26) hx hb dX0_narrowOf_16 (by decide) ?_
    exact W.iret (v := (na_sum f a b sd)) hx hb hr (fun t ht _ => ⟨congrArg (fun z => Outcome.returned (some (Value.int z))) (by unfold an_na; rw [if_neg c_6, hxa, hyb, nI_clamp (by omega), nI_clamp (by omega)]), ht⟩) (fun _ h => by cases h) dX0_narrowOf_26
end
section
set_option maxHeartbeats 4000000 in
set_option maxRecDepth 100000 in
theorem c_X_wideOfLanes (l : Launch) (dC : Nat → ClassId) (dI : Nat → Nat → Nat) (h0 a0 a1 : Nat) (cB cI : ClassId) (n : Nat) (ns : Int32) (wd : Int64) (f g : Nat → Int32) (a : Nat) (b : Nat) (sd : Int64) (hab : a ≤ b) (hbn : b ≤ n) (hn : n ≤ 65536) : Met l yX0_wideOfLanes wsX0_wideOfLanes ({ frames := 3, cells := 0, slots := 0, locals := 68 } : Room) (va_Pc [.ref h0, .int (nI a), .int (nI b), .long sd] (xW dC dI h0 a0 a1 cB cI n ns wd f g)) (k2_QcV (.long (wi_la f a b sd))) 0 0 (fun _ => False) := by
  refine Met.ofW (cc := cX0_wideOfLanes) (maxL := 15) (ret := some .long) (by decide) rfl ?_
  intro p e s m args below meth c s₁ B hml hv
  obtain ⟨rfl, hP, hK⟩ := hv
  have hx := B.exec
  have hb := B.bytes
  have hr := B.returns
  have hts := atoms_spec (ws := wsX0_wideOfLanes) B.pre
  have hown : s.vm.findClass RX0 = some m.cls := findClass_of_methodNamed B.named
  have hlocks := B.notSynchronized
  have hl := lv_entry ([.ref h0, .int (nI a), .int (nI b), .long sd]) (n := 15) (Nat.le_of_ble_eq_true rfl)
  rw [lg_entry_eq]
  generalize (lg_sl ([.ref h0, .int (nI a), .int (nI b), .long sd]) ++ List.replicate (15 - (lg_sl ([.ref h0, .int (nI a), .int (nI b), .long sd])).length) Slot.unset).toArray = ls at hl ⊢
  have hl : lv_has ls 15 [(0, .ref h0), (1, .int (nI a)), (2, .int (nI b)), (3, .long (sd))] := hl
  refine lv_lload_n hx hb dX0_wideOfLanes_0 rfl (lv_at hl 3 rfl) ?_
  refine lv_ldc2 (v := -7046029288634856825) hx hb hown (hts (.constantLong RX0 122 (-7046029288634856825)) (by decide +kernel)) dX0_wideOfLanes_1 ?_
  refine lv_ladd hx hb dX0_wideOfLanes_4 ?_
  refine lv_ldc2 (v := -4417276706812531889) hx hb hown (hts (.constantLong RX0 126 (-4417276706812531889)) (by decide +kernel)) dX0_wideOfLanes_5 ?_
  refine lv_ladd hx hb dX0_wideOfLanes_8 ?_
  refine lv_lstore (lv' := [(5, .long (((sd + (-7046029288634856825)) + (-4417276706812531889)))), (0, .ref h0), (1, .int (nI a)), (2, .int (nI b)), (3, .long (sd))]) hx hb dX0_wideOfLanes_9 hl (by decide) rfl (fun ls hl => ?_)
  refine lv_lload_n hx hb dX0_wideOfLanes_11 rfl (lv_at hl 4 rfl) ?_
  refine lv_ldc2 (v := -4417276706812531889) hx hb hown (hts (.constantLong RX0 126 (-4417276706812531889)) (by decide +kernel)) dX0_wideOfLanes_12 ?_
  refine lv_ladd hx hb dX0_wideOfLanes_15 ?_
  refine lv_lstore (lv' := [(7, .long ((sd + (-4417276706812531889)))), (5, .long (((sd + (-7046029288634856825)) + (-4417276706812531889)))), (0, .ref h0), (1, .int (nI a)), (2, .int (nI b)), (3, .long (sd))]) hx hb dX0_wideOfLanes_16 hl (by decide) rfl (fun ls hl => ?_)
  refine lv_lload_n hx hb dX0_wideOfLanes_18 rfl (lv_at hl 5 rfl) ?_
  refine lv_lstore (lv' := [(9, .long (sd)), (7, .long ((sd + (-4417276706812531889)))), (5, .long (((sd + (-7046029288634856825)) + (-4417276706812531889)))), (0, .ref h0), (1, .int (nI a)), (2, .int (nI b)), (3, .long (sd))]) hx hb dX0_wideOfLanes_19 hl (by decide) rfl (fun ls hl => ?_)
  refine lv_lload_n hx hb dX0_wideOfLanes_21 rfl (lv_at hl 6 rfl) ?_
  refine lv_ldc2 (v := -7046029288634856825) hx hb hown (hts (.constantLong RX0 122 (-7046029288634856825)) (by decide +kernel)) dX0_wideOfLanes_22 ?_
  refine lv_lsub hx hb dX0_wideOfLanes_25 ?_
  refine lv_lstore (lv' := [(11, .long ((sd - (-7046029288634856825)))), (9, .long (sd)), (7, .long ((sd + (-4417276706812531889)))), (5, .long (((sd + (-7046029288634856825)) + (-4417276706812531889)))), (0, .ref h0), (1, .int (nI a)), (2, .int (nI b)), (3, .long (sd))]) hx hb dX0_wideOfLanes_26 hl (by decide) rfl (fun ls hl => ?_)
  refine lv_iload_n hx hb dX0_wideOfLanes_28 rfl (lv_at hl 5 rfl) ?_
  refine lv_istore (lv' := [(13, .int (nI a)), (11, .long ((sd - (-7046029288634856825)))), (9, .long (sd)), (7, .long ((sd + (-4417276706812531889)))), (5, .long (((sd + (-7046029288634856825)) + (-4417276706812531889)))), (0, .ref h0), (1, .int (nI a)), (2, .int (nI b)), (3, .long (sd))]) hx hb dX0_wideOfLanes_29 hl (by decide) rfl (fun ls hl => ?_)
  have L31 : ∀ (d j : Nat), j + d = (b - a) / 32 → ∀ ls : Array Slot, lv_has ls 15 [(0, .ref h0), (1, .int (nI a)), (2, .int (nI b)), (3, .long (sd)), (5, .long (wi_fo f a 0 (sd + (-7046029288634856825) + (-4417276706812531889)) (j))), (7, .long (wi_fo f a 1 (sd + (-4417276706812531889)) (j))), (9, .long (wi_fo f a 2 sd (j))), (11, .long (wi_fo f a 3 (sd - (-7046029288634856825)) (j))), (13, .int (nI (a + 32 * (j))))] → W p l e (headSpec wsX0_wideOfLanes ({ frames := 3, cells := 0, slots := 0, locals := 68 } : Room)).room s m [Value.ref h0, .int (nI a), .int (nI b), .long sd].toArray below meth c s.heap [] 0 0 (MQ below (k2_QcV (.long (wi_la f a b sd))) [Value.ref h0, .int (nI a), .int (nI b), .long sd].toArray s 0 0 (fun _ => False)) (F0 m 31 ls []) := by
    intro d
    induction d with
    | zero =>
      intro j hj ls hl
      obtain rfl : (b - a) / 32 = j := by omega
      refine lv_iload_n hx hb dX0_wideOfLanes_31 rfl (lv_at hl 2 rfl) ?_
      refine lv_iload hx hb dX0_wideOfLanes_32 (lv_at hl 8 rfl) ?_
      refine lv_isub hx hb dX0_wideOfLanes_34 ?_
      refine q_ti (y := nI (b - (a + 32 * ((b - a) / 32)))) (pk_sub (by omega)) ?_
      refine lv_bipush (v := 32) hx hb dX0_wideOfLanes_35 (by decide) ?_
      refine lv_icmp_lt (tgt := 107) hx hb dX0_wideOfLanes_37 (by decide) (fun c_37 => ?_) (fun c_37 => ?_)
      · refine lv_lload hx hb dX0_wideOfLanes_107 (lv_at hl 4 rfl) ?_
        refine lv_iconst (v := 1) hx hb dX0_wideOfLanes_109 (by decide) ?_
        refine q_S (As := [.long (wi_fo f a 0 (sd + (-7046029288634856825) + (-4417276706812531889)) (((b - a) / 32))), .int (1)]) (rest := []) ⟨hx, hb, hml, hown, hts⟩ (c_X_rotatedLong l (wi_fo f a 0 (sd + (-7046029288634856825) + (-4417276706812531889)) (((b - a) / 32))) (1)) (va_cwS 2 hts gX0_wideOfLanes_X0_rotatedLong rfl rfl rfl (by decide +kernel) ⟨Nat.le_of_ble_eq_true rfl, Nat.le_of_ble_eq_true rfl⟩) rfl hl.1 rfl (Nat.le_of_ble_eq_true rfl) dX0_wideOfLanes_110 ⟨Nat.zero_le _, Nat.zero_le _⟩ ?_
        refine lv_lload hx hb dX0_wideOfLanes_113 (lv_at hl 5 rfl) ?_
        refine lv_bipush (v := 7) hx hb dX0_wideOfLanes_115 (by decide) ?_
        refine q_S (As := [.long (wi_fo f a 1 (sd + (-4417276706812531889)) (((b - a) / 32))), .int (7)]) (rest := [.long ((wi_rt (wi_fo f a 0 (sd + (-7046029288634856825) + (-4417276706812531889)) (((b - a) / 32))) 1))]) ⟨hx, hb, hml, hown, hts⟩ (c_X_rotatedLong l (wi_fo f a 1 (sd + (-4417276706812531889)) (((b - a) / 32))) (7)) (va_cwS 2 hts gX0_wideOfLanes_X0_rotatedLong rfl rfl rfl (by decide +kernel) ⟨Nat.le_of_ble_eq_true rfl, Nat.le_of_ble_eq_true rfl⟩) rfl hl.1 rfl (Nat.le_of_ble_eq_true rfl) dX0_wideOfLanes_117 ⟨Nat.zero_le _, Nat.zero_le _⟩ ?_
        refine lv_ladd hx hb dX0_wideOfLanes_120 ?_
        refine lv_lload hx hb dX0_wideOfLanes_121 (lv_at hl 6 rfl) ?_
        refine lv_bipush (v := 12) hx hb dX0_wideOfLanes_123 (by decide) ?_
        refine q_S (As := [.long (wi_fo f a 2 sd (((b - a) / 32))), .int (12)]) (rest := [.long (((wi_rt (wi_fo f a 0 (sd + (-7046029288634856825) + (-4417276706812531889)) (((b - a) / 32))) 1) + (wi_rt (wi_fo f a 1 (sd + (-4417276706812531889)) (((b - a) / 32))) 7)))]) ⟨hx, hb, hml, hown, hts⟩ (c_X_rotatedLong l (wi_fo f a 2 sd (((b - a) / 32))) (12)) (va_cwS 2 hts gX0_wideOfLanes_X0_rotatedLong rfl rfl rfl (by decide +kernel) ⟨Nat.le_of_ble_eq_true rfl, Nat.le_of_ble_eq_true rfl⟩) rfl hl.1 rfl (Nat.le_of_ble_eq_true rfl) dX0_wideOfLanes_125 ⟨Nat.zero_le _, Nat.zero_le _⟩ ?_
        refine lv_ladd hx hb dX0_wideOfLanes_128 ?_
        refine lv_lload hx hb dX0_wideOfLanes_129 (lv_at hl 7 rfl) ?_
        refine lv_bipush (v := 18) hx hb dX0_wideOfLanes_131 (by decide) ?_
        refine q_S (As := [.long (wi_fo f a 3 (sd - (-7046029288634856825)) (((b - a) / 32))), .int (18)]) (rest := [.long ((((wi_rt (wi_fo f a 0 (sd + (-7046029288634856825) + (-4417276706812531889)) (((b - a) / 32))) 1) + (wi_rt (wi_fo f a 1 (sd + (-4417276706812531889)) (((b - a) / 32))) 7)) + (wi_rt (wi_fo f a 2 sd (((b - a) / 32))) 12)))]) ⟨hx, hb, hml, hown, hts⟩ (c_X_rotatedLong l (wi_fo f a 3 (sd - (-7046029288634856825)) (((b - a) / 32))) (18)) (va_cwS 2 hts gX0_wideOfLanes_X0_rotatedLong rfl rfl rfl (by decide +kernel) ⟨Nat.le_of_ble_eq_true rfl, Nat.le_of_ble_eq_true rfl⟩) rfl hl.1 rfl (Nat.le_of_ble_eq_true rfl) dX0_wideOfLanes_133 ⟨Nat.zero_le _, Nat.zero_le _⟩ ?_
        refine lv_ladd hx hb dX0_wideOfLanes_136 ?_
        refine lv_lstore (lv' := [(13, .long (((((wi_rt (wi_fo f a 0 (sd + (-7046029288634856825) + (-4417276706812531889)) (((b - a) / 32))) 1) + (wi_rt (wi_fo f a 1 (sd + (-4417276706812531889)) (((b - a) / 32))) 7)) + (wi_rt (wi_fo f a 2 sd (((b - a) / 32))) 12)) + (wi_rt (wi_fo f a 3 (sd - (-7046029288634856825)) (((b - a) / 32))) 18)))), (0, .ref h0), (1, .int (nI a)), (2, .int (nI b)), (3, .long (sd)), (5, .long (wi_fo f a 0 (sd + (-7046029288634856825) + (-4417276706812531889)) (((b - a) / 32)))), (7, .long (wi_fo f a 1 (sd + (-4417276706812531889)) (((b - a) / 32)))), (9, .long (wi_fo f a 2 sd (((b - a) / 32)))), (11, .long (wi_fo f a 3 (sd - (-7046029288634856825)) (((b - a) / 32))))]) hx hb dX0_wideOfLanes_137 hl (by decide) rfl (fun ls hl => ?_)
        refine lv_lload hx hb dX0_wideOfLanes_139 (lv_at hl 0 rfl) ?_
        refine lv_lload hx hb dX0_wideOfLanes_141 (lv_at hl 5 rfl) ?_
        refine q_S (As := [.long (((((wi_rt (wi_fo f a 0 (sd + (-7046029288634856825) + (-4417276706812531889)) (((b - a) / 32))) 1) + (wi_rt (wi_fo f a 1 (sd + (-4417276706812531889)) (((b - a) / 32))) 7)) + (wi_rt (wi_fo f a 2 sd (((b - a) / 32))) 12)) + (wi_rt (wi_fo f a 3 (sd - (-7046029288634856825)) (((b - a) / 32))) 18))), .long (wi_fo f a 0 (sd + (-7046029288634856825) + (-4417276706812531889)) (((b - a) / 32)))]) (rest := []) ⟨hx, hb, hml, hown, hts⟩ (c_X_withLane l (((((wi_rt (wi_fo f a 0 (sd + (-7046029288634856825) + (-4417276706812531889)) (((b - a) / 32))) 1) + (wi_rt (wi_fo f a 1 (sd + (-4417276706812531889)) (((b - a) / 32))) 7)) + (wi_rt (wi_fo f a 2 sd (((b - a) / 32))) 12)) + (wi_rt (wi_fo f a 3 (sd - (-7046029288634856825)) (((b - a) / 32))) 18))) (wi_fo f a 0 (sd + (-7046029288634856825) + (-4417276706812531889)) (((b - a) / 32)))) (va_cwS 2 hts gX0_wideOfLanes_X0_withLane rfl rfl rfl (by decide +kernel) ⟨Nat.le_of_ble_eq_true rfl, Nat.le_of_ble_eq_true rfl⟩) rfl hl.1 rfl (Nat.le_of_ble_eq_true rfl) dX0_wideOfLanes_143 ⟨Nat.zero_le _, Nat.zero_le _⟩ ?_
        refine lv_lstore (lv' := [(13, .long ((wi_wl (((((wi_rt (wi_fo f a 0 (sd + (-7046029288634856825) + (-4417276706812531889)) (((b - a) / 32))) 1) + (wi_rt (wi_fo f a 1 (sd + (-4417276706812531889)) (((b - a) / 32))) 7)) + (wi_rt (wi_fo f a 2 sd (((b - a) / 32))) 12)) + (wi_rt (wi_fo f a 3 (sd - (-7046029288634856825)) (((b - a) / 32))) 18))) (wi_fo f a 0 (sd + (-7046029288634856825) + (-4417276706812531889)) (((b - a) / 32)))))), (0, .ref h0), (1, .int (nI a)), (2, .int (nI b)), (3, .long (sd)), (5, .long (wi_fo f a 0 (sd + (-7046029288634856825) + (-4417276706812531889)) (((b - a) / 32)))), (7, .long (wi_fo f a 1 (sd + (-4417276706812531889)) (((b - a) / 32)))), (9, .long (wi_fo f a 2 sd (((b - a) / 32)))), (11, .long (wi_fo f a 3 (sd - (-7046029288634856825)) (((b - a) / 32))))]) hx hb dX0_wideOfLanes_146 hl (by decide) rfl (fun ls hl => ?_)
        refine lv_lload hx hb dX0_wideOfLanes_148 (lv_at hl 0 rfl) ?_
        refine lv_lload hx hb dX0_wideOfLanes_150 (lv_at hl 6 rfl) ?_
        refine q_S (As := [.long ((wi_wl (((((wi_rt (wi_fo f a 0 (sd + (-7046029288634856825) + (-4417276706812531889)) (((b - a) / 32))) 1) + (wi_rt (wi_fo f a 1 (sd + (-4417276706812531889)) (((b - a) / 32))) 7)) + (wi_rt (wi_fo f a 2 sd (((b - a) / 32))) 12)) + (wi_rt (wi_fo f a 3 (sd - (-7046029288634856825)) (((b - a) / 32))) 18))) (wi_fo f a 0 (sd + (-7046029288634856825) + (-4417276706812531889)) (((b - a) / 32))))), .long (wi_fo f a 1 (sd + (-4417276706812531889)) (((b - a) / 32)))]) (rest := []) ⟨hx, hb, hml, hown, hts⟩ (c_X_withLane l ((wi_wl (((((wi_rt (wi_fo f a 0 (sd + (-7046029288634856825) + (-4417276706812531889)) (((b - a) / 32))) 1) + (wi_rt (wi_fo f a 1 (sd + (-4417276706812531889)) (((b - a) / 32))) 7)) + (wi_rt (wi_fo f a 2 sd (((b - a) / 32))) 12)) + (wi_rt (wi_fo f a 3 (sd - (-7046029288634856825)) (((b - a) / 32))) 18))) (wi_fo f a 0 (sd + (-7046029288634856825) + (-4417276706812531889)) (((b - a) / 32))))) (wi_fo f a 1 (sd + (-4417276706812531889)) (((b - a) / 32)))) (va_cwS 2 hts gX0_wideOfLanes_X0_withLane rfl rfl rfl (by decide +kernel) ⟨Nat.le_of_ble_eq_true rfl, Nat.le_of_ble_eq_true rfl⟩) rfl hl.1 rfl (Nat.le_of_ble_eq_true rfl) dX0_wideOfLanes_152 ⟨Nat.zero_le _, Nat.zero_le _⟩ ?_
        refine lv_lstore (lv' := [(13, .long ((wi_wl ((wi_wl (((((wi_rt (wi_fo f a 0 (sd + (-7046029288634856825) + (-4417276706812531889)) (((b - a) / 32))) 1) + (wi_rt (wi_fo f a 1 (sd + (-4417276706812531889)) (((b - a) / 32))) 7)) + (wi_rt (wi_fo f a 2 sd (((b - a) / 32))) 12)) + (wi_rt (wi_fo f a 3 (sd - (-7046029288634856825)) (((b - a) / 32))) 18))) (wi_fo f a 0 (sd + (-7046029288634856825) + (-4417276706812531889)) (((b - a) / 32))))) (wi_fo f a 1 (sd + (-4417276706812531889)) (((b - a) / 32)))))), (0, .ref h0), (1, .int (nI a)), (2, .int (nI b)), (3, .long (sd)), (5, .long (wi_fo f a 0 (sd + (-7046029288634856825) + (-4417276706812531889)) (((b - a) / 32)))), (7, .long (wi_fo f a 1 (sd + (-4417276706812531889)) (((b - a) / 32)))), (9, .long (wi_fo f a 2 sd (((b - a) / 32)))), (11, .long (wi_fo f a 3 (sd - (-7046029288634856825)) (((b - a) / 32))))]) hx hb dX0_wideOfLanes_155 hl (by decide) rfl (fun ls hl => ?_)
        refine lv_lload hx hb dX0_wideOfLanes_157 (lv_at hl 0 rfl) ?_
        refine lv_lload hx hb dX0_wideOfLanes_159 (lv_at hl 7 rfl) ?_
        refine q_S (As := [.long ((wi_wl ((wi_wl (((((wi_rt (wi_fo f a 0 (sd + (-7046029288634856825) + (-4417276706812531889)) (((b - a) / 32))) 1) + (wi_rt (wi_fo f a 1 (sd + (-4417276706812531889)) (((b - a) / 32))) 7)) + (wi_rt (wi_fo f a 2 sd (((b - a) / 32))) 12)) + (wi_rt (wi_fo f a 3 (sd - (-7046029288634856825)) (((b - a) / 32))) 18))) (wi_fo f a 0 (sd + (-7046029288634856825) + (-4417276706812531889)) (((b - a) / 32))))) (wi_fo f a 1 (sd + (-4417276706812531889)) (((b - a) / 32))))), .long (wi_fo f a 2 sd (((b - a) / 32)))]) (rest := []) ⟨hx, hb, hml, hown, hts⟩ (c_X_withLane l ((wi_wl ((wi_wl (((((wi_rt (wi_fo f a 0 (sd + (-7046029288634856825) + (-4417276706812531889)) (((b - a) / 32))) 1) + (wi_rt (wi_fo f a 1 (sd + (-4417276706812531889)) (((b - a) / 32))) 7)) + (wi_rt (wi_fo f a 2 sd (((b - a) / 32))) 12)) + (wi_rt (wi_fo f a 3 (sd - (-7046029288634856825)) (((b - a) / 32))) 18))) (wi_fo f a 0 (sd + (-7046029288634856825) + (-4417276706812531889)) (((b - a) / 32))))) (wi_fo f a 1 (sd + (-4417276706812531889)) (((b - a) / 32))))) (wi_fo f a 2 sd (((b - a) / 32)))) (va_cwS 2 hts gX0_wideOfLanes_X0_withLane rfl rfl rfl (by decide +kernel) ⟨Nat.le_of_ble_eq_true rfl, Nat.le_of_ble_eq_true rfl⟩) rfl hl.1 rfl (Nat.le_of_ble_eq_true rfl) dX0_wideOfLanes_161 ⟨Nat.zero_le _, Nat.zero_le _⟩ ?_
        refine lv_lstore (lv' := [(13, .long ((wi_wl ((wi_wl ((wi_wl (((((wi_rt (wi_fo f a 0 (sd + (-7046029288634856825) + (-4417276706812531889)) (((b - a) / 32))) 1) + (wi_rt (wi_fo f a 1 (sd + (-4417276706812531889)) (((b - a) / 32))) 7)) + (wi_rt (wi_fo f a 2 sd (((b - a) / 32))) 12)) + (wi_rt (wi_fo f a 3 (sd - (-7046029288634856825)) (((b - a) / 32))) 18))) (wi_fo f a 0 (sd + (-7046029288634856825) + (-4417276706812531889)) (((b - a) / 32))))) (wi_fo f a 1 (sd + (-4417276706812531889)) (((b - a) / 32))))) (wi_fo f a 2 sd (((b - a) / 32)))))), (0, .ref h0), (1, .int (nI a)), (2, .int (nI b)), (3, .long (sd)), (5, .long (wi_fo f a 0 (sd + (-7046029288634856825) + (-4417276706812531889)) (((b - a) / 32)))), (7, .long (wi_fo f a 1 (sd + (-4417276706812531889)) (((b - a) / 32)))), (9, .long (wi_fo f a 2 sd (((b - a) / 32)))), (11, .long (wi_fo f a 3 (sd - (-7046029288634856825)) (((b - a) / 32))))]) hx hb dX0_wideOfLanes_164 hl (by decide) rfl (fun ls hl => ?_)
        refine lv_lload hx hb dX0_wideOfLanes_166 (lv_at hl 0 rfl) ?_
        refine lv_lload hx hb dX0_wideOfLanes_168 (lv_at hl 8 rfl) ?_
        refine q_S (As := [.long ((wi_wl ((wi_wl ((wi_wl (((((wi_rt (wi_fo f a 0 (sd + (-7046029288634856825) + (-4417276706812531889)) (((b - a) / 32))) 1) + (wi_rt (wi_fo f a 1 (sd + (-4417276706812531889)) (((b - a) / 32))) 7)) + (wi_rt (wi_fo f a 2 sd (((b - a) / 32))) 12)) + (wi_rt (wi_fo f a 3 (sd - (-7046029288634856825)) (((b - a) / 32))) 18))) (wi_fo f a 0 (sd + (-7046029288634856825) + (-4417276706812531889)) (((b - a) / 32))))) (wi_fo f a 1 (sd + (-4417276706812531889)) (((b - a) / 32))))) (wi_fo f a 2 sd (((b - a) / 32))))), .long (wi_fo f a 3 (sd - (-7046029288634856825)) (((b - a) / 32)))]) (rest := []) ⟨hx, hb, hml, hown, hts⟩ (c_X_withLane l ((wi_wl ((wi_wl ((wi_wl (((((wi_rt (wi_fo f a 0 (sd + (-7046029288634856825) + (-4417276706812531889)) (((b - a) / 32))) 1) + (wi_rt (wi_fo f a 1 (sd + (-4417276706812531889)) (((b - a) / 32))) 7)) + (wi_rt (wi_fo f a 2 sd (((b - a) / 32))) 12)) + (wi_rt (wi_fo f a 3 (sd - (-7046029288634856825)) (((b - a) / 32))) 18))) (wi_fo f a 0 (sd + (-7046029288634856825) + (-4417276706812531889)) (((b - a) / 32))))) (wi_fo f a 1 (sd + (-4417276706812531889)) (((b - a) / 32))))) (wi_fo f a 2 sd (((b - a) / 32))))) (wi_fo f a 3 (sd - (-7046029288634856825)) (((b - a) / 32)))) (va_cwS 2 hts gX0_wideOfLanes_X0_withLane rfl rfl rfl (by decide +kernel) ⟨Nat.le_of_ble_eq_true rfl, Nat.le_of_ble_eq_true rfl⟩) rfl hl.1 rfl (Nat.le_of_ble_eq_true rfl) dX0_wideOfLanes_170 ⟨Nat.zero_le _, Nat.zero_le _⟩ ?_
        exact W.lret (v := (wi_wl ((wi_wl ((wi_wl ((wi_wl (((((wi_rt (wi_fo f a 0 (sd + (-7046029288634856825) + (-4417276706812531889)) (((b - a) / 32))) 1) + (wi_rt (wi_fo f a 1 (sd + (-4417276706812531889)) (((b - a) / 32))) 7)) + (wi_rt (wi_fo f a 2 sd (((b - a) / 32))) 12)) + (wi_rt (wi_fo f a 3 (sd - (-7046029288634856825)) (((b - a) / 32))) 18))) (wi_fo f a 0 (sd + (-7046029288634856825) + (-4417276706812531889)) (((b - a) / 32))))) (wi_fo f a 1 (sd + (-4417276706812531889)) (((b - a) / 32))))) (wi_fo f a 2 sd (((b - a) / 32))))) (wi_fo f a 3 (sd - (-7046029288634856825)) (((b - a) / 32))))) hx hb hr (fun t ht _ => ⟨congrArg (fun z => Outcome.returned (some (Value.long z))) (rfl), ht⟩) (fun _ h => by cases h) dX0_wideOfLanes_173
      · exact absurd (nI_lt (b := 32) (by omega) (by omega)) c_37
    | succ d ih =>
      intro j hj ls hl
      have hjl : j < (b - a) / 32 := by omega
      refine lv_iload_n hx hb dX0_wideOfLanes_31 rfl (lv_at hl 2 rfl) ?_
      refine lv_iload hx hb dX0_wideOfLanes_32 (lv_at hl 8 rfl) ?_
      refine lv_isub hx hb dX0_wideOfLanes_34 ?_
      refine q_ti (y := nI (b - (a + 32 * j))) (pk_sub (by omega)) ?_
      refine lv_bipush (v := 32) hx hb dX0_wideOfLanes_35 (by decide) ?_
      refine lv_icmp_lt (tgt := 107) hx hb dX0_wideOfLanes_37 (by decide) (fun c_37 => ?_) (fun c_37 => ?_)
      · exact absurd c_37 (nI_nlt (b := 32) (by omega) (by omega))
      · refine lv_lload hx hb dX0_wideOfLanes_40 (lv_at hl 4 rfl) ?_
        refine lv_aload_n hx hb dX0_wideOfLanes_42 rfl (lv_at hl 0 rfl) ?_
        refine lv_iload hx hb dX0_wideOfLanes_43 (lv_at hl 8 rfl) ?_
        refine q_V (As := [.int (nI (a + 32 * (j)))]) (rest := [.long (wi_fo f a 0 (sd + (-7046029288634856825) + (-4417276706812531889)) (j))]) ⟨hx, hb, hml, hown, hts⟩ (c_X_longWord l dC dI h0 a0 a1 cB cI n ns wd f g (a + 32 * j) (by omega)) (cwV 1 hts gX0_wideOfLanes_X0_longWord rfl rfl rfl (by decide +kernel) ⟨Nat.le_of_ble_eq_true rfl, Nat.le_of_ble_eq_true rfl⟩) (xw_pre hP hK _) rfl hl.1 rfl (Nat.le_of_ble_eq_true rfl) dX0_wideOfLanes_45 ⟨Nat.zero_le _, Nat.zero_le _⟩ ?_
        refine q_S (As := [.long (wi_fo f a 0 (sd + (-7046029288634856825) + (-4417276706812531889)) (j)), .long ((wo_8 f (a + 32 * j)))]) (rest := []) ⟨hx, hb, hml, hown, hts⟩ (c_X_wideLane l (wi_fo f a 0 (sd + (-7046029288634856825) + (-4417276706812531889)) (j)) ((wo_8 f (a + 32 * j)))) (va_cwS 2 hts gX0_wideOfLanes_X0_wideLane rfl rfl rfl (by decide +kernel) ⟨Nat.le_of_ble_eq_true rfl, Nat.le_of_ble_eq_true rfl⟩) rfl hl.1 rfl (Nat.le_of_ble_eq_true rfl) dX0_wideOfLanes_48 ⟨Nat.zero_le _, Nat.zero_le _⟩ ?_
        refine q_tl (y := wi_fo f a 0 (sd + (-7046029288634856825) + (-4417276706812531889)) (j + 1)) (rfl) ?_
        refine lv_lstore (lv' := [(5, .long (wi_fo f a 0 (sd + (-7046029288634856825) + (-4417276706812531889)) (j + 1))), (0, .ref h0), (1, .int (nI a)), (2, .int (nI b)), (3, .long (sd)), (7, .long (wi_fo f a 1 (sd + (-4417276706812531889)) (j))), (9, .long (wi_fo f a 2 sd (j))), (11, .long (wi_fo f a 3 (sd - (-7046029288634856825)) (j))), (13, .int (nI (a + 32 * (j))))]) hx hb dX0_wideOfLanes_51 hl (by decide) rfl (fun ls hl => ?_)
        refine lv_lload hx hb dX0_wideOfLanes_53 (lv_at hl 5 rfl) ?_
        refine lv_aload_n hx hb dX0_wideOfLanes_55 rfl (lv_at hl 1 rfl) ?_
        refine lv_iload hx hb dX0_wideOfLanes_56 (lv_at hl 8 rfl) ?_
        refine lv_bipush (v := 8) hx hb dX0_wideOfLanes_58 (by decide) ?_
        refine lv_iadd hx hb dX0_wideOfLanes_60 ?_
        refine q_ti (y := nI (a + 32 * j + 8)) (nI_add _ 8) ?_
        refine q_V (As := [.int (nI (a + 32 * j + 8))]) (rest := [.long (wi_fo f a 1 (sd + (-4417276706812531889)) (j))]) ⟨hx, hb, hml, hown, hts⟩ (c_X_longWord l dC dI h0 a0 a1 cB cI n ns wd f g (a + 32 * j + 8) (by omega)) (cwV 1 hts gX0_wideOfLanes_X0_longWord rfl rfl rfl (by decide +kernel) ⟨Nat.le_of_ble_eq_true rfl, Nat.le_of_ble_eq_true rfl⟩) (xw_pre hP hK _) rfl hl.1 rfl (Nat.le_of_ble_eq_true rfl) dX0_wideOfLanes_61 ⟨Nat.zero_le _, Nat.zero_le _⟩ ?_
        refine q_S (As := [.long (wi_fo f a 1 (sd + (-4417276706812531889)) (j)), .long ((wo_8 f (a + 32 * j + 8)))]) (rest := []) ⟨hx, hb, hml, hown, hts⟩ (c_X_wideLane l (wi_fo f a 1 (sd + (-4417276706812531889)) (j)) ((wo_8 f (a + 32 * j + 8)))) (va_cwS 2 hts gX0_wideOfLanes_X0_wideLane rfl rfl rfl (by decide +kernel) ⟨Nat.le_of_ble_eq_true rfl, Nat.le_of_ble_eq_true rfl⟩) rfl hl.1 rfl (Nat.le_of_ble_eq_true rfl) dX0_wideOfLanes_64 ⟨Nat.zero_le _, Nat.zero_le _⟩ ?_
        refine q_tl (y := wi_fo f a 1 (sd + (-4417276706812531889)) (j + 1)) (rfl) ?_
        refine lv_lstore (lv' := [(7, .long (wi_fo f a 1 (sd + (-4417276706812531889)) (j + 1))), (5, .long (wi_fo f a 0 (sd + (-7046029288634856825) + (-4417276706812531889)) (j + 1))), (0, .ref h0), (1, .int (nI a)), (2, .int (nI b)), (3, .long (sd)), (9, .long (wi_fo f a 2 sd (j))), (11, .long (wi_fo f a 3 (sd - (-7046029288634856825)) (j))), (13, .int (nI (a + 32 * (j))))]) hx hb dX0_wideOfLanes_67 hl (by decide) rfl (fun ls hl => ?_)
        refine lv_lload hx hb dX0_wideOfLanes_69 (lv_at hl 6 rfl) ?_
        refine lv_aload_n hx hb dX0_wideOfLanes_71 rfl (lv_at hl 2 rfl) ?_
        refine lv_iload hx hb dX0_wideOfLanes_72 (lv_at hl 8 rfl) ?_
        refine lv_bipush (v := 16) hx hb dX0_wideOfLanes_74 (by decide) ?_
        refine lv_iadd hx hb dX0_wideOfLanes_76 ?_
        refine q_ti (y := nI (a + 32 * j + 16)) (nI_add _ 16) ?_
        refine q_V (As := [.int (nI (a + 32 * j + 16))]) (rest := [.long (wi_fo f a 2 sd (j))]) ⟨hx, hb, hml, hown, hts⟩ (c_X_longWord l dC dI h0 a0 a1 cB cI n ns wd f g (a + 32 * j + 16) (by omega)) (cwV 1 hts gX0_wideOfLanes_X0_longWord rfl rfl rfl (by decide +kernel) ⟨Nat.le_of_ble_eq_true rfl, Nat.le_of_ble_eq_true rfl⟩) (xw_pre hP hK _) rfl hl.1 rfl (Nat.le_of_ble_eq_true rfl) dX0_wideOfLanes_77 ⟨Nat.zero_le _, Nat.zero_le _⟩ ?_
        refine q_S (As := [.long (wi_fo f a 2 sd (j)), .long ((wo_8 f (a + 32 * j + 16)))]) (rest := []) ⟨hx, hb, hml, hown, hts⟩ (c_X_wideLane l (wi_fo f a 2 sd (j)) ((wo_8 f (a + 32 * j + 16)))) (va_cwS 2 hts gX0_wideOfLanes_X0_wideLane rfl rfl rfl (by decide +kernel) ⟨Nat.le_of_ble_eq_true rfl, Nat.le_of_ble_eq_true rfl⟩) rfl hl.1 rfl (Nat.le_of_ble_eq_true rfl) dX0_wideOfLanes_80 ⟨Nat.zero_le _, Nat.zero_le _⟩ ?_
        refine q_tl (y := wi_fo f a 2 sd (j + 1)) (rfl) ?_
        refine lv_lstore (lv' := [(9, .long (wi_fo f a 2 sd (j + 1))), (7, .long (wi_fo f a 1 (sd + (-4417276706812531889)) (j + 1))), (5, .long (wi_fo f a 0 (sd + (-7046029288634856825) + (-4417276706812531889)) (j + 1))), (0, .ref h0), (1, .int (nI a)), (2, .int (nI b)), (3, .long (sd)), (11, .long (wi_fo f a 3 (sd - (-7046029288634856825)) (j))), (13, .int (nI (a + 32 * (j))))]) hx hb dX0_wideOfLanes_83 hl (by decide) rfl (fun ls hl => ?_)
        refine lv_lload hx hb dX0_wideOfLanes_85 (lv_at hl 7 rfl) ?_
        refine lv_aload_n hx hb dX0_wideOfLanes_87 rfl (lv_at hl 3 rfl) ?_
        refine lv_iload hx hb dX0_wideOfLanes_88 (lv_at hl 8 rfl) ?_
        refine lv_bipush (v := 24) hx hb dX0_wideOfLanes_90 (by decide) ?_
        refine lv_iadd hx hb dX0_wideOfLanes_92 ?_
        refine q_ti (y := nI (a + 32 * j + 24)) (nI_add _ 24) ?_
        refine q_V (As := [.int (nI (a + 32 * j + 24))]) (rest := [.long (wi_fo f a 3 (sd - (-7046029288634856825)) (j))]) ⟨hx, hb, hml, hown, hts⟩ (c_X_longWord l dC dI h0 a0 a1 cB cI n ns wd f g (a + 32 * j + 24) (by omega)) (cwV 1 hts gX0_wideOfLanes_X0_longWord rfl rfl rfl (by decide +kernel) ⟨Nat.le_of_ble_eq_true rfl, Nat.le_of_ble_eq_true rfl⟩) (xw_pre hP hK _) rfl hl.1 rfl (Nat.le_of_ble_eq_true rfl) dX0_wideOfLanes_93 ⟨Nat.zero_le _, Nat.zero_le _⟩ ?_
        refine q_S (As := [.long (wi_fo f a 3 (sd - (-7046029288634856825)) (j)), .long ((wo_8 f (a + 32 * j + 24)))]) (rest := []) ⟨hx, hb, hml, hown, hts⟩ (c_X_wideLane l (wi_fo f a 3 (sd - (-7046029288634856825)) (j)) ((wo_8 f (a + 32 * j + 24)))) (va_cwS 2 hts gX0_wideOfLanes_X0_wideLane rfl rfl rfl (by decide +kernel) ⟨Nat.le_of_ble_eq_true rfl, Nat.le_of_ble_eq_true rfl⟩) rfl hl.1 rfl (Nat.le_of_ble_eq_true rfl) dX0_wideOfLanes_96 ⟨Nat.zero_le _, Nat.zero_le _⟩ ?_
        refine q_tl (y := wi_fo f a 3 (sd - (-7046029288634856825)) (j + 1)) (rfl) ?_
        refine lv_lstore (lv' := [(11, .long (wi_fo f a 3 (sd - (-7046029288634856825)) (j + 1))), (9, .long (wi_fo f a 2 sd (j + 1))), (7, .long (wi_fo f a 1 (sd + (-4417276706812531889)) (j + 1))), (5, .long (wi_fo f a 0 (sd + (-7046029288634856825) + (-4417276706812531889)) (j + 1))), (0, .ref h0), (1, .int (nI a)), (2, .int (nI b)), (3, .long (sd)), (13, .int (nI (a + 32 * (j))))]) hx hb dX0_wideOfLanes_99 hl (by decide) rfl (fun ls hl => ?_)
        refine lv_iinc (v := nI (a + 32 * (j + 1))) (lv' := [(13, .int (nI (a + 32 * (j + 1)))), (11, .long (wi_fo f a 3 (sd - (-7046029288634856825)) (j + 1))), (9, .long (wi_fo f a 2 sd (j + 1))), (7, .long (wi_fo f a 1 (sd + (-4417276706812531889)) (j + 1))), (5, .long (wi_fo f a 0 (sd + (-7046029288634856825) + (-4417276706812531889)) (j + 1))), (0, .ref h0), (1, .int (nI a)), (2, .int (nI b)), (3, .long (sd))]) hx hb dX0_wideOfLanes_101 hl (k := 8) rfl (by rw [show a + 32 * (j + 1) = a + 32 * j + 32 by omega]; exact nI_add _ 32) (by decide) rfl (fun ls hl => ?_)
        refine lv_goto (tgt := 31) hx hb dX0_wideOfLanes_104 (by decide) ?_
        exact ih (j + 1) (by omega) ls (lv_sub hl [5, 6, 7, 8, 4, 3, 2, 1, 0] rfl)
  exact L31 ((b - a) / 32) 0 (by omega) ls (lv_sub hl [5, 6, 7, 8, 4, 3, 2, 1, 0] rfl)
set_option maxHeartbeats 4000000 in
set_option maxRecDepth 100000 in
theorem c_X_wideSum (l : Launch) (dC : Nat → ClassId) (dI : Nat → Nat → Nat) (h0 a0 a1 : Nat) (cB cI : ClassId) (n : Nat) (ns : Int32) (wd : Int64) (f g : Nat → Int32) (a : Nat) (b : Nat) (sd : Int64) (hab : a ≤ b) (hbn : b ≤ n) (hn : n ≤ 65536) : Met l yX0_wideSum wsX0_wideSum ({ frames := 4, cells := 0, slots := 0, locals := 102 } : Room) (va_Pc [.ref h0, .int (nI a), .int (nI b), .long sd] (xW dC dI h0 a0 a1 cB cI n ns wd f g)) (k2_QcV (.long (wi_sum f a b sd))) 0 0 (fun _ => False) := by
  refine Met.ofW (cc := cX0_wideSum) (maxL := 9) (ret := some .long) (by decide) rfl ?_
  intro p e s m args below meth c s₁ B hml hv
  obtain ⟨rfl, hP, hK⟩ := hv
  have hx := B.exec
  have hb := B.bytes
  have hr := B.returns
  have hts := atoms_spec (ws := wsX0_wideSum) B.pre
  have hown : s.vm.findClass RX0 = some m.cls := findClass_of_methodNamed B.named
  have hlocks := B.notSynchronized
  have hl := lv_entry ([.ref h0, .int (nI a), .int (nI b), .long sd]) (n := 9) (Nat.le_of_ble_eq_true rfl)
  rw [lg_entry_eq]
  generalize (lg_sl ([.ref h0, .int (nI a), .int (nI b), .long sd]) ++ List.replicate (9 - (lg_sl ([.ref h0, .int (nI a), .int (nI b), .long sd])).length) Slot.unset).toArray = ls at hl ⊢
  have hl : lv_has ls 9 [(0, .ref h0), (1, .int (nI a)), (2, .int (nI b)), (3, .long (sd))] := hl
  have hpc := wi_pc hab
  obtain ⟨hp1, hp2, hp3, hp4, hp5, hp6⟩ := hpc
  refine lv_iload_n hx hb dX0_wideSum_0 rfl (lv_at hl 2 rfl) ?_
  refine lv_iload_n hx hb dX0_wideSum_1 rfl (lv_at hl 1 rfl) ?_
  refine lv_isub hx hb dX0_wideSum_2 ?_
  refine q_ti (y := nI (b - a)) (pk_sub hab) ?_
  refine lv_istore (lv' := [(5, .int (nI (b - a))), (0, .ref h0), (1, .int (nI a)), (2, .int (nI b)), (3, .long (sd))]) hx hb dX0_wideSum_3 hl (by decide) rfl (fun ls hl => ?_)
  have J27 : ∀ ls : Array Slot, lv_has ls 9 [(5, .int (nI (b - a))), (0, .ref h0), (1, .int (nI a)), (2, .int (nI b)), (3, .long (sd))] → W p l e (headSpec wsX0_wideSum ({ frames := 4, cells := 0, slots := 0, locals := 102 } : Room)).room s m [Value.ref h0, .int (nI a), .int (nI b), .long sd].toArray below meth c s.heap [] 0 0 (MQ below (k2_QcV (.long (wi_sum f a b sd))) [Value.ref h0, .int (nI a), .int (nI b), .long sd].toArray s 0 0 (fun _ => False)) (F0 m 27 ls [.long (wi_h0 f a b sd)]) := by
    intro ls hl
    refine lv_lstore (lv' := [(6, .long (wi_h0 f a b sd)), (5, .int (nI (b - a))), (0, .ref h0), (1, .int (nI a)), (2, .int (nI b)), (3, .long (sd))]) hx hb dX0_wideSum_27 hl (by decide) rfl (fun ls hl => ?_)
    refine lv_lload hx hb dX0_wideSum_29 (lv_at hl 0 rfl) ?_
    refine lv_iload hx hb dX0_wideSum_31 (lv_at hl 1 rfl) ?_
    refine lv_i2l (v := (nI (b - a)).toInt64) hx hb dX0_wideSum_33 rfl ?_
    refine q_tl (y := lN (b - a)) (nI_l (by omega)) ?_
    refine lv_ladd hx hb dX0_wideSum_34 ?_
    refine lv_lstore (lv' := [(6, .long ((wi_h0 f a b sd + lN (b - a)))), (5, .int (nI (b - a))), (0, .ref h0), (1, .int (nI a)), (2, .int (nI b)), (3, .long (sd))]) hx hb dX0_wideSum_35 hl (by decide) rfl (fun ls hl => ?_)
    refine lv_iload_n hx hb dX0_wideSum_37 rfl (lv_at hl 4 rfl) ?_
    refine lv_iload hx hb dX0_wideSum_38 (lv_at hl 1 rfl) ?_
    refine lv_bipush (v := 32) hx hb dX0_wideSum_40 (by decide) ?_
    refine lv_irem hx hb dX0_wideSum_42 (by decide) ?_
    refine q_ti (y := nI ((b - a) % 32)) (pk_rem (d := 32) (by omega) (by omega) (by omega)) ?_
    refine lv_isub hx hb dX0_wideSum_43 ?_
    refine q_ti (y := nI (wi_p a b)) (pk_sub (by omega)) ?_
    refine lv_istore (lv' := [(8, .int (nI (wi_p a b))), (6, .long ((wi_h0 f a b sd + lN (b - a)))), (5, .int (nI (b - a))), (0, .ref h0), (1, .int (nI a)), (2, .int (nI b)), (3, .long (sd))]) hx hb dX0_wideSum_44 hl (by decide) rfl (fun ls hl => ?_)
    have L46 : ∀ (d j : Nat), j + d = wi_c a b → ∀ ls : Array Slot, lv_has ls 9 [(0, .ref h0), (1, .int (nI a)), (2, .int (nI b)), (3, .long (sd)), (5, .int (nI (b - a))), (6, .long (wi_w8 f (wi_p a b) (wi_h0 f a b sd + lN (b - a)) (j))), (8, .int (nI (wi_p a b + 8 * (j))))] → W p l e (headSpec wsX0_wideSum ({ frames := 4, cells := 0, slots := 0, locals := 102 } : Room)).room s m [Value.ref h0, .int (nI a), .int (nI b), .long sd].toArray below meth c s.heap [] 0 0 (MQ below (k2_QcV (.long (wi_sum f a b sd))) [Value.ref h0, .int (nI a), .int (nI b), .long sd].toArray s 0 0 (fun _ => False)) (F0 m 46 ls []) := by
      intro d
      induction d with
      | zero =>
        intro j hj ls hl
        obtain rfl : wi_c a b = j := by omega
        refine lv_iload_n hx hb dX0_wideSum_46 rfl (lv_at hl 2 rfl) ?_
        refine lv_iload hx hb dX0_wideSum_47 (lv_at hl 6 rfl) ?_
        refine lv_isub hx hb dX0_wideSum_49 ?_
        refine q_ti (y := nI (b - (wi_p a b + 8 * wi_c a b))) (pk_sub (by omega)) ?_
        refine lv_bipush (v := 8) hx hb dX0_wideSum_50 (by decide) ?_
        refine lv_icmp_lt (tgt := 89) hx hb dX0_wideSum_52 (by decide) (fun c_52 => ?_) (fun c_52 => ?_)
        · have J128 : ∀ ls : Array Slot, lv_has ls 9 [(0, .ref h0), (1, .int (nI a)), (2, .int (nI b)), (3, .long (sd)), (5, .int (nI (b - a))), (6, .long ((wi_o f (wi_p a b + 8 * wi_c a b) (wi_w8 f (wi_p a b) (wi_h0 f a b sd + lN (b - a)) (wi_c a b)) (wi_d a b)))), (8, .int (nI (wi_p a b + 8 * wi_c a b + 4 * wi_d a b)))] → W p l e (headSpec wsX0_wideSum ({ frames := 4, cells := 0, slots := 0, locals := 102 } : Room)).room s m [Value.ref h0, .int (nI a), .int (nI b), .long sd].toArray below meth c s.heap [] 0 0 (MQ below (k2_QcV (.long (wi_sum f a b sd))) [Value.ref h0, .int (nI a), .int (nI b), .long sd].toArray s 0 0 (fun _ => False)) (F0 m 128 ls []) := by
            intro ls hl
            have L128 : ∀ (d j : Nat), j + d = b - (wi_p a b + 8 * wi_c a b + 4 * wi_d a b) → ∀ ls : Array Slot, lv_has ls 9 [(0, .ref h0), (1, .int (nI a)), (2, .int (nI b)), (3, .long (sd)), (5, .int (nI (b - a))), (6, .long (wi_w1 f (wi_p a b + 8 * wi_c a b + 4 * wi_d a b) (wi_o f (wi_p a b + 8 * wi_c a b) (wi_w8 f (wi_p a b) (wi_h0 f a b sd + lN (b - a)) (wi_c a b)) (wi_d a b)) (j))), (8, .int (nI ((wi_p a b + 8 * wi_c a b + 4 * wi_d a b) + (j))))] → W p l e (headSpec wsX0_wideSum ({ frames := 4, cells := 0, slots := 0, locals := 102 } : Room)).room s m [Value.ref h0, .int (nI a), .int (nI b), .long sd].toArray below meth c s.heap [] 0 0 (MQ below (k2_QcV (.long (wi_sum f a b sd))) [Value.ref h0, .int (nI a), .int (nI b), .long sd].toArray s 0 0 (fun _ => False)) (F0 m 128 ls []) := by
              intro d
              induction d with
              | zero =>
                intro j hj ls hl
                obtain rfl : b - (wi_p a b + 8 * wi_c a b + 4 * wi_d a b) = j := by omega
                refine lv_iload hx hb dX0_wideSum_128 (lv_at hl 6 rfl) ?_
                refine lv_iload_n hx hb dX0_wideSum_130 rfl (lv_at hl 2 rfl) ?_
                refine lv_icmp_ge (tgt := 165) hx hb dX0_wideSum_131 (by decide) (fun c_131 => ?_) (fun c_131 => ?_)
                · refine lv_lload hx hb dX0_wideSum_165 (lv_at hl 5 rfl) ?_
                  refine q_S (As := [.long (wi_w1 f (wi_p a b + 8 * wi_c a b + 4 * wi_d a b) (wi_o f (wi_p a b + 8 * wi_c a b) (wi_w8 f (wi_p a b) (wi_h0 f a b sd + lN (b - a)) (wi_c a b)) (wi_d a b)) ((b - (wi_p a b + 8 * wi_c a b + 4 * wi_d a b))))]) (rest := []) ⟨hx, hb, hml, hown, hts⟩ (c_X_wideStirred l (wi_w1 f (wi_p a b + 8 * wi_c a b + 4 * wi_d a b) (wi_o f (wi_p a b + 8 * wi_c a b) (wi_w8 f (wi_p a b) (wi_h0 f a b sd + lN (b - a)) (wi_c a b)) (wi_d a b)) ((b - (wi_p a b + 8 * wi_c a b + 4 * wi_d a b))))) (va_cwS 1 hts gX0_wideSum_X0_wideStirred rfl rfl rfl (by decide +kernel) ⟨Nat.le_of_ble_eq_true rfl, Nat.le_of_ble_eq_true rfl⟩) rfl hl.1 rfl (Nat.le_of_ble_eq_true rfl) dX0_wideSum_167 ⟨Nat.zero_le _, Nat.zero_le _⟩ ?_
                  exact W.lret (v := (wi_s3 (wi_s2 (wi_s1 (wi_w1 f (wi_p a b + 8 * wi_c a b + 4 * wi_d a b) (wi_o f (wi_p a b + 8 * wi_c a b) (wi_w8 f (wi_p a b) (wi_h0 f a b sd + lN (b - a)) (wi_c a b)) (wi_d a b)) ((b - (wi_p a b + 8 * wi_c a b + 4 * wi_d a b)))))))) hx hb hr (fun t ht _ => ⟨congrArg (fun z => Outcome.returned (some (Value.long z))) (rfl), ht⟩) (fun _ h => by cases h) dX0_wideSum_170
                · exact absurd (nI_le (by omega) (by omega)) c_131
              | succ d ih =>
                intro j hj ls hl
                have hjl : j < b - (wi_p a b + 8 * wi_c a b + 4 * wi_d a b) := by omega
                refine lv_iload hx hb dX0_wideSum_128 (lv_at hl 6 rfl) ?_
                refine lv_iload_n hx hb dX0_wideSum_130 rfl (lv_at hl 2 rfl) ?_
                refine lv_icmp_ge (tgt := 165) hx hb dX0_wideSum_131 (by decide) (fun c_131 => ?_) (fun c_131 => ?_)
                · exact absurd c_131 (nI_ge (by omega) (by omega))
                · refine lv_lload hx hb dX0_wideSum_134 (lv_at hl 5 rfl) ?_
                  refine lv_aload_n hx hb dX0_wideSum_136 rfl (lv_at hl 0 rfl) ?_
                  refine lv_iload hx hb dX0_wideSum_137 (lv_at hl 6 rfl) ?_
                  refine q_V (As := [.int (nI ((wi_p a b + 8 * wi_c a b + 4 * wi_d a b) + (j)))]) (rest := [.long (wi_w1 f (wi_p a b + 8 * wi_c a b + 4 * wi_d a b) (wi_o f (wi_p a b + 8 * wi_c a b) (wi_w8 f (wi_p a b) (wi_h0 f a b sd + lN (b - a)) (wi_c a b)) (wi_d a b)) (j))]) ⟨hx, hb, hml, hown, hts⟩ (c_X_byteIn l dC dI h0 a0 a1 cB cI n ns wd f g ((wi_p a b + 8 * wi_c a b + 4 * wi_d a b) + j) (by omega) (hn)) (cwV 1 hts gX0_wideSum_X0_byteAt rfl rfl rfl (by decide +kernel) ⟨Nat.le_of_ble_eq_true rfl, Nat.le_of_ble_eq_true rfl⟩) (xw_pre hP hK _) rfl hl.1 rfl (Nat.le_of_ble_eq_true rfl) dX0_wideSum_139 ⟨Nat.zero_le _, Nat.zero_le _⟩ ?_
                  refine lv_i2l (v := ((f ((wi_p a b + 8 * wi_c a b + 4 * wi_d a b) + j) &&& 255)).toInt64) hx hb dX0_wideSum_142 rfl ?_
                  refine lv_ldc2 (v := 2870177450012600261) hx hb hown (hts (.constantLong RX0 109 (2870177450012600261)) (by decide +kernel)) dX0_wideSum_143 ?_
                  refine lv_lmul hx hb dX0_wideSum_146 ?_
                  refine lv_lxor hx hb dX0_wideSum_147 ?_
                  refine lv_bipush (v := 11) hx hb dX0_wideSum_148 (by decide) ?_
                  refine q_S (As := [.long ((wi_w1 f (wi_p a b + 8 * wi_c a b + 4 * wi_d a b) (wi_o f (wi_p a b + 8 * wi_c a b) (wi_w8 f (wi_p a b) (wi_h0 f a b sd + lN (b - a)) (wi_c a b)) (wi_d a b)) (j) ^^^ (((f ((wi_p a b + 8 * wi_c a b + 4 * wi_d a b) + j) &&& 255)).toInt64 * 2870177450012600261))), .int (11)]) (rest := []) ⟨hx, hb, hml, hown, hts⟩ (c_X_rotatedLong l ((wi_w1 f (wi_p a b + 8 * wi_c a b + 4 * wi_d a b) (wi_o f (wi_p a b + 8 * wi_c a b) (wi_w8 f (wi_p a b) (wi_h0 f a b sd + lN (b - a)) (wi_c a b)) (wi_d a b)) (j) ^^^ (((f ((wi_p a b + 8 * wi_c a b + 4 * wi_d a b) + j) &&& 255)).toInt64 * 2870177450012600261))) (11)) (va_cwS 2 hts gX0_wideSum_X0_rotatedLong rfl rfl rfl (by decide +kernel) ⟨Nat.le_of_ble_eq_true rfl, Nat.le_of_ble_eq_true rfl⟩) rfl hl.1 rfl (Nat.le_of_ble_eq_true rfl) dX0_wideSum_150 ⟨Nat.zero_le _, Nat.zero_le _⟩ ?_
                  refine lv_ldc2 (v := -7046029288634856825) hx hb hown (hts (.constantLong RX0 122 (-7046029288634856825)) (by decide +kernel)) dX0_wideSum_153 ?_
                  refine lv_lmul hx hb dX0_wideSum_156 ?_
                  refine q_tl (y := wi_w1 f (wi_p a b + 8 * wi_c a b + 4 * wi_d a b) (wi_o f (wi_p a b + 8 * wi_c a b) (wi_w8 f (wi_p a b) (wi_h0 f a b sd + lN (b - a)) (wi_c a b)) (wi_d a b)) (j + 1)) (rfl) ?_
                  refine lv_lstore (lv' := [(6, .long (wi_w1 f (wi_p a b + 8 * wi_c a b + 4 * wi_d a b) (wi_o f (wi_p a b + 8 * wi_c a b) (wi_w8 f (wi_p a b) (wi_h0 f a b sd + lN (b - a)) (wi_c a b)) (wi_d a b)) (j + 1))), (0, .ref h0), (1, .int (nI a)), (2, .int (nI b)), (3, .long (sd)), (5, .int (nI (b - a))), (8, .int (nI ((wi_p a b + 8 * wi_c a b + 4 * wi_d a b) + (j))))]) hx hb dX0_wideSum_157 hl (by decide) rfl (fun ls hl => ?_)
                  refine lv_iinc (v := nI ((wi_p a b + 8 * wi_c a b + 4 * wi_d a b) + (j + 1))) (lv' := [(8, .int (nI ((wi_p a b + 8 * wi_c a b + 4 * wi_d a b) + (j + 1)))), (6, .long (wi_w1 f (wi_p a b + 8 * wi_c a b + 4 * wi_d a b) (wi_o f (wi_p a b + 8 * wi_c a b) (wi_w8 f (wi_p a b) (wi_h0 f a b sd + lN (b - a)) (wi_c a b)) (wi_d a b)) (j + 1))), (0, .ref h0), (1, .int (nI a)), (2, .int (nI b)), (3, .long (sd)), (5, .int (nI (b - a)))]) hx hb dX0_wideSum_159 hl (k := 6) rfl (nI_add _ 1) (by decide) rfl (fun ls hl => ?_)
                  refine lv_goto (tgt := 128) hx hb dX0_wideSum_162 (by decide) ?_
                  exact ih (j + 1) (by omega) ls (lv_sub hl [2, 3, 4, 5, 6, 1, 0] rfl)
            exact L128 (b - (wi_p a b + 8 * wi_c a b + 4 * wi_d a b)) 0 (by omega) ls (lv_sub hl [0, 1, 2, 3, 4, 5, 6] rfl)
          refine lv_iload_n hx hb dX0_wideSum_89 rfl (lv_at hl 2 rfl) ?_
          refine lv_iload hx hb dX0_wideSum_90 (lv_at hl 6 rfl) ?_
          refine lv_isub hx hb dX0_wideSum_92 ?_
          refine q_ti (y := nI (b - (wi_p a b + 8 * wi_c a b))) (pk_sub (by omega)) ?_
          refine lv_iconst (v := 4) hx hb dX0_wideSum_93 (by decide) ?_
          refine lv_icmp_lt (tgt := 128) hx hb dX0_wideSum_94 (by decide) (fun c_94 => ?_) (fun c_94 => ?_)
          · have h4 : b - (wi_p a b + 8 * wi_c a b) < 4 := (nI_ltI (b := 4) (by omega) (by omega)).mp c_94
            have hd0 : wi_d a b = 0 := by omega
            have hl : lv_has ls 9 [(0, .ref h0), (1, .int (nI a)), (2, .int (nI b)), (3, .long (sd)), (5, .int (nI (b - a))), (6, .long ((wi_o f (wi_p a b + 8 * wi_c a b) (wi_w8 f (wi_p a b) (wi_h0 f a b sd + lN (b - a)) (wi_c a b)) (wi_d a b)))), (8, .int (nI (wi_p a b + 8 * ((wi_c a b)))))] := q_lv hl (congrArg (fun z => ([(0, .ref h0), (1, .int (nI a)), (2, .int (nI b)), (3, .long (sd)), (5, .int (nI (b - a))), (6, Value.long z), (8, .int (nI (wi_p a b + 8 * ((wi_c a b)))))] : List (Nat × Value))) (show (wi_w8 f (wi_p a b) (wi_h0 f a b sd + lN (b - a)) ((wi_c a b)) : Int64) = (wi_o f (wi_p a b + 8 * wi_c a b) (wi_w8 f (wi_p a b) (wi_h0 f a b sd + lN (b - a)) (wi_c a b)) (wi_d a b)) from by unfold wi_o; rw [if_pos hd0]))
            have hl : lv_has ls 9 [(0, .ref h0), (1, .int (nI a)), (2, .int (nI b)), (3, .long (sd)), (5, .int (nI (b - a))), (6, .long ((wi_o f (wi_p a b + 8 * wi_c a b) (wi_w8 f (wi_p a b) (wi_h0 f a b sd + lN (b - a)) (wi_c a b)) (wi_d a b)))), (8, .int (nI (wi_p a b + 8 * wi_c a b + 4 * wi_d a b)))] := q_lv hl (congrArg (fun z => ([(0, .ref h0), (1, .int (nI a)), (2, .int (nI b)), (3, .long (sd)), (5, .int (nI (b - a))), (6, .long ((wi_o f (wi_p a b + 8 * wi_c a b) (wi_w8 f (wi_p a b) (wi_h0 f a b sd + lN (b - a)) (wi_c a b)) (wi_d a b)))), (8, Value.int z)] : List (Nat × Value))) (show (nI (wi_p a b + 8 * ((wi_c a b))) : Int32) = nI (wi_p a b + 8 * wi_c a b + 4 * wi_d a b) from congrArg nI (by omega)))
            exact J128 ls (lv_sub hl [0, 1, 2, 3, 4, 5, 6] rfl)
          · have h4 : ¬ b - (wi_p a b + 8 * wi_c a b) < 4 := fun q => c_94 (nI_lt (b := 4) q (by omega))
            have hd1 : wi_d a b = 1 := by omega
            refine lv_lload hx hb dX0_wideSum_97 (lv_at hl 5 rfl) ?_
            refine lv_aload_n hx hb dX0_wideSum_99 rfl (lv_at hl 0 rfl) ?_
            refine lv_iload hx hb dX0_wideSum_100 (lv_at hl 6 rfl) ?_
            refine q_V (As := [.int (nI (wi_p a b + 8 * ((wi_c a b))))]) (rest := [.long (wi_w8 f (wi_p a b) (wi_h0 f a b sd + lN (b - a)) ((wi_c a b)))]) ⟨hx, hb, hml, hown, hts⟩ (c_X_unsignedWord l dC dI h0 a0 a1 cB cI n ns wd f g (wi_p a b + 8 * wi_c a b) (by omega)) (cwV 1 hts gX0_wideSum_X0_unsignedWord rfl rfl rfl (by decide +kernel) ⟨Nat.le_of_ble_eq_true rfl, Nat.le_of_ble_eq_true rfl⟩) (xw_pre hP hK _) rfl hl.1 rfl (Nat.le_of_ble_eq_true rfl) dX0_wideSum_102 ⟨Nat.zero_le _, Nat.zero_le _⟩ ?_
            refine lv_ldc2 (v := -7046029288634856825) hx hb hown (hts (.constantLong RX0 122 (-7046029288634856825)) (by decide +kernel)) dX0_wideSum_105 ?_
            refine lv_lmul hx hb dX0_wideSum_108 ?_
            refine lv_lxor hx hb dX0_wideSum_109 ?_
            refine lv_bipush (v := 23) hx hb dX0_wideSum_110 (by decide) ?_
            refine q_S (As := [.long ((wi_w8 f (wi_p a b) (wi_h0 f a b sd + lN (b - a)) ((wi_c a b)) ^^^ ((wo_u f (wi_p a b + 8 * wi_c a b)) * (-7046029288634856825)))), .int (23)]) (rest := []) ⟨hx, hb, hml, hown, hts⟩ (c_X_rotatedLong l ((wi_w8 f (wi_p a b) (wi_h0 f a b sd + lN (b - a)) ((wi_c a b)) ^^^ ((wo_u f (wi_p a b + 8 * wi_c a b)) * (-7046029288634856825)))) (23)) (va_cwS 2 hts gX0_wideSum_X0_rotatedLong rfl rfl rfl (by decide +kernel) ⟨Nat.le_of_ble_eq_true rfl, Nat.le_of_ble_eq_true rfl⟩) rfl hl.1 rfl (Nat.le_of_ble_eq_true rfl) dX0_wideSum_112 ⟨Nat.zero_le _, Nat.zero_le _⟩ ?_
            refine lv_ldc2 (v := -4417276706812531889) hx hb hown (hts (.constantLong RX0 126 (-4417276706812531889)) (by decide +kernel)) dX0_wideSum_115 ?_
            refine lv_lmul hx hb dX0_wideSum_118 ?_
            refine lv_ldc2 (v := 1609587929392839161) hx hb hown (hts (.constantLong RX0 128 (1609587929392839161)) (by decide +kernel)) dX0_wideSum_119 ?_
            refine lv_ladd hx hb dX0_wideSum_122 ?_
            refine q_tl (y := (wi_o f (wi_p a b + 8 * wi_c a b) (wi_w8 f (wi_p a b) (wi_h0 f a b sd + lN (b - a)) (wi_c a b)) (wi_d a b))) (by unfold wi_o; rw [if_neg (by omega)]; rfl) ?_
            refine lv_lstore (lv' := [(6, .long ((wi_o f (wi_p a b + 8 * wi_c a b) (wi_w8 f (wi_p a b) (wi_h0 f a b sd + lN (b - a)) (wi_c a b)) (wi_d a b)))), (0, .ref h0), (1, .int (nI a)), (2, .int (nI b)), (3, .long (sd)), (5, .int (nI (b - a))), (8, .int (nI (wi_p a b + 8 * ((wi_c a b)))))]) hx hb dX0_wideSum_123 hl (by decide) rfl (fun ls hl => ?_)
            refine lv_iinc (v := nI (wi_p a b + 8 * wi_c a b + 4 * wi_d a b)) (lv' := [(8, .int (nI (wi_p a b + 8 * wi_c a b + 4 * wi_d a b))), (6, .long ((wi_o f (wi_p a b + 8 * wi_c a b) (wi_w8 f (wi_p a b) (wi_h0 f a b sd + lN (b - a)) (wi_c a b)) (wi_d a b)))), (0, .ref h0), (1, .int (nI a)), (2, .int (nI b)), (3, .long (sd)), (5, .int (nI (b - a)))]) hx hb dX0_wideSum_125 hl (k := 6) rfl (by rw [hd1]; exact nI_add _ 4) (by decide) rfl (fun ls hl => ?_)
            exact J128 ls (lv_sub hl [2, 3, 4, 5, 6, 1, 0] rfl)
        · exact absurd (nI_lt (b := 8) (by omega) (by omega)) c_52
      | succ d ih =>
        intro j hj ls hl
        have hjl : j < wi_c a b := by omega
        refine lv_iload_n hx hb dX0_wideSum_46 rfl (lv_at hl 2 rfl) ?_
        refine lv_iload hx hb dX0_wideSum_47 (lv_at hl 6 rfl) ?_
        refine lv_isub hx hb dX0_wideSum_49 ?_
        refine q_ti (y := nI (b - (wi_p a b + 8 * j))) (pk_sub (by omega)) ?_
        refine lv_bipush (v := 8) hx hb dX0_wideSum_50 (by decide) ?_
        refine lv_icmp_lt (tgt := 89) hx hb dX0_wideSum_52 (by decide) (fun c_52 => ?_) (fun c_52 => ?_)
        · exact absurd c_52 (nI_nlt (b := 8) (by omega) (by omega))
        · refine lv_lload hx hb dX0_wideSum_55 (lv_at hl 5 rfl) ?_
          refine lv_lconst (v := 0) hx hb dX0_wideSum_57 (by decide) ?_
          refine lv_aload_n hx hb dX0_wideSum_58 rfl (lv_at hl 0 rfl) ?_
          refine lv_iload hx hb dX0_wideSum_59 (lv_at hl 6 rfl) ?_
          refine q_V (As := [.int (nI (wi_p a b + 8 * (j)))]) (rest := [.long (0), .long (wi_w8 f (wi_p a b) (wi_h0 f a b sd + lN (b - a)) (j))]) ⟨hx, hb, hml, hown, hts⟩ (c_X_longWord l dC dI h0 a0 a1 cB cI n ns wd f g (wi_p a b + 8 * j) (by omega)) (cwV 1 hts gX0_wideSum_X0_longWord rfl rfl rfl (by decide +kernel) ⟨Nat.le_of_ble_eq_true rfl, Nat.le_of_ble_eq_true rfl⟩) (xw_pre hP hK _) rfl hl.1 rfl (Nat.le_of_ble_eq_true rfl) dX0_wideSum_61 ⟨Nat.zero_le _, Nat.zero_le _⟩ ?_
          refine q_S (As := [.long (0), .long ((wo_8 f (wi_p a b + 8 * j)))]) (rest := [.long (wi_w8 f (wi_p a b) (wi_h0 f a b sd + lN (b - a)) (j))]) ⟨hx, hb, hml, hown, hts⟩ (c_X_wideLane l (0) ((wo_8 f (wi_p a b + 8 * j)))) (va_cwS 2 hts gX0_wideSum_X0_wideLane rfl rfl rfl (by decide +kernel) ⟨Nat.le_of_ble_eq_true rfl, Nat.le_of_ble_eq_true rfl⟩) rfl hl.1 rfl (Nat.le_of_ble_eq_true rfl) dX0_wideSum_64 ⟨Nat.zero_le _, Nat.zero_le _⟩ ?_
          refine lv_lxor hx hb dX0_wideSum_67 ?_
          refine lv_bipush (v := 27) hx hb dX0_wideSum_68 (by decide) ?_
          refine q_S (As := [.long ((wi_w8 f (wi_p a b) (wi_h0 f a b sd + lN (b - a)) (j) ^^^ (wi_ln 0 ((wo_8 f (wi_p a b + 8 * j)))))), .int (27)]) (rest := []) ⟨hx, hb, hml, hown, hts⟩ (c_X_rotatedLong l ((wi_w8 f (wi_p a b) (wi_h0 f a b sd + lN (b - a)) (j) ^^^ (wi_ln 0 ((wo_8 f (wi_p a b + 8 * j)))))) (27)) (va_cwS 2 hts gX0_wideSum_X0_rotatedLong rfl rfl rfl (by decide +kernel) ⟨Nat.le_of_ble_eq_true rfl, Nat.le_of_ble_eq_true rfl⟩) rfl hl.1 rfl (Nat.le_of_ble_eq_true rfl) dX0_wideSum_70 ⟨Nat.zero_le _, Nat.zero_le _⟩ ?_
          refine lv_ldc2 (v := -7046029288634856825) hx hb hown (hts (.constantLong RX0 122 (-7046029288634856825)) (by decide +kernel)) dX0_wideSum_73 ?_
          refine lv_lmul hx hb dX0_wideSum_76 ?_
          refine lv_ldc2 (v := -8796714831421723037) hx hb hown (hts (.constantLong RX0 124 (-8796714831421723037)) (by decide +kernel)) dX0_wideSum_77 ?_
          refine lv_ladd hx hb dX0_wideSum_80 ?_
          refine q_tl (y := wi_w8 f (wi_p a b) (wi_h0 f a b sd + lN (b - a)) (j + 1)) (rfl) ?_
          refine lv_lstore (lv' := [(6, .long (wi_w8 f (wi_p a b) (wi_h0 f a b sd + lN (b - a)) (j + 1))), (0, .ref h0), (1, .int (nI a)), (2, .int (nI b)), (3, .long (sd)), (5, .int (nI (b - a))), (8, .int (nI (wi_p a b + 8 * (j))))]) hx hb dX0_wideSum_81 hl (by decide) rfl (fun ls hl => ?_)
          refine lv_iinc (v := nI (wi_p a b + 8 * (j + 1))) (lv' := [(8, .int (nI (wi_p a b + 8 * (j + 1)))), (6, .long (wi_w8 f (wi_p a b) (wi_h0 f a b sd + lN (b - a)) (j + 1))), (0, .ref h0), (1, .int (nI a)), (2, .int (nI b)), (3, .long (sd)), (5, .int (nI (b - a)))]) hx hb dX0_wideSum_83 hl (k := 6) rfl (by rw [show wi_p a b + 8 * (j + 1) = wi_p a b + 8 * j + 8 by omega]; exact nI_add _ 8) (by decide) rfl (fun ls hl => ?_)
          refine lv_goto (tgt := 46) hx hb dX0_wideSum_86 (by decide) ?_
          exact ih (j + 1) (by omega) ls (lv_sub hl [2, 3, 4, 5, 6, 1, 0] rfl)
    exact L46 (wi_c a b) 0 (by omega) ls (lv_sub hl [3, 4, 5, 6, 2, 1, 0] rfl)
  refine lv_iload hx hb dX0_wideSum_5 (lv_at hl 0 rfl) ?_
  refine lv_bipush (v := 32) hx hb dX0_wideSum_7 (by decide) ?_
  refine lv_icmp_lt (tgt := 22) hx hb dX0_wideSum_9 (by decide) (fun c_9 => ?_) (fun c_9 => ?_)
  · refine lv_lload_n hx hb dX0_wideSum_22 rfl (lv_at hl 4 rfl) ?_
    refine lv_ldc2 (v := 2870177450012600261) hx hb hown (hts (.constantLong RX0 109 (2870177450012600261)) (by decide +kernel)) dX0_wideSum_23 ?_
    refine lv_ladd hx hb dX0_wideSum_26 ?_
    refine q_tl (y := wi_h0 f a b sd) (by unfold wi_h0; rw [if_neg (fun q => nI_nlt (a := b - a) (b := 32) q (by omega) c_9)]) ?_
    exact J27 ls (lv_sub hl [0, 1, 2, 3, 4] rfl)
  · refine lv_aload_n hx hb dX0_wideSum_12 rfl (lv_at hl 1 rfl) ?_
    refine lv_iload_n hx hb dX0_wideSum_13 rfl (lv_at hl 2 rfl) ?_
    refine lv_iload_n hx hb dX0_wideSum_14 rfl (lv_at hl 3 rfl) ?_
    refine lv_lload_n hx hb dX0_wideSum_15 rfl (lv_at hl 4 rfl) ?_
    refine q_V (As := [.int (nI a), .int (nI b), .long (sd)]) (rest := []) ⟨hx, hb, hml, hown, hts⟩ (c_X_wideOfLanes l dC dI h0 a0 a1 cB cI n ns wd f g (a) (b) (sd) (by omega) (by omega) (hn)) (cwV 3 hts gX0_wideSum_X0_wideOfLanes rfl rfl rfl (by decide +kernel) ⟨Nat.le_of_ble_eq_true rfl, Nat.le_of_ble_eq_true rfl⟩) (xw_pre hP hK _) rfl hl.1 rfl (Nat.le_of_ble_eq_true rfl) dX0_wideSum_16 ⟨Nat.zero_le _, Nat.zero_le _⟩ ?_
    refine q_tl (y := wi_h0 f a b sd) (by unfold wi_h0; rw [if_pos (Nat.not_lt.mp (fun q => c_9 (nI_lt (a := b - a) (b := 32) q (by omega))))]) ?_
    refine lv_goto (tgt := 27) hx hb dX0_wideSum_19 (by decide) ?_
    exact J27 ls (lv_sub hl [0, 1, 2, 3, 4] rfl)
set_option maxHeartbeats 4000000 in
set_option maxRecDepth 100000 in
theorem c_X_wide (l : Launch) (dC : Nat → ClassId) (dI : Nat → Nat → Nat) (h0 a0 a1 : Nat) (cB cI : ClassId) (n : Nat) (ns : Int32) (wd : Int64) (f g : Nat → Int32) (hn : n ≤ 65536) : Met l yX0_wide wsX0_wide ({ frames := 5, cells := 0, slots := 0, locals := 130 } : Room) (va_Pc [.ref h0] (xW dC dI h0 a0 a1 cB cI n ns wd f g)) (k2_QcV (.long (wi_sum f 0 n wd))) 0 0 (fun _ => False) := by
  refine Met.ofW (cc := cX0_wide) (maxL := 1) (ret := some .long) (by decide) rfl ?_
  intro p e s m args below meth c s₁ B hml hv
  obtain ⟨rfl, hP, hK⟩ := hv
  have hx := B.exec
  have hb := B.bytes
  have hr := B.returns
  have hts := atoms_spec (ws := wsX0_wide) B.pre
  have hown : s.vm.findClass RX0 = some m.cls := findClass_of_methodNamed B.named
  have hlocks := B.notSynchronized
  have hin : ∀ w ∈ u_ws RX0 TX0 5, w ∈ wsX0_wide := by decide +kernel
  have hl := lv_entry ([.ref h0]) (n := 1) (Nat.le_of_ble_eq_true rfl)
  rw [lg_entry_eq]
  generalize (lg_sl ([.ref h0]) ++ List.replicate (1 - (lg_sl ([.ref h0])).length) Slot.unset).toArray = ls at hl ⊢
  have hl : lv_has ls 1 [(0, .ref h0)] := hl
  refine lv_aload_n hx hb dX0_wide_0 rfl (lv_at hl 0 rfl) ?_
  refine lv_iconst (v := 0) hx hb dX0_wide_1 (by decide) ?_
  refine lv_aload_n hx hb dX0_wide_2 rfl (lv_at hl 0 rfl) ?_
  refine va_get (D := (dC, dI)) (ci := 0) (v := .int (nI n)) (C := RX0) (T := TX0) (N := 5) hx hb hts hin hown hK hP 0 rfl rfl 2 (by decide) (hts (.fieldLink RX0 22 "StreamSums" "count" "I") (by decide +kernel)) (fun _ h9 => h9) rfl dX0_wide_3 ?_
  refine lv_aload_n hx hb dX0_wide_6 rfl (lv_at hl 0 rfl) ?_
  refine va_get (D := (dC, dI)) (ci := 0) (v := .long (wd)) (C := RX0) (T := TX0) (N := 5) hx hb hts hin hown hK hP 0 rfl rfl 4 (by decide) (hts (.fieldLink RX0 29 "StreamSums" "wideSeed" "J") (by decide +kernel)) (fun _ h9 => h9) rfl dX0_wide_7 ?_
  refine q_V (As := [.int (0), .int (nI n), .long (wd)]) (rest := []) ⟨hx, hb, hml, hown, hts⟩ (c_X_wideSum l dC dI h0 a0 a1 cB cI n ns wd f g (0) (n) (wd) (by omega) (by omega) (hn)) (cwV 3 hts gX0_wide_X0_wideSum rfl rfl rfl (by decide +kernel) ⟨Nat.le_of_ble_eq_true rfl, Nat.le_of_ble_eq_true rfl⟩) (xw_pre hP hK _) rfl hl.1 rfl (Nat.le_of_ble_eq_true rfl) dX0_wide_10 ⟨Nat.zero_le _, Nat.zero_le _⟩ ?_
  exact W.lret (v := (wi_sum f 0 n wd)) hx hb hr (fun t ht _ => ⟨congrArg (fun z => Outcome.returned (some (Value.long z))) (rfl), ht⟩) (fun _ h => by cases h) dX0_wide_13
set_option maxHeartbeats 4000000 in
set_option maxRecDepth 100000 in
theorem c_X_wideOf (l : Launch) (dC : Nat → ClassId) (dI : Nat → Nat → Nat) (h0 a0 a1 : Nat) (cB cI : ClassId) (n : Nat) (ns : Int32) (wd : Int64) (f g : Nat → Int32) (x : Int32) (y : Int32) (sd : Int64) (hn : n ≤ 65536) : Met l yX0_wideOf wsX0_wideOf ({ frames := 5, cells := 0, slots := 0, locals := 130 } : Room) (va_Pc [.ref h0, .int x, .int y, .long sd] (xW dC dI h0 a0 a1 cB cI n ns wd f g)) (k2_QcV (.long (an_wi n f x y sd))) 0 0 (fun _ => False) := by
  refine Met.ofW (cc := cX0_wideOf) (maxL := 5) (ret := some .long) (by decide) rfl ?_
  intro p e s m args below meth c s₁ B hml hv
  obtain ⟨rfl, hP, hK⟩ := hv
  have hx := B.exec
  have hb := B.bytes
  have hr := B.returns
  have hts := atoms_spec (ws := wsX0_wideOf) B.pre
  have hown : s.vm.findClass RX0 = some m.cls := findClass_of_methodNamed B.named
  have hlocks := B.notSynchronized
  have hl := lv_entry ([.ref h0, .int x, .int y, .long sd]) (n := 5) (Nat.le_of_ble_eq_true rfl)
  rw [lg_entry_eq]
  generalize (lg_sl ([.ref h0, .int x, .int y, .long sd]) ++ List.replicate (5 - (lg_sl ([.ref h0, .int x, .int y, .long sd])).length) Slot.unset).toArray = ls at hl ⊢
  have hl : lv_has ls 5 [(0, .ref h0), (1, .int (x)), (2, .int (y)), (3, .long (sd))] := hl
  refine lv_aload_n hx hb dX0_wideOf_0 rfl (lv_at hl 0 rfl) ?_
  refine lv_iload_n hx hb dX0_wideOf_1 rfl (lv_at hl 1 rfl) ?_
  refine lv_iload_n hx hb dX0_wideOf_2 rfl (lv_at hl 2 rfl) ?_
  refine q_V (As := [.int (x), .int (y)]) (rest := []) ⟨hx, hb, hml, hown, hts⟩ (c_X_isPart l dC dI h0 a0 a1 cB cI n ns wd f g (x) (y)) (cwV 2 hts gX0_wideOf_X0_isPart rfl rfl rfl (by decide +kernel) ⟨Nat.le_of_ble_eq_true rfl, Nat.le_of_ble_eq_true rfl⟩) (xw_pre hP hK _) rfl hl.1 rfl (Nat.le_of_ble_eq_true rfl) dX0_wideOf_3 ⟨Nat.zero_le _, Nat.zero_le _⟩ ?_
  refine lv_if_eq (tgt := 19) hx hb dX0_wideOf_6 (by decide) (fun c_6 => ?_) (fun c_6 => ?_)
  · refine lv_aload_n hx hb dX0_wideOf_19 rfl (lv_at hl 0 rfl) ?_
    refine lv_iconst (v := 0) hx hb dX0_wideOf_20 (by decide) ?_
    refine lv_iconst (v := 0) hx hb dX0_wideOf_21 (by decide) ?_
    refine lv_lload_n hx hb dX0_wideOf_22 rfl (lv_at hl 3 rfl) ?_
    refine q_V (As := [.int (0), .int (0), .long (sd)]) (rest := []) ⟨hx, hb, hml, hown, hts⟩ (c_X_wideSum l dC dI h0 a0 a1 cB cI n ns wd f g (0) (0) (sd) (by omega) (by omega) (hn)) (cwV 3 hts gX0_wideOf_X0_wideSum rfl rfl rfl (by decide +kernel) ⟨Nat.le_of_ble_eq_true rfl, Nat.le_of_ble_eq_true rfl⟩) (xw_pre hP hK _) rfl hl.1 rfl (Nat.le_of_ble_eq_true rfl) dX0_wideOf_23 ⟨Nat.zero_le _, Nat.zero_le _⟩ ?_
    exact W.lret (v := (wi_sum f 0 0 sd)) hx hb hr (fun t ht _ => ⟨congrArg (fun z => Outcome.returned (some (Value.long z))) (by unfold an_wi; rw [if_pos c_6]), ht⟩) (fun _ h => by cases h) dX0_wideOf_26
  · obtain ⟨a, b, hxa, hyb, hab, hbn⟩ := pt_some hn c_6
    refine lv_aload_n hx hb dX0_wideOf_9 rfl (lv_at hl 0 rfl) ?_
    refine lv_iload_n hx hb dX0_wideOf_10 rfl (lv_at hl 1 rfl) ?_
    refine q_ti (y := nI a) (hxa) ?_
    refine lv_iload_n hx hb dX0_wideOf_11 rfl (lv_at hl 2 rfl) ?_
    refine q_ti (y := nI b) (hyb) ?_
    refine lv_lload_n hx hb dX0_wideOf_12 rfl (lv_at hl 3 rfl) ?_
    refine q_V (As := [.int (nI a), .int (nI b), .long (sd)]) (rest := []) ⟨hx, hb, hml, hown, hts⟩ (c_X_wideSum l dC dI h0 a0 a1 cB cI n ns wd f g (a) (b) (sd) (by omega) (by omega) (hn)) (cwV 3 hts gX0_wideOf_X0_wideSum rfl rfl rfl (by decide +kernel) ⟨Nat.le_of_ble_eq_true rfl, Nat.le_of_ble_eq_true rfl⟩) (xw_pre hP hK _) rfl hl.1 rfl (Nat.le_of_ble_eq_true rfl) dX0_wideOf_13 ⟨Nat.zero_le _, Nat.zero_le _⟩ ?_
    refine lv_goto (tgt := 26) hx hb dX0_wideOf_16 (by decide) ?_
    exact W.lret (v := (wi_sum f a b sd)) hx hb hr (fun t ht _ => ⟨congrArg (fun z => Outcome.returned (some (Value.long z))) (by unfold an_wi; rw [if_neg c_6, hxa, hyb, nI_clamp (by omega), nI_clamp (by omega)]), ht⟩) (fun _ h => by cases h) dX0_wideOf_26
end
section
set_option maxHeartbeats 4000000 in
set_option maxRecDepth 100000 in
theorem c_M_size (l : Launch) (dC : Nat → ClassId) (dI : Nat → Nat → Nat) (h0 a0 : Nat) (cB : ClassId) (n : Nat) (ns : Int32) (wd : Int64) (f : Nat → Int32) : Met l yX1_size wsM_size ({ frames := 0, cells := 0, slots := 0, locals := 0 } : Room) (va_Pc [.ref h0] (mW dC dI h0 a0 cB n ns wd f)) (k2_QcV (.int (nI n))) 0 0 (fun _ => False) := by
  refine Met.ofW (cc := cX1_size) (maxL := 1) (ret := some .int) (by decide) rfl ?_
  intro p e s m args below meth c s₁ B hml hv
  obtain ⟨rfl, hP, hK⟩ := hv
  have hx := B.exec
  have hb := B.bytes
  have hr := B.returns
  have hts := atoms_spec (ws := wsM_size) B.pre
  have hown : s.vm.findClass RX1 = some m.cls := findClass_of_methodNamed B.named
  have hlocks := B.notSynchronized
  have hin : ∀ w ∈ u_ws RX1 TX1 4, w ∈ wsM_size := fun w h => wsM_self w (wsM_fin w h)
  have hl := lv_entry ([.ref h0]) (n := 1) (Nat.le_of_ble_eq_true rfl)
  rw [lg_entry_eq]
  generalize (lg_sl ([.ref h0]) ++ List.replicate (1 - (lg_sl ([.ref h0])).length) Slot.unset).toArray = ls at hl ⊢
  have hl : lv_has ls 1 [(0, .ref h0)] := hl
  refine lv_aload_n hx hb dX1_size_0 rfl (lv_at hl 0 rfl) ?_
  refine va_get (D := (dC, dI)) (ci := 1) (v := .int (nI n)) (C := RX1) (T := TX1) (N := 4) hx hb hts hin hown hK hP 0 rfl rfl 1 (by decide) (hts (.fieldLink RX1 14 "StreamSumsModel" "length" "I") (wsM_self _ (wsM_nin (by decide +kernel)))) (fun _ h9 => h9) rfl dX1_size_1 ?_
  exact W.iret (v := nI n) hx hb hr (fun t ht _ => ⟨congrArg (fun z => Outcome.returned (some (Value.int z))) (rfl), ht⟩) (fun _ h => by cases h) dX1_size_4
set_option maxHeartbeats 4000000 in
set_option maxRecDepth 100000 in
theorem c_M_at (l : Launch) (dC : Nat → ClassId) (dI : Nat → Nat → Nat) (h0 a0 : Nat) (cB : ClassId) (n : Nat) (ns : Int32) (wd : Int64) (f : Nat → Int32) (j : Nat) (hj : j < 65536) : Met l yX1_at wsM_at ({ frames := 0, cells := 0, slots := 0, locals := 0 } : Room) (va_Pc [.ref h0, .int (nI j)] (mW dC dI h0 a0 cB n ns wd f)) (k2_QcV (.int (f j &&& 255))) 0 0 (fun _ => False) := by
  refine Met.ofW (cc := cX1_at) (maxL := 2) (ret := some .int) (by decide) rfl ?_
  intro p e s m args below meth c s₁ B hml hv
  obtain ⟨rfl, hP, hK⟩ := hv
  have hx := B.exec
  have hb := B.bytes
  have hr := B.returns
  have hts := atoms_spec (ws := wsM_at) B.pre
  have hown : s.vm.findClass RX1 = some m.cls := findClass_of_methodNamed B.named
  have hlocks := B.notSynchronized
  have hin : ∀ w ∈ u_ws RX1 TX1 4, w ∈ wsM_at := fun w h => wsM_self w (wsM_fin w h)
  have hl := lv_entry ([.ref h0, .int (nI j)]) (n := 2) (Nat.le_of_ble_eq_true rfl)
  rw [lg_entry_eq]
  generalize (lg_sl ([.ref h0, .int (nI j)]) ++ List.replicate (2 - (lg_sl ([.ref h0, .int (nI j)])).length) Slot.unset).toArray = ls at hl ⊢
  have hl : lv_has ls 2 [(0, .ref h0), (1, .int (nI j))] := hl
  refine lv_aload_n hx hb dX1_at_0 rfl (lv_at hl 0 rfl) ?_
  refine va_get (D := (dC, dI)) (ci := 1) (v := .ref a0) (C := RX1) (T := TX1) (N := 4) hx hb hts hin hown hK hP 0 rfl rfl 0 (by decide) (hts (.fieldLink RX1 8 "StreamSumsModel" "row" "[B") (wsM_self _ (wsM_nin (by decide +kernel)))) (fun _ h9 => h9) rfl dX1_at_1 ?_
  refine lv_iload_n hx hb dX1_at_4 rfl (lv_at hl 1 rfl) ?_
  refine q_bald (j := j) hx hb hK hP 1 0 rfl rfl rfl hj (by omega) dX1_at_5 ?_
  refine lv_sipush (v := 255) hx hb dX1_at_6 (by decide) ?_
  refine lv_iand hx hb dX1_at_9 ?_
  exact W.iret (v := ((f (j)) &&& 255)) hx hb hr (fun t ht _ => ⟨congrArg (fun z => Outcome.returned (some (Value.int z))) (rfl), ht⟩) (fun _ h => by cases h) dX1_at_10
set_option maxHeartbeats 4000000 in
set_option maxRecDepth 100000 in
theorem c_M_byteAt (l : Launch) (dC : Nat → ClassId) (dI : Nat → Nat → Nat) (h0 a0 : Nat) (cB : ClassId) (n : Nat) (ns : Int32) (wd : Int64) (f : Nat → Int32) (k : Int32) (hn : n ≤ 65536) : Met l yX1_byteAt wsM_byteAt ({ frames := 1, cells := 0, slots := 0, locals := 21 } : Room) (va_Pc [.ref h0, .int k] (mW dC dI h0 a0 cB n ns wd f)) (k2_QcV (.int (by_at n f k))) 0 0 (fun _ => False) := by
  refine Met.ofW (cc := cX1_byteAt) (maxL := 2) (ret := some .int) (by decide) rfl ?_
  intro p e s m args below meth c s₁ B hml hv
  obtain ⟨rfl, hP, hK⟩ := hv
  have hx := B.exec
  have hb := B.bytes
  have hr := B.returns
  have hts := atoms_spec (ws := wsM_byteAt) B.pre
  have hown : s.vm.findClass RX1 = some m.cls := findClass_of_methodNamed B.named
  have hlocks := B.notSynchronized
  have hin : ∀ w ∈ u_ws RX1 TX1 4, w ∈ wsM_byteAt := fun w h => wsM_self w (wsM_fin w h)
  have hl := lv_entry ([.ref h0, .int k]) (n := 2) (Nat.le_of_ble_eq_true rfl)
  rw [lg_entry_eq]
  generalize (lg_sl ([.ref h0, .int k]) ++ List.replicate (2 - (lg_sl ([.ref h0, .int k])).length) Slot.unset).toArray = ls at hl ⊢
  have hl : lv_has ls 2 [(0, .ref h0), (1, .int (k))] := hl
  refine lv_iload_n hx hb dX1_byteAt_0 rfl (lv_at hl 1 rfl) ?_
  refine lv_if_lt (tgt := 12) hx hb dX1_byteAt_1 (by decide) (fun c_1 => ?_) (fun c_1 => ?_)
  · refine lv_iconst (v := -1) hx hb dX1_byteAt_12 (by decide) ?_
    refine lv_goto (tgt := 21) hx hb dX1_byteAt_13 (by decide) ?_
    exact W.iret (v := (-1)) hx hb hr (fun t ht _ => ⟨congrArg (fun z => Outcome.returned (some (Value.int z))) (by unfold by_at; rw [if_pos c_1]), ht⟩) (fun _ h => by cases h) dX1_byteAt_21
  · obtain ⟨j, hj, hkj⟩ := nI_of c_1
    refine lv_iload_n hx hb dX1_byteAt_4 rfl (lv_at hl 1 rfl) ?_
    refine lv_aload_n hx hb dX1_byteAt_5 rfl (lv_at hl 0 rfl) ?_
    refine va_get (D := (dC, dI)) (ci := 1) (v := .int (nI n)) (C := RX1) (T := TX1) (N := 4) hx hb hts hin hown hK hP 0 rfl rfl 1 (by decide) (hts (.fieldLink RX1 14 "StreamSumsModel" "length" "I") (wsM_self _ (wsM_nin (by decide +kernel)))) (fun _ h9 => h9) rfl dX1_byteAt_6 ?_
    refine lv_icmp_lt (tgt := 16) hx hb dX1_byteAt_9 (by decide) (fun c_9 => ?_) (fun c_9 => ?_)
    · have hjn : j < n := by
        rw [hkj, nI_ltI hj (by omega)] at c_9
        exact c_9
      refine lv_aload_n hx hb dX1_byteAt_16 rfl (lv_at hl 0 rfl) ?_
      refine lv_iload_n hx hb dX1_byteAt_17 rfl (lv_at hl 1 rfl) ?_
      refine q_ti (y := nI j) (hkj) ?_
      refine q_V (As := [.int (nI j)]) (rest := []) ⟨hx, hb, hml, hown, hts⟩ (c_M_at l dC dI h0 a0 cB n ns wd f (j) (by omega)) (cwV 1 hts gX1_byteAt_X1_at rfl rfl rfl (by decide +kernel) ⟨Nat.le_of_ble_eq_true rfl, Nat.le_of_ble_eq_true rfl⟩) (mw_pre hP hK _) rfl hl.1 rfl (Nat.le_of_ble_eq_true rfl) dX1_byteAt_18 ⟨Nat.zero_le _, Nat.zero_le _⟩ ?_
      exact W.iret (v := (f j &&& 255)) hx hb hr (fun t ht _ => ⟨congrArg (fun z => Outcome.returned (some (Value.int z))) (by unfold by_at; rw [if_neg c_1, if_neg (by rw [hkj]; exact nI_ge hjn (by omega)), hkj, nI_clamp hj]), ht⟩) (fun _ h => by cases h) dX1_byteAt_21
    · refine lv_iconst (v := -1) hx hb dX1_byteAt_12 (by decide) ?_
      refine lv_goto (tgt := 21) hx hb dX1_byteAt_13 (by decide) ?_
      exact W.iret (v := (-1)) hx hb hr (fun t ht _ => ⟨congrArg (fun z => Outcome.returned (some (Value.int z))) (by unfold by_at; rw [if_neg c_1, if_pos (Int32.not_lt.mp c_9)]), ht⟩) (fun _ h => by cases h) dX1_byteAt_21
set_option maxHeartbeats 4000000 in
set_option maxRecDepth 100000 in
theorem c_M_isPart (l : Launch) (dC : Nat → ClassId) (dI : Nat → Nat → Nat) (h0 a0 : Nat) (cB : ClassId) (n : Nat) (ns : Int32) (wd : Int64) (f : Nat → Int32) (x : Int32) (y : Int32) : Met l yX1_isPart wsM_isPart ({ frames := 0, cells := 0, slots := 0, locals := 0 } : Room) (va_Pc [.ref h0, .int x, .int y] (mW dC dI h0 a0 cB n ns wd f)) (k2_QcV (.int (pt_n n x y))) 0 0 (fun _ => False) := by
  refine Met.ofW (cc := cX1_isPart) (maxL := 3) (ret := some .boolean) (by decide) rfl ?_
  intro p e s m args below meth c s₁ B hml hv
  obtain ⟨rfl, hP, hK⟩ := hv
  have hx := B.exec
  have hb := B.bytes
  have hr := B.returns
  have hts := atoms_spec (ws := wsM_isPart) B.pre
  have hown : s.vm.findClass RX1 = some m.cls := findClass_of_methodNamed B.named
  have hlocks := B.notSynchronized
  have hin : ∀ w ∈ u_ws RX1 TX1 4, w ∈ wsM_isPart := fun w h => wsM_self w (wsM_fin w h)
  have hl := lv_entry ([.ref h0, .int x, .int y]) (n := 3) (Nat.le_of_ble_eq_true rfl)
  rw [lg_entry_eq]
  generalize (lg_sl ([.ref h0, .int x, .int y]) ++ List.replicate (3 - (lg_sl ([.ref h0, .int x, .int y])).length) Slot.unset).toArray = ls at hl ⊢
  have hl : lv_has ls 3 [(0, .ref h0), (1, .int (x)), (2, .int (y))] := hl
  refine lv_iload_n hx hb dX1_isPart_0 rfl (lv_at hl 1 rfl) ?_
  refine lv_if_lt (tgt := 21) hx hb dX1_isPart_1 (by decide) (fun c_1 => ?_) (fun c_1 => ?_)
  · refine lv_iconst (v := 0) hx hb dX1_isPart_21 (by decide) ?_
    exact W.zret (v := 0) hx hb hr (by decide) (fun t ht _ => ⟨congrArg (fun z => Outcome.returned (some (Value.int z))) (by unfold pt_n; rw [if_pos c_1]), ht⟩) (fun _ h => by cases h) dX1_isPart_22
  · refine lv_iload_n hx hb dX1_isPart_4 rfl (lv_at hl 1 rfl) ?_
    refine lv_iload_n hx hb dX1_isPart_5 rfl (lv_at hl 2 rfl) ?_
    refine lv_icmp_gt (tgt := 21) hx hb dX1_isPart_6 (by decide) (fun c_6 => ?_) (fun c_6 => ?_)
    · refine lv_iconst (v := 0) hx hb dX1_isPart_21 (by decide) ?_
      exact W.zret (v := 0) hx hb hr (by decide) (fun t ht _ => ⟨congrArg (fun z => Outcome.returned (some (Value.int z))) (by unfold pt_n; rw [if_neg c_1, if_pos c_6]), ht⟩) (fun _ h => by cases h) dX1_isPart_22
    · refine lv_iload_n hx hb dX1_isPart_9 rfl (lv_at hl 2 rfl) ?_
      refine lv_aload_n hx hb dX1_isPart_10 rfl (lv_at hl 0 rfl) ?_
      refine va_get (D := (dC, dI)) (ci := 1) (v := .int (nI n)) (C := RX1) (T := TX1) (N := 4) hx hb hts hin hown hK hP 0 rfl rfl 1 (by decide) (hts (.fieldLink RX1 14 "StreamSumsModel" "length" "I") (wsM_self _ (wsM_nin (by decide +kernel)))) (fun _ h9 => h9) rfl dX1_isPart_11 ?_
      refine lv_icmp_gt (tgt := 21) hx hb dX1_isPart_14 (by decide) (fun c_14 => ?_) (fun c_14 => ?_)
      · refine lv_iconst (v := 0) hx hb dX1_isPart_21 (by decide) ?_
        exact W.zret (v := 0) hx hb hr (by decide) (fun t ht _ => ⟨congrArg (fun z => Outcome.returned (some (Value.int z))) (by unfold pt_n; rw [if_neg c_1, if_neg c_6, if_pos c_14]), ht⟩) (fun _ h => by cases h) dX1_isPart_22
      · refine lv_iconst (v := 1) hx hb dX1_isPart_17 (by decide) ?_
        refine lv_goto (tgt := 22) hx hb dX1_isPart_18 (by decide) ?_
        exact W.zret (v := 1) hx hb hr (by decide) (fun t ht _ => ⟨congrArg (fun z => Outcome.returned (some (Value.int z))) (by unfold pt_n; rw [if_neg c_1, if_neg c_6, if_neg c_14]), ht⟩) (fun _ h => by cases h) dX1_isPart_22
set_option maxHeartbeats 4000000 in
set_option maxRecDepth 100000 in
theorem c_M_number (l : Launch) (dC : Nat → ClassId) (dI : Nat → Nat → Nat) (h0 a0 : Nat) (cB : ClassId) (n : Nat) (ns : Int32) (wd : Int64) (f : Nat → Int32) (q : Nat) (k : Nat) (hq : q + k ≤ 65536) : Met l yX1_number wsM_number ({ frames := 1, cells := 0, slots := 0, locals := 21 } : Room) (va_Pc [.ref h0, .int (nI q), .int (nI k)] (mW dC dI h0 a0 cB n ns wd f)) (k2_QcV (.long (wo_n f q k))) 0 0 (fun _ => False) := by
  refine Met.ofW (cc := cX1_number) (maxL := 6) (ret := some .long) (by decide) rfl ?_
  intro p e s m args below meth c s₁ B hml hv
  obtain ⟨rfl, hP, hK⟩ := hv
  have hx := B.exec
  have hb := B.bytes
  have hr := B.returns
  have hts := atoms_spec (ws := wsM_number) B.pre
  have hown : s.vm.findClass RX1 = some m.cls := findClass_of_methodNamed B.named
  have hlocks := B.notSynchronized
  have hl := lv_entry ([.ref h0, .int (nI q), .int (nI k)]) (n := 6) (Nat.le_of_ble_eq_true rfl)
  rw [lg_entry_eq]
  generalize (lg_sl ([.ref h0, .int (nI q), .int (nI k)]) ++ List.replicate (6 - (lg_sl ([.ref h0, .int (nI q), .int (nI k)])).length) Slot.unset).toArray = ls at hl ⊢
  have hl : lv_has ls 6 [(0, .ref h0), (1, .int (nI q)), (2, .int (nI k))] := hl
  refine lv_lconst (v := 0) hx hb dX1_number_0 (by decide) ?_
  refine lv_lstore_n (lv' := [(3, .long (0)), (0, .ref h0), (1, .int (nI q)), (2, .int (nI k))]) hx hb dX1_number_1 rfl hl (by decide) rfl (fun ls hl => ?_)
  refine lv_iconst (v := 0) hx hb dX1_number_2 (by decide) ?_
  refine lv_istore (lv' := [(5, .int (0)), (3, .long (0)), (0, .ref h0), (1, .int (nI q)), (2, .int (nI k))]) hx hb dX1_number_3 hl (by decide) rfl (fun ls hl => ?_)
  have L5 : ∀ (d j : Nat), j + d = k → ∀ ls : Array Slot, lv_has ls 6 [(0, .ref h0), (1, .int (nI q)), (2, .int (nI k)), (3, .long (wo_n f q (j))), (5, .int (nI (j)))] → W p l e (headSpec wsM_number ({ frames := 1, cells := 0, slots := 0, locals := 21 } : Room)).room s m [Value.ref h0, .int (nI q), .int (nI k)].toArray below meth c s.heap [] 0 0 (MQ below (k2_QcV (.long (wo_n f q k))) [Value.ref h0, .int (nI q), .int (nI k)].toArray s 0 0 (fun _ => False)) (F0 m 5 ls []) := by
    intro d
    induction d with
    | zero =>
      intro j hj ls hl
      obtain rfl : k = j := by omega
      refine lv_iload hx hb dX1_number_5 (lv_at hl 4 rfl) ?_
      refine lv_iload_n hx hb dX1_number_7 rfl (lv_at hl 2 rfl) ?_
      refine lv_icmp_ge (tgt := 35) hx hb dX1_number_8 (by decide) (fun c_8 => ?_) (fun c_8 => ?_)
      · refine lv_lload_n hx hb dX1_number_35 rfl (lv_at hl 3 rfl) ?_
        exact W.lret (v := wo_n f q (k)) hx hb hr (fun t ht _ => ⟨congrArg (fun z => Outcome.returned (some (Value.long z))) (rfl), ht⟩) (fun _ h => by cases h) dX1_number_36
      · exact absurd (nI_le (Nat.le_refl k) (by omega)) c_8
    | succ d ih =>
      intro j hj ls hl
      have hjl : j < k := by omega
      refine lv_iload hx hb dX1_number_5 (lv_at hl 4 rfl) ?_
      refine lv_iload_n hx hb dX1_number_7 rfl (lv_at hl 2 rfl) ?_
      refine lv_icmp_ge (tgt := 35) hx hb dX1_number_8 (by decide) (fun c_8 => ?_) (fun c_8 => ?_)
      · exact absurd c_8 (nI_ge hjl (by omega))
      · refine lv_lload_n hx hb dX1_number_11 rfl (lv_at hl 3 rfl) ?_
        refine lv_aload_n hx hb dX1_number_12 rfl (lv_at hl 0 rfl) ?_
        refine lv_iload_n hx hb dX1_number_13 rfl (lv_at hl 1 rfl) ?_
        refine lv_iload hx hb dX1_number_14 (lv_at hl 4 rfl) ?_
        refine lv_iadd hx hb dX1_number_16 ?_
        refine q_ti (y := nI (q + j)) (nI_add q j) ?_
        refine q_V (As := [.int (nI (q + j))]) (rest := [.long (wo_n f q (j))]) ⟨hx, hb, hml, hown, hts⟩ (c_M_at l dC dI h0 a0 cB n ns wd f (q + j) (by omega)) (cwV 1 hts gX1_number_X1_at rfl rfl rfl (by decide +kernel) ⟨Nat.le_of_ble_eq_true rfl, Nat.le_of_ble_eq_true rfl⟩) (mw_pre hP hK _) rfl hl.1 rfl (Nat.le_of_ble_eq_true rfl) dX1_number_17 ⟨Nat.zero_le _, Nat.zero_le _⟩ ?_
        refine lv_i2l (v := ((f (q + j) &&& 255)).toInt64) hx hb dX1_number_20 rfl ?_
        refine lv_bipush (v := 8) hx hb dX1_number_21 (by decide) ?_
        refine lv_iload hx hb dX1_number_23 (lv_at hl 4 rfl) ?_
        refine lv_imul hx hb dX1_number_25 ?_
        refine lv_lshl (v := sh_L (((f (q + j) &&& 255)).toInt64) ((8 * nI (j)))) hx hb dX1_number_26 rfl ?_
        refine lv_lor hx hb dX1_number_27 ?_
        refine q_tl (y := wo_n f q (j + 1)) (rfl) ?_
        refine lv_lstore_n (lv' := [(3, .long (wo_n f q (j + 1))), (0, .ref h0), (1, .int (nI q)), (2, .int (nI k)), (5, .int (nI (j)))]) hx hb dX1_number_28 rfl hl (by decide) rfl (fun ls hl => ?_)
        refine lv_iinc (v := nI (j + 1)) (lv' := [(5, .int (nI (j + 1))), (3, .long (wo_n f q (j + 1))), (0, .ref h0), (1, .int (nI q)), (2, .int (nI k))]) hx hb dX1_number_29 hl (k := 4) rfl (nI_add j 1) (by decide) rfl (fun ls hl => ?_)
        refine lv_goto (tgt := 5) hx hb dX1_number_32 (by decide) ?_
        exact ih (j + 1) (by omega) ls (lv_sub hl [2, 3, 4, 1, 0] rfl)
  exact L5 (k) 0 (by omega) ls (lv_sub hl [2, 3, 4, 1, 0] rfl)
set_option maxHeartbeats 4000000 in
set_option maxRecDepth 100000 in
theorem c_M_register (l : Launch) (dC : Nat → ClassId) (dI : Nat → Nat → Nat) (h0 a0 : Nat) (cB : ClassId) (n : Nat) (ns : Int32) (wd : Int64) (f : Nat → Int32) (a : Nat) (b : Nat) (hab : a ≤ b) (hb6 : b ≤ 65536) : Met l yX1_register wsM_register ({ frames := 2, cells := 0, slots := 0, locals := 43 } : Room) (va_Pc [.ref h0, .int (nI a), .int (nI b)] (mW dC dI h0 a0 cB n ns wd f)) (k2_QcV (.int (cr_rg f a (-1) (b - a)))) 0 0 (fun _ => False) := by
  refine Met.ofW (cc := cX1_register) (maxL := 5) (ret := some .int) (by decide) rfl ?_
  intro p e s m args below meth c s₁ B hml hv
  obtain ⟨rfl, hP, hK⟩ := hv
  have hx := B.exec
  have hb := B.bytes
  have hr := B.returns
  have hts := atoms_spec (ws := wsM_register) B.pre
  have hown : s.vm.findClass RX1 = some m.cls := findClass_of_methodNamed B.named
  have hlocks := B.notSynchronized
  have hl := lv_entry ([.ref h0, .int (nI a), .int (nI b)]) (n := 5) (Nat.le_of_ble_eq_true rfl)
  rw [lg_entry_eq]
  generalize (lg_sl ([.ref h0, .int (nI a), .int (nI b)]) ++ List.replicate (5 - (lg_sl ([.ref h0, .int (nI a), .int (nI b)])).length) Slot.unset).toArray = ls at hl ⊢
  have hl : lv_has ls 5 [(0, .ref h0), (1, .int (nI a)), (2, .int (nI b))] := hl
  refine lv_iconst (v := -1) hx hb dX1_register_0 (by decide) ?_
  refine lv_istore_n (lv' := [(3, .int ((-1))), (0, .ref h0), (1, .int (nI a)), (2, .int (nI b))]) hx hb dX1_register_1 rfl hl (by decide) rfl (fun ls hl => ?_)
  refine lv_iload_n hx hb dX1_register_2 rfl (lv_at hl 2 rfl) ?_
  refine lv_istore (lv' := [(4, .int (nI a)), (3, .int ((-1))), (0, .ref h0), (1, .int (nI a)), (2, .int (nI b))]) hx hb dX1_register_3 hl (by decide) rfl (fun ls hl => ?_)
  have L5 : ∀ (d j : Nat), j + d = b - a → ∀ ls : Array Slot, lv_has ls 5 [(0, .ref h0), (1, .int (nI a)), (2, .int (nI b)), (3, .int (cr_rg f a (-1) (j))), (4, .int (nI (a + (j))))] → W p l e (headSpec wsM_register ({ frames := 2, cells := 0, slots := 0, locals := 43 } : Room)).room s m [Value.ref h0, .int (nI a), .int (nI b)].toArray below meth c s.heap [] 0 0 (MQ below (k2_QcV (.int (cr_rg f a (-1) (b - a)))) [Value.ref h0, .int (nI a), .int (nI b)].toArray s 0 0 (fun _ => False)) (F0 m 5 ls []) := by
    intro d
    induction d with
    | zero =>
      intro j hj ls hl
      obtain rfl : b - a = j := by omega
      refine lv_iload hx hb dX1_register_5 (lv_at hl 4 rfl) ?_
      refine lv_iload_n hx hb dX1_register_7 rfl (lv_at hl 2 rfl) ?_
      refine lv_icmp_ge (tgt := 28) hx hb dX1_register_8 (by decide) (fun c_8 => ?_) (fun c_8 => ?_)
      · refine lv_iload_n hx hb dX1_register_28 rfl (lv_at hl 3 rfl) ?_
        exact W.iret (v := cr_rg f a (-1) ((b - a))) hx hb hr (fun t ht _ => ⟨congrArg (fun z => Outcome.returned (some (Value.int z))) (rfl), ht⟩) (fun _ h => by cases h) dX1_register_29
      · exact absurd (nI_le (by omega) (by omega)) c_8
    | succ d ih =>
      intro j hj ls hl
      have hjl : j < b - a := by omega
      refine lv_iload hx hb dX1_register_5 (lv_at hl 4 rfl) ?_
      refine lv_iload_n hx hb dX1_register_7 rfl (lv_at hl 2 rfl) ?_
      refine lv_icmp_ge (tgt := 28) hx hb dX1_register_8 (by decide) (fun c_8 => ?_) (fun c_8 => ?_)
      · exact absurd c_8 (nI_ge (by omega) (by omega))
      · refine lv_iload_n hx hb dX1_register_11 rfl (lv_at hl 3 rfl) ?_
        refine lv_aload_n hx hb dX1_register_12 rfl (lv_at hl 0 rfl) ?_
        refine lv_iload hx hb dX1_register_13 (lv_at hl 4 rfl) ?_
        refine q_V (As := [.int (nI (a + (j)))]) (rest := [.int (cr_rg f a (-1) (j))]) ⟨hx, hb, hml, hown, hts⟩ (c_M_at l dC dI h0 a0 cB n ns wd f (a + j) (by omega)) (cwV 1 hts gX1_register_X1_at rfl rfl rfl (by decide +kernel) ⟨Nat.le_of_ble_eq_true rfl, Nat.le_of_ble_eq_true rfl⟩) (mw_pre hP hK _) rfl hl.1 rfl (Nat.le_of_ble_eq_true rfl) dX1_register_15 ⟨Nat.zero_le _, Nat.zero_le _⟩ ?_
        refine q_S (As := [.int (cr_rg f a (-1) (j)), .int ((f (a + j) &&& 255))]) (rest := []) ⟨hx, hb, hml, hown, hts⟩ (c_M_withByte l (cr_rg f a (-1) (j)) ((f (a + j) &&& 255))) (va_cwS 2 hts gX1_register_X1_withByte rfl rfl rfl (by decide +kernel) ⟨Nat.le_of_ble_eq_true rfl, Nat.le_of_ble_eq_true rfl⟩) rfl hl.1 rfl (Nat.le_of_ble_eq_true rfl) dX1_register_18 ⟨Nat.zero_le _, Nat.zero_le _⟩ ?_
        refine q_ti (y := cr_rg f a (-1) (j + 1)) (cr_wb8 _ _) ?_
        refine lv_istore_n (lv' := [(3, .int (cr_rg f a (-1) (j + 1))), (0, .ref h0), (1, .int (nI a)), (2, .int (nI b)), (4, .int (nI (a + (j))))]) hx hb dX1_register_21 rfl hl (by decide) rfl (fun ls hl => ?_)
        refine lv_iinc (v := nI (a + (j + 1))) (lv' := [(4, .int (nI (a + (j + 1)))), (3, .int (cr_rg f a (-1) (j + 1))), (0, .ref h0), (1, .int (nI a)), (2, .int (nI b))]) hx hb dX1_register_22 hl (k := 4) rfl (nI_add _ 1) (by decide) rfl (fun ls hl => ?_)
        refine lv_goto (tgt := 5) hx hb dX1_register_25 (by decide) ?_
        exact ih (j + 1) (by omega) ls (lv_sub hl [2, 3, 4, 1, 0] rfl)
  exact L5 (b - a) 0 (by omega) ls (lv_sub hl [2, 3, 4, 1, 0] rfl)
set_option maxHeartbeats 4000000 in
set_option maxRecDepth 100000 in
theorem c_M_poly (l : Launch) (dC : Nat → ClassId) (dI : Nat → Nat → Nat) (h0 a0 : Nat) (cB : ClassId) (n : Nat) (ns : Int32) (wd : Int64) (f : Nat → Int32) (hn : n ≤ 65536) : Met l yX1_poly wsM_poly ({ frames := 3, cells := 0, slots := 0, locals := 67 } : Room) (va_Pc [.ref h0] (mW dC dI h0 a0 cB n ns wd f)) (k2_QcV (.int (cr_rg f 0 (-1) n ^^^ (-1)))) 0 0 (fun _ => False) := by
  refine Met.ofW (cc := cX1_poly) (maxL := 1) (ret := some .int) (by decide) rfl ?_
  intro p e s m args below meth c s₁ B hml hv
  obtain ⟨rfl, hP, hK⟩ := hv
  have hx := B.exec
  have hb := B.bytes
  have hr := B.returns
  have hts := atoms_spec (ws := wsM_poly) B.pre
  have hown : s.vm.findClass RX1 = some m.cls := findClass_of_methodNamed B.named
  have hlocks := B.notSynchronized
  have hin : ∀ w ∈ u_ws RX1 TX1 4, w ∈ wsM_poly := fun w h => wsM_self w (wsM_fin w h)
  have hl := lv_entry ([.ref h0]) (n := 1) (Nat.le_of_ble_eq_true rfl)
  rw [lg_entry_eq]
  generalize (lg_sl ([.ref h0]) ++ List.replicate (1 - (lg_sl ([.ref h0])).length) Slot.unset).toArray = ls at hl ⊢
  have hl : lv_has ls 1 [(0, .ref h0)] := hl
  refine lv_aload_n hx hb dX1_poly_0 rfl (lv_at hl 0 rfl) ?_
  refine lv_iconst (v := 0) hx hb dX1_poly_1 (by decide) ?_
  refine lv_aload_n hx hb dX1_poly_2 rfl (lv_at hl 0 rfl) ?_
  refine va_get (D := (dC, dI)) (ci := 1) (v := .int (nI n)) (C := RX1) (T := TX1) (N := 4) hx hb hts hin hown hK hP 0 rfl rfl 1 (by decide) (hts (.fieldLink RX1 14 "StreamSumsModel" "length" "I") (wsM_self _ (wsM_nin (by decide +kernel)))) (fun _ h9 => h9) rfl dX1_poly_3 ?_
  refine q_V (As := [.int (0), .int (nI n)]) (rest := []) ⟨hx, hb, hml, hown, hts⟩ (c_M_register l dC dI h0 a0 cB n ns wd f (0) (n) (by omega) (by omega)) (cwV 2 hts gX1_poly_X1_register rfl rfl rfl (by decide +kernel) ⟨Nat.le_of_ble_eq_true rfl, Nat.le_of_ble_eq_true rfl⟩) (mw_pre hP hK _) rfl hl.1 rfl (Nat.le_of_ble_eq_true rfl) dX1_poly_6 ⟨Nat.zero_le _, Nat.zero_le _⟩ ?_
  refine lv_iconst (v := -1) hx hb dX1_poly_9 (by decide) ?_
  refine lv_ixor hx hb dX1_poly_10 ?_
  exact W.iret (v := ((cr_rg f 0 (-1) (n - 0)) ^^^ (-1))) hx hb hr (fun t ht _ => ⟨congrArg (fun z => Outcome.returned (some (Value.int z))) (rfl), ht⟩) (fun _ h => by cases h) dX1_poly_11
set_option maxHeartbeats 4000000 in
set_option maxRecDepth 100000 in
theorem c_M_polyOf (l : Launch) (dC : Nat → ClassId) (dI : Nat → Nat → Nat) (h0 a0 : Nat) (cB : ClassId) (n : Nat) (ns : Int32) (wd : Int64) (f : Nat → Int32) (x : Int32) (y : Int32) (hn : n ≤ 65536) : Met l yX1_polyOf wsM_polyOf ({ frames := 3, cells := 0, slots := 0, locals := 67 } : Room) (va_Pc [.ref h0, .int x, .int y] (mW dC dI h0 a0 cB n ns wd f)) (k2_QcV (.int (an_po n f x y))) 0 0 (fun _ => False) := by
  refine Met.ofW (cc := cX1_polyOf) (maxL := 3) (ret := some .int) (by decide) rfl ?_
  intro p e s m args below meth c s₁ B hml hv
  obtain ⟨rfl, hP, hK⟩ := hv
  have hx := B.exec
  have hb := B.bytes
  have hr := B.returns
  have hts := atoms_spec (ws := wsM_polyOf) B.pre
  have hown : s.vm.findClass RX1 = some m.cls := findClass_of_methodNamed B.named
  have hlocks := B.notSynchronized
  have hl := lv_entry ([.ref h0, .int x, .int y]) (n := 3) (Nat.le_of_ble_eq_true rfl)
  rw [lg_entry_eq]
  generalize (lg_sl ([.ref h0, .int x, .int y]) ++ List.replicate (3 - (lg_sl ([.ref h0, .int x, .int y])).length) Slot.unset).toArray = ls at hl ⊢
  have hl : lv_has ls 3 [(0, .ref h0), (1, .int (x)), (2, .int (y))] := hl
  refine lv_aload_n hx hb dX1_polyOf_0 rfl (lv_at hl 0 rfl) ?_
  refine lv_iload_n hx hb dX1_polyOf_1 rfl (lv_at hl 1 rfl) ?_
  refine lv_iload_n hx hb dX1_polyOf_2 rfl (lv_at hl 2 rfl) ?_
  refine q_V (As := [.int (x), .int (y)]) (rest := []) ⟨hx, hb, hml, hown, hts⟩ (c_M_isPart l dC dI h0 a0 cB n ns wd f (x) (y)) (cwV 2 hts gX1_polyOf_X1_isPart rfl rfl rfl (by decide +kernel) ⟨Nat.le_of_ble_eq_true rfl, Nat.le_of_ble_eq_true rfl⟩) (mw_pre hP hK _) rfl hl.1 rfl (Nat.le_of_ble_eq_true rfl) dX1_polyOf_3 ⟨Nat.zero_le _, Nat.zero_le _⟩ ?_
  refine lv_if_eq (tgt := 20) hx hb dX1_polyOf_6 (by decide) (fun c_6 => ?_) (fun c_6 => ?_)
  · refine lv_iconst (v := 0) hx hb dX1_polyOf_20 (by decide) ?_
    exact W.iret (v := 0) hx hb hr (fun t ht _ => ⟨congrArg (fun z => Outcome.returned (some (Value.int z))) (by unfold an_po; rw [if_pos c_6]), ht⟩) (fun _ h => by cases h) dX1_polyOf_21
  · obtain ⟨a, b, hxa, hyb, hab, hbn⟩ := pt_some hn c_6
    refine lv_aload_n hx hb dX1_polyOf_9 rfl (lv_at hl 0 rfl) ?_
    refine lv_iload_n hx hb dX1_polyOf_10 rfl (lv_at hl 1 rfl) ?_
    refine q_ti (y := nI a) (hxa) ?_
    refine lv_iload_n hx hb dX1_polyOf_11 rfl (lv_at hl 2 rfl) ?_
    refine q_ti (y := nI b) (hyb) ?_
    refine q_V (As := [.int (nI a), .int (nI b)]) (rest := []) ⟨hx, hb, hml, hown, hts⟩ (c_M_register l dC dI h0 a0 cB n ns wd f (a) (b) (by omega) (by omega)) (cwV 2 hts gX1_polyOf_X1_register rfl rfl rfl (by decide +kernel) ⟨Nat.le_of_ble_eq_true rfl, Nat.le_of_ble_eq_true rfl⟩) (mw_pre hP hK _) rfl hl.1 rfl (Nat.le_of_ble_eq_true rfl) dX1_polyOf_12 ⟨Nat.zero_le _, Nat.zero_le _⟩ ?_
    refine lv_iconst (v := -1) hx hb dX1_polyOf_15 (by decide) ?_
    refine lv_ixor hx hb dX1_polyOf_16 ?_
    refine lv_goto (tgt := 21) hx hb dX1_polyOf_17 (by decide) ?_
    exact W.iret (v := ((cr_rg f a (-1) (b - a)) ^^^ (-1))) hx hb hr (fun t ht _ => ⟨congrArg (fun z => Outcome.returned (some (Value.int z))) (by unfold an_po; rw [if_neg c_6, hxa, hyb, nI_clamp (by omega), nI_clamp (by omega)]), ht⟩) (fun _ h => by cases h) dX1_polyOf_21
set_option maxHeartbeats 4000000 in
set_option maxRecDepth 100000 in
theorem c_M_masked (l : Launch) (dC : Nat → ClassId) (dI : Nat → Nat → Nat) (h0 a0 : Nat) (cB : ClassId) (n : Nat) (ns : Int32) (wd : Int64) (f : Nat → Int32) (x : Int32) (b : Int32) : Met l yX1_masked wsM_masked ({ frames := 1, cells := 0, slots := 0, locals := 21 } : Room) (va_Pc [.ref h0, .int x, .int b] (mW dC dI h0 a0 cB n ns wd f)) (k2_QcV (.int (an_ma x b))) 0 0 (fun _ => False) := by
  refine Met.ofW (cc := cX1_masked) (maxL := 3) (ret := some .int) (by decide) rfl ?_
  intro p e s m args below meth c s₁ B hml hv
  obtain ⟨rfl, hP, hK⟩ := hv
  have hx := B.exec
  have hb := B.bytes
  have hr := B.returns
  have hts := atoms_spec (ws := wsM_masked) B.pre
  have hown : s.vm.findClass RX1 = some m.cls := findClass_of_methodNamed B.named
  have hlocks := B.notSynchronized
  have hl := lv_entry ([.ref h0, .int x, .int b]) (n := 3) (Nat.le_of_ble_eq_true rfl)
  rw [lg_entry_eq]
  generalize (lg_sl ([.ref h0, .int x, .int b]) ++ List.replicate (3 - (lg_sl ([.ref h0, .int x, .int b])).length) Slot.unset).toArray = ls at hl ⊢
  have hl : lv_has ls 3 [(0, .ref h0), (1, .int (x)), (2, .int (b))] := hl
  refine lv_iload_n hx hb dX1_masked_0 rfl (lv_at hl 2 rfl) ?_
  refine lv_if_eq (tgt := 16) hx hb dX1_masked_1 (by decide) (fun c_1 => ?_) (fun c_1 => ?_)
  · refine lv_iload_n hx hb dX1_masked_16 rfl (lv_at hl 1 rfl) ?_
    refine lv_bipush (v := 17) hx hb dX1_masked_17 (by decide) ?_
    refine q_S (As := [.int (x), .int (17)]) (rest := []) ⟨hx, hb, hml, hown, hts⟩ (c_M_rotated l (x) (17)) (va_cwS 2 hts gX1_masked_X1_rotated rfl rfl rfl (by decide +kernel) ⟨Nat.le_of_ble_eq_true rfl, Nat.le_of_ble_eq_true rfl⟩) rfl hl.1 rfl (Nat.le_of_ble_eq_true rfl) dX1_masked_19 ⟨Nat.zero_le _, Nat.zero_le _⟩ ?_
    refine lv_ldc (v := -1568478504) hx hb hown (hts (.constant RX1 98 (-1568478504)) (wsM_self _ (wsM_nin (by decide +kernel)))) dX1_masked_22 ?_
    refine lv_iadd hx hb dX1_masked_24 ?_
    exact W.iret (v := ((na_rt x 17) + (-1568478504))) hx hb hr (fun t ht _ => ⟨congrArg (fun z => Outcome.returned (some (Value.int z))) (by unfold an_ma; rw [if_pos c_1]), ht⟩) (fun _ h => by cases h) dX1_masked_25
  · refine lv_iload_n hx hb dX1_masked_4 rfl (lv_at hl 1 rfl) ?_
    refine lv_ldc (v := -1568478504) hx hb hown (hts (.constant RX1 98 (-1568478504)) (wsM_self _ (wsM_nin (by decide +kernel)))) dX1_masked_5 ?_
    refine lv_isub hx hb dX1_masked_7 ?_
    refine lv_bipush (v := 15) hx hb dX1_masked_8 (by decide) ?_
    refine q_S (As := [.int ((x - (-1568478504))), .int (15)]) (rest := []) ⟨hx, hb, hml, hown, hts⟩ (c_M_rotated l ((x - (-1568478504))) (15)) (va_cwS 2 hts gX1_masked_X1_rotated rfl rfl rfl (by decide +kernel) ⟨Nat.le_of_ble_eq_true rfl, Nat.le_of_ble_eq_true rfl⟩) rfl hl.1 rfl (Nat.le_of_ble_eq_true rfl) dX1_masked_10 ⟨Nat.zero_le _, Nat.zero_le _⟩ ?_
    refine lv_goto (tgt := 25) hx hb dX1_masked_13 (by decide) ?_
    exact W.iret (v := (na_rt ((x - (-1568478504))) 15)) hx hb hr (fun t ht _ => ⟨congrArg (fun z => Outcome.returned (some (Value.int z))) (by unfold an_ma; rw [if_neg c_1]), ht⟩) (fun _ h => by cases h) dX1_masked_25
set_option maxHeartbeats 4000000 in
set_option maxRecDepth 100000 in
theorem c_M_joined (l : Launch) (dC : Nat → ClassId) (dI : Nat → Nat → Nat) (h0 a0 : Nat) (cB : ClassId) (n : Nat) (ns : Int32) (wd : Int64) (f : Nat → Int32) (a : Int32) (b : Int32) (ex : Int64) : Met l yX1_joined wsM_joined ({ frames := 3, cells := 0, slots := 0, locals := 68 } : Room) (va_Pc [.ref h0, .int a, .int b, .long ex] (mW dC dI h0 a0 cB n ns wd f)) (k2_QcV (.int (an_jo a b ex))) 0 0 (fun _ => False) := by
  refine Met.ofW (cc := cX1_joined) (maxL := 5) (ret := some .int) (by decide) rfl ?_
  intro p e s m args below meth c s₁ B hml hv
  obtain ⟨rfl, hP, hK⟩ := hv
  have hx := B.exec
  have hb := B.bytes
  have hr := B.returns
  have hts := atoms_spec (ws := wsM_joined) B.pre
  have hown : s.vm.findClass RX1 = some m.cls := findClass_of_methodNamed B.named
  have hlocks := B.notSynchronized
  have hl := lv_entry ([.ref h0, .int a, .int b, .long ex]) (n := 5) (Nat.le_of_ble_eq_true rfl)
  rw [lg_entry_eq]
  generalize (lg_sl ([.ref h0, .int a, .int b, .long ex]) ++ List.replicate (5 - (lg_sl ([.ref h0, .int a, .int b, .long ex])).length) Slot.unset).toArray = ls at hl ⊢
  have hl : lv_has ls 5 [(0, .ref h0), (1, .int (a)), (2, .int (b)), (3, .long (ex))] := hl
  refine lv_iload_n hx hb dX1_joined_0 rfl (lv_at hl 1 rfl) ?_
  refine lv_ldc (v := -2147483648) hx hb hown (hts (.constant RX1 99 (-2147483648)) (wsM_self _ (wsM_nin (by decide +kernel)))) dX1_joined_1 ?_
  refine lv_iconst (v := 0) hx hb dX1_joined_3 (by decide) ?_
  refine q_S (As := [.int ((-2147483648)), .int (0)]) (rest := [.int (a)]) ⟨hx, hb, hml, hown, hts⟩ (c_M_withByte l ((-2147483648)) (0)) (va_cwS 2 hts gX1_joined_X1_withByte rfl rfl rfl (by decide +kernel) ⟨Nat.le_of_ble_eq_true rfl, Nat.le_of_ble_eq_true rfl⟩) rfl hl.1 rfl (Nat.le_of_ble_eq_true rfl) dX1_joined_4 ⟨Nat.zero_le _, Nat.zero_le _⟩ ?_
  refine lv_lload_n hx hb dX1_joined_7 rfl (lv_at hl 3 rfl) ?_
  refine q_S (As := [.int ((cr_wb ((-2147483648)) 0 8)), .long (ex)]) (rest := [.int (a)]) ⟨hx, hb, hml, hown, hts⟩ (c_M_power l ((cr_wb ((-2147483648)) 0 8)) (ex)) (va_cwS 2 hts gX1_joined_X1_power rfl rfl rfl (by decide +kernel) ⟨Nat.le_of_ble_eq_true rfl, Nat.le_of_ble_eq_true rfl⟩) rfl hl.1 rfl (Nat.le_of_ble_eq_true rfl) dX1_joined_8 ⟨Nat.zero_le _, Nat.zero_le _⟩ ?_
  refine q_S (As := [.int (a), .int ((cr_pw ((cr_wb ((-2147483648)) 0 8)) (ex.toBitVec.toNat)))]) (rest := []) ⟨hx, hb, hml, hown, hts⟩ (c_M_times l (a) ((cr_pw ((cr_wb ((-2147483648)) 0 8)) (ex.toBitVec.toNat)))) (va_cwS 2 hts gX1_joined_X1_times rfl rfl rfl (by decide +kernel) ⟨Nat.le_of_ble_eq_true rfl, Nat.le_of_ble_eq_true rfl⟩) rfl hl.1 rfl (Nat.le_of_ble_eq_true rfl) dX1_joined_11 ⟨Nat.zero_le _, Nat.zero_le _⟩ ?_
  refine lv_iload_n hx hb dX1_joined_14 rfl (lv_at hl 2 rfl) ?_
  refine lv_ixor hx hb dX1_joined_15 ?_
  exact W.iret (v := ((cr_mul a ((cr_pw ((cr_wb ((-2147483648)) 0 8)) (ex.toBitVec.toNat)))) ^^^ b)) hx hb hr (fun t ht _ => ⟨congrArg (fun z => Outcome.returned (some (Value.int z))) (by unfold an_jo; rw [cr_wb0, cr_comm]), ht⟩) (fun _ h => by cases h) dX1_joined_16
set_option maxHeartbeats 4000000 in
set_option maxRecDepth 100000 in
theorem c_M_cut (l : Launch) (dC : Nat → ClassId) (dI : Nat → Nat → Nat) (h0 a0 : Nat) (cB : ClassId) (n : Nat) (ns : Int32) (wd : Int64) (f : Nat → Int32) (a : Int32) (b : Int32) (ex : Int64) : Met l yX1_cut wsM_cut ({ frames := 3, cells := 0, slots := 0, locals := 68 } : Room) (va_Pc [.ref h0, .int a, .int b, .long ex] (mW dC dI h0 a0 cB n ns wd f)) (k2_QcV (.int (an_cu a b ex))) 0 0 (fun _ => False) := by
  refine Met.ofW (cc := cX1_cut) (maxL := 5) (ret := some .int) (by decide) rfl ?_
  intro p e s m args below meth c s₁ B hml hv
  obtain ⟨rfl, hP, hK⟩ := hv
  have hx := B.exec
  have hb := B.bytes
  have hr := B.returns
  have hts := atoms_spec (ws := wsM_cut) B.pre
  have hown : s.vm.findClass RX1 = some m.cls := findClass_of_methodNamed B.named
  have hlocks := B.notSynchronized
  have hl := lv_entry ([.ref h0, .int a, .int b, .long ex]) (n := 5) (Nat.le_of_ble_eq_true rfl)
  rw [lg_entry_eq]
  generalize (lg_sl ([.ref h0, .int a, .int b, .long ex]) ++ List.replicate (5 - (lg_sl ([.ref h0, .int a, .int b, .long ex])).length) Slot.unset).toArray = ls at hl ⊢
  have hl : lv_has ls 5 [(0, .ref h0), (1, .int (a)), (2, .int (b)), (3, .long (ex))] := hl
  refine lv_iload_n hx hb dX1_cut_0 rfl (lv_at hl 1 rfl) ?_
  refine lv_iload_n hx hb dX1_cut_1 rfl (lv_at hl 2 rfl) ?_
  refine lv_ixor hx hb dX1_cut_2 ?_
  refine lv_ldc (v := -2147483648) hx hb hown (hts (.constant RX1 99 (-2147483648)) (wsM_self _ (wsM_nin (by decide +kernel)))) dX1_cut_3 ?_
  refine lv_bipush (v := 8) hx hb dX1_cut_5 (by decide) ?_
  refine q_S (As := [.int ((-2147483648)), .int (8)]) (rest := [.int ((a ^^^ b))]) ⟨hx, hb, hml, hown, hts⟩ (c_M_back l (-2147483648) (8) (by omega)) (va_cwS 2 hts gX1_cut_X1_back rfl rfl rfl (by decide +kernel) ⟨Nat.le_of_ble_eq_true rfl, Nat.le_of_ble_eq_true rfl⟩) rfl hl.1 rfl (Nat.le_of_ble_eq_true rfl) dX1_cut_7 ⟨Nat.zero_le _, Nat.zero_le _⟩ ?_
  refine lv_lload_n hx hb dX1_cut_10 rfl (lv_at hl 3 rfl) ?_
  refine q_S (As := [.int ((cr_it cr_b 8 (-2147483648))), .long (ex)]) (rest := [.int ((a ^^^ b))]) ⟨hx, hb, hml, hown, hts⟩ (c_M_power l ((cr_it cr_b 8 (-2147483648))) (ex)) (va_cwS 2 hts gX1_cut_X1_power rfl rfl rfl (by decide +kernel) ⟨Nat.le_of_ble_eq_true rfl, Nat.le_of_ble_eq_true rfl⟩) rfl hl.1 rfl (Nat.le_of_ble_eq_true rfl) dX1_cut_11 ⟨Nat.zero_le _, Nat.zero_le _⟩ ?_
  refine q_S (As := [.int ((a ^^^ b)), .int ((cr_pw ((cr_it cr_b 8 (-2147483648))) (ex.toBitVec.toNat)))]) (rest := []) ⟨hx, hb, hml, hown, hts⟩ (c_M_times l ((a ^^^ b)) ((cr_pw ((cr_it cr_b 8 (-2147483648))) (ex.toBitVec.toNat)))) (va_cwS 2 hts gX1_cut_X1_times rfl rfl rfl (by decide +kernel) ⟨Nat.le_of_ble_eq_true rfl, Nat.le_of_ble_eq_true rfl⟩) rfl hl.1 rfl (Nat.le_of_ble_eq_true rfl) dX1_cut_14 ⟨Nat.zero_le _, Nat.zero_le _⟩ ?_
  exact W.iret (v := (cr_mul ((a ^^^ b)) ((cr_pw ((cr_it cr_b 8 (-2147483648))) (ex.toBitVec.toNat))))) hx hb hr (fun t ht _ => ⟨congrArg (fun z => Outcome.returned (some (Value.int z))) (by unfold an_cu; rw [cr_comm]), ht⟩) (fun _ h => by cases h) dX1_cut_17
set_option maxHeartbeats 4000000 in
set_option maxRecDepth 100000 in
theorem c_M_forged (l : Launch) (dC : Nat → ClassId) (dI : Nat → Nat → Nat) (h0 a0 : Nat) (cB : ClassId) (n : Nat) (ns : Int32) (wd : Int64) (f : Nat → Int32) (sum : Int32) (hn : n ≤ 65536) : Met l yX1_forged wsM_forged ({ frames := 3, cells := 0, slots := 0, locals := 67 } : Room) (va_Pc [.ref h0, .int sum] (mW dC dI h0 a0 cB n ns wd f)) (k2_QcV (.int (an_fo n f sum))) 0 0 (fun _ => False) := by
  refine Met.ofW (cc := cX1_forged) (maxL := 2) (ret := some .int) (by decide) rfl ?_
  intro p e s m args below meth c s₁ B hml hv
  obtain ⟨rfl, hP, hK⟩ := hv
  have hx := B.exec
  have hb := B.bytes
  have hr := B.returns
  have hts := atoms_spec (ws := wsM_forged) B.pre
  have hown : s.vm.findClass RX1 = some m.cls := findClass_of_methodNamed B.named
  have hlocks := B.notSynchronized
  have hin : ∀ w ∈ u_ws RX1 TX1 4, w ∈ wsM_forged := fun w h => wsM_self w (wsM_fin w h)
  have hl := lv_entry ([.ref h0, .int sum]) (n := 2) (Nat.le_of_ble_eq_true rfl)
  rw [lg_entry_eq]
  generalize (lg_sl ([.ref h0, .int sum]) ++ List.replicate (2 - (lg_sl ([.ref h0, .int sum])).length) Slot.unset).toArray = ls at hl ⊢
  have hl : lv_has ls 2 [(0, .ref h0), (1, .int (sum))] := hl
  refine lv_aload_n hx hb dX1_forged_0 rfl (lv_at hl 0 rfl) ?_
  refine lv_iconst (v := 0) hx hb dX1_forged_1 (by decide) ?_
  refine lv_aload_n hx hb dX1_forged_2 rfl (lv_at hl 0 rfl) ?_
  refine va_get (D := (dC, dI)) (ci := 1) (v := .int (nI n)) (C := RX1) (T := TX1) (N := 4) hx hb hts hin hown hK hP 0 rfl rfl 1 (by decide) (hts (.fieldLink RX1 14 "StreamSumsModel" "length" "I") (wsM_self _ (wsM_nin (by decide +kernel)))) (fun _ h9 => h9) rfl dX1_forged_3 ?_
  refine q_V (As := [.int (0), .int (nI n)]) (rest := []) ⟨hx, hb, hml, hown, hts⟩ (c_M_register l dC dI h0 a0 cB n ns wd f (0) (n) (by omega) (by omega)) (cwV 2 hts gX1_forged_X1_register rfl rfl rfl (by decide +kernel) ⟨Nat.le_of_ble_eq_true rfl, Nat.le_of_ble_eq_true rfl⟩) (mw_pre hP hK _) rfl hl.1 rfl (Nat.le_of_ble_eq_true rfl) dX1_forged_6 ⟨Nat.zero_le _, Nat.zero_le _⟩ ?_
  refine lv_iload_n hx hb dX1_forged_9 rfl (lv_at hl 1 rfl) ?_
  refine lv_iconst (v := -1) hx hb dX1_forged_10 (by decide) ?_
  refine lv_ixor hx hb dX1_forged_11 ?_
  refine q_S (As := [.int ((cr_rg f 0 (-1) (n - 0))), .int ((sum ^^^ (-1)))]) (rest := []) ⟨hx, hb, hml, hown, hts⟩ (c_M_between l ((cr_rg f 0 (-1) (n - 0))) ((sum ^^^ (-1)))) (va_cwS 2 hts gX1_forged_X1_between rfl rfl rfl (by decide +kernel) ⟨Nat.le_of_ble_eq_true rfl, Nat.le_of_ble_eq_true rfl⟩) rfl hl.1 rfl (Nat.le_of_ble_eq_true rfl) dX1_forged_12 ⟨Nat.zero_le _, Nat.zero_le _⟩ ?_
  exact W.iret (v := (tu_m (((cr_rg f 0 (-1) (n - 0))) ^^^ cr_it cr_b 32 ((sum ^^^ (-1)))))) hx hb hr (fun t ht _ => ⟨congrArg (fun z => Outcome.returned (some (Value.int z))) (rfl), ht⟩) (fun _ h => by cases h) dX1_forged_15
set_option maxHeartbeats 4000000 in
set_option maxRecDepth 100000 in
theorem c_M_mended (l : Launch) (dC : Nat → ClassId) (dI : Nat → Nat → Nat) (h0 a0 : Nat) (cB : ClassId) (n : Nat) (ns : Int32) (wd : Int64) (f : Nat → Int32) (x : Int32) (sum : Int32) (hn : n ≤ 65536) : Met l yX1_mended wsM_mended ({ frames := 3, cells := 0, slots := 0, locals := 67 } : Room) (va_Pc [.ref h0, .int x, .int sum] (mW dC dI h0 a0 cB n ns wd f)) (k2_QcV (.int (an_me n f x sum))) 0 0 (fun _ => False) := by
  refine Met.ofW (cc := cX1_mended) (maxL := 5) (ret := some .int) (by decide) rfl ?_
  intro p e s m args below meth c s₁ B hml hv
  obtain ⟨rfl, hP, hK⟩ := hv
  have hx := B.exec
  have hb := B.bytes
  have hr := B.returns
  have hts := atoms_spec (ws := wsM_mended) B.pre
  have hown : s.vm.findClass RX1 = some m.cls := findClass_of_methodNamed B.named
  have hlocks := B.notSynchronized
  have hin : ∀ w ∈ u_ws RX1 TX1 4, w ∈ wsM_mended := fun w h => wsM_self w (wsM_fin w h)
  have hl := lv_entry ([.ref h0, .int x, .int sum]) (n := 5) (Nat.le_of_ble_eq_true rfl)
  rw [lg_entry_eq]
  generalize (lg_sl ([.ref h0, .int x, .int sum]) ++ List.replicate (5 - (lg_sl ([.ref h0, .int x, .int sum])).length) Slot.unset).toArray = ls at hl ⊢
  have hl : lv_has ls 5 [(0, .ref h0), (1, .int (x)), (2, .int (sum))] := hl
  refine lv_iload_n hx hb dX1_mended_0 rfl (lv_at hl 1 rfl) ?_
  refine lv_if_lt (tgt := 14) hx hb dX1_mended_1 (by decide) (fun c_1 => ?_) (fun c_1 => ?_)
  · refine lv_iconst (v := 0) hx hb dX1_mended_14 (by decide) ?_
    exact W.iret (v := 0) hx hb hr (fun t ht _ => ⟨congrArg (fun z => Outcome.returned (some (Value.int z))) (by unfold an_me; rw [if_pos c_1]), ht⟩) (fun _ h => by cases h) dX1_mended_15
  · refine lv_iload_n hx hb dX1_mended_4 rfl (lv_at hl 1 rfl) ?_
    refine lv_aload_n hx hb dX1_mended_5 rfl (lv_at hl 0 rfl) ?_
    refine va_get (D := (dC, dI)) (ci := 1) (v := .int (nI n)) (C := RX1) (T := TX1) (N := 4) hx hb hts hin hown hK hP 0 rfl rfl 1 (by decide) (hts (.fieldLink RX1 14 "StreamSumsModel" "length" "I") (wsM_self _ (wsM_nin (by decide +kernel)))) (fun _ h9 => h9) rfl dX1_mended_6 ?_
    refine lv_iconst (v := 4) hx hb dX1_mended_9 (by decide) ?_
    refine lv_isub hx hb dX1_mended_10 ?_
    refine lv_icmp_le (tgt := 16) hx hb dX1_mended_11 (by decide) (fun c_11 => ?_) (fun c_11 => ?_)
    · obtain ⟨k, hxk, hk⟩ := me_some hn c_1 c_11
      refine lv_iload_n hx hb dX1_mended_16 rfl (lv_at hl 2 rfl) ?_
      refine lv_iconst (v := -1) hx hb dX1_mended_17 (by decide) ?_
      refine lv_ixor hx hb dX1_mended_18 ?_
      refine lv_istore_n (lv' := [(3, .int ((sum ^^^ (-1)))), (0, .ref h0), (1, .int (x)), (2, .int (sum))]) hx hb dX1_mended_19 rfl hl (by decide) rfl (fun ls hl => ?_)
      refine lv_aload_n hx hb dX1_mended_20 rfl (lv_at hl 1 rfl) ?_
      refine va_get (D := (dC, dI)) (ci := 1) (v := .int (nI n)) (C := RX1) (T := TX1) (N := 4) hx hb hts hin hown hK hP 0 rfl rfl 1 (by decide) (hts (.fieldLink RX1 14 "StreamSumsModel" "length" "I") (wsM_self _ (wsM_nin (by decide +kernel)))) (fun _ h9 => h9) rfl dX1_mended_21 ?_
      refine lv_iconst (v := 1) hx hb dX1_mended_24 (by decide) ?_
      refine lv_isub hx hb dX1_mended_25 ?_
      refine q_ti (y := nI (n - 0 - 1)) (pk_sub (a := n) (b := 1) (by omega)) ?_
      refine lv_istore (lv' := [(4, .int (nI (n - 0 - 1))), (3, .int ((sum ^^^ (-1)))), (0, .ref h0), (1, .int (x)), (2, .int (sum))]) hx hb dX1_mended_26 hl (by decide) rfl (fun ls hl => ?_)
      have L28 : ∀ (d j : Nat), j + d = n - (k + 4) → ∀ ls : Array Slot, lv_has ls 5 [(0, .ref h0), (1, .int (x)), (2, .int (sum)), (3, .int (cr_bk f n (sum ^^^ (-1)) (j))), (4, .int (nI (n - (j) - 1)))] → W p l e (headSpec wsM_mended ({ frames := 3, cells := 0, slots := 0, locals := 67 } : Room)).room s m [Value.ref h0, .int x, .int sum].toArray below meth c s.heap [] 0 0 (MQ below (k2_QcV (.int (an_me n f x sum))) [Value.ref h0, .int x, .int sum].toArray s 0 0 (fun _ => False)) (F0 m 28 ls []) := by
        intro d
        induction d with
        | zero =>
          intro j hj ls hl
          obtain rfl : n - (k + 4) = j := by omega
          refine lv_iload hx hb dX1_mended_28 (lv_at hl 4 rfl) ?_
          refine lv_iload_n hx hb dX1_mended_30 rfl (lv_at hl 1 rfl) ?_
          refine q_ti (y := nI k) (hxk) ?_
          refine lv_iconst (v := 4) hx hb dX1_mended_31 (by decide) ?_
          refine lv_iadd hx hb dX1_mended_32 ?_
          refine q_ti (y := nI (k + 4)) (nI_add k 4) ?_
          refine lv_icmp_lt (tgt := 56) hx hb dX1_mended_33 (by decide) (fun c_33 => ?_) (fun c_33 => ?_)
          · refine lv_aload_n hx hb dX1_mended_56 rfl (lv_at hl 0 rfl) ?_
            refine lv_iconst (v := 0) hx hb dX1_mended_57 (by decide) ?_
            refine lv_iload_n hx hb dX1_mended_58 rfl (lv_at hl 1 rfl) ?_
            refine q_ti (y := nI k) (hxk) ?_
            refine q_V (As := [.int (0), .int (nI k)]) (rest := []) ⟨hx, hb, hml, hown, hts⟩ (c_M_register l dC dI h0 a0 cB n ns wd f (0) (k) (by omega) (by omega)) (cwV 2 hts gX1_mended_X1_register rfl rfl rfl (by decide +kernel) ⟨Nat.le_of_ble_eq_true rfl, Nat.le_of_ble_eq_true rfl⟩) (mw_pre hP hK _) rfl hl.1 rfl (Nat.le_of_ble_eq_true rfl) dX1_mended_59 ⟨Nat.zero_le _, Nat.zero_le _⟩ ?_
            refine lv_iload_n hx hb dX1_mended_62 rfl (lv_at hl 3 rfl) ?_
            refine q_S (As := [.int ((cr_rg f 0 (-1) (k - 0))), .int (cr_bk f n (sum ^^^ (-1)) ((n - (k + 4))))]) (rest := []) ⟨hx, hb, hml, hown, hts⟩ (c_M_between l ((cr_rg f 0 (-1) (k - 0))) (cr_bk f n (sum ^^^ (-1)) ((n - (k + 4))))) (va_cwS 2 hts gX1_mended_X1_between rfl rfl rfl (by decide +kernel) ⟨Nat.le_of_ble_eq_true rfl, Nat.le_of_ble_eq_true rfl⟩) rfl hl.1 rfl (Nat.le_of_ble_eq_true rfl) dX1_mended_63 ⟨Nat.zero_le _, Nat.zero_le _⟩ ?_
            exact W.iret (v := (tu_m (((cr_rg f 0 (-1) (k - 0))) ^^^ cr_it cr_b 32 (cr_bk f n (sum ^^^ (-1)) ((n - (k + 4))))))) hx hb hr (fun t ht _ => ⟨congrArg (fun z => Outcome.returned (some (Value.int z))) (by unfold an_me; rw [if_neg c_1, if_pos c_11, hxk, nI_clamp (by omega)]; rfl), ht⟩) (fun _ h => by cases h) dX1_mended_66
          · exact absurd (nI_lt (by omega) (by omega)) c_33
        | succ d ih =>
          intro j hj ls hl
          have hjl : j < n - (k + 4) := by omega
          refine lv_iload hx hb dX1_mended_28 (lv_at hl 4 rfl) ?_
          refine lv_iload_n hx hb dX1_mended_30 rfl (lv_at hl 1 rfl) ?_
          refine q_ti (y := nI k) (hxk) ?_
          refine lv_iconst (v := 4) hx hb dX1_mended_31 (by decide) ?_
          refine lv_iadd hx hb dX1_mended_32 ?_
          refine q_ti (y := nI (k + 4)) (nI_add k 4) ?_
          refine lv_icmp_lt (tgt := 56) hx hb dX1_mended_33 (by decide) (fun c_33 => ?_) (fun c_33 => ?_)
          · exact absurd c_33 (nI_nlt (by omega) (by omega))
          · refine lv_iload_n hx hb dX1_mended_36 rfl (lv_at hl 3 rfl) ?_
            refine lv_bipush (v := 8) hx hb dX1_mended_37 (by decide) ?_
            refine q_S (As := [.int (cr_bk f n (sum ^^^ (-1)) (j)), .int (8)]) (rest := []) ⟨hx, hb, hml, hown, hts⟩ (c_M_back l (cr_bk f n (sum ^^^ (-1)) (j)) (8) (by omega)) (va_cwS 2 hts gX1_mended_X1_back rfl rfl rfl (by decide +kernel) ⟨Nat.le_of_ble_eq_true rfl, Nat.le_of_ble_eq_true rfl⟩) rfl hl.1 rfl (Nat.le_of_ble_eq_true rfl) dX1_mended_39 ⟨Nat.zero_le _, Nat.zero_le _⟩ ?_
            refine lv_aload_n hx hb dX1_mended_42 rfl (lv_at hl 0 rfl) ?_
            refine lv_iload hx hb dX1_mended_43 (lv_at hl 4 rfl) ?_
            refine q_V (As := [.int (nI (n - (j) - 1))]) (rest := [.int ((cr_it cr_b 8 (cr_bk f n (sum ^^^ (-1)) (j))))]) ⟨hx, hb, hml, hown, hts⟩ (c_M_at l dC dI h0 a0 cB n ns wd f (n - j - 1) (by omega)) (cwV 1 hts gX1_mended_X1_at rfl rfl rfl (by decide +kernel) ⟨Nat.le_of_ble_eq_true rfl, Nat.le_of_ble_eq_true rfl⟩) (mw_pre hP hK _) rfl hl.1 rfl (Nat.le_of_ble_eq_true rfl) dX1_mended_45 ⟨Nat.zero_le _, Nat.zero_le _⟩ ?_
            refine lv_ixor hx hb dX1_mended_48 ?_
            refine q_ti (y := cr_bk f n (sum ^^^ (-1)) (j + 1)) (by show _ = _ ^^^ cr_by f (n - 1 - j); rw [show n - 1 - j = n - j - 1 by omega]; rfl) ?_
            refine lv_istore_n (lv' := [(3, .int (cr_bk f n (sum ^^^ (-1)) (j + 1))), (0, .ref h0), (1, .int (x)), (2, .int (sum)), (4, .int (nI (n - (j) - 1)))]) hx hb dX1_mended_49 rfl hl (by decide) rfl (fun ls hl => ?_)
            refine lv_iinc (v := nI (n - (j + 1) - 1)) (lv' := [(4, .int (nI (n - (j + 1) - 1))), (3, .int (cr_bk f n (sum ^^^ (-1)) (j + 1))), (0, .ref h0), (1, .int (x)), (2, .int (sum))]) hx hb dX1_mended_50 hl (k := 4) rfl (by rw [show n - (j + 1) - 1 = n - j - 1 - 1 by omega]; exact sb_m1 (by omega)) (by decide) rfl (fun ls hl => ?_)
            refine lv_goto (tgt := 28) hx hb dX1_mended_53 (by decide) ?_
            exact ih (j + 1) (by omega) ls (lv_sub hl [2, 3, 4, 1, 0] rfl)
      exact L28 (n - (k + 4)) 0 (by omega) ls (lv_sub hl [2, 3, 4, 1, 0] rfl)
    · refine lv_iconst (v := 0) hx hb dX1_mended_14 (by decide) ?_
      exact W.iret (v := 0) hx hb hr (fun t ht _ => ⟨congrArg (fun z => Outcome.returned (some (Value.int z))) (by unfold an_me; rw [if_neg c_1, if_neg c_11]), ht⟩) (fun _ h => by cases h) dX1_mended_15
end
section
set_option maxHeartbeats 4000000 in
set_option maxRecDepth 100000 in
theorem c_M_lane (l : Launch) (dC : Nat → ClassId) (dI : Nat → Nat → Nat) (h0 a0 : Nat) (cB : ClassId) (n : Nat) (ns : Int32) (wd : Int64) (f : Nat → Int32) (sd : Int32) (a : Nat) (b : Nat) (q : Nat) (hab : a ≤ b) (hb6 : b ≤ 65536) (hq : q ≤ 3) : Met l yX1_lane wsM_lane ({ frames := 2, cells := 0, slots := 0, locals := 46 } : Room) (va_Pc [.ref h0, .int sd, .int (nI a), .int (nI b), .int (nI q)] (mW dC dI h0 a0 cB n ns wd f)) (k2_QcV (.int (na_fo f a q sd ((b - a) / 16)))) 0 0 (fun _ => False) := by
  refine Met.ofW (cc := cX1_lane) (maxL := 7) (ret := some .int) (by decide) rfl ?_
  intro p e s m args below meth c s₁ B hml hv
  obtain ⟨rfl, hP, hK⟩ := hv
  have hx := B.exec
  have hb := B.bytes
  have hr := B.returns
  have hts := atoms_spec (ws := wsM_lane) B.pre
  have hown : s.vm.findClass RX1 = some m.cls := findClass_of_methodNamed B.named
  have hlocks := B.notSynchronized
  have hl := lv_entry ([.ref h0, .int sd, .int (nI a), .int (nI b), .int (nI q)]) (n := 7) (Nat.le_of_ble_eq_true rfl)
  rw [lg_entry_eq]
  generalize (lg_sl ([.ref h0, .int sd, .int (nI a), .int (nI b), .int (nI q)]) ++ List.replicate (7 - (lg_sl ([.ref h0, .int sd, .int (nI a), .int (nI b), .int (nI q)])).length) Slot.unset).toArray = ls at hl ⊢
  have hl : lv_has ls 7 [(0, .ref h0), (1, .int (sd)), (2, .int (nI a)), (3, .int (nI b)), (4, .int (nI q))] := hl
  refine lv_iload_n hx hb dX1_lane_0 rfl (lv_at hl 1 rfl) ?_
  refine lv_istore (lv' := [(5, .int (sd)), (0, .ref h0), (1, .int (sd)), (2, .int (nI a)), (3, .int (nI b)), (4, .int (nI q))]) hx hb dX1_lane_1 hl (by decide) rfl (fun ls hl => ?_)
  refine lv_iload_n hx hb dX1_lane_3 rfl (lv_at hl 3 rfl) ?_
  refine lv_istore (lv' := [(6, .int (nI a)), (5, .int (sd)), (0, .ref h0), (1, .int (sd)), (2, .int (nI a)), (3, .int (nI b)), (4, .int (nI q))]) hx hb dX1_lane_4 hl (by decide) rfl (fun ls hl => ?_)
  have L6 : ∀ (d j : Nat), j + d = (b - a) / 16 → ∀ ls : Array Slot, lv_has ls 7 [(0, .ref h0), (1, .int (sd)), (2, .int (nI a)), (3, .int (nI b)), (4, .int (nI q)), (5, .int (na_fo f a q sd (j))), (6, .int (nI (a + 16 * (j))))] → W p l e (headSpec wsM_lane ({ frames := 2, cells := 0, slots := 0, locals := 46 } : Room)).room s m [Value.ref h0, .int sd, .int (nI a), .int (nI b), .int (nI q)].toArray below meth c s.heap [] 0 0 (MQ below (k2_QcV (.int (na_fo f a q sd ((b - a) / 16)))) [Value.ref h0, .int sd, .int (nI a), .int (nI b), .int (nI q)].toArray s 0 0 (fun _ => False)) (F0 m 6 ls []) := by
    intro d
    induction d with
    | zero =>
      intro j hj ls hl
      obtain rfl : (b - a) / 16 = j := by omega
      refine lv_iload_n hx hb dX1_lane_6 rfl (lv_at hl 3 rfl) ?_
      refine lv_iload hx hb dX1_lane_7 (lv_at hl 6 rfl) ?_
      refine lv_isub hx hb dX1_lane_9 ?_
      refine q_ti (y := nI (b - (a + 16 * ((b - a) / 16)))) (pk_sub (by omega)) ?_
      refine lv_bipush (v := 16) hx hb dX1_lane_10 (by decide) ?_
      refine lv_icmp_lt (tgt := 50) hx hb dX1_lane_12 (by decide) (fun c_12 => ?_) (fun c_12 => ?_)
      · refine lv_iload hx hb dX1_lane_50 (lv_at hl 5 rfl) ?_
        exact W.iret (v := na_fo f a q sd (((b - a) / 16))) hx hb hr (fun t ht _ => ⟨congrArg (fun z => Outcome.returned (some (Value.int z))) (rfl), ht⟩) (fun _ h => by cases h) dX1_lane_52
      · exact absurd (nI_lt (b := 16) (by omega) (by omega)) c_12
    | succ d ih =>
      intro j hj ls hl
      have hjl : j < (b - a) / 16 := by omega
      refine lv_iload_n hx hb dX1_lane_6 rfl (lv_at hl 3 rfl) ?_
      refine lv_iload hx hb dX1_lane_7 (lv_at hl 6 rfl) ?_
      refine lv_isub hx hb dX1_lane_9 ?_
      refine q_ti (y := nI (b - (a + 16 * j))) (pk_sub (by omega)) ?_
      refine lv_bipush (v := 16) hx hb dX1_lane_10 (by decide) ?_
      refine lv_icmp_lt (tgt := 50) hx hb dX1_lane_12 (by decide) (fun c_12 => ?_) (fun c_12 => ?_)
      · exact absurd c_12 (nI_nlt (b := 16) (by omega) (by omega))
      · refine lv_iload hx hb dX1_lane_15 (lv_at hl 5 rfl) ?_
        refine lv_aload_n hx hb dX1_lane_17 rfl (lv_at hl 0 rfl) ?_
        refine lv_iload hx hb dX1_lane_18 (lv_at hl 6 rfl) ?_
        refine lv_iconst (v := 4) hx hb dX1_lane_20 (by decide) ?_
        refine lv_iload hx hb dX1_lane_21 (lv_at hl 4 rfl) ?_
        refine lv_imul hx hb dX1_lane_23 ?_
        refine q_ti (y := nI (4 * q)) (pk_mul 4 q) ?_
        refine lv_iadd hx hb dX1_lane_24 ?_
        refine q_ti (y := nI (a + 16 * j + 4 * q)) (nI_add _ _) ?_
        refine lv_iconst (v := 4) hx hb dX1_lane_25 (by decide) ?_
        refine q_V (As := [.int (nI (a + 16 * j + 4 * q)), .int (4)]) (rest := [.int (na_fo f a q sd (j))]) ⟨hx, hb, hml, hown, hts⟩ (c_M_number l dC dI h0 a0 cB n ns wd f (a + 16 * j + 4 * q) (4) (by omega)) (cwV 2 hts gX1_lane_X1_number rfl rfl rfl (by decide +kernel) ⟨Nat.le_of_ble_eq_true rfl, Nat.le_of_ble_eq_true rfl⟩) (mw_pre hP hK _) rfl hl.1 rfl (Nat.le_of_ble_eq_true rfl) dX1_lane_26 ⟨Nat.zero_le _, Nat.zero_le _⟩ ?_
        refine lv_l2i (v := ((wo_n f (a + 16 * j + 4 * q) 4)).toInt32) hx hb dX1_lane_29 rfl ?_
        refine q_ti (y := wo_4 f (a + 16 * j + 4 * q)) (wo_n4i _ _) ?_
        refine lv_ldc (v := -2048144777) hx hb hown (hts (.constant RX1 35 (-2048144777)) (wsM_self _ (wsM_nin (by decide +kernel)))) dX1_lane_30 ?_
        refine lv_imul hx hb dX1_lane_32 ?_
        refine lv_iadd hx hb dX1_lane_33 ?_
        refine lv_bipush (v := 13) hx hb dX1_lane_34 (by decide) ?_
        refine q_S (As := [.int ((na_fo f a q sd (j) + (wo_4 f (a + 16 * j + 4 * q) * (-2048144777)))), .int (13)]) (rest := []) ⟨hx, hb, hml, hown, hts⟩ (c_M_rotated l ((na_fo f a q sd (j) + (wo_4 f (a + 16 * j + 4 * q) * (-2048144777)))) (13)) (va_cwS 2 hts gX1_lane_X1_rotated rfl rfl rfl (by decide +kernel) ⟨Nat.le_of_ble_eq_true rfl, Nat.le_of_ble_eq_true rfl⟩) rfl hl.1 rfl (Nat.le_of_ble_eq_true rfl) dX1_lane_36 ⟨Nat.zero_le _, Nat.zero_le _⟩ ?_
        refine lv_ldc (v := -1640531535) hx hb hown (hts (.constant RX1 40 (-1640531535)) (wsM_self _ (wsM_nin (by decide +kernel)))) dX1_lane_39 ?_
        refine lv_imul hx hb dX1_lane_41 ?_
        refine q_ti (y := na_fo f a q sd (j + 1)) (rfl) ?_
        refine lv_istore (lv' := [(5, .int (na_fo f a q sd (j + 1))), (0, .ref h0), (1, .int (sd)), (2, .int (nI a)), (3, .int (nI b)), (4, .int (nI q)), (6, .int (nI (a + 16 * (j))))]) hx hb dX1_lane_42 hl (by decide) rfl (fun ls hl => ?_)
        refine lv_iinc (v := nI (a + 16 * (j + 1))) (lv' := [(6, .int (nI (a + 16 * (j + 1)))), (5, .int (na_fo f a q sd (j + 1))), (0, .ref h0), (1, .int (sd)), (2, .int (nI a)), (3, .int (nI b)), (4, .int (nI q))]) hx hb dX1_lane_44 hl (k := 6) rfl (by rw [show a + 16 * (j + 1) = a + 16 * j + 16 by omega]; exact nI_add _ 16) (by decide) rfl (fun ls hl => ?_)
        refine lv_goto (tgt := 6) hx hb dX1_lane_47 (by decide) ?_
        exact ih (j + 1) (by omega) ls (lv_sub hl [2, 3, 4, 5, 6, 1, 0] rfl)
  exact L6 ((b - a) / 16) 0 (by omega) ls (lv_sub hl [2, 3, 4, 5, 6, 1, 0] rfl)
set_option maxHeartbeats 4000000 in
set_option maxRecDepth 100000 in
theorem c_M_sumNarrow (l : Launch) (dC : Nat → ClassId) (dI : Nat → Nat → Nat) (h0 a0 : Nat) (cB : ClassId) (n : Nat) (ns : Int32) (wd : Int64) (f : Nat → Int32) (a : Nat) (b : Nat) (sd : Int32) (hab : a ≤ b) (hb6 : b ≤ 65536) : Met l yX1_sumNarrow wsM_sumNarrow ({ frames := 3, cells := 0, slots := 0, locals := 72 } : Room) (va_Pc [.ref h0, .int (nI a), .int (nI b), .int sd] (mW dC dI h0 a0 cB n ns wd f)) (k2_QcV (.int (na_sum f a b sd))) 0 0 (fun _ => False) := by
  refine Met.ofW (cc := cX1_sumNarrow) (maxL := 8) (ret := some .int) (by decide) rfl ?_
  intro p e s m args below meth c s₁ B hml hv
  obtain ⟨rfl, hP, hK⟩ := hv
  have hx := B.exec
  have hb := B.bytes
  have hr := B.returns
  have hts := atoms_spec (ws := wsM_sumNarrow) B.pre
  have hown : s.vm.findClass RX1 = some m.cls := findClass_of_methodNamed B.named
  have hlocks := B.notSynchronized
  have hl := lv_entry ([.ref h0, .int (nI a), .int (nI b), .int sd]) (n := 8) (Nat.le_of_ble_eq_true rfl)
  rw [lg_entry_eq]
  generalize (lg_sl ([.ref h0, .int (nI a), .int (nI b), .int sd]) ++ List.replicate (8 - (lg_sl ([.ref h0, .int (nI a), .int (nI b), .int sd])).length) Slot.unset).toArray = ls at hl ⊢
  have hl : lv_has ls 8 [(0, .ref h0), (1, .int (nI a)), (2, .int (nI b)), (3, .int (sd))] := hl
  have hpc := na_pc hab
  obtain ⟨hp1, hp2, hp3, hp4⟩ := hpc
  refine lv_iload_n hx hb dX1_sumNarrow_0 rfl (lv_at hl 2 rfl) ?_
  refine lv_iload_n hx hb dX1_sumNarrow_1 rfl (lv_at hl 1 rfl) ?_
  refine lv_isub hx hb dX1_sumNarrow_2 ?_
  refine q_ti (y := nI (b - a)) (pk_sub hab) ?_
  refine lv_istore (lv' := [(4, .int (nI (b - a))), (0, .ref h0), (1, .int (nI a)), (2, .int (nI b)), (3, .int (sd))]) hx hb dX1_sumNarrow_3 hl (by decide) rfl (fun ls hl => ?_)
  refine lv_iload_n hx hb dX1_sumNarrow_5 rfl (lv_at hl 4 rfl) ?_
  refine lv_ldc (v := 374761393) hx hb hown (hts (.constant RX1 41 (374761393)) (wsM_self _ (wsM_nin (by decide +kernel)))) dX1_sumNarrow_6 ?_
  refine lv_iadd hx hb dX1_sumNarrow_8 ?_
  refine lv_istore (lv' := [(5, .int ((sd + 374761393))), (4, .int (nI (b - a))), (0, .ref h0), (1, .int (nI a)), (2, .int (nI b)), (3, .int (sd))]) hx hb dX1_sumNarrow_9 hl (by decide) rfl (fun ls hl => ?_)
  refine lv_iload_n hx hb dX1_sumNarrow_11 rfl (lv_at hl 3 rfl) ?_
  refine lv_istore (lv' := [(6, .int (nI a)), (5, .int ((sd + 374761393))), (4, .int (nI (b - a))), (0, .ref h0), (1, .int (nI a)), (2, .int (nI b)), (3, .int (sd))]) hx hb dX1_sumNarrow_12 hl (by decide) rfl (fun ls hl => ?_)
  have J102 : ∀ ls : Array Slot, lv_has ls 8 [(0, .ref h0), (1, .int (nI a)), (2, .int (nI b)), (3, .int (sd)), (4, .int (nI (b - a))), (5, .int (na_h0 f a b sd)), (6, .int (nI (na_p a b)))] → W p l e (headSpec wsM_sumNarrow ({ frames := 3, cells := 0, slots := 0, locals := 72 } : Room)).room s m [Value.ref h0, .int (nI a), .int (nI b), .int sd].toArray below meth c s.heap [] 0 0 (MQ below (k2_QcV (.int (na_sum f a b sd))) [Value.ref h0, .int (nI a), .int (nI b), .int sd].toArray s 0 0 (fun _ => False)) (F0 m 102 ls []) := by
    intro ls hl
    refine lv_iload hx hb dX1_sumNarrow_102 (lv_at hl 5 rfl) ?_
    refine lv_iload hx hb dX1_sumNarrow_104 (lv_at hl 4 rfl) ?_
    refine lv_iadd hx hb dX1_sumNarrow_106 ?_
    refine lv_istore (lv' := [(5, .int ((na_h0 f a b sd + nI (b - a)))), (0, .ref h0), (1, .int (nI a)), (2, .int (nI b)), (3, .int (sd)), (4, .int (nI (b - a))), (6, .int (nI (na_p a b)))]) hx hb dX1_sumNarrow_107 hl (by decide) rfl (fun ls hl => ?_)
    refine lv_iconst (v := 0) hx hb dX1_sumNarrow_109 (by decide) ?_
    refine lv_istore (lv' := [(7, .int (0)), (5, .int ((na_h0 f a b sd + nI (b - a)))), (0, .ref h0), (1, .int (nI a)), (2, .int (nI b)), (3, .int (sd)), (4, .int (nI (b - a))), (6, .int (nI (na_p a b)))]) hx hb dX1_sumNarrow_110 hl (by decide) rfl (fun ls hl => ?_)
    have L112 : ∀ (d j : Nat), j + d = na_c a b → ∀ ls : Array Slot, lv_has ls 8 [(0, .ref h0), (1, .int (nI a)), (2, .int (nI b)), (3, .int (sd)), (4, .int (nI (b - a))), (5, .int (na_w4 f (na_p a b) (na_h0 f a b sd + nI (b - a)) (j))), (6, .int (nI (na_p a b + 4 * (j)))), (7, .int (nI (j)))] → W p l e (headSpec wsM_sumNarrow ({ frames := 3, cells := 0, slots := 0, locals := 72 } : Room)).room s m [Value.ref h0, .int (nI a), .int (nI b), .int sd].toArray below meth c s.heap [] 0 0 (MQ below (k2_QcV (.int (na_sum f a b sd))) [Value.ref h0, .int (nI a), .int (nI b), .int sd].toArray s 0 0 (fun _ => False)) (F0 m 112 ls []) := by
      intro d
      induction d with
      | zero =>
        intro j hj ls hl
        obtain rfl : na_c a b = j := by omega
        have J159 : ∀ ls : Array Slot, lv_has ls 8 [(0, .ref h0), (1, .int (nI a)), (2, .int (nI b)), (3, .int (sd)), (4, .int (nI (b - a))), (5, .int (na_w4 f (na_p a b) (na_h0 f a b sd + nI (b - a)) ((na_c a b)))), (6, .int (nI (na_p a b + 4 * ((na_c a b))))), (7, .int (nI ((na_c a b))))] → W p l e (headSpec wsM_sumNarrow ({ frames := 3, cells := 0, slots := 0, locals := 72 } : Room)).room s m [Value.ref h0, .int (nI a), .int (nI b), .int sd].toArray below meth c s.heap [] 0 0 (MQ below (k2_QcV (.int (na_sum f a b sd))) [Value.ref h0, .int (nI a), .int (nI b), .int sd].toArray s 0 0 (fun _ => False)) (F0 m 159 ls []) := by
          intro ls hl
          refine lv_iload hx hb dX1_sumNarrow_159 (lv_at hl 6 rfl) ?_
          refine lv_istore (lv' := [(7, .int (nI (na_p a b + 4 * ((na_c a b))))), (0, .ref h0), (1, .int (nI a)), (2, .int (nI b)), (3, .int (sd)), (4, .int (nI (b - a))), (5, .int (na_w4 f (na_p a b) (na_h0 f a b sd + nI (b - a)) ((na_c a b)))), (6, .int (nI (na_p a b + 4 * ((na_c a b)))))]) hx hb dX1_sumNarrow_161 hl (by decide) rfl (fun ls hl => ?_)
          have L163 : ∀ (d j : Nat), j + d = b - (na_p a b + 4 * na_c a b) → ∀ ls : Array Slot, lv_has ls 8 [(0, .ref h0), (1, .int (nI a)), (2, .int (nI b)), (3, .int (sd)), (4, .int (nI (b - a))), (5, .int (na_w1 f (na_p a b + 4 * na_c a b) (na_w4 f (na_p a b) (na_h0 f a b sd + nI (b - a)) (na_c a b)) (j))), (7, .int (nI ((na_p a b + 4 * na_c a b) + (j))))] → W p l e (headSpec wsM_sumNarrow ({ frames := 3, cells := 0, slots := 0, locals := 72 } : Room)).room s m [Value.ref h0, .int (nI a), .int (nI b), .int sd].toArray below meth c s.heap [] 0 0 (MQ below (k2_QcV (.int (na_sum f a b sd))) [Value.ref h0, .int (nI a), .int (nI b), .int sd].toArray s 0 0 (fun _ => False)) (F0 m 163 ls []) := by
            intro d
            induction d with
            | zero =>
              intro j hj ls hl
              obtain rfl : b - (na_p a b + 4 * na_c a b) = j := by omega
              refine lv_iload hx hb dX1_sumNarrow_163 (lv_at hl 6 rfl) ?_
              refine lv_iload_n hx hb dX1_sumNarrow_165 rfl (lv_at hl 2 rfl) ?_
              refine lv_icmp_ge (tgt := 197) hx hb dX1_sumNarrow_166 (by decide) (fun c_166 => ?_) (fun c_166 => ?_)
              · refine lv_iload hx hb dX1_sumNarrow_197 (lv_at hl 5 rfl) ?_
                refine lv_iload hx hb dX1_sumNarrow_199 (lv_at hl 5 rfl) ?_
                refine lv_bipush (v := 15) hx hb dX1_sumNarrow_201 (by decide) ?_
                refine lv_iushr (v := sh_u (na_w1 f (na_p a b + 4 * na_c a b) (na_w4 f (na_p a b) (na_h0 f a b sd + nI (b - a)) (na_c a b)) ((b - (na_p a b + 4 * na_c a b)))) (15)) hx hb dX1_sumNarrow_203 rfl ?_
                refine lv_ixor hx hb dX1_sumNarrow_204 ?_
                refine lv_ldc (v := -2048144777) hx hb hown (hts (.constant RX1 35 (-2048144777)) (wsM_self _ (wsM_nin (by decide +kernel)))) dX1_sumNarrow_205 ?_
                refine lv_imul hx hb dX1_sumNarrow_207 ?_
                refine q_ti (y := na_s1 (na_w1 f (na_p a b + 4 * na_c a b) (na_w4 f (na_p a b) (na_h0 f a b sd + nI (b - a)) (na_c a b)) (b - (na_p a b + 4 * na_c a b)))) (rfl) ?_
                refine lv_istore (lv' := [(5, .int (na_s1 (na_w1 f (na_p a b + 4 * na_c a b) (na_w4 f (na_p a b) (na_h0 f a b sd + nI (b - a)) (na_c a b)) (b - (na_p a b + 4 * na_c a b))))), (0, .ref h0), (1, .int (nI a)), (2, .int (nI b)), (3, .int (sd)), (4, .int (nI (b - a))), (7, .int (nI ((na_p a b + 4 * na_c a b) + ((b - (na_p a b + 4 * na_c a b))))))]) hx hb dX1_sumNarrow_208 hl (by decide) rfl (fun ls hl => ?_)
                refine lv_iload hx hb dX1_sumNarrow_210 (lv_at hl 0 rfl) ?_
                refine lv_iload hx hb dX1_sumNarrow_212 (lv_at hl 0 rfl) ?_
                refine lv_bipush (v := 13) hx hb dX1_sumNarrow_214 (by decide) ?_
                refine lv_iushr (v := sh_u (na_s1 (na_w1 f (na_p a b + 4 * na_c a b) (na_w4 f (na_p a b) (na_h0 f a b sd + nI (b - a)) (na_c a b)) (b - (na_p a b + 4 * na_c a b)))) (13)) hx hb dX1_sumNarrow_216 rfl ?_
                refine lv_ixor hx hb dX1_sumNarrow_217 ?_
                refine lv_ldc (v := -1028477379) hx hb hown (hts (.constant RX1 46 (-1028477379)) (wsM_self _ (wsM_nin (by decide +kernel)))) dX1_sumNarrow_218 ?_
                refine lv_imul hx hb dX1_sumNarrow_220 ?_
                refine q_ti (y := na_s2 (na_s1 (na_w1 f (na_p a b + 4 * na_c a b) (na_w4 f (na_p a b) (na_h0 f a b sd + nI (b - a)) (na_c a b)) (b - (na_p a b + 4 * na_c a b))))) (rfl) ?_
                refine lv_istore (lv' := [(5, .int (na_s2 (na_s1 (na_w1 f (na_p a b + 4 * na_c a b) (na_w4 f (na_p a b) (na_h0 f a b sd + nI (b - a)) (na_c a b)) (b - (na_p a b + 4 * na_c a b)))))), (0, .ref h0), (1, .int (nI a)), (2, .int (nI b)), (3, .int (sd)), (4, .int (nI (b - a))), (7, .int (nI ((na_p a b + 4 * na_c a b) + ((b - (na_p a b + 4 * na_c a b))))))]) hx hb dX1_sumNarrow_221 hl (by decide) rfl (fun ls hl => ?_)
                refine lv_iload hx hb dX1_sumNarrow_223 (lv_at hl 0 rfl) ?_
                refine lv_iload hx hb dX1_sumNarrow_225 (lv_at hl 0 rfl) ?_
                refine lv_bipush (v := 16) hx hb dX1_sumNarrow_227 (by decide) ?_
                refine lv_iushr (v := sh_u (na_s2 (na_s1 (na_w1 f (na_p a b + 4 * na_c a b) (na_w4 f (na_p a b) (na_h0 f a b sd + nI (b - a)) (na_c a b)) (b - (na_p a b + 4 * na_c a b))))) (16)) hx hb dX1_sumNarrow_229 rfl ?_
                refine lv_ixor hx hb dX1_sumNarrow_230 ?_
                exact W.iret (v := (na_s2 (na_s1 (na_w1 f (na_p a b + 4 * na_c a b) (na_w4 f (na_p a b) (na_h0 f a b sd + nI (b - a)) (na_c a b)) (b - (na_p a b + 4 * na_c a b)))) ^^^ (sh_u (na_s2 (na_s1 (na_w1 f (na_p a b + 4 * na_c a b) (na_w4 f (na_p a b) (na_h0 f a b sd + nI (b - a)) (na_c a b)) (b - (na_p a b + 4 * na_c a b))))) (16)))) hx hb hr (fun t ht _ => ⟨congrArg (fun z => Outcome.returned (some (Value.int z))) (rfl), ht⟩) (fun _ h => by cases h) dX1_sumNarrow_231
              · exact absurd (nI_le (by omega) (by omega)) c_166
            | succ d ih =>
              intro j hj ls hl
              have hjl : j < b - (na_p a b + 4 * na_c a b) := by omega
              refine lv_iload hx hb dX1_sumNarrow_163 (lv_at hl 6 rfl) ?_
              refine lv_iload_n hx hb dX1_sumNarrow_165 rfl (lv_at hl 2 rfl) ?_
              refine lv_icmp_ge (tgt := 197) hx hb dX1_sumNarrow_166 (by decide) (fun c_166 => ?_) (fun c_166 => ?_)
              · exact absurd c_166 (nI_ge (by omega) (by omega))
              · refine lv_iload hx hb dX1_sumNarrow_169 (lv_at hl 5 rfl) ?_
                refine lv_aload_n hx hb dX1_sumNarrow_171 rfl (lv_at hl 0 rfl) ?_
                refine lv_iload hx hb dX1_sumNarrow_172 (lv_at hl 6 rfl) ?_
                refine q_V (As := [.int (nI ((na_p a b + 4 * na_c a b) + (j)))]) (rest := [.int (na_w1 f (na_p a b + 4 * na_c a b) (na_w4 f (na_p a b) (na_h0 f a b sd + nI (b - a)) (na_c a b)) (j))]) ⟨hx, hb, hml, hown, hts⟩ (c_M_at l dC dI h0 a0 cB n ns wd f ((na_p a b + 4 * na_c a b) + j) (by omega)) (cwV 1 hts gX1_sumNarrow_X1_at rfl rfl rfl (by decide +kernel) ⟨Nat.le_of_ble_eq_true rfl, Nat.le_of_ble_eq_true rfl⟩) (mw_pre hP hK _) rfl hl.1 rfl (Nat.le_of_ble_eq_true rfl) dX1_sumNarrow_174 ⟨Nat.zero_le _, Nat.zero_le _⟩ ?_
                refine lv_ldc (v := 374761393) hx hb hown (hts (.constant RX1 41 (374761393)) (wsM_self _ (wsM_nin (by decide +kernel)))) dX1_sumNarrow_177 ?_
                refine lv_imul hx hb dX1_sumNarrow_179 ?_
                refine lv_iadd hx hb dX1_sumNarrow_180 ?_
                refine lv_bipush (v := 11) hx hb dX1_sumNarrow_181 (by decide) ?_
                refine q_S (As := [.int ((na_w1 f (na_p a b + 4 * na_c a b) (na_w4 f (na_p a b) (na_h0 f a b sd + nI (b - a)) (na_c a b)) (j) + ((f ((na_p a b + 4 * na_c a b) + j) &&& 255) * 374761393))), .int (11)]) (rest := []) ⟨hx, hb, hml, hown, hts⟩ (c_M_rotated l ((na_w1 f (na_p a b + 4 * na_c a b) (na_w4 f (na_p a b) (na_h0 f a b sd + nI (b - a)) (na_c a b)) (j) + ((f ((na_p a b + 4 * na_c a b) + j) &&& 255) * 374761393))) (11)) (va_cwS 2 hts gX1_sumNarrow_X1_rotated rfl rfl rfl (by decide +kernel) ⟨Nat.le_of_ble_eq_true rfl, Nat.le_of_ble_eq_true rfl⟩) rfl hl.1 rfl (Nat.le_of_ble_eq_true rfl) dX1_sumNarrow_183 ⟨Nat.zero_le _, Nat.zero_le _⟩ ?_
                refine lv_ldc (v := -1640531535) hx hb hown (hts (.constant RX1 40 (-1640531535)) (wsM_self _ (wsM_nin (by decide +kernel)))) dX1_sumNarrow_186 ?_
                refine lv_imul hx hb dX1_sumNarrow_188 ?_
                refine q_ti (y := na_w1 f (na_p a b + 4 * na_c a b) (na_w4 f (na_p a b) (na_h0 f a b sd + nI (b - a)) (na_c a b)) (j + 1)) (rfl) ?_
                refine lv_istore (lv' := [(5, .int (na_w1 f (na_p a b + 4 * na_c a b) (na_w4 f (na_p a b) (na_h0 f a b sd + nI (b - a)) (na_c a b)) (j + 1))), (0, .ref h0), (1, .int (nI a)), (2, .int (nI b)), (3, .int (sd)), (4, .int (nI (b - a))), (7, .int (nI ((na_p a b + 4 * na_c a b) + (j))))]) hx hb dX1_sumNarrow_189 hl (by decide) rfl (fun ls hl => ?_)
                refine lv_iinc (v := nI ((na_p a b + 4 * na_c a b) + (j + 1))) (lv' := [(7, .int (nI ((na_p a b + 4 * na_c a b) + (j + 1)))), (5, .int (na_w1 f (na_p a b + 4 * na_c a b) (na_w4 f (na_p a b) (na_h0 f a b sd + nI (b - a)) (na_c a b)) (j + 1))), (0, .ref h0), (1, .int (nI a)), (2, .int (nI b)), (3, .int (sd)), (4, .int (nI (b - a)))]) hx hb dX1_sumNarrow_191 hl (k := 6) rfl (nI_add _ 1) (by decide) rfl (fun ls hl => ?_)
                refine lv_goto (tgt := 163) hx hb dX1_sumNarrow_194 (by decide) ?_
                exact ih (j + 1) (by omega) ls (lv_sub hl [2, 3, 4, 5, 6, 1, 0] rfl)
          exact L163 (b - (na_p a b + 4 * na_c a b)) 0 (by omega) ls (lv_sub hl [1, 2, 3, 4, 5, 6, 0] rfl)
        refine lv_iload hx hb dX1_sumNarrow_112 (lv_at hl 7 rfl) ?_
        refine lv_iconst (v := 3) hx hb dX1_sumNarrow_114 (by decide) ?_
        refine lv_icmp_ge (tgt := 159) hx hb dX1_sumNarrow_115 (by decide) (fun c_115 => ?_) (fun c_115 => ?_)
        · exact J159 ls (lv_sub hl [0, 1, 2, 3, 4, 5, 6, 7] rfl)
        · refine lv_iload_n hx hb dX1_sumNarrow_118 rfl (lv_at hl 2 rfl) ?_
          refine lv_iload hx hb dX1_sumNarrow_119 (lv_at hl 6 rfl) ?_
          refine lv_isub hx hb dX1_sumNarrow_121 ?_
          refine q_ti (y := nI (b - (na_p a b + 4 * na_c a b))) (pk_sub (by omega)) ?_
          refine lv_iconst (v := 4) hx hb dX1_sumNarrow_122 (by decide) ?_
          refine lv_icmp_lt (tgt := 159) hx hb dX1_sumNarrow_123 (by decide) (fun c_123 => ?_) (fun c_123 => ?_)
          · exact J159 ls (lv_sub hl [0, 1, 2, 3, 4, 5, 6, 7] rfl)
          · exact absurd (nI_lt (b := 4) (by omega) (by omega)) c_123
      | succ d ih =>
        intro j hj ls hl
        have hjl : j < na_c a b := by omega
        refine lv_iload hx hb dX1_sumNarrow_112 (lv_at hl 7 rfl) ?_
        refine lv_iconst (v := 3) hx hb dX1_sumNarrow_114 (by decide) ?_
        refine lv_icmp_ge (tgt := 159) hx hb dX1_sumNarrow_115 (by decide) (fun c_115 => ?_) (fun c_115 => ?_)
        · exact absurd c_115 (nI_ge (b := 3) (by omega) (by omega))
        · refine lv_iload_n hx hb dX1_sumNarrow_118 rfl (lv_at hl 2 rfl) ?_
          refine lv_iload hx hb dX1_sumNarrow_119 (lv_at hl 6 rfl) ?_
          refine lv_isub hx hb dX1_sumNarrow_121 ?_
          refine q_ti (y := nI (b - (na_p a b + 4 * j))) (pk_sub (by omega)) ?_
          refine lv_iconst (v := 4) hx hb dX1_sumNarrow_122 (by decide) ?_
          refine lv_icmp_lt (tgt := 159) hx hb dX1_sumNarrow_123 (by decide) (fun c_123 => ?_) (fun c_123 => ?_)
          · exact absurd c_123 (nI_nlt (b := 4) (by omega) (by omega))
          · refine lv_iload hx hb dX1_sumNarrow_126 (lv_at hl 5 rfl) ?_
            refine lv_aload_n hx hb dX1_sumNarrow_128 rfl (lv_at hl 0 rfl) ?_
            refine lv_iload hx hb dX1_sumNarrow_129 (lv_at hl 6 rfl) ?_
            refine lv_iconst (v := 4) hx hb dX1_sumNarrow_131 (by decide) ?_
            refine q_V (As := [.int (nI (na_p a b + 4 * (j))), .int (4)]) (rest := [.int (na_w4 f (na_p a b) (na_h0 f a b sd + nI (b - a)) (j))]) ⟨hx, hb, hml, hown, hts⟩ (c_M_number l dC dI h0 a0 cB n ns wd f (na_p a b + 4 * j) (4) (by omega)) (cwV 2 hts gX1_sumNarrow_X1_number rfl rfl rfl (by decide +kernel) ⟨Nat.le_of_ble_eq_true rfl, Nat.le_of_ble_eq_true rfl⟩) (mw_pre hP hK _) rfl hl.1 rfl (Nat.le_of_ble_eq_true rfl) dX1_sumNarrow_132 ⟨Nat.zero_le _, Nat.zero_le _⟩ ?_
            refine lv_l2i (v := ((wo_n f (na_p a b + 4 * j) 4)).toInt32) hx hb dX1_sumNarrow_135 rfl ?_
            refine q_ti (y := wo_4 f (na_p a b + 4 * j)) (wo_n4i _ _) ?_
            refine lv_ldc (v := -1028477379) hx hb hown (hts (.constant RX1 46 (-1028477379)) (wsM_self _ (wsM_nin (by decide +kernel)))) dX1_sumNarrow_136 ?_
            refine lv_imul hx hb dX1_sumNarrow_138 ?_
            refine lv_iadd hx hb dX1_sumNarrow_139 ?_
            refine lv_bipush (v := 17) hx hb dX1_sumNarrow_140 (by decide) ?_
            refine q_S (As := [.int ((na_w4 f (na_p a b) (na_h0 f a b sd + nI (b - a)) (j) + (wo_4 f (na_p a b + 4 * j) * (-1028477379)))), .int (17)]) (rest := []) ⟨hx, hb, hml, hown, hts⟩ (c_M_rotated l ((na_w4 f (na_p a b) (na_h0 f a b sd + nI (b - a)) (j) + (wo_4 f (na_p a b + 4 * j) * (-1028477379)))) (17)) (va_cwS 2 hts gX1_sumNarrow_X1_rotated rfl rfl rfl (by decide +kernel) ⟨Nat.le_of_ble_eq_true rfl, Nat.le_of_ble_eq_true rfl⟩) rfl hl.1 rfl (Nat.le_of_ble_eq_true rfl) dX1_sumNarrow_142 ⟨Nat.zero_le _, Nat.zero_le _⟩ ?_
            refine lv_ldc (v := 668265263) hx hb hown (hts (.constant RX1 47 (668265263)) (wsM_self _ (wsM_nin (by decide +kernel)))) dX1_sumNarrow_145 ?_
            refine lv_imul hx hb dX1_sumNarrow_147 ?_
            refine q_ti (y := na_w4 f (na_p a b) (na_h0 f a b sd + nI (b - a)) (j + 1)) (rfl) ?_
            refine lv_istore (lv' := [(5, .int (na_w4 f (na_p a b) (na_h0 f a b sd + nI (b - a)) (j + 1))), (0, .ref h0), (1, .int (nI a)), (2, .int (nI b)), (3, .int (sd)), (4, .int (nI (b - a))), (6, .int (nI (na_p a b + 4 * (j)))), (7, .int (nI (j)))]) hx hb dX1_sumNarrow_148 hl (by decide) rfl (fun ls hl => ?_)
            refine lv_iinc (v := nI (na_p a b + 4 * (j + 1))) (lv' := [(6, .int (nI (na_p a b + 4 * (j + 1)))), (5, .int (na_w4 f (na_p a b) (na_h0 f a b sd + nI (b - a)) (j + 1))), (0, .ref h0), (1, .int (nI a)), (2, .int (nI b)), (3, .int (sd)), (4, .int (nI (b - a))), (7, .int (nI (j)))]) hx hb dX1_sumNarrow_150 hl (k := 6) rfl (by rw [show na_p a b + 4 * (j + 1) = na_p a b + 4 * j + 4 by omega]; exact nI_add _ 4) (by decide) rfl (fun ls hl => ?_)
            refine lv_iinc (v := nI (j + 1)) (lv' := [(7, .int (nI (j + 1))), (6, .int (nI (na_p a b + 4 * (j + 1)))), (5, .int (na_w4 f (na_p a b) (na_h0 f a b sd + nI (b - a)) (j + 1))), (0, .ref h0), (1, .int (nI a)), (2, .int (nI b)), (3, .int (sd)), (4, .int (nI (b - a)))]) hx hb dX1_sumNarrow_153 hl (k := 7) rfl (nI_add j 1) (by decide) rfl (fun ls hl => ?_)
            refine lv_goto (tgt := 112) hx hb dX1_sumNarrow_156 (by decide) ?_
            exact ih (j + 1) (by omega) ls (lv_sub hl [3, 4, 5, 6, 7, 2, 1, 0] rfl)
    exact L112 (na_c a b) 0 (by omega) ls (lv_sub hl [2, 3, 4, 5, 6, 1, 7, 0] rfl)
  refine lv_iload hx hb dX1_sumNarrow_14 (lv_at hl 2 rfl) ?_
  refine lv_bipush (v := 16) hx hb dX1_sumNarrow_16 (by decide) ?_
  refine lv_icmp_lt (tgt := 102) hx hb dX1_sumNarrow_18 (by decide) (fun c_18 => ?_) (fun c_18 => ?_)
  · have hsm : b - a < 16 := (nI_ltI (b := 16) (by omega) (by omega)).mp c_18
    have hl : lv_has ls 8 [(6, .int (nI a)), (5, .int (na_h0 f a b sd)), (4, .int (nI (b - a))), (0, .ref h0), (1, .int (nI a)), (2, .int (nI b)), (3, .int (sd))] := q_lv hl (congrArg (fun z => ([(6, .int (nI a)), (5, Value.int z), (4, .int (nI (b - a))), (0, .ref h0), (1, .int (nI a)), (2, .int (nI b)), (3, .int (sd))] : List (Nat × Value))) (show ((sd + 374761393) : Int32) = na_h0 f a b sd from by unfold na_h0; rw [if_neg (by omega)]))
    have hl : lv_has ls 8 [(6, .int (nI (na_p a b))), (5, .int (na_h0 f a b sd)), (4, .int (nI (b - a))), (0, .ref h0), (1, .int (nI a)), (2, .int (nI b)), (3, .int (sd))] := q_lv hl (congrArg (fun z => ([(6, Value.int z), (5, .int (na_h0 f a b sd)), (4, .int (nI (b - a))), (0, .ref h0), (1, .int (nI a)), (2, .int (nI b)), (3, .int (sd))] : List (Nat × Value))) (show (nI a : Int32) = nI (na_p a b) from congrArg nI (by unfold na_p; omega)))
    exact J102 ls (lv_sub hl [3, 4, 5, 6, 2, 1, 0] rfl)
  · have hsm : ¬ b - a < 16 := fun q => c_18 (nI_lt (b := 16) q (by omega))
    refine lv_aload_n hx hb dX1_sumNarrow_21 rfl (lv_at hl 3 rfl) ?_
    refine lv_iload_n hx hb dX1_sumNarrow_22 rfl (lv_at hl 6 rfl) ?_
    refine lv_ldc (v := -1640531535) hx hb hown (hts (.constant RX1 40 (-1640531535)) (wsM_self _ (wsM_nin (by decide +kernel)))) dX1_sumNarrow_23 ?_
    refine lv_iadd hx hb dX1_sumNarrow_25 ?_
    refine lv_ldc (v := -2048144777) hx hb hown (hts (.constant RX1 35 (-2048144777)) (wsM_self _ (wsM_nin (by decide +kernel)))) dX1_sumNarrow_26 ?_
    refine lv_iadd hx hb dX1_sumNarrow_28 ?_
    refine lv_iload_n hx hb dX1_sumNarrow_29 rfl (lv_at hl 4 rfl) ?_
    refine lv_iload_n hx hb dX1_sumNarrow_30 rfl (lv_at hl 5 rfl) ?_
    refine lv_iconst (v := 0) hx hb dX1_sumNarrow_31 (by decide) ?_
    refine q_V (As := [.int (((sd + (-1640531535)) + (-2048144777))), .int (nI a), .int (nI b), .int (0)]) (rest := []) ⟨hx, hb, hml, hown, hts⟩ (c_M_lane l dC dI h0 a0 cB n ns wd f (sd + (-1640531535) + (-2048144777)) (a) (b) (0) (by omega) (by omega) (by omega)) (cwV 4 hts gX1_sumNarrow_X1_lane rfl rfl rfl (by decide +kernel) ⟨Nat.le_of_ble_eq_true rfl, Nat.le_of_ble_eq_true rfl⟩) (mw_pre hP hK _) rfl hl.1 rfl (Nat.le_of_ble_eq_true rfl) dX1_sumNarrow_32 ⟨Nat.zero_le _, Nat.zero_le _⟩ ?_
    refine lv_iconst (v := 1) hx hb dX1_sumNarrow_35 (by decide) ?_
    refine q_S (As := [.int ((na_fo f a 0 (sd + (-1640531535) + (-2048144777)) ((b - a) / 16))), .int (1)]) (rest := []) ⟨hx, hb, hml, hown, hts⟩ (c_M_rotated l ((na_fo f a 0 (sd + (-1640531535) + (-2048144777)) ((b - a) / 16))) (1)) (va_cwS 2 hts gX1_sumNarrow_X1_rotated rfl rfl rfl (by decide +kernel) ⟨Nat.le_of_ble_eq_true rfl, Nat.le_of_ble_eq_true rfl⟩) rfl hl.1 rfl (Nat.le_of_ble_eq_true rfl) dX1_sumNarrow_36 ⟨Nat.zero_le _, Nat.zero_le _⟩ ?_
    refine lv_aload_n hx hb dX1_sumNarrow_39 rfl (lv_at hl 3 rfl) ?_
    refine lv_iload_n hx hb dX1_sumNarrow_40 rfl (lv_at hl 6 rfl) ?_
    refine lv_ldc (v := -2048144777) hx hb hown (hts (.constant RX1 35 (-2048144777)) (wsM_self _ (wsM_nin (by decide +kernel)))) dX1_sumNarrow_41 ?_
    refine lv_iadd hx hb dX1_sumNarrow_43 ?_
    refine lv_iload_n hx hb dX1_sumNarrow_44 rfl (lv_at hl 4 rfl) ?_
    refine lv_iload_n hx hb dX1_sumNarrow_45 rfl (lv_at hl 5 rfl) ?_
    refine lv_iconst (v := 1) hx hb dX1_sumNarrow_46 (by decide) ?_
    refine q_V (As := [.int ((sd + (-2048144777))), .int (nI a), .int (nI b), .int (1)]) (rest := [.int ((na_rt ((na_fo f a 0 (sd + (-1640531535) + (-2048144777)) ((b - a) / 16))) 1))]) ⟨hx, hb, hml, hown, hts⟩ (c_M_lane l dC dI h0 a0 cB n ns wd f (sd + (-2048144777)) (a) (b) (1) (by omega) (by omega) (by omega)) (cwV 4 hts gX1_sumNarrow_X1_lane rfl rfl rfl (by decide +kernel) ⟨Nat.le_of_ble_eq_true rfl, Nat.le_of_ble_eq_true rfl⟩) (mw_pre hP hK _) rfl hl.1 rfl (Nat.le_of_ble_eq_true rfl) dX1_sumNarrow_47 ⟨Nat.zero_le _, Nat.zero_le _⟩ ?_
    refine lv_bipush (v := 7) hx hb dX1_sumNarrow_50 (by decide) ?_
    refine q_S (As := [.int ((na_fo f a 1 (sd + (-2048144777)) ((b - a) / 16))), .int (7)]) (rest := [.int ((na_rt ((na_fo f a 0 (sd + (-1640531535) + (-2048144777)) ((b - a) / 16))) 1))]) ⟨hx, hb, hml, hown, hts⟩ (c_M_rotated l ((na_fo f a 1 (sd + (-2048144777)) ((b - a) / 16))) (7)) (va_cwS 2 hts gX1_sumNarrow_X1_rotated rfl rfl rfl (by decide +kernel) ⟨Nat.le_of_ble_eq_true rfl, Nat.le_of_ble_eq_true rfl⟩) rfl hl.1 rfl (Nat.le_of_ble_eq_true rfl) dX1_sumNarrow_52 ⟨Nat.zero_le _, Nat.zero_le _⟩ ?_
    refine lv_iadd hx hb dX1_sumNarrow_55 ?_
    refine lv_istore (lv' := [(5, .int (((na_rt ((na_fo f a 0 (sd + (-1640531535) + (-2048144777)) ((b - a) / 16))) 1) + (na_rt ((na_fo f a 1 (sd + (-2048144777)) ((b - a) / 16))) 7)))), (6, .int (nI a)), (4, .int (nI (b - a))), (0, .ref h0), (1, .int (nI a)), (2, .int (nI b)), (3, .int (sd))]) hx hb dX1_sumNarrow_56 hl (by decide) rfl (fun ls hl => ?_)
    refine lv_iload hx hb dX1_sumNarrow_58 (lv_at hl 0 rfl) ?_
    refine lv_aload_n hx hb dX1_sumNarrow_60 rfl (lv_at hl 3 rfl) ?_
    refine lv_iload_n hx hb dX1_sumNarrow_61 rfl (lv_at hl 6 rfl) ?_
    refine lv_iload_n hx hb dX1_sumNarrow_62 rfl (lv_at hl 4 rfl) ?_
    refine lv_iload_n hx hb dX1_sumNarrow_63 rfl (lv_at hl 5 rfl) ?_
    refine lv_iconst (v := 2) hx hb dX1_sumNarrow_64 (by decide) ?_
    refine q_V (As := [.int (sd), .int (nI a), .int (nI b), .int (2)]) (rest := [.int (((na_rt ((na_fo f a 0 (sd + (-1640531535) + (-2048144777)) ((b - a) / 16))) 1) + (na_rt ((na_fo f a 1 (sd + (-2048144777)) ((b - a) / 16))) 7)))]) ⟨hx, hb, hml, hown, hts⟩ (c_M_lane l dC dI h0 a0 cB n ns wd f (sd) (a) (b) (2) (by omega) (by omega) (by omega)) (cwV 4 hts gX1_sumNarrow_X1_lane rfl rfl rfl (by decide +kernel) ⟨Nat.le_of_ble_eq_true rfl, Nat.le_of_ble_eq_true rfl⟩) (mw_pre hP hK _) rfl hl.1 rfl (Nat.le_of_ble_eq_true rfl) dX1_sumNarrow_65 ⟨Nat.zero_le _, Nat.zero_le _⟩ ?_
    refine lv_bipush (v := 12) hx hb dX1_sumNarrow_68 (by decide) ?_
    refine q_S (As := [.int ((na_fo f a 2 sd ((b - a) / 16))), .int (12)]) (rest := [.int (((na_rt ((na_fo f a 0 (sd + (-1640531535) + (-2048144777)) ((b - a) / 16))) 1) + (na_rt ((na_fo f a 1 (sd + (-2048144777)) ((b - a) / 16))) 7)))]) ⟨hx, hb, hml, hown, hts⟩ (c_M_rotated l ((na_fo f a 2 sd ((b - a) / 16))) (12)) (va_cwS 2 hts gX1_sumNarrow_X1_rotated rfl rfl rfl (by decide +kernel) ⟨Nat.le_of_ble_eq_true rfl, Nat.le_of_ble_eq_true rfl⟩) rfl hl.1 rfl (Nat.le_of_ble_eq_true rfl) dX1_sumNarrow_70 ⟨Nat.zero_le _, Nat.zero_le _⟩ ?_
    refine lv_aload_n hx hb dX1_sumNarrow_73 rfl (lv_at hl 3 rfl) ?_
    refine lv_iload_n hx hb dX1_sumNarrow_74 rfl (lv_at hl 6 rfl) ?_
    refine lv_ldc (v := -1640531535) hx hb hown (hts (.constant RX1 40 (-1640531535)) (wsM_self _ (wsM_nin (by decide +kernel)))) dX1_sumNarrow_75 ?_
    refine lv_isub hx hb dX1_sumNarrow_77 ?_
    refine lv_iload_n hx hb dX1_sumNarrow_78 rfl (lv_at hl 4 rfl) ?_
    refine lv_iload_n hx hb dX1_sumNarrow_79 rfl (lv_at hl 5 rfl) ?_
    refine lv_iconst (v := 3) hx hb dX1_sumNarrow_80 (by decide) ?_
    refine q_V (As := [.int ((sd - (-1640531535))), .int (nI a), .int (nI b), .int (3)]) (rest := [.int ((na_rt ((na_fo f a 2 sd ((b - a) / 16))) 12)), .int (((na_rt ((na_fo f a 0 (sd + (-1640531535) + (-2048144777)) ((b - a) / 16))) 1) + (na_rt ((na_fo f a 1 (sd + (-2048144777)) ((b - a) / 16))) 7)))]) ⟨hx, hb, hml, hown, hts⟩ (c_M_lane l dC dI h0 a0 cB n ns wd f (sd - (-1640531535)) (a) (b) (3) (by omega) (by omega) (by omega)) (cwV 4 hts gX1_sumNarrow_X1_lane rfl rfl rfl (by decide +kernel) ⟨Nat.le_of_ble_eq_true rfl, Nat.le_of_ble_eq_true rfl⟩) (mw_pre hP hK _) rfl hl.1 rfl (Nat.le_of_ble_eq_true rfl) dX1_sumNarrow_81 ⟨Nat.zero_le _, Nat.zero_le _⟩ ?_
    refine lv_bipush (v := 18) hx hb dX1_sumNarrow_84 (by decide) ?_
    refine q_S (As := [.int ((na_fo f a 3 (sd - (-1640531535)) ((b - a) / 16))), .int (18)]) (rest := [.int ((na_rt ((na_fo f a 2 sd ((b - a) / 16))) 12)), .int (((na_rt ((na_fo f a 0 (sd + (-1640531535) + (-2048144777)) ((b - a) / 16))) 1) + (na_rt ((na_fo f a 1 (sd + (-2048144777)) ((b - a) / 16))) 7)))]) ⟨hx, hb, hml, hown, hts⟩ (c_M_rotated l ((na_fo f a 3 (sd - (-1640531535)) ((b - a) / 16))) (18)) (va_cwS 2 hts gX1_sumNarrow_X1_rotated rfl rfl rfl (by decide +kernel) ⟨Nat.le_of_ble_eq_true rfl, Nat.le_of_ble_eq_true rfl⟩) rfl hl.1 rfl (Nat.le_of_ble_eq_true rfl) dX1_sumNarrow_86 ⟨Nat.zero_le _, Nat.zero_le _⟩ ?_
    refine lv_iadd hx hb dX1_sumNarrow_89 ?_
    refine lv_iadd hx hb dX1_sumNarrow_90 ?_
    refine q_ti (y := na_h0 f a b sd) (by unfold na_h0 na_la; rw [if_pos (by omega)]; exact (Int32.add_assoc _ _ _).symm) ?_
    refine lv_istore (lv' := [(5, .int (na_h0 f a b sd)), (6, .int (nI a)), (4, .int (nI (b - a))), (0, .ref h0), (1, .int (nI a)), (2, .int (nI b)), (3, .int (sd))]) hx hb dX1_sumNarrow_91 hl (by decide) rfl (fun ls hl => ?_)
    refine lv_iload_n hx hb dX1_sumNarrow_93 rfl (lv_at hl 5 rfl) ?_
    refine lv_iload hx hb dX1_sumNarrow_94 (lv_at hl 2 rfl) ?_
    refine lv_bipush (v := 16) hx hb dX1_sumNarrow_96 (by decide) ?_
    refine lv_irem hx hb dX1_sumNarrow_98 (by decide) ?_
    refine q_ti (y := nI ((b - a) % 16)) (pk_rem (d := 16) (by omega) (by omega) (by omega)) ?_
    refine lv_isub hx hb dX1_sumNarrow_99 ?_
    refine q_ti (y := nI (na_p a b)) (pk_sub (by omega)) ?_
    refine lv_istore (lv' := [(6, .int (nI (na_p a b))), (5, .int (na_h0 f a b sd)), (4, .int (nI (b - a))), (0, .ref h0), (1, .int (nI a)), (2, .int (nI b)), (3, .int (sd))]) hx hb dX1_sumNarrow_100 hl (by decide) rfl (fun ls hl => ?_)
    exact J102 ls (lv_sub hl [3, 4, 5, 6, 2, 1, 0] rfl)
set_option maxHeartbeats 4000000 in
set_option maxRecDepth 100000 in
theorem c_M_narrow (l : Launch) (dC : Nat → ClassId) (dI : Nat → Nat → Nat) (h0 a0 : Nat) (cB : ClassId) (n : Nat) (ns : Int32) (wd : Int64) (f : Nat → Int32) (hn : n ≤ 65536) : Met l yX1_narrow wsM_narrow ({ frames := 4, cells := 0, slots := 0, locals := 99 } : Room) (va_Pc [.ref h0] (mW dC dI h0 a0 cB n ns wd f)) (k2_QcV (.int (na_sum f 0 n ns))) 0 0 (fun _ => False) := by
  refine Met.ofW (cc := cX1_narrow) (maxL := 1) (ret := some .int) (by decide) rfl ?_
  intro p e s m args below meth c s₁ B hml hv
  obtain ⟨rfl, hP, hK⟩ := hv
  have hx := B.exec
  have hb := B.bytes
  have hr := B.returns
  have hts := atoms_spec (ws := wsM_narrow) B.pre
  have hown : s.vm.findClass RX1 = some m.cls := findClass_of_methodNamed B.named
  have hlocks := B.notSynchronized
  have hin : ∀ w ∈ u_ws RX1 TX1 4, w ∈ wsM_narrow := fun w h => wsM_self w (wsM_fin w h)
  have hl := lv_entry ([.ref h0]) (n := 1) (Nat.le_of_ble_eq_true rfl)
  rw [lg_entry_eq]
  generalize (lg_sl ([.ref h0]) ++ List.replicate (1 - (lg_sl ([.ref h0])).length) Slot.unset).toArray = ls at hl ⊢
  have hl : lv_has ls 1 [(0, .ref h0)] := hl
  refine lv_aload_n hx hb dX1_narrow_0 rfl (lv_at hl 0 rfl) ?_
  refine lv_iconst (v := 0) hx hb dX1_narrow_1 (by decide) ?_
  refine lv_aload_n hx hb dX1_narrow_2 rfl (lv_at hl 0 rfl) ?_
  refine va_get (D := (dC, dI)) (ci := 1) (v := .int (nI n)) (C := RX1) (T := TX1) (N := 4) hx hb hts hin hown hK hP 0 rfl rfl 1 (by decide) (hts (.fieldLink RX1 14 "StreamSumsModel" "length" "I") (wsM_self _ (wsM_nin (by decide +kernel)))) (fun _ h9 => h9) rfl dX1_narrow_3 ?_
  refine lv_aload_n hx hb dX1_narrow_6 rfl (lv_at hl 0 rfl) ?_
  refine va_get (D := (dC, dI)) (ci := 1) (v := .int (ns)) (C := RX1) (T := TX1) (N := 4) hx hb hts hin hown hK hP 0 rfl rfl 2 (by decide) (hts (.fieldLink RX1 18 "StreamSumsModel" "seedNarrow" "I") (wsM_self _ (wsM_nin (by decide +kernel)))) (fun _ h9 => h9) rfl dX1_narrow_7 ?_
  refine q_V (As := [.int (0), .int (nI n), .int (ns)]) (rest := []) ⟨hx, hb, hml, hown, hts⟩ (c_M_sumNarrow l dC dI h0 a0 cB n ns wd f (0) (n) (ns) (by omega) (by omega)) (cwV 3 hts gX1_narrow_X1_sumNarrow rfl rfl rfl (by decide +kernel) ⟨Nat.le_of_ble_eq_true rfl, Nat.le_of_ble_eq_true rfl⟩) (mw_pre hP hK _) rfl hl.1 rfl (Nat.le_of_ble_eq_true rfl) dX1_narrow_10 ⟨Nat.zero_le _, Nat.zero_le _⟩ ?_
  exact W.iret (v := (na_sum f 0 n ns)) hx hb hr (fun t ht _ => ⟨congrArg (fun z => Outcome.returned (some (Value.int z))) (rfl), ht⟩) (fun _ h => by cases h) dX1_narrow_13
set_option maxHeartbeats 4000000 in
set_option maxRecDepth 100000 in
theorem c_M_narrowOf (l : Launch) (dC : Nat → ClassId) (dI : Nat → Nat → Nat) (h0 a0 : Nat) (cB : ClassId) (n : Nat) (ns : Int32) (wd : Int64) (f : Nat → Int32) (x : Int32) (y : Int32) (sd : Int32) (hn : n ≤ 65536) : Met l yX1_narrowOf wsM_narrowOf ({ frames := 4, cells := 0, slots := 0, locals := 99 } : Room) (va_Pc [.ref h0, .int x, .int y, .int sd] (mW dC dI h0 a0 cB n ns wd f)) (k2_QcV (.int (an_na n f x y sd))) 0 0 (fun _ => False) := by
  refine Met.ofW (cc := cX1_narrowOf) (maxL := 4) (ret := some .int) (by decide) rfl ?_
  intro p e s m args below meth c s₁ B hml hv
  obtain ⟨rfl, hP, hK⟩ := hv
  have hx := B.exec
  have hb := B.bytes
  have hr := B.returns
  have hts := atoms_spec (ws := wsM_narrowOf) B.pre
  have hown : s.vm.findClass RX1 = some m.cls := findClass_of_methodNamed B.named
  have hlocks := B.notSynchronized
  have hl := lv_entry ([.ref h0, .int x, .int y, .int sd]) (n := 4) (Nat.le_of_ble_eq_true rfl)
  rw [lg_entry_eq]
  generalize (lg_sl ([.ref h0, .int x, .int y, .int sd]) ++ List.replicate (4 - (lg_sl ([.ref h0, .int x, .int y, .int sd])).length) Slot.unset).toArray = ls at hl ⊢
  have hl : lv_has ls 4 [(0, .ref h0), (1, .int (x)), (2, .int (y)), (3, .int (sd))] := hl
  refine lv_aload_n hx hb dX1_narrowOf_0 rfl (lv_at hl 0 rfl) ?_
  refine lv_iload_n hx hb dX1_narrowOf_1 rfl (lv_at hl 1 rfl) ?_
  refine lv_iload_n hx hb dX1_narrowOf_2 rfl (lv_at hl 2 rfl) ?_
  refine q_V (As := [.int (x), .int (y)]) (rest := []) ⟨hx, hb, hml, hown, hts⟩ (c_M_isPart l dC dI h0 a0 cB n ns wd f (x) (y)) (cwV 2 hts gX1_narrowOf_X1_isPart rfl rfl rfl (by decide +kernel) ⟨Nat.le_of_ble_eq_true rfl, Nat.le_of_ble_eq_true rfl⟩) (mw_pre hP hK _) rfl hl.1 rfl (Nat.le_of_ble_eq_true rfl) dX1_narrowOf_3 ⟨Nat.zero_le _, Nat.zero_le _⟩ ?_
  refine lv_if_eq (tgt := 19) hx hb dX1_narrowOf_6 (by decide) (fun c_6 => ?_) (fun c_6 => ?_)
  · refine lv_aload_n hx hb dX1_narrowOf_19 rfl (lv_at hl 0 rfl) ?_
    refine lv_iconst (v := 0) hx hb dX1_narrowOf_20 (by decide) ?_
    refine lv_iconst (v := 0) hx hb dX1_narrowOf_21 (by decide) ?_
    refine lv_iload_n hx hb dX1_narrowOf_22 rfl (lv_at hl 3 rfl) ?_
    refine q_V (As := [.int (0), .int (0), .int (sd)]) (rest := []) ⟨hx, hb, hml, hown, hts⟩ (c_M_sumNarrow l dC dI h0 a0 cB n ns wd f (0) (0) (sd) (by omega) (by omega)) (cwV 3 hts gX1_narrowOf_X1_sumNarrow rfl rfl rfl (by decide +kernel) ⟨Nat.le_of_ble_eq_true rfl, Nat.le_of_ble_eq_true rfl⟩) (mw_pre hP hK _) rfl hl.1 rfl (Nat.le_of_ble_eq_true rfl) dX1_narrowOf_23 ⟨Nat.zero_le _, Nat.zero_le _⟩ ?_
    exact W.iret (v := (na_sum f 0 0 sd)) hx hb hr (fun t ht _ => ⟨congrArg (fun z => Outcome.returned (some (Value.int z))) (by unfold an_na; rw [if_pos c_6]), ht⟩) (fun _ h => by cases h) dX1_narrowOf_26
  · obtain ⟨a, b, hxa, hyb, hab, hbn⟩ := pt_some hn c_6
    refine lv_aload_n hx hb dX1_narrowOf_9 rfl (lv_at hl 0 rfl) ?_
    refine lv_iload_n hx hb dX1_narrowOf_10 rfl (lv_at hl 1 rfl) ?_
    refine q_ti (y := nI a) (hxa) ?_
    refine lv_iload_n hx hb dX1_narrowOf_11 rfl (lv_at hl 2 rfl) ?_
    refine q_ti (y := nI b) (hyb) ?_
    refine lv_iload_n hx hb dX1_narrowOf_12 rfl (lv_at hl 3 rfl) ?_
    refine q_V (As := [.int (nI a), .int (nI b), .int (sd)]) (rest := []) ⟨hx, hb, hml, hown, hts⟩ (c_M_sumNarrow l dC dI h0 a0 cB n ns wd f (a) (b) (sd) (by omega) (by omega)) (cwV 3 hts gX1_narrowOf_X1_sumNarrow rfl rfl rfl (by decide +kernel) ⟨Nat.le_of_ble_eq_true rfl, Nat.le_of_ble_eq_true rfl⟩) (mw_pre hP hK _) rfl hl.1 rfl (Nat.le_of_ble_eq_true rfl) dX1_narrowOf_13 ⟨Nat.zero_le _, Nat.zero_le _⟩ ?_
    refine lv_goto (tgt := 26) hx hb dX1_narrowOf_16 (by decide) ?_
    exact W.iret (v := (na_sum f a b sd)) hx hb hr (fun t ht _ => ⟨congrArg (fun z => Outcome.returned (some (Value.int z))) (by unfold an_na; rw [if_neg c_6, hxa, hyb, nI_clamp (by omega), nI_clamp (by omega)]), ht⟩) (fun _ h => by cases h) dX1_narrowOf_26
end
section
set_option maxHeartbeats 4000000 in
set_option maxRecDepth 100000 in
theorem c_M_wideLane (l : Launch) (dC : Nat → ClassId) (dI : Nat → Nat → Nat) (h0 a0 : Nat) (cB : ClassId) (n : Nat) (ns : Int32) (wd : Int64) (f : Nat → Int32) (sd : Int64) (a : Nat) (b : Nat) (q : Nat) (hab : a ≤ b) (hb6 : b ≤ 65536) (hq : q ≤ 3) : Met l yX1_wideLane wsM_wideLane ({ frames := 2, cells := 0, slots := 0, locals := 46 } : Room) (va_Pc [.ref h0, .long sd, .int (nI a), .int (nI b), .int (nI q)] (mW dC dI h0 a0 cB n ns wd f)) (k2_QcV (.long (wi_fo f a q sd ((b - a) / 32)))) 0 0 (fun _ => False) := by
  refine Met.ofW (cc := cX1_wideLane) (maxL := 9) (ret := some .long) (by decide) rfl ?_
  intro p e s m args below meth c s₁ B hml hv
  obtain ⟨rfl, hP, hK⟩ := hv
  have hx := B.exec
  have hb := B.bytes
  have hr := B.returns
  have hts := atoms_spec (ws := wsM_wideLane) B.pre
  have hown : s.vm.findClass RX1 = some m.cls := findClass_of_methodNamed B.named
  have hlocks := B.notSynchronized
  have hl := lv_entry ([.ref h0, .long sd, .int (nI a), .int (nI b), .int (nI q)]) (n := 9) (Nat.le_of_ble_eq_true rfl)
  rw [lg_entry_eq]
  generalize (lg_sl ([.ref h0, .long sd, .int (nI a), .int (nI b), .int (nI q)]) ++ List.replicate (9 - (lg_sl ([.ref h0, .long sd, .int (nI a), .int (nI b), .int (nI q)])).length) Slot.unset).toArray = ls at hl ⊢
  have hl : lv_has ls 9 [(0, .ref h0), (1, .long (sd)), (3, .int (nI a)), (4, .int (nI b)), (5, .int (nI q))] := hl
  refine lv_lload_n hx hb dX1_wideLane_0 rfl (lv_at hl 1 rfl) ?_
  refine lv_lstore (lv' := [(6, .long (sd)), (0, .ref h0), (1, .long (sd)), (3, .int (nI a)), (4, .int (nI b)), (5, .int (nI q))]) hx hb dX1_wideLane_1 hl (by decide) rfl (fun ls hl => ?_)
  refine lv_iload_n hx hb dX1_wideLane_3 rfl (lv_at hl 3 rfl) ?_
  refine lv_istore (lv' := [(8, .int (nI a)), (6, .long (sd)), (0, .ref h0), (1, .long (sd)), (3, .int (nI a)), (4, .int (nI b)), (5, .int (nI q))]) hx hb dX1_wideLane_4 hl (by decide) rfl (fun ls hl => ?_)
  have L6 : ∀ (d j : Nat), j + d = (b - a) / 32 → ∀ ls : Array Slot, lv_has ls 9 [(0, .ref h0), (1, .long (sd)), (3, .int (nI a)), (4, .int (nI b)), (5, .int (nI q)), (6, .long (wi_fo f a q sd (j))), (8, .int (nI (a + 32 * (j))))] → W p l e (headSpec wsM_wideLane ({ frames := 2, cells := 0, slots := 0, locals := 46 } : Room)).room s m [Value.ref h0, .long sd, .int (nI a), .int (nI b), .int (nI q)].toArray below meth c s.heap [] 0 0 (MQ below (k2_QcV (.long (wi_fo f a q sd ((b - a) / 32)))) [Value.ref h0, .long sd, .int (nI a), .int (nI b), .int (nI q)].toArray s 0 0 (fun _ => False)) (F0 m 6 ls []) := by
    intro d
    induction d with
    | zero =>
      intro j hj ls hl
      obtain rfl : (b - a) / 32 = j := by omega
      refine lv_iload hx hb dX1_wideLane_6 (lv_at hl 3 rfl) ?_
      refine lv_iload hx hb dX1_wideLane_8 (lv_at hl 6 rfl) ?_
      refine lv_isub hx hb dX1_wideLane_10 ?_
      refine q_ti (y := nI (b - (a + 32 * ((b - a) / 32)))) (pk_sub (by omega)) ?_
      refine lv_bipush (v := 32) hx hb dX1_wideLane_11 (by decide) ?_
      refine lv_icmp_lt (tgt := 54) hx hb dX1_wideLane_13 (by decide) (fun c_13 => ?_) (fun c_13 => ?_)
      · refine lv_lload hx hb dX1_wideLane_54 (lv_at hl 5 rfl) ?_
        exact W.lret (v := wi_fo f a q sd (((b - a) / 32))) hx hb hr (fun t ht _ => ⟨congrArg (fun z => Outcome.returned (some (Value.long z))) (rfl), ht⟩) (fun _ h => by cases h) dX1_wideLane_56
      · exact absurd (nI_lt (b := 32) (by omega) (by omega)) c_13
    | succ d ih =>
      intro j hj ls hl
      have hjl : j < (b - a) / 32 := by omega
      refine lv_iload hx hb dX1_wideLane_6 (lv_at hl 3 rfl) ?_
      refine lv_iload hx hb dX1_wideLane_8 (lv_at hl 6 rfl) ?_
      refine lv_isub hx hb dX1_wideLane_10 ?_
      refine q_ti (y := nI (b - (a + 32 * j))) (pk_sub (by omega)) ?_
      refine lv_bipush (v := 32) hx hb dX1_wideLane_11 (by decide) ?_
      refine lv_icmp_lt (tgt := 54) hx hb dX1_wideLane_13 (by decide) (fun c_13 => ?_) (fun c_13 => ?_)
      · exact absurd c_13 (nI_nlt (b := 32) (by omega) (by omega))
      · refine lv_lload hx hb dX1_wideLane_16 (lv_at hl 5 rfl) ?_
        refine lv_aload_n hx hb dX1_wideLane_18 rfl (lv_at hl 0 rfl) ?_
        refine lv_iload hx hb dX1_wideLane_19 (lv_at hl 6 rfl) ?_
        refine lv_bipush (v := 8) hx hb dX1_wideLane_21 (by decide) ?_
        refine lv_iload hx hb dX1_wideLane_23 (lv_at hl 4 rfl) ?_
        refine lv_imul hx hb dX1_wideLane_25 ?_
        refine q_ti (y := nI (8 * q)) (pk_mul 8 q) ?_
        refine lv_iadd hx hb dX1_wideLane_26 ?_
        refine q_ti (y := nI (a + 32 * j + 8 * q)) (nI_add _ _) ?_
        refine lv_bipush (v := 8) hx hb dX1_wideLane_27 (by decide) ?_
        refine q_V (As := [.int (nI (a + 32 * j + 8 * q)), .int (8)]) (rest := [.long (wi_fo f a q sd (j))]) ⟨hx, hb, hml, hown, hts⟩ (c_M_number l dC dI h0 a0 cB n ns wd f (a + 32 * j + 8 * q) (8) (by omega)) (cwV 2 hts gX1_wideLane_X1_number rfl rfl rfl (by decide +kernel) ⟨Nat.le_of_ble_eq_true rfl, Nat.le_of_ble_eq_true rfl⟩) (mw_pre hP hK _) rfl hl.1 rfl (Nat.le_of_ble_eq_true rfl) dX1_wideLane_29 ⟨Nat.zero_le _, Nat.zero_le _⟩ ?_
        refine q_tl (y := wo_8 f (a + 32 * j + 8 * q)) (wo_n8 _ _) ?_
        refine lv_ldc2 (v := -4417276706812531889) hx hb hown (hts (.constantLong RX1 56 (-4417276706812531889)) (wsM_self _ (wsM_nin (by decide +kernel)))) dX1_wideLane_32 ?_
        refine lv_lmul hx hb dX1_wideLane_35 ?_
        refine lv_ladd hx hb dX1_wideLane_36 ?_
        refine lv_bipush (v := 31) hx hb dX1_wideLane_37 (by decide) ?_
        refine q_S (As := [.long ((wi_fo f a q sd (j) + (wo_8 f (a + 32 * j + 8 * q) * (-4417276706812531889)))), .int (31)]) (rest := []) ⟨hx, hb, hml, hown, hts⟩ (c_M_turned l ((wi_fo f a q sd (j) + (wo_8 f (a + 32 * j + 8 * q) * (-4417276706812531889)))) (31)) (va_cwS 2 hts gX1_wideLane_X1_turned rfl rfl rfl (by decide +kernel) ⟨Nat.le_of_ble_eq_true rfl, Nat.le_of_ble_eq_true rfl⟩) rfl hl.1 rfl (Nat.le_of_ble_eq_true rfl) dX1_wideLane_39 ⟨Nat.zero_le _, Nat.zero_le _⟩ ?_
        refine lv_ldc2 (v := -7046029288634856825) hx hb hown (hts (.constantLong RX1 62 (-7046029288634856825)) (wsM_self _ (wsM_nin (by decide +kernel)))) dX1_wideLane_42 ?_
        refine lv_lmul hx hb dX1_wideLane_45 ?_
        refine q_tl (y := wi_fo f a q sd (j + 1)) (rfl) ?_
        refine lv_lstore (lv' := [(6, .long (wi_fo f a q sd (j + 1))), (0, .ref h0), (1, .long (sd)), (3, .int (nI a)), (4, .int (nI b)), (5, .int (nI q)), (8, .int (nI (a + 32 * (j))))]) hx hb dX1_wideLane_46 hl (by decide) rfl (fun ls hl => ?_)
        refine lv_iinc (v := nI (a + 32 * (j + 1))) (lv' := [(8, .int (nI (a + 32 * (j + 1)))), (6, .long (wi_fo f a q sd (j + 1))), (0, .ref h0), (1, .long (sd)), (3, .int (nI a)), (4, .int (nI b)), (5, .int (nI q))]) hx hb dX1_wideLane_48 hl (k := 6) rfl (by rw [show a + 32 * (j + 1) = a + 32 * j + 32 by omega]; exact nI_add _ 32) (by decide) rfl (fun ls hl => ?_)
        refine lv_goto (tgt := 6) hx hb dX1_wideLane_51 (by decide) ?_
        exact ih (j + 1) (by omega) ls (lv_sub hl [2, 3, 4, 5, 6, 1, 0] rfl)
  exact L6 ((b - a) / 32) 0 (by omega) ls (lv_sub hl [2, 3, 4, 5, 6, 1, 0] rfl)
set_option maxHeartbeats 4000000 in
set_option maxRecDepth 100000 in
theorem c_M_ofLanes (l : Launch) (dC : Nat → ClassId) (dI : Nat → Nat → Nat) (h0 a0 : Nat) (cB : ClassId) (n : Nat) (ns : Int32) (wd : Int64) (f : Nat → Int32) (a : Nat) (b : Nat) (sd : Int64) (hab : a ≤ b) (hb6 : b ≤ 65536) : Met l yX1_ofLanes wsM_ofLanes ({ frames := 3, cells := 0, slots := 0, locals := 74 } : Room) (va_Pc [.ref h0, .int (nI a), .int (nI b), .long sd] (mW dC dI h0 a0 cB n ns wd f)) (k2_QcV (.long (wi_la f a b sd))) 0 0 (fun _ => False) := by
  refine Met.ofW (cc := cX1_ofLanes) (maxL := 15) (ret := some .long) (by decide) rfl ?_
  intro p e s m args below meth c s₁ B hml hv
  obtain ⟨rfl, hP, hK⟩ := hv
  have hx := B.exec
  have hb := B.bytes
  have hr := B.returns
  have hts := atoms_spec (ws := wsM_ofLanes) B.pre
  have hown : s.vm.findClass RX1 = some m.cls := findClass_of_methodNamed B.named
  have hlocks := B.notSynchronized
  have hl := lv_entry ([.ref h0, .int (nI a), .int (nI b), .long sd]) (n := 15) (Nat.le_of_ble_eq_true rfl)
  rw [lg_entry_eq]
  generalize (lg_sl ([.ref h0, .int (nI a), .int (nI b), .long sd]) ++ List.replicate (15 - (lg_sl ([.ref h0, .int (nI a), .int (nI b), .long sd])).length) Slot.unset).toArray = ls at hl ⊢
  have hl : lv_has ls 15 [(0, .ref h0), (1, .int (nI a)), (2, .int (nI b)), (3, .long (sd))] := hl
  refine lv_aload_n hx hb dX1_ofLanes_0 rfl (lv_at hl 0 rfl) ?_
  refine lv_lload_n hx hb dX1_ofLanes_1 rfl (lv_at hl 3 rfl) ?_
  refine lv_ldc2 (v := -7046029288634856825) hx hb hown (hts (.constantLong RX1 62 (-7046029288634856825)) (wsM_self _ (wsM_nin (by decide +kernel)))) dX1_ofLanes_2 ?_
  refine lv_ladd hx hb dX1_ofLanes_5 ?_
  refine lv_ldc2 (v := -4417276706812531889) hx hb hown (hts (.constantLong RX1 56 (-4417276706812531889)) (wsM_self _ (wsM_nin (by decide +kernel)))) dX1_ofLanes_6 ?_
  refine lv_ladd hx hb dX1_ofLanes_9 ?_
  refine lv_iload_n hx hb dX1_ofLanes_10 rfl (lv_at hl 1 rfl) ?_
  refine lv_iload_n hx hb dX1_ofLanes_11 rfl (lv_at hl 2 rfl) ?_
  refine lv_iconst (v := 0) hx hb dX1_ofLanes_12 (by decide) ?_
  refine q_V (As := [.long (((sd + (-7046029288634856825)) + (-4417276706812531889))), .int (nI a), .int (nI b), .int (0)]) (rest := []) ⟨hx, hb, hml, hown, hts⟩ (c_M_wideLane l dC dI h0 a0 cB n ns wd f (sd + (-7046029288634856825) + (-4417276706812531889)) (a) (b) (0) (by omega) (by omega) (by omega)) (cwV 4 hts gX1_ofLanes_X1_wideLane rfl rfl rfl (by decide +kernel) ⟨Nat.le_of_ble_eq_true rfl, Nat.le_of_ble_eq_true rfl⟩) (mw_pre hP hK _) rfl hl.1 rfl (Nat.le_of_ble_eq_true rfl) dX1_ofLanes_13 ⟨Nat.zero_le _, Nat.zero_le _⟩ ?_
  refine lv_lstore (lv' := [(5, .long ((wi_fo f a 0 (sd + (-7046029288634856825) + (-4417276706812531889)) ((b - a) / 32)))), (0, .ref h0), (1, .int (nI a)), (2, .int (nI b)), (3, .long (sd))]) hx hb dX1_ofLanes_16 hl (by decide) rfl (fun ls hl => ?_)
  refine lv_aload_n hx hb dX1_ofLanes_18 rfl (lv_at hl 1 rfl) ?_
  refine lv_lload_n hx hb dX1_ofLanes_19 rfl (lv_at hl 4 rfl) ?_
  refine lv_ldc2 (v := -4417276706812531889) hx hb hown (hts (.constantLong RX1 56 (-4417276706812531889)) (wsM_self _ (wsM_nin (by decide +kernel)))) dX1_ofLanes_20 ?_
  refine lv_ladd hx hb dX1_ofLanes_23 ?_
  refine lv_iload_n hx hb dX1_ofLanes_24 rfl (lv_at hl 2 rfl) ?_
  refine lv_iload_n hx hb dX1_ofLanes_25 rfl (lv_at hl 3 rfl) ?_
  refine lv_iconst (v := 1) hx hb dX1_ofLanes_26 (by decide) ?_
  refine q_V (As := [.long ((sd + (-4417276706812531889))), .int (nI a), .int (nI b), .int (1)]) (rest := []) ⟨hx, hb, hml, hown, hts⟩ (c_M_wideLane l dC dI h0 a0 cB n ns wd f (sd + (-4417276706812531889)) (a) (b) (1) (by omega) (by omega) (by omega)) (cwV 4 hts gX1_ofLanes_X1_wideLane rfl rfl rfl (by decide +kernel) ⟨Nat.le_of_ble_eq_true rfl, Nat.le_of_ble_eq_true rfl⟩) (mw_pre hP hK _) rfl hl.1 rfl (Nat.le_of_ble_eq_true rfl) dX1_ofLanes_27 ⟨Nat.zero_le _, Nat.zero_le _⟩ ?_
  refine lv_lstore (lv' := [(7, .long ((wi_fo f a 1 (sd + (-4417276706812531889)) ((b - a) / 32)))), (5, .long ((wi_fo f a 0 (sd + (-7046029288634856825) + (-4417276706812531889)) ((b - a) / 32)))), (0, .ref h0), (1, .int (nI a)), (2, .int (nI b)), (3, .long (sd))]) hx hb dX1_ofLanes_30 hl (by decide) rfl (fun ls hl => ?_)
  refine lv_aload_n hx hb dX1_ofLanes_32 rfl (lv_at hl 2 rfl) ?_
  refine lv_lload_n hx hb dX1_ofLanes_33 rfl (lv_at hl 5 rfl) ?_
  refine lv_iload_n hx hb dX1_ofLanes_34 rfl (lv_at hl 3 rfl) ?_
  refine lv_iload_n hx hb dX1_ofLanes_35 rfl (lv_at hl 4 rfl) ?_
  refine lv_iconst (v := 2) hx hb dX1_ofLanes_36 (by decide) ?_
  refine q_V (As := [.long (sd), .int (nI a), .int (nI b), .int (2)]) (rest := []) ⟨hx, hb, hml, hown, hts⟩ (c_M_wideLane l dC dI h0 a0 cB n ns wd f (sd) (a) (b) (2) (by omega) (by omega) (by omega)) (cwV 4 hts gX1_ofLanes_X1_wideLane rfl rfl rfl (by decide +kernel) ⟨Nat.le_of_ble_eq_true rfl, Nat.le_of_ble_eq_true rfl⟩) (mw_pre hP hK _) rfl hl.1 rfl (Nat.le_of_ble_eq_true rfl) dX1_ofLanes_37 ⟨Nat.zero_le _, Nat.zero_le _⟩ ?_
  refine lv_lstore (lv' := [(9, .long ((wi_fo f a 2 sd ((b - a) / 32)))), (7, .long ((wi_fo f a 1 (sd + (-4417276706812531889)) ((b - a) / 32)))), (5, .long ((wi_fo f a 0 (sd + (-7046029288634856825) + (-4417276706812531889)) ((b - a) / 32)))), (0, .ref h0), (1, .int (nI a)), (2, .int (nI b)), (3, .long (sd))]) hx hb dX1_ofLanes_40 hl (by decide) rfl (fun ls hl => ?_)
  refine lv_aload_n hx hb dX1_ofLanes_42 rfl (lv_at hl 3 rfl) ?_
  refine lv_lload_n hx hb dX1_ofLanes_43 rfl (lv_at hl 6 rfl) ?_
  refine lv_ldc2 (v := -7046029288634856825) hx hb hown (hts (.constantLong RX1 62 (-7046029288634856825)) (wsM_self _ (wsM_nin (by decide +kernel)))) dX1_ofLanes_44 ?_
  refine lv_lsub hx hb dX1_ofLanes_47 ?_
  refine lv_iload_n hx hb dX1_ofLanes_48 rfl (lv_at hl 4 rfl) ?_
  refine lv_iload_n hx hb dX1_ofLanes_49 rfl (lv_at hl 5 rfl) ?_
  refine lv_iconst (v := 3) hx hb dX1_ofLanes_50 (by decide) ?_
  refine q_V (As := [.long ((sd - (-7046029288634856825))), .int (nI a), .int (nI b), .int (3)]) (rest := []) ⟨hx, hb, hml, hown, hts⟩ (c_M_wideLane l dC dI h0 a0 cB n ns wd f (sd - (-7046029288634856825)) (a) (b) (3) (by omega) (by omega) (by omega)) (cwV 4 hts gX1_ofLanes_X1_wideLane rfl rfl rfl (by decide +kernel) ⟨Nat.le_of_ble_eq_true rfl, Nat.le_of_ble_eq_true rfl⟩) (mw_pre hP hK _) rfl hl.1 rfl (Nat.le_of_ble_eq_true rfl) dX1_ofLanes_51 ⟨Nat.zero_le _, Nat.zero_le _⟩ ?_
  refine lv_lstore (lv' := [(11, .long ((wi_fo f a 3 (sd - (-7046029288634856825)) ((b - a) / 32)))), (9, .long ((wi_fo f a 2 sd ((b - a) / 32)))), (7, .long ((wi_fo f a 1 (sd + (-4417276706812531889)) ((b - a) / 32)))), (5, .long ((wi_fo f a 0 (sd + (-7046029288634856825) + (-4417276706812531889)) ((b - a) / 32)))), (0, .ref h0), (1, .int (nI a)), (2, .int (nI b)), (3, .long (sd))]) hx hb dX1_ofLanes_54 hl (by decide) rfl (fun ls hl => ?_)
  refine lv_lload hx hb dX1_ofLanes_56 (lv_at hl 3 rfl) ?_
  refine lv_iconst (v := 1) hx hb dX1_ofLanes_58 (by decide) ?_
  refine q_S (As := [.long ((wi_fo f a 0 (sd + (-7046029288634856825) + (-4417276706812531889)) ((b - a) / 32))), .int (1)]) (rest := []) ⟨hx, hb, hml, hown, hts⟩ (c_M_turned l ((wi_fo f a 0 (sd + (-7046029288634856825) + (-4417276706812531889)) ((b - a) / 32))) (1)) (va_cwS 2 hts gX1_ofLanes_X1_turned rfl rfl rfl (by decide +kernel) ⟨Nat.le_of_ble_eq_true rfl, Nat.le_of_ble_eq_true rfl⟩) rfl hl.1 rfl (Nat.le_of_ble_eq_true rfl) dX1_ofLanes_59 ⟨Nat.zero_le _, Nat.zero_le _⟩ ?_
  refine lv_lload hx hb dX1_ofLanes_62 (lv_at hl 2 rfl) ?_
  refine lv_bipush (v := 7) hx hb dX1_ofLanes_64 (by decide) ?_
  refine q_S (As := [.long ((wi_fo f a 1 (sd + (-4417276706812531889)) ((b - a) / 32))), .int (7)]) (rest := [.long ((wi_rt ((wi_fo f a 0 (sd + (-7046029288634856825) + (-4417276706812531889)) ((b - a) / 32))) 1))]) ⟨hx, hb, hml, hown, hts⟩ (c_M_turned l ((wi_fo f a 1 (sd + (-4417276706812531889)) ((b - a) / 32))) (7)) (va_cwS 2 hts gX1_ofLanes_X1_turned rfl rfl rfl (by decide +kernel) ⟨Nat.le_of_ble_eq_true rfl, Nat.le_of_ble_eq_true rfl⟩) rfl hl.1 rfl (Nat.le_of_ble_eq_true rfl) dX1_ofLanes_66 ⟨Nat.zero_le _, Nat.zero_le _⟩ ?_
  refine lv_ladd hx hb dX1_ofLanes_69 ?_
  refine lv_lload hx hb dX1_ofLanes_70 (lv_at hl 1 rfl) ?_
  refine lv_bipush (v := 12) hx hb dX1_ofLanes_72 (by decide) ?_
  refine q_S (As := [.long ((wi_fo f a 2 sd ((b - a) / 32))), .int (12)]) (rest := [.long (((wi_rt ((wi_fo f a 0 (sd + (-7046029288634856825) + (-4417276706812531889)) ((b - a) / 32))) 1) + (wi_rt ((wi_fo f a 1 (sd + (-4417276706812531889)) ((b - a) / 32))) 7)))]) ⟨hx, hb, hml, hown, hts⟩ (c_M_turned l ((wi_fo f a 2 sd ((b - a) / 32))) (12)) (va_cwS 2 hts gX1_ofLanes_X1_turned rfl rfl rfl (by decide +kernel) ⟨Nat.le_of_ble_eq_true rfl, Nat.le_of_ble_eq_true rfl⟩) rfl hl.1 rfl (Nat.le_of_ble_eq_true rfl) dX1_ofLanes_74 ⟨Nat.zero_le _, Nat.zero_le _⟩ ?_
  refine lv_ladd hx hb dX1_ofLanes_77 ?_
  refine lv_lload hx hb dX1_ofLanes_78 (lv_at hl 0 rfl) ?_
  refine lv_bipush (v := 18) hx hb dX1_ofLanes_80 (by decide) ?_
  refine q_S (As := [.long ((wi_fo f a 3 (sd - (-7046029288634856825)) ((b - a) / 32))), .int (18)]) (rest := [.long ((((wi_rt ((wi_fo f a 0 (sd + (-7046029288634856825) + (-4417276706812531889)) ((b - a) / 32))) 1) + (wi_rt ((wi_fo f a 1 (sd + (-4417276706812531889)) ((b - a) / 32))) 7)) + (wi_rt ((wi_fo f a 2 sd ((b - a) / 32))) 12)))]) ⟨hx, hb, hml, hown, hts⟩ (c_M_turned l ((wi_fo f a 3 (sd - (-7046029288634856825)) ((b - a) / 32))) (18)) (va_cwS 2 hts gX1_ofLanes_X1_turned rfl rfl rfl (by decide +kernel) ⟨Nat.le_of_ble_eq_true rfl, Nat.le_of_ble_eq_true rfl⟩) rfl hl.1 rfl (Nat.le_of_ble_eq_true rfl) dX1_ofLanes_82 ⟨Nat.zero_le _, Nat.zero_le _⟩ ?_
  refine lv_ladd hx hb dX1_ofLanes_85 ?_
  refine lv_lstore (lv' := [(13, .long (((((wi_rt ((wi_fo f a 0 (sd + (-7046029288634856825) + (-4417276706812531889)) ((b - a) / 32))) 1) + (wi_rt ((wi_fo f a 1 (sd + (-4417276706812531889)) ((b - a) / 32))) 7)) + (wi_rt ((wi_fo f a 2 sd ((b - a) / 32))) 12)) + (wi_rt ((wi_fo f a 3 (sd - (-7046029288634856825)) ((b - a) / 32))) 18)))), (11, .long ((wi_fo f a 3 (sd - (-7046029288634856825)) ((b - a) / 32)))), (9, .long ((wi_fo f a 2 sd ((b - a) / 32)))), (7, .long ((wi_fo f a 1 (sd + (-4417276706812531889)) ((b - a) / 32)))), (5, .long ((wi_fo f a 0 (sd + (-7046029288634856825) + (-4417276706812531889)) ((b - a) / 32)))), (0, .ref h0), (1, .int (nI a)), (2, .int (nI b)), (3, .long (sd))]) hx hb dX1_ofLanes_86 hl (by decide) rfl (fun ls hl => ?_)
  refine lv_lload hx hb dX1_ofLanes_88 (lv_at hl 0 rfl) ?_
  refine lv_lload hx hb dX1_ofLanes_90 (lv_at hl 4 rfl) ?_
  refine q_S (As := [.long (((((wi_rt ((wi_fo f a 0 (sd + (-7046029288634856825) + (-4417276706812531889)) ((b - a) / 32))) 1) + (wi_rt ((wi_fo f a 1 (sd + (-4417276706812531889)) ((b - a) / 32))) 7)) + (wi_rt ((wi_fo f a 2 sd ((b - a) / 32))) 12)) + (wi_rt ((wi_fo f a 3 (sd - (-7046029288634856825)) ((b - a) / 32))) 18))), .long ((wi_fo f a 0 (sd + (-7046029288634856825) + (-4417276706812531889)) ((b - a) / 32)))]) (rest := []) ⟨hx, hb, hml, hown, hts⟩ (c_M_join l (((((wi_rt ((wi_fo f a 0 (sd + (-7046029288634856825) + (-4417276706812531889)) ((b - a) / 32))) 1) + (wi_rt ((wi_fo f a 1 (sd + (-4417276706812531889)) ((b - a) / 32))) 7)) + (wi_rt ((wi_fo f a 2 sd ((b - a) / 32))) 12)) + (wi_rt ((wi_fo f a 3 (sd - (-7046029288634856825)) ((b - a) / 32))) 18))) ((wi_fo f a 0 (sd + (-7046029288634856825) + (-4417276706812531889)) ((b - a) / 32)))) (va_cwS 2 hts gX1_ofLanes_X1_join rfl rfl rfl (by decide +kernel) ⟨Nat.le_of_ble_eq_true rfl, Nat.le_of_ble_eq_true rfl⟩) rfl hl.1 rfl (Nat.le_of_ble_eq_true rfl) dX1_ofLanes_92 ⟨Nat.zero_le _, Nat.zero_le _⟩ ?_
  refine lv_lstore (lv' := [(13, .long ((wi_wl (((((wi_rt ((wi_fo f a 0 (sd + (-7046029288634856825) + (-4417276706812531889)) ((b - a) / 32))) 1) + (wi_rt ((wi_fo f a 1 (sd + (-4417276706812531889)) ((b - a) / 32))) 7)) + (wi_rt ((wi_fo f a 2 sd ((b - a) / 32))) 12)) + (wi_rt ((wi_fo f a 3 (sd - (-7046029288634856825)) ((b - a) / 32))) 18))) ((wi_fo f a 0 (sd + (-7046029288634856825) + (-4417276706812531889)) ((b - a) / 32)))))), (11, .long ((wi_fo f a 3 (sd - (-7046029288634856825)) ((b - a) / 32)))), (9, .long ((wi_fo f a 2 sd ((b - a) / 32)))), (7, .long ((wi_fo f a 1 (sd + (-4417276706812531889)) ((b - a) / 32)))), (5, .long ((wi_fo f a 0 (sd + (-7046029288634856825) + (-4417276706812531889)) ((b - a) / 32)))), (0, .ref h0), (1, .int (nI a)), (2, .int (nI b)), (3, .long (sd))]) hx hb dX1_ofLanes_95 hl (by decide) rfl (fun ls hl => ?_)
  refine lv_lload hx hb dX1_ofLanes_97 (lv_at hl 0 rfl) ?_
  refine lv_lload hx hb dX1_ofLanes_99 (lv_at hl 3 rfl) ?_
  refine q_S (As := [.long ((wi_wl (((((wi_rt ((wi_fo f a 0 (sd + (-7046029288634856825) + (-4417276706812531889)) ((b - a) / 32))) 1) + (wi_rt ((wi_fo f a 1 (sd + (-4417276706812531889)) ((b - a) / 32))) 7)) + (wi_rt ((wi_fo f a 2 sd ((b - a) / 32))) 12)) + (wi_rt ((wi_fo f a 3 (sd - (-7046029288634856825)) ((b - a) / 32))) 18))) ((wi_fo f a 0 (sd + (-7046029288634856825) + (-4417276706812531889)) ((b - a) / 32))))), .long ((wi_fo f a 1 (sd + (-4417276706812531889)) ((b - a) / 32)))]) (rest := []) ⟨hx, hb, hml, hown, hts⟩ (c_M_join l ((wi_wl (((((wi_rt ((wi_fo f a 0 (sd + (-7046029288634856825) + (-4417276706812531889)) ((b - a) / 32))) 1) + (wi_rt ((wi_fo f a 1 (sd + (-4417276706812531889)) ((b - a) / 32))) 7)) + (wi_rt ((wi_fo f a 2 sd ((b - a) / 32))) 12)) + (wi_rt ((wi_fo f a 3 (sd - (-7046029288634856825)) ((b - a) / 32))) 18))) ((wi_fo f a 0 (sd + (-7046029288634856825) + (-4417276706812531889)) ((b - a) / 32))))) ((wi_fo f a 1 (sd + (-4417276706812531889)) ((b - a) / 32)))) (va_cwS 2 hts gX1_ofLanes_X1_join rfl rfl rfl (by decide +kernel) ⟨Nat.le_of_ble_eq_true rfl, Nat.le_of_ble_eq_true rfl⟩) rfl hl.1 rfl (Nat.le_of_ble_eq_true rfl) dX1_ofLanes_101 ⟨Nat.zero_le _, Nat.zero_le _⟩ ?_
  refine lv_lstore (lv' := [(13, .long ((wi_wl ((wi_wl (((((wi_rt ((wi_fo f a 0 (sd + (-7046029288634856825) + (-4417276706812531889)) ((b - a) / 32))) 1) + (wi_rt ((wi_fo f a 1 (sd + (-4417276706812531889)) ((b - a) / 32))) 7)) + (wi_rt ((wi_fo f a 2 sd ((b - a) / 32))) 12)) + (wi_rt ((wi_fo f a 3 (sd - (-7046029288634856825)) ((b - a) / 32))) 18))) ((wi_fo f a 0 (sd + (-7046029288634856825) + (-4417276706812531889)) ((b - a) / 32))))) ((wi_fo f a 1 (sd + (-4417276706812531889)) ((b - a) / 32)))))), (11, .long ((wi_fo f a 3 (sd - (-7046029288634856825)) ((b - a) / 32)))), (9, .long ((wi_fo f a 2 sd ((b - a) / 32)))), (7, .long ((wi_fo f a 1 (sd + (-4417276706812531889)) ((b - a) / 32)))), (5, .long ((wi_fo f a 0 (sd + (-7046029288634856825) + (-4417276706812531889)) ((b - a) / 32)))), (0, .ref h0), (1, .int (nI a)), (2, .int (nI b)), (3, .long (sd))]) hx hb dX1_ofLanes_104 hl (by decide) rfl (fun ls hl => ?_)
  refine lv_lload hx hb dX1_ofLanes_106 (lv_at hl 0 rfl) ?_
  refine lv_lload hx hb dX1_ofLanes_108 (lv_at hl 2 rfl) ?_
  refine q_S (As := [.long ((wi_wl ((wi_wl (((((wi_rt ((wi_fo f a 0 (sd + (-7046029288634856825) + (-4417276706812531889)) ((b - a) / 32))) 1) + (wi_rt ((wi_fo f a 1 (sd + (-4417276706812531889)) ((b - a) / 32))) 7)) + (wi_rt ((wi_fo f a 2 sd ((b - a) / 32))) 12)) + (wi_rt ((wi_fo f a 3 (sd - (-7046029288634856825)) ((b - a) / 32))) 18))) ((wi_fo f a 0 (sd + (-7046029288634856825) + (-4417276706812531889)) ((b - a) / 32))))) ((wi_fo f a 1 (sd + (-4417276706812531889)) ((b - a) / 32))))), .long ((wi_fo f a 2 sd ((b - a) / 32)))]) (rest := []) ⟨hx, hb, hml, hown, hts⟩ (c_M_join l ((wi_wl ((wi_wl (((((wi_rt ((wi_fo f a 0 (sd + (-7046029288634856825) + (-4417276706812531889)) ((b - a) / 32))) 1) + (wi_rt ((wi_fo f a 1 (sd + (-4417276706812531889)) ((b - a) / 32))) 7)) + (wi_rt ((wi_fo f a 2 sd ((b - a) / 32))) 12)) + (wi_rt ((wi_fo f a 3 (sd - (-7046029288634856825)) ((b - a) / 32))) 18))) ((wi_fo f a 0 (sd + (-7046029288634856825) + (-4417276706812531889)) ((b - a) / 32))))) ((wi_fo f a 1 (sd + (-4417276706812531889)) ((b - a) / 32))))) ((wi_fo f a 2 sd ((b - a) / 32)))) (va_cwS 2 hts gX1_ofLanes_X1_join rfl rfl rfl (by decide +kernel) ⟨Nat.le_of_ble_eq_true rfl, Nat.le_of_ble_eq_true rfl⟩) rfl hl.1 rfl (Nat.le_of_ble_eq_true rfl) dX1_ofLanes_110 ⟨Nat.zero_le _, Nat.zero_le _⟩ ?_
  refine lv_lstore (lv' := [(13, .long ((wi_wl ((wi_wl ((wi_wl (((((wi_rt ((wi_fo f a 0 (sd + (-7046029288634856825) + (-4417276706812531889)) ((b - a) / 32))) 1) + (wi_rt ((wi_fo f a 1 (sd + (-4417276706812531889)) ((b - a) / 32))) 7)) + (wi_rt ((wi_fo f a 2 sd ((b - a) / 32))) 12)) + (wi_rt ((wi_fo f a 3 (sd - (-7046029288634856825)) ((b - a) / 32))) 18))) ((wi_fo f a 0 (sd + (-7046029288634856825) + (-4417276706812531889)) ((b - a) / 32))))) ((wi_fo f a 1 (sd + (-4417276706812531889)) ((b - a) / 32))))) ((wi_fo f a 2 sd ((b - a) / 32)))))), (11, .long ((wi_fo f a 3 (sd - (-7046029288634856825)) ((b - a) / 32)))), (9, .long ((wi_fo f a 2 sd ((b - a) / 32)))), (7, .long ((wi_fo f a 1 (sd + (-4417276706812531889)) ((b - a) / 32)))), (5, .long ((wi_fo f a 0 (sd + (-7046029288634856825) + (-4417276706812531889)) ((b - a) / 32)))), (0, .ref h0), (1, .int (nI a)), (2, .int (nI b)), (3, .long (sd))]) hx hb dX1_ofLanes_113 hl (by decide) rfl (fun ls hl => ?_)
  refine lv_lload hx hb dX1_ofLanes_115 (lv_at hl 0 rfl) ?_
  refine lv_lload hx hb dX1_ofLanes_117 (lv_at hl 1 rfl) ?_
  refine q_S (As := [.long ((wi_wl ((wi_wl ((wi_wl (((((wi_rt ((wi_fo f a 0 (sd + (-7046029288634856825) + (-4417276706812531889)) ((b - a) / 32))) 1) + (wi_rt ((wi_fo f a 1 (sd + (-4417276706812531889)) ((b - a) / 32))) 7)) + (wi_rt ((wi_fo f a 2 sd ((b - a) / 32))) 12)) + (wi_rt ((wi_fo f a 3 (sd - (-7046029288634856825)) ((b - a) / 32))) 18))) ((wi_fo f a 0 (sd + (-7046029288634856825) + (-4417276706812531889)) ((b - a) / 32))))) ((wi_fo f a 1 (sd + (-4417276706812531889)) ((b - a) / 32))))) ((wi_fo f a 2 sd ((b - a) / 32))))), .long ((wi_fo f a 3 (sd - (-7046029288634856825)) ((b - a) / 32)))]) (rest := []) ⟨hx, hb, hml, hown, hts⟩ (c_M_join l ((wi_wl ((wi_wl ((wi_wl (((((wi_rt ((wi_fo f a 0 (sd + (-7046029288634856825) + (-4417276706812531889)) ((b - a) / 32))) 1) + (wi_rt ((wi_fo f a 1 (sd + (-4417276706812531889)) ((b - a) / 32))) 7)) + (wi_rt ((wi_fo f a 2 sd ((b - a) / 32))) 12)) + (wi_rt ((wi_fo f a 3 (sd - (-7046029288634856825)) ((b - a) / 32))) 18))) ((wi_fo f a 0 (sd + (-7046029288634856825) + (-4417276706812531889)) ((b - a) / 32))))) ((wi_fo f a 1 (sd + (-4417276706812531889)) ((b - a) / 32))))) ((wi_fo f a 2 sd ((b - a) / 32))))) ((wi_fo f a 3 (sd - (-7046029288634856825)) ((b - a) / 32)))) (va_cwS 2 hts gX1_ofLanes_X1_join rfl rfl rfl (by decide +kernel) ⟨Nat.le_of_ble_eq_true rfl, Nat.le_of_ble_eq_true rfl⟩) rfl hl.1 rfl (Nat.le_of_ble_eq_true rfl) dX1_ofLanes_119 ⟨Nat.zero_le _, Nat.zero_le _⟩ ?_
  exact W.lret (v := (wi_wl ((wi_wl ((wi_wl ((wi_wl (((((wi_rt ((wi_fo f a 0 (sd + (-7046029288634856825) + (-4417276706812531889)) ((b - a) / 32))) 1) + (wi_rt ((wi_fo f a 1 (sd + (-4417276706812531889)) ((b - a) / 32))) 7)) + (wi_rt ((wi_fo f a 2 sd ((b - a) / 32))) 12)) + (wi_rt ((wi_fo f a 3 (sd - (-7046029288634856825)) ((b - a) / 32))) 18))) ((wi_fo f a 0 (sd + (-7046029288634856825) + (-4417276706812531889)) ((b - a) / 32))))) ((wi_fo f a 1 (sd + (-4417276706812531889)) ((b - a) / 32))))) ((wi_fo f a 2 sd ((b - a) / 32))))) ((wi_fo f a 3 (sd - (-7046029288634856825)) ((b - a) / 32))))) hx hb hr (fun t ht _ => ⟨congrArg (fun z => Outcome.returned (some (Value.long z))) (rfl), ht⟩) (fun _ h => by cases h) dX1_ofLanes_122
set_option maxHeartbeats 4000000 in
set_option maxRecDepth 100000 in
theorem c_M_sumWide (l : Launch) (dC : Nat → ClassId) (dI : Nat → Nat → Nat) (h0 a0 : Nat) (cB : ClassId) (n : Nat) (ns : Int32) (wd : Int64) (f : Nat → Int32) (a : Nat) (b : Nat) (sd : Int64) (hab : a ≤ b) (hb6 : b ≤ 65536) : Met l yX1_sumWide wsM_sumWide ({ frames := 4, cells := 0, slots := 0, locals := 108 } : Room) (va_Pc [.ref h0, .int (nI a), .int (nI b), .long sd] (mW dC dI h0 a0 cB n ns wd f)) (k2_QcV (.long (wi_sum f a b sd))) 0 0 (fun _ => False) := by
  refine Met.ofW (cc := cX1_sumWide) (maxL := 10) (ret := some .long) (by decide) rfl ?_
  intro p e s m args below meth c s₁ B hml hv
  obtain ⟨rfl, hP, hK⟩ := hv
  have hx := B.exec
  have hb := B.bytes
  have hr := B.returns
  have hts := atoms_spec (ws := wsM_sumWide) B.pre
  have hown : s.vm.findClass RX1 = some m.cls := findClass_of_methodNamed B.named
  have hlocks := B.notSynchronized
  have hl := lv_entry ([.ref h0, .int (nI a), .int (nI b), .long sd]) (n := 10) (Nat.le_of_ble_eq_true rfl)
  rw [lg_entry_eq]
  generalize (lg_sl ([.ref h0, .int (nI a), .int (nI b), .long sd]) ++ List.replicate (10 - (lg_sl ([.ref h0, .int (nI a), .int (nI b), .long sd])).length) Slot.unset).toArray = ls at hl ⊢
  have hl : lv_has ls 10 [(0, .ref h0), (1, .int (nI a)), (2, .int (nI b)), (3, .long (sd))] := hl
  have hpc := wi_pc hab
  obtain ⟨hp1, hp2, hp3, hp4, hp5, hp6⟩ := hpc
  refine lv_iload_n hx hb dX1_sumWide_0 rfl (lv_at hl 2 rfl) ?_
  refine lv_iload_n hx hb dX1_sumWide_1 rfl (lv_at hl 1 rfl) ?_
  refine lv_isub hx hb dX1_sumWide_2 ?_
  refine q_ti (y := nI (b - a)) (pk_sub hab) ?_
  refine lv_istore (lv' := [(5, .int (nI (b - a))), (0, .ref h0), (1, .int (nI a)), (2, .int (nI b)), (3, .long (sd))]) hx hb dX1_sumWide_3 hl (by decide) rfl (fun ls hl => ?_)
  have J27 : ∀ ls : Array Slot, lv_has ls 10 [(5, .int (nI (b - a))), (0, .ref h0), (1, .int (nI a)), (2, .int (nI b)), (3, .long (sd))] → W p l e (headSpec wsM_sumWide ({ frames := 4, cells := 0, slots := 0, locals := 108 } : Room)).room s m [Value.ref h0, .int (nI a), .int (nI b), .long sd].toArray below meth c s.heap [] 0 0 (MQ below (k2_QcV (.long (wi_sum f a b sd))) [Value.ref h0, .int (nI a), .int (nI b), .long sd].toArray s 0 0 (fun _ => False)) (F0 m 27 ls [.long (wi_h0 f a b sd)]) := by
    intro ls hl
    refine lv_lstore (lv' := [(6, .long (wi_h0 f a b sd)), (5, .int (nI (b - a))), (0, .ref h0), (1, .int (nI a)), (2, .int (nI b)), (3, .long (sd))]) hx hb dX1_sumWide_27 hl (by decide) rfl (fun ls hl => ?_)
    have J47 : ∀ ls : Array Slot, lv_has ls 10 [(6, .long (wi_h0 f a b sd)), (5, .int (nI (b - a))), (0, .ref h0), (1, .int (nI a)), (2, .int (nI b)), (3, .long (sd))] → W p l e (headSpec wsM_sumWide ({ frames := 4, cells := 0, slots := 0, locals := 108 } : Room)).room s m [Value.ref h0, .int (nI a), .int (nI b), .long sd].toArray below meth c s.heap [] 0 0 (MQ below (k2_QcV (.long (wi_sum f a b sd))) [Value.ref h0, .int (nI a), .int (nI b), .long sd].toArray s 0 0 (fun _ => False)) (F0 m 47 ls [.int (nI (wi_p a b))]) := by
      intro ls hl
      refine lv_istore (lv' := [(8, .int (nI (wi_p a b))), (6, .long (wi_h0 f a b sd)), (5, .int (nI (b - a))), (0, .ref h0), (1, .int (nI a)), (2, .int (nI b)), (3, .long (sd))]) hx hb dX1_sumWide_47 hl (by decide) rfl (fun ls hl => ?_)
      refine lv_lload hx hb dX1_sumWide_49 (lv_at hl 1 rfl) ?_
      refine lv_iload hx hb dX1_sumWide_51 (lv_at hl 2 rfl) ?_
      refine lv_i2l (v := (nI (b - a)).toInt64) hx hb dX1_sumWide_53 rfl ?_
      refine q_tl (y := lN (b - a)) (nI_l (by omega)) ?_
      refine lv_ladd hx hb dX1_sumWide_54 ?_
      refine lv_lstore (lv' := [(6, .long ((wi_h0 f a b sd + lN (b - a)))), (8, .int (nI (wi_p a b))), (5, .int (nI (b - a))), (0, .ref h0), (1, .int (nI a)), (2, .int (nI b)), (3, .long (sd))]) hx hb dX1_sumWide_55 hl (by decide) rfl (fun ls hl => ?_)
      refine lv_iconst (v := 0) hx hb dX1_sumWide_57 (by decide) ?_
      refine lv_istore (lv' := [(9, .int (0)), (6, .long ((wi_h0 f a b sd + lN (b - a)))), (8, .int (nI (wi_p a b))), (5, .int (nI (b - a))), (0, .ref h0), (1, .int (nI a)), (2, .int (nI b)), (3, .long (sd))]) hx hb dX1_sumWide_58 hl (by decide) rfl (fun ls hl => ?_)
      have L60 : ∀ (d j : Nat), j + d = wi_c a b → ∀ ls : Array Slot, lv_has ls 10 [(0, .ref h0), (1, .int (nI a)), (2, .int (nI b)), (3, .long (sd)), (5, .int (nI (b - a))), (6, .long (wi_w8 f (wi_p a b) (wi_h0 f a b sd + lN (b - a)) (j))), (8, .int (nI (wi_p a b + 8 * (j)))), (9, .int (nI (j)))] → W p l e (headSpec wsM_sumWide ({ frames := 4, cells := 0, slots := 0, locals := 108 } : Room)).room s m [Value.ref h0, .int (nI a), .int (nI b), .long sd].toArray below meth c s.heap [] 0 0 (MQ below (k2_QcV (.long (wi_sum f a b sd))) [Value.ref h0, .int (nI a), .int (nI b), .long sd].toArray s 0 0 (fun _ => False)) (F0 m 60 ls []) := by
        intro d
        induction d with
        | zero =>
          intro j hj ls hl
          obtain rfl : wi_c a b = j := by omega
          have J123 : ∀ ls : Array Slot, lv_has ls 10 [(0, .ref h0), (1, .int (nI a)), (2, .int (nI b)), (3, .long (sd)), (5, .int (nI (b - a))), (6, .long (wi_w8 f (wi_p a b) (wi_h0 f a b sd + lN (b - a)) ((wi_c a b)))), (8, .int (nI (wi_p a b + 8 * ((wi_c a b))))), (9, .int (nI ((wi_c a b))))] → W p l e (headSpec wsM_sumWide ({ frames := 4, cells := 0, slots := 0, locals := 108 } : Room)).room s m [Value.ref h0, .int (nI a), .int (nI b), .long sd].toArray below meth c s.heap [] 0 0 (MQ below (k2_QcV (.long (wi_sum f a b sd))) [Value.ref h0, .int (nI a), .int (nI b), .long sd].toArray s 0 0 (fun _ => False)) (F0 m 123 ls []) := by
            intro ls hl
            have J163 : ∀ ls : Array Slot, lv_has ls 10 [(0, .ref h0), (1, .int (nI a)), (2, .int (nI b)), (3, .long (sd)), (5, .int (nI (b - a))), (6, .long ((wi_o f (wi_p a b + 8 * wi_c a b) (wi_w8 f (wi_p a b) (wi_h0 f a b sd + lN (b - a)) (wi_c a b)) (wi_d a b)))), (8, .int (nI (wi_p a b + 8 * wi_c a b + 4 * wi_d a b)))] → W p l e (headSpec wsM_sumWide ({ frames := 4, cells := 0, slots := 0, locals := 108 } : Room)).room s m [Value.ref h0, .int (nI a), .int (nI b), .long sd].toArray below meth c s.heap [] 0 0 (MQ below (k2_QcV (.long (wi_sum f a b sd))) [Value.ref h0, .int (nI a), .int (nI b), .long sd].toArray s 0 0 (fun _ => False)) (F0 m 163 ls []) := by
              intro ls hl
              refine lv_iload hx hb dX1_sumWide_163 (lv_at hl 6 rfl) ?_
              refine lv_istore (lv' := [(9, .int (nI (wi_p a b + 8 * wi_c a b + 4 * wi_d a b))), (0, .ref h0), (1, .int (nI a)), (2, .int (nI b)), (3, .long (sd)), (5, .int (nI (b - a))), (6, .long ((wi_o f (wi_p a b + 8 * wi_c a b) (wi_w8 f (wi_p a b) (wi_h0 f a b sd + lN (b - a)) (wi_c a b)) (wi_d a b)))), (8, .int (nI (wi_p a b + 8 * wi_c a b + 4 * wi_d a b)))]) hx hb dX1_sumWide_165 hl (by decide) rfl (fun ls hl => ?_)
              have L167 : ∀ (d j : Nat), j + d = b - (wi_p a b + 8 * wi_c a b + 4 * wi_d a b) → ∀ ls : Array Slot, lv_has ls 10 [(0, .ref h0), (1, .int (nI a)), (2, .int (nI b)), (3, .long (sd)), (5, .int (nI (b - a))), (6, .long (wi_w1 f (wi_p a b + 8 * wi_c a b + 4 * wi_d a b) (wi_o f (wi_p a b + 8 * wi_c a b) (wi_w8 f (wi_p a b) (wi_h0 f a b sd + lN (b - a)) (wi_c a b)) (wi_d a b)) (j))), (9, .int (nI ((wi_p a b + 8 * wi_c a b + 4 * wi_d a b) + (j))))] → W p l e (headSpec wsM_sumWide ({ frames := 4, cells := 0, slots := 0, locals := 108 } : Room)).room s m [Value.ref h0, .int (nI a), .int (nI b), .long sd].toArray below meth c s.heap [] 0 0 (MQ below (k2_QcV (.long (wi_sum f a b sd))) [Value.ref h0, .int (nI a), .int (nI b), .long sd].toArray s 0 0 (fun _ => False)) (F0 m 167 ls []) := by
                intro d
                induction d with
                | zero =>
                  intro j hj ls hl
                  obtain rfl : b - (wi_p a b + 8 * wi_c a b + 4 * wi_d a b) = j := by omega
                  refine lv_iload hx hb dX1_sumWide_167 (lv_at hl 6 rfl) ?_
                  refine lv_iload_n hx hb dX1_sumWide_169 rfl (lv_at hl 2 rfl) ?_
                  refine lv_icmp_ge (tgt := 204) hx hb dX1_sumWide_170 (by decide) (fun c_170 => ?_) (fun c_170 => ?_)
                  · refine lv_lload hx hb dX1_sumWide_204 (lv_at hl 5 rfl) ?_
                    refine lv_lload hx hb dX1_sumWide_206 (lv_at hl 5 rfl) ?_
                    refine lv_bipush (v := 33) hx hb dX1_sumWide_208 (by decide) ?_
                    refine lv_lushr (v := sh_U (wi_w1 f (wi_p a b + 8 * wi_c a b + 4 * wi_d a b) (wi_o f (wi_p a b + 8 * wi_c a b) (wi_w8 f (wi_p a b) (wi_h0 f a b sd + lN (b - a)) (wi_c a b)) (wi_d a b)) ((b - (wi_p a b + 8 * wi_c a b + 4 * wi_d a b)))) (33)) hx hb dX1_sumWide_210 rfl ?_
                    refine lv_lxor hx hb dX1_sumWide_211 ?_
                    refine lv_ldc2 (v := -4417276706812531889) hx hb hown (hts (.constantLong RX1 56 (-4417276706812531889)) (wsM_self _ (wsM_nin (by decide +kernel)))) dX1_sumWide_212 ?_
                    refine lv_lmul hx hb dX1_sumWide_215 ?_
                    refine q_tl (y := wi_s1 (wi_w1 f (wi_p a b + 8 * wi_c a b + 4 * wi_d a b) (wi_o f (wi_p a b + 8 * wi_c a b) (wi_w8 f (wi_p a b) (wi_h0 f a b sd + lN (b - a)) (wi_c a b)) (wi_d a b)) (b - (wi_p a b + 8 * wi_c a b + 4 * wi_d a b)))) (rfl) ?_
                    refine lv_lstore (lv' := [(6, .long (wi_s1 (wi_w1 f (wi_p a b + 8 * wi_c a b + 4 * wi_d a b) (wi_o f (wi_p a b + 8 * wi_c a b) (wi_w8 f (wi_p a b) (wi_h0 f a b sd + lN (b - a)) (wi_c a b)) (wi_d a b)) (b - (wi_p a b + 8 * wi_c a b + 4 * wi_d a b))))), (0, .ref h0), (1, .int (nI a)), (2, .int (nI b)), (3, .long (sd)), (5, .int (nI (b - a))), (9, .int (nI ((wi_p a b + 8 * wi_c a b + 4 * wi_d a b) + ((b - (wi_p a b + 8 * wi_c a b + 4 * wi_d a b))))))]) hx hb dX1_sumWide_216 hl (by decide) rfl (fun ls hl => ?_)
                    refine lv_lload hx hb dX1_sumWide_218 (lv_at hl 0 rfl) ?_
                    refine lv_lload hx hb dX1_sumWide_220 (lv_at hl 0 rfl) ?_
                    refine lv_bipush (v := 29) hx hb dX1_sumWide_222 (by decide) ?_
                    refine lv_lushr (v := sh_U (wi_s1 (wi_w1 f (wi_p a b + 8 * wi_c a b + 4 * wi_d a b) (wi_o f (wi_p a b + 8 * wi_c a b) (wi_w8 f (wi_p a b) (wi_h0 f a b sd + lN (b - a)) (wi_c a b)) (wi_d a b)) (b - (wi_p a b + 8 * wi_c a b + 4 * wi_d a b)))) (29)) hx hb dX1_sumWide_224 rfl ?_
                    refine lv_lxor hx hb dX1_sumWide_225 ?_
                    refine lv_ldc2 (v := 1609587929392839161) hx hb hown (hts (.constantLong RX1 80 (1609587929392839161)) (wsM_self _ (wsM_nin (by decide +kernel)))) dX1_sumWide_226 ?_
                    refine lv_lmul hx hb dX1_sumWide_229 ?_
                    refine q_tl (y := wi_s2 (wi_s1 (wi_w1 f (wi_p a b + 8 * wi_c a b + 4 * wi_d a b) (wi_o f (wi_p a b + 8 * wi_c a b) (wi_w8 f (wi_p a b) (wi_h0 f a b sd + lN (b - a)) (wi_c a b)) (wi_d a b)) (b - (wi_p a b + 8 * wi_c a b + 4 * wi_d a b))))) (rfl) ?_
                    refine lv_lstore (lv' := [(6, .long (wi_s2 (wi_s1 (wi_w1 f (wi_p a b + 8 * wi_c a b + 4 * wi_d a b) (wi_o f (wi_p a b + 8 * wi_c a b) (wi_w8 f (wi_p a b) (wi_h0 f a b sd + lN (b - a)) (wi_c a b)) (wi_d a b)) (b - (wi_p a b + 8 * wi_c a b + 4 * wi_d a b)))))), (0, .ref h0), (1, .int (nI a)), (2, .int (nI b)), (3, .long (sd)), (5, .int (nI (b - a))), (9, .int (nI ((wi_p a b + 8 * wi_c a b + 4 * wi_d a b) + ((b - (wi_p a b + 8 * wi_c a b + 4 * wi_d a b))))))]) hx hb dX1_sumWide_230 hl (by decide) rfl (fun ls hl => ?_)
                    refine lv_lload hx hb dX1_sumWide_232 (lv_at hl 0 rfl) ?_
                    refine lv_lload hx hb dX1_sumWide_234 (lv_at hl 0 rfl) ?_
                    refine lv_bipush (v := 32) hx hb dX1_sumWide_236 (by decide) ?_
                    refine lv_lushr (v := sh_U (wi_s2 (wi_s1 (wi_w1 f (wi_p a b + 8 * wi_c a b + 4 * wi_d a b) (wi_o f (wi_p a b + 8 * wi_c a b) (wi_w8 f (wi_p a b) (wi_h0 f a b sd + lN (b - a)) (wi_c a b)) (wi_d a b)) (b - (wi_p a b + 8 * wi_c a b + 4 * wi_d a b))))) (32)) hx hb dX1_sumWide_238 rfl ?_
                    refine lv_lxor hx hb dX1_sumWide_239 ?_
                    exact W.lret (v := (wi_s2 (wi_s1 (wi_w1 f (wi_p a b + 8 * wi_c a b + 4 * wi_d a b) (wi_o f (wi_p a b + 8 * wi_c a b) (wi_w8 f (wi_p a b) (wi_h0 f a b sd + lN (b - a)) (wi_c a b)) (wi_d a b)) (b - (wi_p a b + 8 * wi_c a b + 4 * wi_d a b)))) ^^^ (sh_U (wi_s2 (wi_s1 (wi_w1 f (wi_p a b + 8 * wi_c a b + 4 * wi_d a b) (wi_o f (wi_p a b + 8 * wi_c a b) (wi_w8 f (wi_p a b) (wi_h0 f a b sd + lN (b - a)) (wi_c a b)) (wi_d a b)) (b - (wi_p a b + 8 * wi_c a b + 4 * wi_d a b))))) (32)))) hx hb hr (fun t ht _ => ⟨congrArg (fun z => Outcome.returned (some (Value.long z))) (rfl), ht⟩) (fun _ h => by cases h) dX1_sumWide_240
                  · exact absurd (nI_le (by omega) (by omega)) c_170
                | succ d ih =>
                  intro j hj ls hl
                  have hjl : j < b - (wi_p a b + 8 * wi_c a b + 4 * wi_d a b) := by omega
                  refine lv_iload hx hb dX1_sumWide_167 (lv_at hl 6 rfl) ?_
                  refine lv_iload_n hx hb dX1_sumWide_169 rfl (lv_at hl 2 rfl) ?_
                  refine lv_icmp_ge (tgt := 204) hx hb dX1_sumWide_170 (by decide) (fun c_170 => ?_) (fun c_170 => ?_)
                  · exact absurd c_170 (nI_ge (by omega) (by omega))
                  · refine lv_lload hx hb dX1_sumWide_173 (lv_at hl 5 rfl) ?_
                    refine lv_aload_n hx hb dX1_sumWide_175 rfl (lv_at hl 0 rfl) ?_
                    refine lv_iload hx hb dX1_sumWide_176 (lv_at hl 6 rfl) ?_
                    refine q_V (As := [.int (nI ((wi_p a b + 8 * wi_c a b + 4 * wi_d a b) + (j)))]) (rest := [.long (wi_w1 f (wi_p a b + 8 * wi_c a b + 4 * wi_d a b) (wi_o f (wi_p a b + 8 * wi_c a b) (wi_w8 f (wi_p a b) (wi_h0 f a b sd + lN (b - a)) (wi_c a b)) (wi_d a b)) (j))]) ⟨hx, hb, hml, hown, hts⟩ (c_M_at l dC dI h0 a0 cB n ns wd f ((wi_p a b + 8 * wi_c a b + 4 * wi_d a b) + j) (by omega)) (cwV 1 hts gX1_sumWide_X1_at rfl rfl rfl (by decide +kernel) ⟨Nat.le_of_ble_eq_true rfl, Nat.le_of_ble_eq_true rfl⟩) (mw_pre hP hK _) rfl hl.1 rfl (Nat.le_of_ble_eq_true rfl) dX1_sumWide_178 ⟨Nat.zero_le _, Nat.zero_le _⟩ ?_
                    refine lv_i2l (v := ((f ((wi_p a b + 8 * wi_c a b + 4 * wi_d a b) + j) &&& 255)).toInt64) hx hb dX1_sumWide_181 rfl ?_
                    refine lv_ldc2 (v := 2870177450012600261) hx hb hown (hts (.constantLong RX1 78 (2870177450012600261)) (wsM_self _ (wsM_nin (by decide +kernel)))) dX1_sumWide_182 ?_
                    refine lv_lmul hx hb dX1_sumWide_185 ?_
                    refine lv_lxor hx hb dX1_sumWide_186 ?_
                    refine lv_bipush (v := 11) hx hb dX1_sumWide_187 (by decide) ?_
                    refine q_S (As := [.long ((wi_w1 f (wi_p a b + 8 * wi_c a b + 4 * wi_d a b) (wi_o f (wi_p a b + 8 * wi_c a b) (wi_w8 f (wi_p a b) (wi_h0 f a b sd + lN (b - a)) (wi_c a b)) (wi_d a b)) (j) ^^^ (((f ((wi_p a b + 8 * wi_c a b + 4 * wi_d a b) + j) &&& 255)).toInt64 * 2870177450012600261))), .int (11)]) (rest := []) ⟨hx, hb, hml, hown, hts⟩ (c_M_turned l ((wi_w1 f (wi_p a b + 8 * wi_c a b + 4 * wi_d a b) (wi_o f (wi_p a b + 8 * wi_c a b) (wi_w8 f (wi_p a b) (wi_h0 f a b sd + lN (b - a)) (wi_c a b)) (wi_d a b)) (j) ^^^ (((f ((wi_p a b + 8 * wi_c a b + 4 * wi_d a b) + j) &&& 255)).toInt64 * 2870177450012600261))) (11)) (va_cwS 2 hts gX1_sumWide_X1_turned rfl rfl rfl (by decide +kernel) ⟨Nat.le_of_ble_eq_true rfl, Nat.le_of_ble_eq_true rfl⟩) rfl hl.1 rfl (Nat.le_of_ble_eq_true rfl) dX1_sumWide_189 ⟨Nat.zero_le _, Nat.zero_le _⟩ ?_
                    refine lv_ldc2 (v := -7046029288634856825) hx hb hown (hts (.constantLong RX1 62 (-7046029288634856825)) (wsM_self _ (wsM_nin (by decide +kernel)))) dX1_sumWide_192 ?_
                    refine lv_lmul hx hb dX1_sumWide_195 ?_
                    refine q_tl (y := wi_w1 f (wi_p a b + 8 * wi_c a b + 4 * wi_d a b) (wi_o f (wi_p a b + 8 * wi_c a b) (wi_w8 f (wi_p a b) (wi_h0 f a b sd + lN (b - a)) (wi_c a b)) (wi_d a b)) (j + 1)) (rfl) ?_
                    refine lv_lstore (lv' := [(6, .long (wi_w1 f (wi_p a b + 8 * wi_c a b + 4 * wi_d a b) (wi_o f (wi_p a b + 8 * wi_c a b) (wi_w8 f (wi_p a b) (wi_h0 f a b sd + lN (b - a)) (wi_c a b)) (wi_d a b)) (j + 1))), (0, .ref h0), (1, .int (nI a)), (2, .int (nI b)), (3, .long (sd)), (5, .int (nI (b - a))), (9, .int (nI ((wi_p a b + 8 * wi_c a b + 4 * wi_d a b) + (j))))]) hx hb dX1_sumWide_196 hl (by decide) rfl (fun ls hl => ?_)
                    refine lv_iinc (v := nI ((wi_p a b + 8 * wi_c a b + 4 * wi_d a b) + (j + 1))) (lv' := [(9, .int (nI ((wi_p a b + 8 * wi_c a b + 4 * wi_d a b) + (j + 1)))), (6, .long (wi_w1 f (wi_p a b + 8 * wi_c a b + 4 * wi_d a b) (wi_o f (wi_p a b + 8 * wi_c a b) (wi_w8 f (wi_p a b) (wi_h0 f a b sd + lN (b - a)) (wi_c a b)) (wi_d a b)) (j + 1))), (0, .ref h0), (1, .int (nI a)), (2, .int (nI b)), (3, .long (sd)), (5, .int (nI (b - a)))]) hx hb dX1_sumWide_198 hl (k := 6) rfl (nI_add _ 1) (by decide) rfl (fun ls hl => ?_)
                    refine lv_goto (tgt := 167) hx hb dX1_sumWide_201 (by decide) ?_
                    exact ih (j + 1) (by omega) ls (lv_sub hl [2, 3, 4, 5, 6, 1, 0] rfl)
              exact L167 (b - (wi_p a b + 8 * wi_c a b + 4 * wi_d a b)) 0 (by omega) ls (lv_sub hl [1, 2, 3, 4, 5, 6, 0] rfl)
            refine lv_iload_n hx hb dX1_sumWide_123 rfl (lv_at hl 2 rfl) ?_
            refine lv_iload hx hb dX1_sumWide_124 (lv_at hl 6 rfl) ?_
            refine lv_isub hx hb dX1_sumWide_126 ?_
            refine q_ti (y := nI (b - (wi_p a b + 8 * wi_c a b))) (pk_sub (by omega)) ?_
            refine lv_iconst (v := 4) hx hb dX1_sumWide_127 (by decide) ?_
            refine lv_icmp_lt (tgt := 163) hx hb dX1_sumWide_128 (by decide) (fun c_128 => ?_) (fun c_128 => ?_)
            · have h4 : b - (wi_p a b + 8 * wi_c a b) < 4 := (nI_ltI (b := 4) (by omega) (by omega)).mp c_128
              have hd0 : wi_d a b = 0 := by omega
              have hl : lv_has ls 10 [(0, .ref h0), (1, .int (nI a)), (2, .int (nI b)), (3, .long (sd)), (5, .int (nI (b - a))), (6, .long ((wi_o f (wi_p a b + 8 * wi_c a b) (wi_w8 f (wi_p a b) (wi_h0 f a b sd + lN (b - a)) (wi_c a b)) (wi_d a b)))), (8, .int (nI (wi_p a b + 8 * ((wi_c a b))))), (9, .int (nI ((wi_c a b))))] := q_lv hl (congrArg (fun z => ([(0, .ref h0), (1, .int (nI a)), (2, .int (nI b)), (3, .long (sd)), (5, .int (nI (b - a))), (6, Value.long z), (8, .int (nI (wi_p a b + 8 * ((wi_c a b))))), (9, .int (nI ((wi_c a b))))] : List (Nat × Value))) (show (wi_w8 f (wi_p a b) (wi_h0 f a b sd + lN (b - a)) ((wi_c a b)) : Int64) = (wi_o f (wi_p a b + 8 * wi_c a b) (wi_w8 f (wi_p a b) (wi_h0 f a b sd + lN (b - a)) (wi_c a b)) (wi_d a b)) from by unfold wi_o; rw [if_pos hd0]))
              have hl : lv_has ls 10 [(0, .ref h0), (1, .int (nI a)), (2, .int (nI b)), (3, .long (sd)), (5, .int (nI (b - a))), (6, .long ((wi_o f (wi_p a b + 8 * wi_c a b) (wi_w8 f (wi_p a b) (wi_h0 f a b sd + lN (b - a)) (wi_c a b)) (wi_d a b)))), (8, .int (nI (wi_p a b + 8 * wi_c a b + 4 * wi_d a b))), (9, .int (nI ((wi_c a b))))] := q_lv hl (congrArg (fun z => ([(0, .ref h0), (1, .int (nI a)), (2, .int (nI b)), (3, .long (sd)), (5, .int (nI (b - a))), (6, .long ((wi_o f (wi_p a b + 8 * wi_c a b) (wi_w8 f (wi_p a b) (wi_h0 f a b sd + lN (b - a)) (wi_c a b)) (wi_d a b)))), (8, Value.int z), (9, .int (nI ((wi_c a b))))] : List (Nat × Value))) (show (nI (wi_p a b + 8 * ((wi_c a b))) : Int32) = nI (wi_p a b + 8 * wi_c a b + 4 * wi_d a b) from congrArg nI (by omega)))
              exact J163 ls (lv_sub hl [0, 1, 2, 3, 4, 5, 6] rfl)
            · have h4 : ¬ b - (wi_p a b + 8 * wi_c a b) < 4 := fun q => c_128 (nI_lt (b := 4) q (by omega))
              have hd1 : wi_d a b = 1 := by omega
              refine lv_lload hx hb dX1_sumWide_131 (lv_at hl 5 rfl) ?_
              refine lv_aload_n hx hb dX1_sumWide_133 rfl (lv_at hl 0 rfl) ?_
              refine lv_iload hx hb dX1_sumWide_134 (lv_at hl 6 rfl) ?_
              refine lv_iconst (v := 4) hx hb dX1_sumWide_136 (by decide) ?_
              refine q_V (As := [.int (nI (wi_p a b + 8 * ((wi_c a b)))), .int (4)]) (rest := [.long (wi_w8 f (wi_p a b) (wi_h0 f a b sd + lN (b - a)) ((wi_c a b)))]) ⟨hx, hb, hml, hown, hts⟩ (c_M_number l dC dI h0 a0 cB n ns wd f (wi_p a b + 8 * wi_c a b) (4) (by omega)) (cwV 2 hts gX1_sumWide_X1_number rfl rfl rfl (by decide +kernel) ⟨Nat.le_of_ble_eq_true rfl, Nat.le_of_ble_eq_true rfl⟩) (mw_pre hP hK _) rfl hl.1 rfl (Nat.le_of_ble_eq_true rfl) dX1_sumWide_137 ⟨Nat.zero_le _, Nat.zero_le _⟩ ?_
              refine q_tl (y := wo_u f (wi_p a b + 8 * wi_c a b)) (wo_n4 _ _) ?_
              refine lv_ldc2 (v := -7046029288634856825) hx hb hown (hts (.constantLong RX1 62 (-7046029288634856825)) (wsM_self _ (wsM_nin (by decide +kernel)))) dX1_sumWide_140 ?_
              refine lv_lmul hx hb dX1_sumWide_143 ?_
              refine lv_lxor hx hb dX1_sumWide_144 ?_
              refine lv_bipush (v := 23) hx hb dX1_sumWide_145 (by decide) ?_
              refine q_S (As := [.long ((wi_w8 f (wi_p a b) (wi_h0 f a b sd + lN (b - a)) ((wi_c a b)) ^^^ (wo_u f (wi_p a b + 8 * wi_c a b) * (-7046029288634856825)))), .int (23)]) (rest := []) ⟨hx, hb, hml, hown, hts⟩ (c_M_turned l ((wi_w8 f (wi_p a b) (wi_h0 f a b sd + lN (b - a)) ((wi_c a b)) ^^^ (wo_u f (wi_p a b + 8 * wi_c a b) * (-7046029288634856825)))) (23)) (va_cwS 2 hts gX1_sumWide_X1_turned rfl rfl rfl (by decide +kernel) ⟨Nat.le_of_ble_eq_true rfl, Nat.le_of_ble_eq_true rfl⟩) rfl hl.1 rfl (Nat.le_of_ble_eq_true rfl) dX1_sumWide_147 ⟨Nat.zero_le _, Nat.zero_le _⟩ ?_
              refine lv_ldc2 (v := -4417276706812531889) hx hb hown (hts (.constantLong RX1 56 (-4417276706812531889)) (wsM_self _ (wsM_nin (by decide +kernel)))) dX1_sumWide_150 ?_
              refine lv_lmul hx hb dX1_sumWide_153 ?_
              refine lv_ldc2 (v := 1609587929392839161) hx hb hown (hts (.constantLong RX1 80 (1609587929392839161)) (wsM_self _ (wsM_nin (by decide +kernel)))) dX1_sumWide_154 ?_
              refine lv_ladd hx hb dX1_sumWide_157 ?_
              refine q_tl (y := (wi_o f (wi_p a b + 8 * wi_c a b) (wi_w8 f (wi_p a b) (wi_h0 f a b sd + lN (b - a)) (wi_c a b)) (wi_d a b))) (by unfold wi_o; rw [if_neg (by omega)]; rfl) ?_
              refine lv_lstore (lv' := [(6, .long ((wi_o f (wi_p a b + 8 * wi_c a b) (wi_w8 f (wi_p a b) (wi_h0 f a b sd + lN (b - a)) (wi_c a b)) (wi_d a b)))), (0, .ref h0), (1, .int (nI a)), (2, .int (nI b)), (3, .long (sd)), (5, .int (nI (b - a))), (8, .int (nI (wi_p a b + 8 * ((wi_c a b))))), (9, .int (nI ((wi_c a b))))]) hx hb dX1_sumWide_158 hl (by decide) rfl (fun ls hl => ?_)
              refine lv_iinc (v := nI (wi_p a b + 8 * wi_c a b + 4 * wi_d a b)) (lv' := [(8, .int (nI (wi_p a b + 8 * wi_c a b + 4 * wi_d a b))), (6, .long ((wi_o f (wi_p a b + 8 * wi_c a b) (wi_w8 f (wi_p a b) (wi_h0 f a b sd + lN (b - a)) (wi_c a b)) (wi_d a b)))), (0, .ref h0), (1, .int (nI a)), (2, .int (nI b)), (3, .long (sd)), (5, .int (nI (b - a))), (9, .int (nI ((wi_c a b))))]) hx hb dX1_sumWide_160 hl (k := 6) rfl (by rw [hd1]; exact nI_add _ 4) (by decide) rfl (fun ls hl => ?_)
              exact J163 ls (lv_sub hl [2, 3, 4, 5, 6, 1, 0] rfl)
          refine lv_iload hx hb dX1_sumWide_60 (lv_at hl 7 rfl) ?_
          refine lv_iconst (v := 3) hx hb dX1_sumWide_62 (by decide) ?_
          refine lv_icmp_ge (tgt := 123) hx hb dX1_sumWide_63 (by decide) (fun c_63 => ?_) (fun c_63 => ?_)
          · exact J123 ls (lv_sub hl [0, 1, 2, 3, 4, 5, 6, 7] rfl)
          · refine lv_iload_n hx hb dX1_sumWide_66 rfl (lv_at hl 2 rfl) ?_
            refine lv_iload hx hb dX1_sumWide_67 (lv_at hl 6 rfl) ?_
            refine lv_isub hx hb dX1_sumWide_69 ?_
            refine q_ti (y := nI (b - (wi_p a b + 8 * wi_c a b))) (pk_sub (by omega)) ?_
            refine lv_bipush (v := 8) hx hb dX1_sumWide_70 (by decide) ?_
            refine lv_icmp_lt (tgt := 123) hx hb dX1_sumWide_72 (by decide) (fun c_72 => ?_) (fun c_72 => ?_)
            · exact J123 ls (lv_sub hl [0, 1, 2, 3, 4, 5, 6, 7] rfl)
            · exact absurd (nI_lt (b := 8) (by omega) (by omega)) c_72
        | succ d ih =>
          intro j hj ls hl
          have hjl : j < wi_c a b := by omega
          refine lv_iload hx hb dX1_sumWide_60 (lv_at hl 7 rfl) ?_
          refine lv_iconst (v := 3) hx hb dX1_sumWide_62 (by decide) ?_
          refine lv_icmp_ge (tgt := 123) hx hb dX1_sumWide_63 (by decide) (fun c_63 => ?_) (fun c_63 => ?_)
          · exact absurd c_63 (nI_ge (b := 3) (by omega) (by omega))
          · refine lv_iload_n hx hb dX1_sumWide_66 rfl (lv_at hl 2 rfl) ?_
            refine lv_iload hx hb dX1_sumWide_67 (lv_at hl 6 rfl) ?_
            refine lv_isub hx hb dX1_sumWide_69 ?_
            refine q_ti (y := nI (b - (wi_p a b + 8 * j))) (pk_sub (by omega)) ?_
            refine lv_bipush (v := 8) hx hb dX1_sumWide_70 (by decide) ?_
            refine lv_icmp_lt (tgt := 123) hx hb dX1_sumWide_72 (by decide) (fun c_72 => ?_) (fun c_72 => ?_)
            · exact absurd c_72 (nI_nlt (b := 8) (by omega) (by omega))
            · refine lv_lload hx hb dX1_sumWide_75 (lv_at hl 5 rfl) ?_
              refine lv_aload_n hx hb dX1_sumWide_77 rfl (lv_at hl 0 rfl) ?_
              refine lv_iload hx hb dX1_sumWide_78 (lv_at hl 6 rfl) ?_
              refine lv_bipush (v := 8) hx hb dX1_sumWide_80 (by decide) ?_
              refine q_V (As := [.int (nI (wi_p a b + 8 * (j))), .int (8)]) (rest := [.long (wi_w8 f (wi_p a b) (wi_h0 f a b sd + lN (b - a)) (j))]) ⟨hx, hb, hml, hown, hts⟩ (c_M_number l dC dI h0 a0 cB n ns wd f (wi_p a b + 8 * j) (8) (by omega)) (cwV 2 hts gX1_sumWide_X1_number rfl rfl rfl (by decide +kernel) ⟨Nat.le_of_ble_eq_true rfl, Nat.le_of_ble_eq_true rfl⟩) (mw_pre hP hK _) rfl hl.1 rfl (Nat.le_of_ble_eq_true rfl) dX1_sumWide_82 ⟨Nat.zero_le _, Nat.zero_le _⟩ ?_
              refine q_tl (y := wo_8 f (wi_p a b + 8 * j)) (wo_n8 _ _) ?_
              refine lv_ldc2 (v := -4417276706812531889) hx hb hown (hts (.constantLong RX1 56 (-4417276706812531889)) (wsM_self _ (wsM_nin (by decide +kernel)))) dX1_sumWide_85 ?_
              refine lv_lmul hx hb dX1_sumWide_88 ?_
              refine lv_bipush (v := 31) hx hb dX1_sumWide_89 (by decide) ?_
              refine q_S (As := [.long ((wo_8 f (wi_p a b + 8 * j) * (-4417276706812531889))), .int (31)]) (rest := [.long (wi_w8 f (wi_p a b) (wi_h0 f a b sd + lN (b - a)) (j))]) ⟨hx, hb, hml, hown, hts⟩ (c_M_turned l ((wo_8 f (wi_p a b + 8 * j) * (-4417276706812531889))) (31)) (va_cwS 2 hts gX1_sumWide_X1_turned rfl rfl rfl (by decide +kernel) ⟨Nat.le_of_ble_eq_true rfl, Nat.le_of_ble_eq_true rfl⟩) rfl hl.1 rfl (Nat.le_of_ble_eq_true rfl) dX1_sumWide_91 ⟨Nat.zero_le _, Nat.zero_le _⟩ ?_
              refine lv_ldc2 (v := -7046029288634856825) hx hb hown (hts (.constantLong RX1 62 (-7046029288634856825)) (wsM_self _ (wsM_nin (by decide +kernel)))) dX1_sumWide_94 ?_
              refine lv_lmul hx hb dX1_sumWide_97 ?_
              refine q_tl (y := wi_ln 0 (wo_8 f (wi_p a b + 8 * j))) ((wi_ln0 _).symm) ?_
              refine lv_lxor hx hb dX1_sumWide_98 ?_
              refine lv_bipush (v := 27) hx hb dX1_sumWide_99 (by decide) ?_
              refine q_S (As := [.long ((wi_w8 f (wi_p a b) (wi_h0 f a b sd + lN (b - a)) (j) ^^^ wi_ln 0 (wo_8 f (wi_p a b + 8 * j)))), .int (27)]) (rest := []) ⟨hx, hb, hml, hown, hts⟩ (c_M_turned l ((wi_w8 f (wi_p a b) (wi_h0 f a b sd + lN (b - a)) (j) ^^^ wi_ln 0 (wo_8 f (wi_p a b + 8 * j)))) (27)) (va_cwS 2 hts gX1_sumWide_X1_turned rfl rfl rfl (by decide +kernel) ⟨Nat.le_of_ble_eq_true rfl, Nat.le_of_ble_eq_true rfl⟩) rfl hl.1 rfl (Nat.le_of_ble_eq_true rfl) dX1_sumWide_101 ⟨Nat.zero_le _, Nat.zero_le _⟩ ?_
              refine lv_ldc2 (v := -7046029288634856825) hx hb hown (hts (.constantLong RX1 62 (-7046029288634856825)) (wsM_self _ (wsM_nin (by decide +kernel)))) dX1_sumWide_104 ?_
              refine lv_lmul hx hb dX1_sumWide_107 ?_
              refine lv_ldc2 (v := -8796714831421723037) hx hb hown (hts (.constantLong RX1 64 (-8796714831421723037)) (wsM_self _ (wsM_nin (by decide +kernel)))) dX1_sumWide_108 ?_
              refine lv_ladd hx hb dX1_sumWide_111 ?_
              refine q_tl (y := wi_w8 f (wi_p a b) (wi_h0 f a b sd + lN (b - a)) (j + 1)) (rfl) ?_
              refine lv_lstore (lv' := [(6, .long (wi_w8 f (wi_p a b) (wi_h0 f a b sd + lN (b - a)) (j + 1))), (0, .ref h0), (1, .int (nI a)), (2, .int (nI b)), (3, .long (sd)), (5, .int (nI (b - a))), (8, .int (nI (wi_p a b + 8 * (j)))), (9, .int (nI (j)))]) hx hb dX1_sumWide_112 hl (by decide) rfl (fun ls hl => ?_)
              refine lv_iinc (v := nI (wi_p a b + 8 * (j + 1))) (lv' := [(8, .int (nI (wi_p a b + 8 * (j + 1)))), (6, .long (wi_w8 f (wi_p a b) (wi_h0 f a b sd + lN (b - a)) (j + 1))), (0, .ref h0), (1, .int (nI a)), (2, .int (nI b)), (3, .long (sd)), (5, .int (nI (b - a))), (9, .int (nI (j)))]) hx hb dX1_sumWide_114 hl (k := 6) rfl (by rw [show wi_p a b + 8 * (j + 1) = wi_p a b + 8 * j + 8 by omega]; exact nI_add _ 8) (by decide) rfl (fun ls hl => ?_)
              refine lv_iinc (v := nI (j + 1)) (lv' := [(9, .int (nI (j + 1))), (8, .int (nI (wi_p a b + 8 * (j + 1)))), (6, .long (wi_w8 f (wi_p a b) (wi_h0 f a b sd + lN (b - a)) (j + 1))), (0, .ref h0), (1, .int (nI a)), (2, .int (nI b)), (3, .long (sd)), (5, .int (nI (b - a)))]) hx hb dX1_sumWide_117 hl (k := 7) rfl (nI_add j 1) (by decide) rfl (fun ls hl => ?_)
              refine lv_goto (tgt := 60) hx hb dX1_sumWide_120 (by decide) ?_
              exact ih (j + 1) (by omega) ls (lv_sub hl [3, 4, 5, 6, 7, 2, 1, 0] rfl)
      exact L60 (wi_c a b) 0 (by omega) ls (lv_sub hl [4, 5, 6, 7, 3, 1, 2, 0] rfl)
    refine lv_iload hx hb dX1_sumWide_29 (lv_at hl 1 rfl) ?_
    refine lv_bipush (v := 32) hx hb dX1_sumWide_31 (by decide) ?_
    refine lv_icmp_lt (tgt := 46) hx hb dX1_sumWide_33 (by decide) (fun c_33 => ?_) (fun c_33 => ?_)
    · have hsm : b - a < 32 := (nI_ltI (b := 32) (by omega) (by omega)).mp c_33
      refine lv_iload_n hx hb dX1_sumWide_46 rfl (lv_at hl 3 rfl) ?_
      refine q_ti (y := nI (wi_p a b)) (congrArg nI (by unfold wi_p; omega)) ?_
      exact J47 ls (lv_sub hl [0, 1, 2, 3, 4, 5] rfl)
    · refine lv_iload_n hx hb dX1_sumWide_36 rfl (lv_at hl 4 rfl) ?_
      refine lv_iload hx hb dX1_sumWide_37 (lv_at hl 1 rfl) ?_
      refine lv_bipush (v := 32) hx hb dX1_sumWide_39 (by decide) ?_
      refine lv_irem hx hb dX1_sumWide_41 (by decide) ?_
      refine q_ti (y := nI ((b - a) % 32)) (pk_rem (d := 32) (by omega) (by omega) (by omega)) ?_
      refine lv_isub hx hb dX1_sumWide_42 ?_
      refine q_ti (y := nI (wi_p a b)) (pk_sub (by omega)) ?_
      refine lv_goto (tgt := 47) hx hb dX1_sumWide_43 (by decide) ?_
      exact J47 ls (lv_sub hl [0, 1, 2, 3, 4, 5] rfl)
  refine lv_iload hx hb dX1_sumWide_5 (lv_at hl 0 rfl) ?_
  refine lv_bipush (v := 32) hx hb dX1_sumWide_7 (by decide) ?_
  refine lv_icmp_lt (tgt := 22) hx hb dX1_sumWide_9 (by decide) (fun c_9 => ?_) (fun c_9 => ?_)
  · refine lv_lload_n hx hb dX1_sumWide_22 rfl (lv_at hl 4 rfl) ?_
    refine lv_ldc2 (v := 2870177450012600261) hx hb hown (hts (.constantLong RX1 78 (2870177450012600261)) (wsM_self _ (wsM_nin (by decide +kernel)))) dX1_sumWide_23 ?_
    refine lv_ladd hx hb dX1_sumWide_26 ?_
    refine q_tl (y := wi_h0 f a b sd) (by unfold wi_h0; rw [if_neg (fun q => nI_nlt (a := b - a) (b := 32) q (by omega) c_9)]) ?_
    exact J27 ls (lv_sub hl [0, 1, 2, 3, 4] rfl)
  · refine lv_aload_n hx hb dX1_sumWide_12 rfl (lv_at hl 1 rfl) ?_
    refine lv_iload_n hx hb dX1_sumWide_13 rfl (lv_at hl 2 rfl) ?_
    refine lv_iload_n hx hb dX1_sumWide_14 rfl (lv_at hl 3 rfl) ?_
    refine lv_lload_n hx hb dX1_sumWide_15 rfl (lv_at hl 4 rfl) ?_
    refine q_V (As := [.int (nI a), .int (nI b), .long (sd)]) (rest := []) ⟨hx, hb, hml, hown, hts⟩ (c_M_ofLanes l dC dI h0 a0 cB n ns wd f (a) (b) (sd) (by omega) (by omega)) (cwV 3 hts gX1_sumWide_X1_ofLanes rfl rfl rfl (by decide +kernel) ⟨Nat.le_of_ble_eq_true rfl, Nat.le_of_ble_eq_true rfl⟩) (mw_pre hP hK _) rfl hl.1 rfl (Nat.le_of_ble_eq_true rfl) dX1_sumWide_16 ⟨Nat.zero_le _, Nat.zero_le _⟩ ?_
    refine q_tl (y := wi_h0 f a b sd) (by unfold wi_h0; rw [if_pos (Nat.not_lt.mp (fun q => c_9 (nI_lt (a := b - a) (b := 32) q (by omega))))]) ?_
    refine lv_goto (tgt := 27) hx hb dX1_sumWide_19 (by decide) ?_
    exact J27 ls (lv_sub hl [0, 1, 2, 3, 4] rfl)
set_option maxHeartbeats 4000000 in
set_option maxRecDepth 100000 in
theorem c_M_wide (l : Launch) (dC : Nat → ClassId) (dI : Nat → Nat → Nat) (h0 a0 : Nat) (cB : ClassId) (n : Nat) (ns : Int32) (wd : Int64) (f : Nat → Int32) (hn : n ≤ 65536) : Met l yX1_wide wsM_wide ({ frames := 5, cells := 0, slots := 0, locals := 137 } : Room) (va_Pc [.ref h0] (mW dC dI h0 a0 cB n ns wd f)) (k2_QcV (.long (wi_sum f 0 n wd))) 0 0 (fun _ => False) := by
  refine Met.ofW (cc := cX1_wide) (maxL := 1) (ret := some .long) (by decide) rfl ?_
  intro p e s m args below meth c s₁ B hml hv
  obtain ⟨rfl, hP, hK⟩ := hv
  have hx := B.exec
  have hb := B.bytes
  have hr := B.returns
  have hts := atoms_spec (ws := wsM_wide) B.pre
  have hown : s.vm.findClass RX1 = some m.cls := findClass_of_methodNamed B.named
  have hlocks := B.notSynchronized
  have hin : ∀ w ∈ u_ws RX1 TX1 4, w ∈ wsM_wide := fun w h => wsM_self w (wsM_fin w h)
  have hl := lv_entry ([.ref h0]) (n := 1) (Nat.le_of_ble_eq_true rfl)
  rw [lg_entry_eq]
  generalize (lg_sl ([.ref h0]) ++ List.replicate (1 - (lg_sl ([.ref h0])).length) Slot.unset).toArray = ls at hl ⊢
  have hl : lv_has ls 1 [(0, .ref h0)] := hl
  refine lv_aload_n hx hb dX1_wide_0 rfl (lv_at hl 0 rfl) ?_
  refine lv_iconst (v := 0) hx hb dX1_wide_1 (by decide) ?_
  refine lv_aload_n hx hb dX1_wide_2 rfl (lv_at hl 0 rfl) ?_
  refine va_get (D := (dC, dI)) (ci := 1) (v := .int (nI n)) (C := RX1) (T := TX1) (N := 4) hx hb hts hin hown hK hP 0 rfl rfl 1 (by decide) (hts (.fieldLink RX1 14 "StreamSumsModel" "length" "I") (wsM_self _ (wsM_nin (by decide +kernel)))) (fun _ h9 => h9) rfl dX1_wide_3 ?_
  refine lv_aload_n hx hb dX1_wide_6 rfl (lv_at hl 0 rfl) ?_
  refine va_get (D := (dC, dI)) (ci := 1) (v := .long (wd)) (C := RX1) (T := TX1) (N := 4) hx hb hts hin hown hK hP 0 rfl rfl 3 (by decide) (hts (.fieldLink RX1 21 "StreamSumsModel" "seedWide" "J") (wsM_self _ (wsM_nin (by decide +kernel)))) (fun _ h9 => h9) rfl dX1_wide_7 ?_
  refine q_V (As := [.int (0), .int (nI n), .long (wd)]) (rest := []) ⟨hx, hb, hml, hown, hts⟩ (c_M_sumWide l dC dI h0 a0 cB n ns wd f (0) (n) (wd) (by omega) (by omega)) (cwV 3 hts gX1_wide_X1_sumWide rfl rfl rfl (by decide +kernel) ⟨Nat.le_of_ble_eq_true rfl, Nat.le_of_ble_eq_true rfl⟩) (mw_pre hP hK _) rfl hl.1 rfl (Nat.le_of_ble_eq_true rfl) dX1_wide_10 ⟨Nat.zero_le _, Nat.zero_le _⟩ ?_
  exact W.lret (v := (wi_sum f 0 n wd)) hx hb hr (fun t ht _ => ⟨congrArg (fun z => Outcome.returned (some (Value.long z))) (rfl), ht⟩) (fun _ h => by cases h) dX1_wide_13
set_option maxHeartbeats 4000000 in
set_option maxRecDepth 100000 in
theorem c_M_wideOf (l : Launch) (dC : Nat → ClassId) (dI : Nat → Nat → Nat) (h0 a0 : Nat) (cB : ClassId) (n : Nat) (ns : Int32) (wd : Int64) (f : Nat → Int32) (x : Int32) (y : Int32) (sd : Int64) (hn : n ≤ 65536) : Met l yX1_wideOf wsM_wideOf ({ frames := 5, cells := 0, slots := 0, locals := 137 } : Room) (va_Pc [.ref h0, .int x, .int y, .long sd] (mW dC dI h0 a0 cB n ns wd f)) (k2_QcV (.long (an_wi n f x y sd))) 0 0 (fun _ => False) := by
  refine Met.ofW (cc := cX1_wideOf) (maxL := 5) (ret := some .long) (by decide) rfl ?_
  intro p e s m args below meth c s₁ B hml hv
  obtain ⟨rfl, hP, hK⟩ := hv
  have hx := B.exec
  have hb := B.bytes
  have hr := B.returns
  have hts := atoms_spec (ws := wsM_wideOf) B.pre
  have hown : s.vm.findClass RX1 = some m.cls := findClass_of_methodNamed B.named
  have hlocks := B.notSynchronized
  have hl := lv_entry ([.ref h0, .int x, .int y, .long sd]) (n := 5) (Nat.le_of_ble_eq_true rfl)
  rw [lg_entry_eq]
  generalize (lg_sl ([.ref h0, .int x, .int y, .long sd]) ++ List.replicate (5 - (lg_sl ([.ref h0, .int x, .int y, .long sd])).length) Slot.unset).toArray = ls at hl ⊢
  have hl : lv_has ls 5 [(0, .ref h0), (1, .int (x)), (2, .int (y)), (3, .long (sd))] := hl
  refine lv_aload_n hx hb dX1_wideOf_0 rfl (lv_at hl 0 rfl) ?_
  refine lv_iload_n hx hb dX1_wideOf_1 rfl (lv_at hl 1 rfl) ?_
  refine lv_iload_n hx hb dX1_wideOf_2 rfl (lv_at hl 2 rfl) ?_
  refine q_V (As := [.int (x), .int (y)]) (rest := []) ⟨hx, hb, hml, hown, hts⟩ (c_M_isPart l dC dI h0 a0 cB n ns wd f (x) (y)) (cwV 2 hts gX1_wideOf_X1_isPart rfl rfl rfl (by decide +kernel) ⟨Nat.le_of_ble_eq_true rfl, Nat.le_of_ble_eq_true rfl⟩) (mw_pre hP hK _) rfl hl.1 rfl (Nat.le_of_ble_eq_true rfl) dX1_wideOf_3 ⟨Nat.zero_le _, Nat.zero_le _⟩ ?_
  refine lv_if_eq (tgt := 19) hx hb dX1_wideOf_6 (by decide) (fun c_6 => ?_) (fun c_6 => ?_)
  · refine lv_aload_n hx hb dX1_wideOf_19 rfl (lv_at hl 0 rfl) ?_
    refine lv_iconst (v := 0) hx hb dX1_wideOf_20 (by decide) ?_
    refine lv_iconst (v := 0) hx hb dX1_wideOf_21 (by decide) ?_
    refine lv_lload_n hx hb dX1_wideOf_22 rfl (lv_at hl 3 rfl) ?_
    refine q_V (As := [.int (0), .int (0), .long (sd)]) (rest := []) ⟨hx, hb, hml, hown, hts⟩ (c_M_sumWide l dC dI h0 a0 cB n ns wd f (0) (0) (sd) (by omega) (by omega)) (cwV 3 hts gX1_wideOf_X1_sumWide rfl rfl rfl (by decide +kernel) ⟨Nat.le_of_ble_eq_true rfl, Nat.le_of_ble_eq_true rfl⟩) (mw_pre hP hK _) rfl hl.1 rfl (Nat.le_of_ble_eq_true rfl) dX1_wideOf_23 ⟨Nat.zero_le _, Nat.zero_le _⟩ ?_
    exact W.lret (v := (wi_sum f 0 0 sd)) hx hb hr (fun t ht _ => ⟨congrArg (fun z => Outcome.returned (some (Value.long z))) (by unfold an_wi; rw [if_pos c_6]), ht⟩) (fun _ h => by cases h) dX1_wideOf_26
  · obtain ⟨a, b, hxa, hyb, hab, hbn⟩ := pt_some hn c_6
    refine lv_aload_n hx hb dX1_wideOf_9 rfl (lv_at hl 0 rfl) ?_
    refine lv_iload_n hx hb dX1_wideOf_10 rfl (lv_at hl 1 rfl) ?_
    refine q_ti (y := nI a) (hxa) ?_
    refine lv_iload_n hx hb dX1_wideOf_11 rfl (lv_at hl 2 rfl) ?_
    refine q_ti (y := nI b) (hyb) ?_
    refine lv_lload_n hx hb dX1_wideOf_12 rfl (lv_at hl 3 rfl) ?_
    refine q_V (As := [.int (nI a), .int (nI b), .long (sd)]) (rest := []) ⟨hx, hb, hml, hown, hts⟩ (c_M_sumWide l dC dI h0 a0 cB n ns wd f (a) (b) (sd) (by omega) (by omega)) (cwV 3 hts gX1_wideOf_X1_sumWide rfl rfl rfl (by decide +kernel) ⟨Nat.le_of_ble_eq_true rfl, Nat.le_of_ble_eq_true rfl⟩) (mw_pre hP hK _) rfl hl.1 rfl (Nat.le_of_ble_eq_true rfl) dX1_wideOf_13 ⟨Nat.zero_le _, Nat.zero_le _⟩ ?_
    refine lv_goto (tgt := 26) hx hb dX1_wideOf_16 (by decide) ?_
    exact W.lret (v := (wi_sum f a b sd)) hx hb hr (fun t ht _ => ⟨congrArg (fun z => Outcome.returned (some (Value.long z))) (by unfold an_wi; rw [if_neg c_6, hxa, hyb, nI_clamp (by omega), nI_clamp (by omega)]), ht⟩) (fun _ h => by cases h) dX1_wideOf_26
end
section
/-! rows for the methods that write -/
section QW
variable {p : Program} {l : Launch} {e : Env} {R : Room} {s : State} {m : MethodId} {args : Array Value} {below : List Frame} {meth : Method} {c : Code} {H H0 : Heap} {locs : List Loc} {cells slots : Nat} {Q : State → Prop}
variable {cc : ByteArray} {pc : Nat} {ls : Array Slot} {rest : List Value} {D : va_G} {cl : List vw_C} {A : Nat → Prop} {a : Nat} {tys : List (ClassId × FieldType)} {wd : va_W}
theorem q_bast (hexec : p.tables.exec = Jvm.exec) (hb : c.code = cc) (hK : va_K D cl tys s) (hP : va_P D cl wd H) (hD : va_D A wd) (hS : va_S A H0 H locs) (q0 t0 : Nat) {cA : ClassId} {nn : Nat} {f : Nat → Int32} (ha : wd[q0]? = some (a, .inl (cA, nn, .inl f))) (ht : tys[t0]? = some (cA, .byte)) {i x y : Int32} {j : Nat} (hi : i = nI j) (hj : j < nn) (hn : nn < 2 ^ 31) (hy : vp_nar .byte x = y) (hdg : decode cc pc = .ok (.bastore, 1))
    (kk : ∀ (H1 : Heap) (locs1 : List Loc), va_P D cl (wd.set q0 (a, .inl (cA, nn, .inl (upd f j y)))) H1 → va_D A (wd.set q0 (a, .inl (cA, nn, .inl (upd f j y)))) → va_S A H0 H1 locs1 → W p l e R s m args below meth c H1 locs1 cells slots Q (F0 m (pc + 1) ls rest)) : W p l e R s m args below meth c H locs cells slots Q (F0 m pc ls (.int x :: .int i :: .ref a :: rest)) := by
  subst hi
  subst hy
  refine va_bast hexec hb hK hP hD hS q0 t0 ha ht (vp_in_nI hj hn) hdg (fun H1 locs1 h1 h2 h3 => ?_)
  rw [nI_clamp (by omega)] at h1 h2
  exact kk H1 locs1 h1 h2 h3
theorem q_iast (hexec : p.tables.exec = Jvm.exec) (hb : c.code = cc) (hK : va_K D cl tys s) (hP : va_P D cl wd H) (hD : va_D A wd) (hS : va_S A H0 H locs) (q0 t0 : Nat) {cA : ClassId} {nn : Nat} {f : Nat → Int32} (ha : wd[q0]? = some (a, .inl (cA, nn, .inl f))) (ht : tys[t0]? = some (cA, .int)) {i x : Int32} {j : Nat} (hi : i = nI j) (hj : j < nn) (hn : nn < 2 ^ 31) (hdg : decode cc pc = .ok (.iastore, 1))
    (kk : ∀ (H1 : Heap) (locs1 : List Loc), va_P D cl (wd.set q0 (a, .inl (cA, nn, .inl (upd f j x)))) H1 → va_D A (wd.set q0 (a, .inl (cA, nn, .inl (upd f j x)))) → va_S A H0 H1 locs1 → W p l e R s m args below meth c H1 locs1 cells slots Q (F0 m (pc + 1) ls rest)) : W p l e R s m args below meth c H locs cells slots Q (F0 m pc ls (.int x :: .int i :: .ref a :: rest)) := by
  subst hi
  refine va_iast hexec hb hK hP hD hS q0 t0 ha ht (vp_in_nI hj hn) hdg (fun H1 locs1 h1 h2 h3 => ?_)
  rw [nI_clamp (by omega)] at h1 h2
  exact kk H1 locs1 h1 h2 h3
end QW
def xI (dC : Nat → ClassId) (dI : Nat → Nat → Nat) (h0 a0 a1 : Nat) (cB cI : ClassId) (sz n : Nat) (ns : Int32) (wd : Int64) (f g : Nat → Int32) : State → Prop := fun U => U.heap.size = sz ∧ va_P (dC, dI) vwCl (xC h0 a0 a1 cB cI n ns wd f g) U.heap ∧ va_K (dC, dI) vwCl (xT cB cI) U ∧ va_D (fun _ => True) (xC h0 a0 a1 cB cI n ns wd f g)
def xO (dC : Nat → ClassId) (dI : Nat → Nat → Nat) (A : Nat → Prop) (h0 a0 a1 : Nat) (cB cI : ClassId) (n : Nat) (ns : Int32) (wd : Int64) (f g : Nat → Int32) : State → Prop := fun t => va_P (dC, dI) vwCl (xC h0 a0 a1 cB cI n ns wd f g) t.heap ∧ va_K (dC, dI) vwCl (xT cB cI) t ∧ va_D A (xC h0 a0 a1 cB cI n ns wd f g)
def mI (dC : Nat → ClassId) (dI : Nat → Nat → Nat) (h0 a0 : Nat) (cB : ClassId) (sz n : Nat) (ns : Int32) (wd : Int64) (f : Nat → Int32) : State → Prop := fun U => U.heap.size = sz ∧ va_P (dC, dI) vwCl (mC h0 a0 cB n ns wd f) U.heap ∧ va_K (dC, dI) vwCl (mT cB) U ∧ va_D (fun _ => True) (mC h0 a0 cB n ns wd f)
def mO (dC : Nat → ClassId) (dI : Nat → Nat → Nat) (A : Nat → Prop) (h0 a0 : Nat) (cB : ClassId) (n : Nat) (ns : Int32) (wd : Int64) (f : Nat → Int32) : State → Prop := fun t => va_P (dC, dI) vwCl (mC h0 a0 cB n ns wd f) t.heap ∧ va_K (dC, dI) vwCl (mT cB) t ∧ va_D A (mC h0 a0 cB n ns wd f)
theorem xi_pre {dC : Nat → ClassId} {dI : Nat → Nat → Nat} {A : Nat → Prop} {h0 a0 a1 : Nat} {cB cI : ClassId} {n : Nat} {ns : Int32} {wd : Int64} {f g : Nat → Int32} {s : State} {H : Heap} (hP : va_P (dC, dI) vwCl (xC h0 a0 a1 cB cI n ns wd f g) H) (hK : va_K (dC, dI) vwCl (xT cB cI) s) (hD : va_D A (xC h0 a0 a1 cB cI n ns wd f g)) (As : List Value) : PreV s H RX0 h0 (va_Pc (.ref h0 :: As) (xI dC dI h0 a0 a1 cB cI H.size n ns wd f g)) As :=
  ⟨fun a U g mk q => ⟨q.1, q.2.1, q.2.2.1, va_K.moved (u := U) (U := U.calling g mk a) (Vm.Alike.refl U.vm) q.2.2.2.1, q.2.2.2.2⟩, va_recv hK hP (ci := 0) (q0 := 0) rfl rfl, fun U hU hW => ⟨rfl, by rw [hU], by rw [hU]; exact hP, va_K.moved hW.alike hK, hD.weaken (fun _ _ _ _ => trivial)⟩⟩
theorem mi_pre {dC : Nat → ClassId} {dI : Nat → Nat → Nat} {A : Nat → Prop} {h0 a0 : Nat} {cB : ClassId} {n : Nat} {ns : Int32} {wd : Int64} {f : Nat → Int32} {s : State} {H : Heap} (hP : va_P (dC, dI) vwCl (mC h0 a0 cB n ns wd f) H) (hK : va_K (dC, dI) vwCl (mT cB) s) (hD : va_D A (mC h0 a0 cB n ns wd f)) (As : List Value) : PreV s H RX1 h0 (va_Pc (.ref h0 :: As) (mI dC dI h0 a0 cB H.size n ns wd f)) As :=
  ⟨fun a U g mk q => ⟨q.1, q.2.1, q.2.2.1, va_K.moved (u := U) (U := U.calling g mk a) (Vm.Alike.refl U.vm) q.2.2.2.1, q.2.2.2.2⟩, va_recv hK hP (ci := 1) (q0 := 0) rfl rfl, fun U hU hW => ⟨rfl, by rw [hU], by rw [hU]; exact hP, va_K.moved hW.alike hK, hD.weaken (fun _ _ _ _ => trivial)⟩⟩
/-! what write and again make of the row -/
def wr_b (ev : Int64) (j : Nat) : Int32 := (sh_U ev (56 - 8 * nI j)).toInt32.toInt8.toInt32
def wr_f (f : Nat → Int32) (n : Nat) (ev : Int64) : Nat → Nat → Int32
  | 0 => f
  | j + 1 => upd (wr_f f n ev j) (n + j) (wr_b ev j)
def wr_ok (n : Nat) (k : Int32) : Int32 := if k < 1 then 0 else if 8 < k then 0 else if 65536 < n + k.toNatClampNeg then 0 else 1
def wr_n (n : Nat) (k : Int32) : Nat := if wr_ok n k = 0 then n else n + k.toNatClampNeg
def wr_F (n : Nat) (f : Nat → Int32) (ev : Int64) (k : Int32) : Nat → Int32 := if wr_ok n k = 0 then f else wr_f f n ev k.toNatClampNeg
theorem wr_no {n : Nat} {k : Int32} (f : Nat → Int32) (ev : Int64) (h : wr_ok n k = 0) : (0 : Int32) = wr_ok n k ∧ n = wr_n n k ∧ f = wr_F n f ev k := by
  unfold wr_n wr_F
  rw [if_pos h, if_pos h, h]
  exact ⟨rfl, rfl, rfl⟩
theorem wr_k {k : Int32} (h1 : ¬ k < 1) (h2 : ¬ 8 < k) : ∃ K : Nat, k = nI K ∧ 1 ≤ K ∧ K ≤ 8 := by
  have h3 : ¬ k < 0 := fun q => h1 (by
    rw [Int32.lt_iff_toInt_lt] at q ⊢
    have e0 : (0 : Int32).toInt = 0 := rfl
    have e1 : (1 : Int32).toInt = 1 := rfl
    omega)
  obtain ⟨K, hK, rfl⟩ := nI_of h3
  rw [show (1 : Int32) = nI 1 from rfl, nI_ltI hK (by omega)] at h1
  rw [show (8 : Int32) = nI 8 from rfl, nI_ltI (by omega) hK] at h2
  exact ⟨K, rfl, by omega, by omega⟩
theorem wr_big {n : Nat} {K : Nat} (h1 : 1 ≤ K) (h8 : K ≤ 8) (h : 65536 < n + K) : wr_ok n (nI K) = 0 := by
  unfold wr_ok
  rw [nI_clamp (by omega), if_pos h]
  simp only [ite_self]
theorem wr_yes {n : Nat} {K : Nat} (f : Nat → Int32) (ev : Int64) (h1 : 1 ≤ K) (h8 : K ≤ 8) (h : n + K ≤ 65536) : (1 : Int32) = wr_ok n (nI K) ∧ n + K = wr_n n (nI K) ∧ wr_f f n ev K = wr_F n f ev (nI K) := by
  have e : wr_ok n (nI K) = 1 := by
    unfold wr_ok
    rw [if_neg (show ¬ nI K < 1 from nI_nlt (b := 1) h1 (by omega)), if_neg (show ¬ 8 < nI K from nI_nlt (a := 8) h8 (by omega)), nI_clamp (by omega), if_neg (by omega)]
  unfold wr_n wr_F
  rw [e, if_neg (by decide), if_neg (by decide), nI_clamp (by omega)]
  exact ⟨rfl, rfl, rfl⟩
def ag_f (f : Nat → Int32) (n w : Nat) : Nat → Nat → Int32
  | 0 => f
  | j + 1 => upd (ag_f f n w j) (n + j) (ag_f f n w j (n + j - w)).toInt8.toInt32
def ag_ok (n : Nat) (x y : Int32) : Int32 := if x < 1 then 0 else if nI n < x then 0 else if y < 0 then 0 else if 65536 < n + x.toNatClampNeg * y.toNatClampNeg then 0 else 1
def ag_n (n : Nat) (x y : Int32) : Nat := if ag_ok n x y = 0 then n else n + x.toNatClampNeg * y.toNatClampNeg
def ag_F (n : Nat) (f : Nat → Int32) (x y : Int32) : Nat → Int32 := if ag_ok n x y = 0 then f else ag_f f n x.toNatClampNeg (x.toNatClampNeg * y.toNatClampNeg)
theorem ag_no {n : Nat} {x y : Int32} (f : Nat → Int32) (h : ag_ok n x y = 0) : (0 : Int32) = ag_ok n x y ∧ n = ag_n n x y ∧ f = ag_F n f x y := by
  unfold ag_n ag_F
  rw [if_pos h, if_pos h, h]
  exact ⟨rfl, rfl, rfl⟩
theorem ag_k {n : Nat} {x y : Int32} (hn : n ≤ 65536) (h1 : ¬ x < 1) (h2 : ¬ nI n < x) (h3 : ¬ y < 0) : ∃ w k : Nat, x = nI w ∧ y = nI k ∧ 1 ≤ w ∧ w ≤ n ∧ k < 2 ^ 31 := by
  have h4 : ¬ x < 0 := fun q => h1 (by
    rw [Int32.lt_iff_toInt_lt] at q ⊢
    have e0 : (0 : Int32).toInt = 0 := rfl
    have e1 : (1 : Int32).toInt = 1 := rfl
    omega)
  obtain ⟨w, hw, rfl⟩ := nI_of h4
  obtain ⟨k, hk, rfl⟩ := nI_of h3
  rw [show (1 : Int32) = nI 1 from rfl, nI_ltI hw (by omega)] at h1
  rw [nI_ltI (by omega) hw] at h2
  exact ⟨w, k, rfl, rfl, by omega, by omega, hk⟩
theorem ag_big {n w k : Nat} (hw : w < 2 ^ 31) (hk : k < 2 ^ 31) (h : 65536 < n + w * k) : ag_ok n (nI w) (nI k) = 0 := by
  unfold ag_ok
  rw [nI_clamp hw, nI_clamp hk, if_pos h]
  simp only [ite_self]
theorem ag_yes {n w k : Nat} (f : Nat → Int32) (h1 : 1 ≤ w) (h2 : w ≤ n) (hk : k < 2 ^ 31) (hn : n ≤ 65536) (h : n + w * k ≤ 65536) : (1 : Int32) = ag_ok n (nI w) (nI k) ∧ n + w * k = ag_n n (nI w) (nI k) ∧ ag_f f n w (w * k) = ag_F n f (nI w) (nI k) := by
  have e : ag_ok n (nI w) (nI k) = 1 := by
    unfold ag_ok
    rw [if_neg (show ¬ nI w < 1 from nI_nlt (b := 1) h1 (by omega)), if_neg (nI_nlt h2 (by omega)), if_neg (nI_pos hk), nI_clamp (by omega), nI_clamp hk, if_neg (by omega)]
  unfold ag_n ag_F
  rw [e, if_neg (by decide), if_neg (by decide), nI_clamp (by omega), nI_clamp hk]
  exact ⟨rfl, rfl, rfl⟩
theorem ag_byte (y : Int32) : (y &&& 255).toInt8.toInt32 = y.toInt8.toInt32 := by
  congr 1
  apply Int8.toBitVec_inj.mp
  rw [Int32.toBitVec_toInt8, Int32.toBitVec_toInt8, Int32.toBitVec_and]
  apply BitVec.eq_of_getLsbD_eq
  intro i hi
  have h : bt 255 i = true := by rw [b_255, decide_eq_true hi]
  rw [BitVec.getLsbD_signExtend, BitVec.getLsbD_signExtend, BitVec.getLsbD_and]
  simp only [show i < 32 by omega, if_pos]
  unfold bt at h
  rw [h, Bool.and_true]
theorem ag_mul {w k : Nat} (hw : w ≤ 65536) (hk : k < 2 ^ 31) : (nI w).toInt64 * (nI k).toInt64 = lN (w * k) := by
  rw [nI_l (by omega), nI_l hk, lN_mul]
theorem ag_lt {w k : Nat} (hw : w ≤ 65536) (hk : k < 2 ^ 31) : w * k < 2 ^ 62 := by
  have h := Nat.mul_le_mul hw (Nat.le_of_lt hk)
  omega
end
section
set_option maxHeartbeats 4000000 in
set_option maxRecDepth 100000 in
theorem c_X_append (l : Launch) (dC : Nat → ClassId) (dI : Nat → Nat → Nat) (h0 a0 a1 : Nat) (cB cI : ClassId) (sz n : Nat) (ns : Int32) (wd : Int64) (f g : Nat → Int32) (x : Int32) (hn : n < 65536) : Met l yX0_append wsX0_append ({ frames := 0, cells := 0, slots := 0, locals := 0 } : Room) (va_Pc [.ref h0, .int x] (xI dC dI h0 a0 a1 cB cI sz n ns wd f g)) (va_Qv (fun _ : Unit => True) (fun _ : Unit => xO dC dI (va_A (xC h0 a0 a1 cB cI (n) (ns) (wd) (f) (g)) sz) h0 a0 a1 cB cI (n + 1) (ns) (wd) (upd f n x.toInt8.toInt32) g) (va_A (xC h0 a0 a1 cB cI (n) (ns) (wd) (f) (g)) sz)) 0 0 (va_A (xC h0 a0 a1 cB cI (n) (ns) (wd) (f) (g)) sz) := by
  refine Met.ofW (cc := cX0_append) (maxL := 2) (ret := none) (by decide) rfl ?_
  intro p e s m args below meth c s₁ B hml hv
  obtain ⟨rfl, hsz, hP, hK, hD0⟩ := hv
  have hx := B.exec
  have hb := B.bytes
  have hr := B.returns
  have hts := atoms_spec (ws := wsX0_append) B.pre
  have hown : s.vm.findClass RX0 = some m.cls := findClass_of_methodNamed B.named
  have hlocks := B.notSynchronized
  have hin : ∀ w ∈ u_ws RX0 TX0 5, w ∈ wsX0_append := by decide +kernel
  subst hsz
  have hD := hD0.self (sz := s.heap.size)
  generalize hAe : va_A (xC h0 a0 a1 cB cI (n) (ns) (wd) (f) (g)) s.heap.size = A at hD ⊢
  have hA : ∀ q : Nat, s.heap.size ≤ q → A q := fun q h => by rw [← hAe]; exact Or.inr h
  have hS : va_S A s.heap s.heap [] := va_S.rf
  have hl := lv_entry ([.ref h0, .int x]) (n := 2) (Nat.le_of_ble_eq_true rfl)
  rw [lg_entry_eq]
  generalize (lg_sl ([.ref h0, .int x]) ++ List.replicate (2 - (lg_sl ([.ref h0, .int x])).length) Slot.unset).toArray = ls at hl ⊢
  have hl : lv_has ls 2 [(0, .ref h0), (1, .int (x))] := hl
  refine lv_aload_n hx hb dX0_append_0 rfl (lv_at hl 0 rfl) ?_
  refine va_get (D := (dC, dI)) (ci := 0) (v := .int (nI (n))) (C := RX0) (T := TX0) (N := 5) hx hb hts hin hown hK hP 0 rfl rfl 2 (by decide) (hts (.fieldLink RX0 22 "StreamSums" "count" "I") (by decide +kernel)) (fun _ h9 => h9) rfl dX0_append_1 ?_
  refine lv_ldc (v := 65536) hx hb hown (hts (.constant RX0 9 (65536)) (by decide +kernel)) dX0_append_4 ?_
  refine lv_icmp_ge (tgt := 30) hx hb dX0_append_6 (by decide) (fun c_6 => ?_) (fun c_6 => ?_)
  · exact absurd c_6 (nI_ge (b := 65536) hn (by omega))
  · refine lv_aload_n hx hb dX0_append_9 rfl (lv_at hl 0 rfl) ?_
    refine va_get (D := (dC, dI)) (ci := 0) (v := .ref a0) (C := RX0) (T := TX0) (N := 5) hx hb hts hin hown hK hP 0 rfl rfl 0 (by decide) (hts (.fieldLink RX0 10 "StreamSums" "bytes" "[B") (by decide +kernel)) (fun _ h9 => h9) rfl dX0_append_10 ?_
    refine lv_aload_n hx hb dX0_append_13 rfl (lv_at hl 0 rfl) ?_
    refine va_get (D := (dC, dI)) (ci := 0) (v := .int (nI (n))) (C := RX0) (T := TX0) (N := 5) hx hb hts hin hown hK hP 0 rfl rfl 2 (by decide) (hts (.fieldLink RX0 22 "StreamSums" "count" "I") (by decide +kernel)) (fun _ h9 => h9) rfl dX0_append_14 ?_
    refine lv_iload_n hx hb dX0_append_17 rfl (lv_at hl 1 rfl) ?_
    refine lv_i2b (v := (x).toInt8.toInt32) hx hb dX0_append_18 rfl ?_
    refine q_bast (j := n) (y := x.toInt8.toInt32) hx hb hK hP hD hS 1 0 rfl rfl rfl hn (by omega) (pk_vb x) dX0_append_19 (fun H locs hP hD hS => ?_)
    have hP : va_P (dC, dI) vwCl (xC h0 a0 a1 cB cI (n) (ns) (wd) (upd (f) (n) (x.toInt8.toInt32)) (g)) H := hP
    have hD : va_D A (xC h0 a0 a1 cB cI (n) (ns) (wd) (upd (f) (n) (x.toInt8.toInt32)) (g)) := hD
    refine lv_aload_n hx hb dX0_append_20 rfl (lv_at hl 0 rfl) ?_
    refine lv_dup hx hb dX0_append_21 rfl ?_
    refine va_get (D := (dC, dI)) (ci := 0) (v := .int (nI (n))) (C := RX0) (T := TX0) (N := 5) hx hb hts hin hown hK hP 0 rfl rfl 2 (by decide) (hts (.fieldLink RX0 22 "StreamSums" "count" "I") (by decide +kernel)) (fun _ h9 => h9) rfl dX0_append_22 ?_
    refine lv_iconst (v := 1) hx hb dX0_append_25 (by decide) ?_
    refine lv_iadd hx hb dX0_append_26 ?_
    refine q_ti (y := nI (n + 1)) (nI_add n 1) ?_
    refine va_put (D := (dC, dI)) (ci := 0) (v := .int (nI (n + 1))) (ty := .int) (C := RX0) (T := TX0) (N := 5) hx hb hts hin tyX0 tyX0_ok nmX0 hown hK hP hD hS 0 rfl rfl 2 (by decide) (hts (.fieldLink RX0 22 "StreamSums" "count" "I") (by decide +kernel)) (fun _ h9 => h9) rfl (by decide +kernel) rfl rfl (Nat.le_of_ble_eq_true rfl) dX0_append_27 (fun H locs hP hD hS => ?_)
    have hP : va_P (dC, dI) vwCl (xC h0 a0 a1 cB cI (n + 1) (ns) (wd) (upd (f) (n) (x.toInt8.toInt32)) (g)) H := hP
    have hD : va_D A (xC h0 a0 a1 cB cI (n + 1) (ns) (wd) (upd (f) (n) (x.toInt8.toInt32)) (g)) := hD
    exact W.vret hx hb hr (fun t ht hW => ⟨⟨(), rfl, trivial, by rw [ht]; exact hP, va_K.moved hW.alike hK, hD⟩, hS.F ht⟩) hS.2.2 dX0_append_30
set_option maxHeartbeats 4000000 in
set_option maxRecDepth 100000 in
theorem c_X_begin (l : Launch) (dC : Nat → ClassId) (dI : Nat → Nat → Nat) (h0 a0 a1 : Nat) (cB cI : ClassId) (sz n : Nat) (ns : Int32) (wd : Int64) (f g : Nat → Int32) (sd : Int32) (wv : Int64) : Met l yX0_begin wsX0_begin ({ frames := 0, cells := 0, slots := 0, locals := 0 } : Room) (va_Pc [.ref h0, .int sd, .long wv] (xI dC dI h0 a0 a1 cB cI sz n ns wd f g)) (va_Qv (fun _ : Unit => True) (fun _ : Unit => xO dC dI (va_A (xC h0 a0 a1 cB cI (n) (ns) (wd) (f) (g)) sz) h0 a0 a1 cB cI (0) (sd) (wv) (f) g) (va_A (xC h0 a0 a1 cB cI (n) (ns) (wd) (f) (g)) sz)) 0 0 (va_A (xC h0 a0 a1 cB cI (n) (ns) (wd) (f) (g)) sz) := by
  refine Met.ofW (cc := cX0_begin) (maxL := 4) (ret := none) (by decide) rfl ?_
  intro p e s m args below meth c s₁ B hml hv
  obtain ⟨rfl, hsz, hP, hK, hD0⟩ := hv
  have hx := B.exec
  have hb := B.bytes
  have hr := B.returns
  have hts := atoms_spec (ws := wsX0_begin) B.pre
  have hown : s.vm.findClass RX0 = some m.cls := findClass_of_methodNamed B.named
  have hlocks := B.notSynchronized
  have hin : ∀ w ∈ u_ws RX0 TX0 5, w ∈ wsX0_begin := by decide +kernel
  subst hsz
  have hD := hD0.self (sz := s.heap.size)
  generalize hAe : va_A (xC h0 a0 a1 cB cI (n) (ns) (wd) (f) (g)) s.heap.size = A at hD ⊢
  have hA : ∀ q : Nat, s.heap.size ≤ q → A q := fun q h => by rw [← hAe]; exact Or.inr h
  have hS : va_S A s.heap s.heap [] := va_S.rf
  have hl := lv_entry ([.ref h0, .int sd, .long wv]) (n := 4) (Nat.le_of_ble_eq_true rfl)
  rw [lg_entry_eq]
  generalize (lg_sl ([.ref h0, .int sd, .long wv]) ++ List.replicate (4 - (lg_sl ([.ref h0, .int sd, .long wv])).length) Slot.unset).toArray = ls at hl ⊢
  have hl : lv_has ls 4 [(0, .ref h0), (1, .int (sd)), (2, .long (wv))] := hl
  refine lv_aload_n hx hb dX0_begin_0 rfl (lv_at hl 0 rfl) ?_
  refine lv_iconst (v := 0) hx hb dX0_begin_1 (by decide) ?_
  refine va_put (D := (dC, dI)) (ci := 0) (v := .int (0)) (ty := .int) (C := RX0) (T := TX0) (N := 5) hx hb hts hin tyX0 tyX0_ok nmX0 hown hK hP hD hS 0 rfl rfl 2 (by decide) (hts (.fieldLink RX0 22 "StreamSums" "count" "I") (by decide +kernel)) (fun _ h9 => h9) rfl (by decide +kernel) rfl rfl (Nat.le_of_ble_eq_true rfl) dX0_begin_2 (fun H locs hP hD hS => ?_)
  have hP : va_P (dC, dI) vwCl (xC h0 a0 a1 cB cI (0) (ns) (wd) (f) (g)) H := hP
  have hD : va_D A (xC h0 a0 a1 cB cI (0) (ns) (wd) (f) (g)) := hD
  refine lv_aload_n hx hb dX0_begin_5 rfl (lv_at hl 0 rfl) ?_
  refine lv_iload_n hx hb dX0_begin_6 rfl (lv_at hl 1 rfl) ?_
  refine va_put (D := (dC, dI)) (ci := 0) (v := .int (sd)) (ty := .int) (C := RX0) (T := TX0) (N := 5) hx hb hts hin tyX0 tyX0_ok nmX0 hown hK hP hD hS 0 rfl rfl 3 (by decide) (hts (.fieldLink RX0 26 "StreamSums" "narrowSeed" "I") (by decide +kernel)) (fun _ h9 => h9) rfl (by decide +kernel) rfl rfl (Nat.le_of_ble_eq_true rfl) dX0_begin_7 (fun H locs hP hD hS => ?_)
  have hP : va_P (dC, dI) vwCl (xC h0 a0 a1 cB cI (0) (sd) (wd) (f) (g)) H := hP
  have hD : va_D A (xC h0 a0 a1 cB cI (0) (sd) (wd) (f) (g)) := hD
  refine lv_aload_n hx hb dX0_begin_10 rfl (lv_at hl 0 rfl) ?_
  refine lv_lload_n hx hb dX0_begin_11 rfl (lv_at hl 2 rfl) ?_
  refine va_put (D := (dC, dI)) (ci := 0) (v := .long (wv)) (ty := .long) (C := RX0) (T := TX0) (N := 5) hx hb hts hin tyX0 tyX0_ok nmX0 hown hK hP hD hS 0 rfl rfl 4 (by decide) (hts (.fieldLink RX0 29 "StreamSums" "wideSeed" "J") (by decide +kernel)) (fun _ h9 => h9) rfl (by decide +kernel) rfl rfl (Nat.le_of_ble_eq_true rfl) dX0_begin_12 (fun H locs hP hD hS => ?_)
  have hP : va_P (dC, dI) vwCl (xC h0 a0 a1 cB cI (0) (sd) (wv) (f) (g)) H := hP
  have hD : va_D A (xC h0 a0 a1 cB cI (0) (sd) (wv) (f) (g)) := hD
  exact W.vret hx hb hr (fun t ht hW => ⟨⟨(), rfl, trivial, by rw [ht]; exact hP, va_K.moved hW.alike hK, hD⟩, hS.F ht⟩) hS.2.2 dX0_begin_15
set_option maxHeartbeats 4000000 in
set_option maxRecDepth 100000 in
theorem c_X_write (l : Launch) (dC : Nat → ClassId) (dI : Nat → Nat → Nat) (h0 a0 a1 : Nat) (cB cI : ClassId) (sz n : Nat) (ns : Int32) (wd : Int64) (f g : Nat → Int32) (ev : Int64) (k : Int32) (hn : n ≤ 65536) : Met l yX0_write wsX0_write ({ frames := 1, cells := 0, slots := 0, locals := 21 } : Room) (va_Pc [.ref h0, .long ev, .int k] (xI dC dI h0 a0 a1 cB cI sz n ns wd f g)) (va_Qi (fun (r : Int32) (u : Nat × (Nat → Int32)) => r = wr_ok n k ∧ u.1 = wr_n n k ∧ u.2 = wr_F n f ev k) (fun u : Nat × (Nat → Int32) => xO dC dI (va_A (xC h0 a0 a1 cB cI (n) (ns) (wd) (f) (g)) sz) h0 a0 a1 cB cI u.1 ns wd u.2 g) (va_A (xC h0 a0 a1 cB cI (n) (ns) (wd) (f) (g)) sz)) 0 0 (va_A (xC h0 a0 a1 cB cI (n) (ns) (wd) (f) (g)) sz) := by
  refine Met.ofW (cc := cX0_write) (maxL := 5) (ret := some .boolean) (by decide) rfl ?_
  intro p e s m args below meth c s₁ B hml hv
  obtain ⟨rfl, hsz, hP, hK, hD0⟩ := hv
  have hx := B.exec
  have hb := B.bytes
  have hr := B.returns
  have hts := atoms_spec (ws := wsX0_write) B.pre
  have hown : s.vm.findClass RX0 = some m.cls := findClass_of_methodNamed B.named
  have hlocks := B.notSynchronized
  have hin : ∀ w ∈ u_ws RX0 TX0 5, w ∈ wsX0_write := by decide +kernel
  subst hsz
  have hD := hD0.self (sz := s.heap.size)
  generalize hAe : va_A (xC h0 a0 a1 cB cI (n) (ns) (wd) (f) (g)) s.heap.size = A at hD ⊢
  have hA : ∀ q : Nat, s.heap.size ≤ q → A q := fun q h => by rw [← hAe]; exact Or.inr h
  have hS : va_S A s.heap s.heap [] := va_S.rf
  have hl := lv_entry ([.ref h0, .long ev, .int k]) (n := 5) (Nat.le_of_ble_eq_true rfl)
  rw [lg_entry_eq]
  generalize (lg_sl ([.ref h0, .long ev, .int k]) ++ List.replicate (5 - (lg_sl ([.ref h0, .long ev, .int k])).length) Slot.unset).toArray = ls at hl ⊢
  have hl : lv_has ls 5 [(0, .ref h0), (1, .long (ev)), (3, .int (k))] := hl
  refine lv_iload_n hx hb dX0_write_0 rfl (lv_at hl 2 rfl) ?_
  refine lv_iconst (v := 1) hx hb dX0_write_1 (by decide) ?_
  refine lv_icmp_lt (tgt := 22) hx hb dX0_write_2 (by decide) (fun c_2 => ?_) (fun c_2 => ?_)
  · refine lv_iconst (v := 0) hx hb dX0_write_22 (by decide) ?_
    exact W.zret (v := 0) hx hb hr (by decide) (fun t ht hW => ⟨⟨0, (n, f), rfl, (wr_no f ev (by unfold wr_ok; rw [if_pos c_2])), by rw [ht]; exact hP, va_K.moved hW.alike hK, hD⟩, hS.F ht⟩) hS.2.2 dX0_write_23
  · refine lv_iload_n hx hb dX0_write_5 rfl (lv_at hl 2 rfl) ?_
    refine lv_bipush (v := 8) hx hb dX0_write_6 (by decide) ?_
    refine lv_icmp_gt (tgt := 22) hx hb dX0_write_8 (by decide) (fun c_8 => ?_) (fun c_8 => ?_)
    · refine lv_iconst (v := 0) hx hb dX0_write_22 (by decide) ?_
      exact W.zret (v := 0) hx hb hr (by decide) (fun t ht hW => ⟨⟨0, (n, f), rfl, (wr_no f ev (by unfold wr_ok; rw [if_neg c_2, if_pos c_8])), by rw [ht]; exact hP, va_K.moved hW.alike hK, hD⟩, hS.F ht⟩) hS.2.2 dX0_write_23
    · obtain ⟨K, hkK, hK1, hK8⟩ := wr_k c_2 c_8
      refine lv_iload_n hx hb dX0_write_11 rfl (lv_at hl 2 rfl) ?_
      refine lv_ldc (v := 65536) hx hb hown (hts (.constant RX0 9 (65536)) (by decide +kernel)) dX0_write_12 ?_
      refine lv_aload_n hx hb dX0_write_14 rfl (lv_at hl 0 rfl) ?_
      refine va_get (D := (dC, dI)) (ci := 0) (v := .int (nI (n))) (C := RX0) (T := TX0) (N := 5) hx hb hts hin hown hK hP 0 rfl rfl 2 (by decide) (hts (.fieldLink RX0 22 "StreamSums" "count" "I") (by decide +kernel)) (fun _ h9 => h9) rfl dX0_write_15 ?_
      refine lv_isub hx hb dX0_write_18 ?_
      refine q_ti (y := nI (65536 - n)) (pk_sub (a := 65536) hn) ?_
      refine lv_icmp_le (tgt := 24) hx hb dX0_write_19 (by decide) (fun c_19 => ?_) (fun c_19 => ?_)
      · have hKn : n + K ≤ 65536 := by
          rw [hkK, nI_leI (by omega) (by omega)] at c_19
          omega
        refine lv_iconst (v := 0) hx hb dX0_write_24 (by decide) ?_
        refine lv_istore (lv' := [(4, .int (0)), (0, .ref h0), (1, .long (ev)), (3, .int (k))]) hx hb dX0_write_25 hl (by decide) rfl (fun ls hl => ?_)
        have L27 : ∀ (d j : Nat), j + d = K → ∀ (H : Heap) (locs : List Loc), va_P (dC, dI) vwCl (xC h0 a0 a1 cB cI (n + j) (ns) (wd) (wr_f f n ev j) (g)) H → va_D A (xC h0 a0 a1 cB cI (n + j) (ns) (wd) (wr_f f n ev j) (g)) → va_S A s.heap H locs → ∀ ls : Array Slot, lv_has ls 5 [(0, .ref h0), (1, .long (ev)), (3, .int (k)), (4, .int (nI (j)))] → W p l e (headSpec wsX0_write ({ frames := 1, cells := 0, slots := 0, locals := 21 } : Room)).room s m [Value.ref h0, .long ev, .int k].toArray below meth c H locs 0 0 (MQ below (va_Qi (fun (r : Int32) (u : Nat × (Nat → Int32)) => r = wr_ok n k ∧ u.1 = wr_n n k ∧ u.2 = wr_F n f ev k) (fun u : Nat × (Nat → Int32) => xO dC dI A h0 a0 a1 cB cI u.1 ns wd u.2 g) A) [Value.ref h0, .long ev, .int k].toArray s 0 0 A) (F0 m 27 ls []) := by
          intro d
          induction d with
          | zero =>
            intro j hj H locs hP hD hS ls hl
            obtain rfl : K = j := by omega
            refine lv_iload hx hb dX0_write_27 (lv_at hl 3 rfl) ?_
            refine lv_iload_n hx hb dX0_write_29 rfl (lv_at hl 2 rfl) ?_
            refine q_ti (y := nI K) (hkK) ?_
            refine lv_icmp_ge (tgt := 54) hx hb dX0_write_30 (by decide) (fun c_30 => ?_) (fun c_30 => ?_)
            · refine lv_iconst (v := 1) hx hb dX0_write_54 (by decide) ?_
              exact W.zret (v := 1) hx hb hr (by decide) (fun t ht hW => ⟨⟨1, (n + K, wr_f f n ev K), rfl, (by have h := wr_yes (n := n) f ev hK1 hK8 hKn; rw [hkK]; exact h), by rw [ht]; exact hP, va_K.moved hW.alike hK, hD⟩, hS.F ht⟩) hS.2.2 dX0_write_55
            · exact absurd (nI_le (Nat.le_refl K) (by omega)) c_30
          | succ d ih =>
            intro j hj H locs hP hD hS ls hl
            have hjl : j < K := by omega
            refine lv_iload hx hb dX0_write_27 (lv_at hl 3 rfl) ?_
            refine lv_iload_n hx hb dX0_write_29 rfl (lv_at hl 2 rfl) ?_
            refine q_ti (y := nI K) (hkK) ?_
            refine lv_icmp_ge (tgt := 54) hx hb dX0_write_30 (by decide) (fun c_30 => ?_) (fun c_30 => ?_)
            · exact absurd c_30 (nI_ge hjl (by omega))
            · refine lv_aload_n hx hb dX0_write_33 rfl (lv_at hl 0 rfl) ?_
              refine lv_lload_n hx hb dX0_write_34 rfl (lv_at hl 1 rfl) ?_
              refine lv_bipush (v := 56) hx hb dX0_write_35 (by decide) ?_
              refine lv_bipush (v := 8) hx hb dX0_write_37 (by decide) ?_
              refine lv_iload hx hb dX0_write_39 (lv_at hl 3 rfl) ?_
              refine lv_imul hx hb dX0_write_41 ?_
              refine lv_isub hx hb dX0_write_42 ?_
              refine lv_lushr (v := sh_U (ev) ((56 - (8 * nI (j))))) hx hb dX0_write_43 rfl ?_
              refine lv_l2i (v := ((sh_U (ev) ((56 - (8 * nI (j)))))).toInt32) hx hb dX0_write_44 rfl ?_
              have hFc := va_free (wc := xC h0 a0 a1 cB cI (n + j) (ns) (wd) (wr_f f n ev j) (g)) hD hS hA [0, 1, 2] rfl
              refine va_callv (va_runV (As := [.int (((sh_U (ev) ((56 - (8 * nI (j)))))).toInt32)]) (rest := []) ⟨hx, hb, hml, hown, hts⟩ (c_X_append l dC dI h0 a0 a1 cB cI H.size (n + j) (ns) (wd) (wr_f f n ev j) (g) (((sh_U (ev) ((56 - (8 * nI (j)))))).toInt32) (by omega)) (cwV 1 hts gX0_write_X0_append rfl rfl rfl (by decide +kernel) ⟨Nat.le_of_ble_eq_true rfl, Nat.le_of_ble_eq_true rfl⟩) (xi_pre hP hK hD _) rfl rfl hl.1 rfl (lv_room (Nat.le_of_ble_eq_true rfl)) dX0_write_45 ⟨Nat.zero_le _, Nat.zero_le _⟩) hS (fun q _ h => hFc q h) hFc (fun u t H1 locs ht hvm hw hB hz1 hk1 hS => ?_)
              obtain ⟨hP, -, hD1⟩ := hB
              rw [ht] at hP
              have hD := hD1.weaken (fun _ q _ h => hFc q.1 h)
              have hfe : upd (wr_f f n ev j) (n + j) ((((sh_U (ev) ((56 - (8 * nI (j)))))).toInt32).toInt8.toInt32) = wr_f f n ev (j + 1) := rfl
              rw [hfe] at hP hD
              generalize H1 = H at hP hS ⊢
              have hP : va_P (dC, dI) vwCl (xC h0 a0 a1 cB cI (n + (j + 1)) (ns) (wd) (wr_f f n ev (j + 1)) (g)) H := hP
              have hD : va_D A (xC h0 a0 a1 cB cI (n + (j + 1)) (ns) (wd) (wr_f f n ev (j + 1)) (g)) := hD
              refine lv_iinc (v := nI (j + 1)) (lv' := [(4, .int (nI (j + 1))), (0, .ref h0), (1, .long (ev)), (3, .int (k))]) hx hb dX0_write_48 hl (k := 3) rfl (nI_add j 1) (by decide) rfl (fun ls hl => ?_)
              refine lv_goto (tgt := 27) hx hb dX0_write_51 (by decide) ?_
              exact ih (j + 1) (by omega) _ _ hP hD hS ls (lv_sub hl [1, 2, 3, 0] rfl)
        exact L27 (K) 0 (by omega) _ _ hP hD hS ls (lv_sub hl [1, 2, 3, 0] rfl)
      · have hKn : 65536 < n + K := by
          rw [hkK, nI_leI (by omega) (by omega)] at c_19
          omega
        refine lv_iconst (v := 0) hx hb dX0_write_22 (by decide) ?_
        exact W.zret (v := 0) hx hb hr (by decide) (fun t ht hW => ⟨⟨0, (n, f), rfl, (wr_no f ev (by rw [hkK]; exact wr_big hK1 hK8 hKn)), by rw [ht]; exact hP, va_K.moved hW.alike hK, hD⟩, hS.F ht⟩) hS.2.2 dX0_write_23
set_option maxHeartbeats 4000000 in
set_option maxRecDepth 100000 in
theorem c_X_again (l : Launch) (dC : Nat → ClassId) (dI : Nat → Nat → Nat) (h0 a0 a1 : Nat) (cB cI : ClassId) (sz n : Nat) (ns : Int32) (wd : Int64) (f g : Nat → Int32) (x : Int32) (y : Int32) (hn : n ≤ 65536) : Met l yX0_again wsX0_again ({ frames := 1, cells := 0, slots := 0, locals := 21 } : Room) (va_Pc [.ref h0, .int x, .int y] (xI dC dI h0 a0 a1 cB cI sz n ns wd f g)) (va_Qi (fun (r : Int32) (u : Nat × (Nat → Int32)) => r = ag_ok n x y ∧ u.1 = ag_n n x y ∧ u.2 = ag_F n f x y) (fun u : Nat × (Nat → Int32) => xO dC dI (va_A (xC h0 a0 a1 cB cI (n) (ns) (wd) (f) (g)) sz) h0 a0 a1 cB cI u.1 ns wd u.2 g) (va_A (xC h0 a0 a1 cB cI (n) (ns) (wd) (f) (g)) sz)) 0 0 (va_A (xC h0 a0 a1 cB cI (n) (ns) (wd) (f) (g)) sz) := by
  refine Met.ofW (cc := cX0_again) (maxL := 7) (ret := some .boolean) (by decide) rfl ?_
  intro p e s m args below meth c s₁ B hml hv
  obtain ⟨rfl, hsz, hP, hK, hD0⟩ := hv
  have hx := B.exec
  have hb := B.bytes
  have hr := B.returns
  have hts := atoms_spec (ws := wsX0_again) B.pre
  have hown : s.vm.findClass RX0 = some m.cls := findClass_of_methodNamed B.named
  have hlocks := B.notSynchronized
  have hin : ∀ w ∈ u_ws RX0 TX0 5, w ∈ wsX0_again := by decide +kernel
  subst hsz
  have hD := hD0.self (sz := s.heap.size)
  generalize hAe : va_A (xC h0 a0 a1 cB cI (n) (ns) (wd) (f) (g)) s.heap.size = A at hD ⊢
  have hA : ∀ q : Nat, s.heap.size ≤ q → A q := fun q h => by rw [← hAe]; exact Or.inr h
  have hS : va_S A s.heap s.heap [] := va_S.rf
  have hl := lv_entry ([.ref h0, .int x, .int y]) (n := 7) (Nat.le_of_ble_eq_true rfl)
  rw [lg_entry_eq]
  generalize (lg_sl ([.ref h0, .int x, .int y]) ++ List.replicate (7 - (lg_sl ([.ref h0, .int x, .int y])).length) Slot.unset).toArray = ls at hl ⊢
  have hl : lv_has ls 7 [(0, .ref h0), (1, .int (x)), (2, .int (y))] := hl
  refine lv_iload_n hx hb dX0_again_0 rfl (lv_at hl 1 rfl) ?_
  refine lv_iconst (v := 1) hx hb dX0_again_1 (by decide) ?_
  refine lv_icmp_lt (tgt := 17) hx hb dX0_again_2 (by decide) (fun c_2 => ?_) (fun c_2 => ?_)
  · refine lv_iconst (v := 0) hx hb dX0_again_17 (by decide) ?_
    exact W.zret (v := 0) hx hb hr (by decide) (fun t ht hW => ⟨⟨0, (n, f), rfl, (ag_no f (by unfold ag_ok; rw [if_pos c_2])), by rw [ht]; exact hP, va_K.moved hW.alike hK, hD⟩, hS.F ht⟩) hS.2.2 dX0_again_18
  · refine lv_iload_n hx hb dX0_again_5 rfl (lv_at hl 1 rfl) ?_
    refine lv_aload_n hx hb dX0_again_6 rfl (lv_at hl 0 rfl) ?_
    refine va_get (D := (dC, dI)) (ci := 0) (v := .int (nI (n))) (C := RX0) (T := TX0) (N := 5) hx hb hts hin hown hK hP 0 rfl rfl 2 (by decide) (hts (.fieldLink RX0 22 "StreamSums" "count" "I") (by decide +kernel)) (fun _ h9 => h9) rfl dX0_again_7 ?_
    refine lv_icmp_gt (tgt := 17) hx hb dX0_again_10 (by decide) (fun c_10 => ?_) (fun c_10 => ?_)
    · refine lv_iconst (v := 0) hx hb dX0_again_17 (by decide) ?_
      exact W.zret (v := 0) hx hb hr (by decide) (fun t ht hW => ⟨⟨0, (n, f), rfl, (ag_no f (by unfold ag_ok; rw [if_neg c_2, if_pos c_10])), by rw [ht]; exact hP, va_K.moved hW.alike hK, hD⟩, hS.F ht⟩) hS.2.2 dX0_again_18
    · refine lv_iload_n hx hb dX0_again_13 rfl (lv_at hl 2 rfl) ?_
      refine lv_if_ge (tgt := 19) hx hb dX0_again_14 (by decide) (fun c_14 => ?_) (fun c_14 => ?_)
      · have hy0 : ¬ y < 0 := Int32.not_lt.mpr c_14
        obtain ⟨w, k, hxw, hyk, hw1, hwn, hk⟩ := ag_k hn c_2 c_10 hy0
        have hwk := ag_lt (w := w) (k := k) (by omega) hk
        refine lv_iload_n hx hb dX0_again_19 rfl (lv_at hl 1 rfl) ?_
        refine lv_i2l (v := (x).toInt64) hx hb dX0_again_20 rfl ?_
        refine lv_iload_n hx hb dX0_again_21 rfl (lv_at hl 2 rfl) ?_
        refine lv_i2l (v := (y).toInt64) hx hb dX0_again_22 rfl ?_
        refine lv_lmul hx hb dX0_again_23 ?_
        refine q_tl (y := lN (w * k)) (by rw [hxw, hyk]; exact ag_mul (by omega) hk) ?_
        refine lv_lstore_n (lv' := [(3, .long (lN (w * k))), (0, .ref h0), (1, .int (x)), (2, .int (y))]) hx hb dX0_again_24 rfl hl (by decide) rfl (fun ls hl => ?_)
        refine lv_lload_n hx hb dX0_again_25 rfl (lv_at hl 0 rfl) ?_
        refine lv_ldc (v := 65536) hx hb hown (hts (.constant RX0 9 (65536)) (by decide +kernel)) dX0_again_26 ?_
        refine lv_aload_n hx hb dX0_again_28 rfl (lv_at hl 1 rfl) ?_
        refine va_get (D := (dC, dI)) (ci := 0) (v := .int (nI (n))) (C := RX0) (T := TX0) (N := 5) hx hb hts hin hown hK hP 0 rfl rfl 2 (by decide) (hts (.fieldLink RX0 22 "StreamSums" "count" "I") (by decide +kernel)) (fun _ h9 => h9) rfl dX0_again_29 ?_
        refine lv_isub hx hb dX0_again_32 ?_
        refine q_ti (y := nI (65536 - n)) (pk_sub (a := 65536) hn) ?_
        refine lv_i2l (v := (nI (65536 - n)).toInt64) hx hb dX0_again_33 rfl ?_
        refine q_tl (y := lN (65536 - n)) (nI_l (by omega)) ?_
        refine W.lcmp hx hb dX0_again_34 ?_
        refine lv_if_le (tgt := 40) hx hb dX0_again_35 (by decide) (fun c_35 => ?_) (fun c_35 => ?_)
        · have hfit : n + w * k ≤ 65536 := by
            rw [lg_cmp_le, pk_lLE (by omega) (by omega)] at c_35
            omega
          refine lv_lconst (v := 0) hx hb dX0_again_40 (by decide) ?_
          refine lv_lstore (lv' := [(5, .long (0)), (3, .long (lN (w * k))), (0, .ref h0), (1, .int (x)), (2, .int (y))]) hx hb dX0_again_41 hl (by decide) rfl (fun ls hl => ?_)
          have L43 : ∀ (d j : Nat), j + d = w * k → ∀ (H : Heap) (locs : List Loc), va_P (dC, dI) vwCl (xC h0 a0 a1 cB cI (n + j) (ns) (wd) (ag_f f n w (j)) (g)) H → va_D A (xC h0 a0 a1 cB cI (n + j) (ns) (wd) (ag_f f n w (j)) (g)) → va_S A s.heap H locs → ∀ ls : Array Slot, lv_has ls 7 [(0, .ref h0), (1, .int (x)), (2, .int (y)), (3, .long (lN (w * k))), (5, .long (lN (j)))] → W p l e (headSpec wsX0_again ({ frames := 1, cells := 0, slots := 0, locals := 21 } : Room)).room s m [Value.ref h0, .int x, .int y].toArray below meth c H locs 0 0 (MQ below (va_Qi (fun (r : Int32) (u : Nat × (Nat → Int32)) => r = ag_ok n x y ∧ u.1 = ag_n n x y ∧ u.2 = ag_F n f x y) (fun u : Nat × (Nat → Int32) => xO dC dI A h0 a0 a1 cB cI u.1 ns wd u.2 g) A) [Value.ref h0, .int x, .int y].toArray s 0 0 A) (F0 m 43 ls []) := by
            intro d
            induction d with
            | zero =>
              intro j hj H locs hP hD hS ls hl
              obtain rfl : w * k = j := by omega
              refine lv_lload hx hb dX0_again_43 (lv_at hl 4 rfl) ?_
              refine lv_lload_n hx hb dX0_again_45 rfl (lv_at hl 3 rfl) ?_
              refine W.lcmp hx hb dX0_again_46 ?_
              refine lv_if_ge (tgt := 73) hx hb dX0_again_47 (by decide) (fun c_47 => ?_) (fun c_47 => ?_)
              · refine lv_iconst (v := 1) hx hb dX0_again_73 (by decide) ?_
                exact W.zret (v := 1) hx hb hr (by decide) (fun t ht hW => ⟨⟨1, (n + (w * k), ag_f f n w ((w * k))), rfl, (by have h := ag_yes (n := n) f hw1 hwn hk hn hfit; rw [hxw, hyk]; exact h), by rw [ht]; exact hP, va_K.moved hW.alike hK, hD⟩, hS.F ht⟩) hS.2.2 dX0_again_74
              · exact absurd ((lg_cmp_ge _ _).mpr (by rw [Int64.le_iff_toInt_le]; exact Int.le_refl _)) c_47
            | succ d ih =>
              intro j hj H locs hP hD hS ls hl
              have hjl : j < w * k := by omega
              refine lv_lload hx hb dX0_again_43 (lv_at hl 4 rfl) ?_
              refine lv_lload_n hx hb dX0_again_45 rfl (lv_at hl 3 rfl) ?_
              refine W.lcmp hx hb dX0_again_46 ?_
              refine lv_if_ge (tgt := 73) hx hb dX0_again_47 (by decide) (fun c_47 => ?_) (fun c_47 => ?_)
              · exact absurd ((pk_lLE (by omega) (by omega)).mp ((lg_cmp_ge _ _).mp c_47)) (by omega)
              · refine lv_aload_n hx hb dX0_again_50 rfl (lv_at hl 0 rfl) ?_
                refine lv_aload_n hx hb dX0_again_51 rfl (lv_at hl 0 rfl) ?_
                refine lv_aload_n hx hb dX0_again_52 rfl (lv_at hl 0 rfl) ?_
                refine va_get (D := (dC, dI)) (ci := 0) (v := .int (nI (n + j))) (C := RX0) (T := TX0) (N := 5) hx hb hts hin hown hK hP 0 rfl rfl 2 (by decide) (hts (.fieldLink RX0 22 "StreamSums" "count" "I") (by decide +kernel)) (fun _ h9 => h9) rfl dX0_again_53 ?_
                refine lv_iload_n hx hb dX0_again_56 rfl (lv_at hl 1 rfl) ?_
                refine lv_isub hx hb dX0_again_57 ?_
                refine q_ti (y := nI (n + j - w)) (by rw [hxw]; exact pk_sub (by omega)) ?_
                refine q_V (As := [.int (nI (n + j - w))]) (rest := [.ref h0]) ⟨hx, hb, hml, hown, hts⟩ (c_X_byteIn l dC dI h0 a0 a1 cB cI (n + j) (ns) (wd) (ag_f f n w (j)) (g) (n + j - w) (by omega) (by omega)) (cwV 1 hts gX0_again_X0_byteAt rfl rfl rfl (by decide +kernel) ⟨Nat.le_of_ble_eq_true rfl, Nat.le_of_ble_eq_true rfl⟩) (xw_pre hP hK _) rfl hl.1 rfl (Nat.le_of_ble_eq_true rfl) dX0_again_58 ⟨Nat.zero_le _, Nat.zero_le _⟩ ?_
                have hFc := va_free (wc := xC h0 a0 a1 cB cI (n + j) (ns) (wd) (ag_f f n w (j)) (g)) hD hS hA [0, 1, 2] rfl
                refine va_callv (va_runV (As := [.int (((ag_f f n w (j)) (n + j - w) &&& 255))]) (rest := []) ⟨hx, hb, hml, hown, hts⟩ (c_X_append l dC dI h0 a0 a1 cB cI H.size (n + j) (ns) (wd) (ag_f f n w (j)) (g) (((ag_f f n w (j)) (n + j - w) &&& 255)) (by omega)) (cwV 1 hts gX0_again_X0_append rfl rfl rfl (by decide +kernel) ⟨Nat.le_of_ble_eq_true rfl, Nat.le_of_ble_eq_true rfl⟩) (xi_pre hP hK hD _) rfl rfl hl.1 rfl (lv_room (Nat.le_of_ble_eq_true rfl)) dX0_again_61 ⟨Nat.zero_le _, Nat.zero_le _⟩) hS (fun q _ h => hFc q h) hFc (fun u t H1 locs ht hvm hw hB hz1 hk1 hS => ?_)
                obtain ⟨hP, -, hD1⟩ := hB
                rw [ht] at hP
                have hD := hD1.weaken (fun _ q _ h => hFc q.1 h)
                have hfe : upd (ag_f f n w (j)) (n + j) ((((ag_f f n w (j)) (n + j - w) &&& 255)).toInt8.toInt32) = ag_f f n w (j + 1) := by rw [ag_byte]; rfl
                rw [hfe] at hP hD
                generalize H1 = H at hP hS ⊢
                have hP : va_P (dC, dI) vwCl (xC h0 a0 a1 cB cI (n + (j + 1)) (ns) (wd) (ag_f f n w (j + 1)) (g)) H := hP
                have hD : va_D A (xC h0 a0 a1 cB cI (n + (j + 1)) (ns) (wd) (ag_f f n w (j + 1)) (g)) := hD
                refine lv_lload hx hb dX0_again_64 (lv_at hl 4 rfl) ?_
                refine lv_lconst (v := 1) hx hb dX0_again_66 (by decide) ?_
                refine lv_ladd hx hb dX0_again_67 ?_
                refine q_tl (y := lN (j + 1)) (lN_add j 1) ?_
                refine lv_lstore (lv' := [(5, .long (lN (j + 1))), (0, .ref h0), (1, .int (x)), (2, .int (y)), (3, .long (lN (w * k)))]) hx hb dX0_again_68 hl (by decide) rfl (fun ls hl => ?_)
                refine lv_goto (tgt := 43) hx hb dX0_again_70 (by decide) ?_
                exact ih (j + 1) (by omega) _ _ hP hD hS ls (lv_sub hl [1, 2, 3, 4, 0] rfl)
          exact L43 (w * k) 0 (by omega) _ _ hP hD hS ls (lv_sub hl [2, 3, 4, 1, 0] rfl)
        · have hfit : 65536 < n + w * k := by
            rw [lg_cmp_le, pk_lLE (by omega) (by omega)] at c_35
            omega
          refine lv_iconst (v := 0) hx hb dX0_again_38 (by decide) ?_
          exact W.zret (v := 0) hx hb hr (by decide) (fun t ht hW => ⟨⟨0, (n, f), rfl, (ag_no f (by rw [hxw, hyk]; exact ag_big (by omega) hk hfit)), by rw [ht]; exact hP, va_K.moved hW.alike hK, hD⟩, hS.F ht⟩) hS.2.2 dX0_again_39
      · refine lv_iconst (v := 0) hx hb dX0_again_17 (by decide) ?_
        exact W.zret (v := 0) hx hb hr (by decide) (fun t ht hW => ⟨⟨0, (n, f), rfl, (ag_no f (by unfold ag_ok; rw [if_neg c_2, if_neg c_10, if_pos (Int32.not_le.mp c_14)])), by rw [ht]; exact hP, va_K.moved hW.alike hK, hD⟩, hS.F ht⟩) hS.2.2 dX0_again_18
end
section
set_option maxHeartbeats 4000000 in
set_option maxRecDepth 100000 in
theorem c_M_begin (l : Launch) (dC : Nat → ClassId) (dI : Nat → Nat → Nat) (h0 a0 : Nat) (cB : ClassId) (sz n : Nat) (ns : Int32) (wd : Int64) (f : Nat → Int32) (sd : Int32) (wv : Int64) : Met l yX1_begin wsM_begin ({ frames := 0, cells := 0, slots := 0, locals := 0 } : Room) (va_Pc [.ref h0, .int sd, .long wv] (mI dC dI h0 a0 cB sz n ns wd f)) (va_Qv (fun _ : Unit => True) (fun _ : Unit => mO dC dI (va_A (mC h0 a0 cB (n) (ns) (wd) (f)) sz) h0 a0 cB (0) (sd) (wv) (f)) (va_A (mC h0 a0 cB (n) (ns) (wd) (f)) sz)) 0 0 (va_A (mC h0 a0 cB (n) (ns) (wd) (f)) sz) := by
  refine Met.ofW (cc := cX1_begin) (maxL := 4) (ret := none) (by decide) rfl ?_
  intro p e s m args below meth c s₁ B hml hv
  obtain ⟨rfl, hsz, hP, hK, hD0⟩ := hv
  have hx := B.exec
  have hb := B.bytes
  have hr := B.returns
  have hts := atoms_spec (ws := wsM_begin) B.pre
  have hown : s.vm.findClass RX1 = some m.cls := findClass_of_methodNamed B.named
  have hlocks := B.notSynchronized
  have hin : ∀ w ∈ u_ws RX1 TX1 4, w ∈ wsM_begin := fun w h => wsM_self w (wsM_fin w h)
  subst hsz
  have hD := hD0.self (sz := s.heap.size)
  generalize hAe : va_A (mC h0 a0 cB (n) (ns) (wd) (f)) s.heap.size = A at hD ⊢
  have hA : ∀ q : Nat, s.heap.size ≤ q → A q := fun q h => by rw [← hAe]; exact Or.inr h
  have hS : va_S A s.heap s.heap [] := va_S.rf
  have hl := lv_entry ([.ref h0, .int sd, .long wv]) (n := 4) (Nat.le_of_ble_eq_true rfl)
  rw [lg_entry_eq]
  generalize (lg_sl ([.ref h0, .int sd, .long wv]) ++ List.replicate (4 - (lg_sl ([.ref h0, .int sd, .long wv])).length) Slot.unset).toArray = ls at hl ⊢
  have hl : lv_has ls 4 [(0, .ref h0), (1, .int (sd)), (2, .long (wv))] := hl
  refine lv_aload_n hx hb dX1_begin_0 rfl (lv_at hl 0 rfl) ?_
  refine lv_iconst (v := 0) hx hb dX1_begin_1 (by decide) ?_
  refine va_put (D := (dC, dI)) (ci := 1) (v := .int (0)) (ty := .int) (C := RX1) (T := TX1) (N := 4) hx hb hts hin tyX1 tyX1_ok nmX1 hown hK hP hD hS 0 rfl rfl 1 (by decide) (hts (.fieldLink RX1 14 "StreamSumsModel" "length" "I") (wsM_self _ (wsM_nin (by decide +kernel)))) (fun _ h9 => h9) rfl (by decide +kernel) rfl rfl (Nat.le_of_ble_eq_true rfl) dX1_begin_2 (fun H locs hP hD hS => ?_)
  have hP : va_P (dC, dI) vwCl (mC h0 a0 cB (0) (ns) (wd) (f)) H := hP
  have hD : va_D A (mC h0 a0 cB (0) (ns) (wd) (f)) := hD
  refine lv_aload_n hx hb dX1_begin_5 rfl (lv_at hl 0 rfl) ?_
  refine lv_iload_n hx hb dX1_begin_6 rfl (lv_at hl 1 rfl) ?_
  refine va_put (D := (dC, dI)) (ci := 1) (v := .int (sd)) (ty := .int) (C := RX1) (T := TX1) (N := 4) hx hb hts hin tyX1 tyX1_ok nmX1 hown hK hP hD hS 0 rfl rfl 2 (by decide) (hts (.fieldLink RX1 18 "StreamSumsModel" "seedNarrow" "I") (wsM_self _ (wsM_nin (by decide +kernel)))) (fun _ h9 => h9) rfl (by decide +kernel) rfl rfl (Nat.le_of_ble_eq_true rfl) dX1_begin_7 (fun H locs hP hD hS => ?_)
  have hP : va_P (dC, dI) vwCl (mC h0 a0 cB (0) (sd) (wd) (f)) H := hP
  have hD : va_D A (mC h0 a0 cB (0) (sd) (wd) (f)) := hD
  refine lv_aload_n hx hb dX1_begin_10 rfl (lv_at hl 0 rfl) ?_
  refine lv_lload_n hx hb dX1_begin_11 rfl (lv_at hl 2 rfl) ?_
  refine va_put (D := (dC, dI)) (ci := 1) (v := .long (wv)) (ty := .long) (C := RX1) (T := TX1) (N := 4) hx hb hts hin tyX1 tyX1_ok nmX1 hown hK hP hD hS 0 rfl rfl 3 (by decide) (hts (.fieldLink RX1 21 "StreamSumsModel" "seedWide" "J") (wsM_self _ (wsM_nin (by decide +kernel)))) (fun _ h9 => h9) rfl (by decide +kernel) rfl rfl (Nat.le_of_ble_eq_true rfl) dX1_begin_12 (fun H locs hP hD hS => ?_)
  have hP : va_P (dC, dI) vwCl (mC h0 a0 cB (0) (sd) (wv) (f)) H := hP
  have hD : va_D A (mC h0 a0 cB (0) (sd) (wv) (f)) := hD
  exact W.vret hx hb hr (fun t ht hW => ⟨⟨(), rfl, trivial, by rw [ht]; exact hP, va_K.moved hW.alike hK, hD⟩, hS.F ht⟩) hS.2.2 dX1_begin_15
set_option maxHeartbeats 4000000 in
set_option maxRecDepth 100000 in
theorem c_M_write (l : Launch) (dC : Nat → ClassId) (dI : Nat → Nat → Nat) (h0 a0 : Nat) (cB : ClassId) (sz n : Nat) (ns : Int32) (wd : Int64) (f : Nat → Int32) (ev : Int64) (k : Int32) (hn : n ≤ 65536) : Met l yX1_write wsM_write ({ frames := 0, cells := 0, slots := 0, locals := 0 } : Room) (va_Pc [.ref h0, .long ev, .int k] (mI dC dI h0 a0 cB sz n ns wd f)) (va_Qi (fun (r : Int32) (u : Nat × (Nat → Int32)) => r = wr_ok n k ∧ u.1 = wr_n n k ∧ u.2 = wr_F n f ev k) (fun u : Nat × (Nat → Int32) => mO dC dI (va_A (mC h0 a0 cB (n) (ns) (wd) (f)) sz) h0 a0 cB u.1 ns wd u.2) (va_A (mC h0 a0 cB (n) (ns) (wd) (f)) sz)) 0 0 (va_A (mC h0 a0 cB (n) (ns) (wd) (f)) sz) := by
  refine Met.ofW (cc := cX1_write) (maxL := 5) (ret := some .boolean) (by decide) rfl ?_
  intro p e s m args below meth c s₁ B hml hv
  obtain ⟨rfl, hsz, hP, hK, hD0⟩ := hv
  have hx := B.exec
  have hb := B.bytes
  have hr := B.returns
  have hts := atoms_spec (ws := wsM_write) B.pre
  have hown : s.vm.findClass RX1 = some m.cls := findClass_of_methodNamed B.named
  have hlocks := B.notSynchronized
  have hin : ∀ w ∈ u_ws RX1 TX1 4, w ∈ wsM_write := fun w h => wsM_self w (wsM_fin w h)
  subst hsz
  have hD := hD0.self (sz := s.heap.size)
  generalize hAe : va_A (mC h0 a0 cB (n) (ns) (wd) (f)) s.heap.size = A at hD ⊢
  have hA : ∀ q : Nat, s.heap.size ≤ q → A q := fun q h => by rw [← hAe]; exact Or.inr h
  have hS : va_S A s.heap s.heap [] := va_S.rf
  have hl := lv_entry ([.ref h0, .long ev, .int k]) (n := 5) (Nat.le_of_ble_eq_true rfl)
  rw [lg_entry_eq]
  generalize (lg_sl ([.ref h0, .long ev, .int k]) ++ List.replicate (5 - (lg_sl ([.ref h0, .long ev, .int k])).length) Slot.unset).toArray = ls at hl ⊢
  have hl : lv_has ls 5 [(0, .ref h0), (1, .long (ev)), (3, .int (k))] := hl
  refine lv_iload_n hx hb dX1_write_0 rfl (lv_at hl 2 rfl) ?_
  refine lv_iconst (v := 1) hx hb dX1_write_1 (by decide) ?_
  refine lv_icmp_lt (tgt := 22) hx hb dX1_write_2 (by decide) (fun c_2 => ?_) (fun c_2 => ?_)
  · refine lv_iconst (v := 0) hx hb dX1_write_22 (by decide) ?_
    exact W.zret (v := 0) hx hb hr (by decide) (fun t ht hW => ⟨⟨0, (n, f), rfl, (wr_no f ev (by unfold wr_ok; rw [if_pos c_2])), by rw [ht]; exact hP, va_K.moved hW.alike hK, hD⟩, hS.F ht⟩) hS.2.2 dX1_write_23
  · refine lv_iload_n hx hb dX1_write_5 rfl (lv_at hl 2 rfl) ?_
    refine lv_bipush (v := 8) hx hb dX1_write_6 (by decide) ?_
    refine lv_icmp_gt (tgt := 22) hx hb dX1_write_8 (by decide) (fun c_8 => ?_) (fun c_8 => ?_)
    · refine lv_iconst (v := 0) hx hb dX1_write_22 (by decide) ?_
      exact W.zret (v := 0) hx hb hr (by decide) (fun t ht hW => ⟨⟨0, (n, f), rfl, (wr_no f ev (by unfold wr_ok; rw [if_neg c_2, if_pos c_8])), by rw [ht]; exact hP, va_K.moved hW.alike hK, hD⟩, hS.F ht⟩) hS.2.2 dX1_write_23
    · obtain ⟨K, hkK, hK1, hK8⟩ := wr_k c_2 c_8
      refine lv_aload_n hx hb dX1_write_11 rfl (lv_at hl 0 rfl) ?_
      refine va_get (D := (dC, dI)) (ci := 1) (v := .int (nI (n))) (C := RX1) (T := TX1) (N := 4) hx hb hts hin hown hK hP 0 rfl rfl 1 (by decide) (hts (.fieldLink RX1 14 "StreamSumsModel" "length" "I") (wsM_self _ (wsM_nin (by decide +kernel)))) (fun _ h9 => h9) rfl dX1_write_12 ?_
      refine lv_iload_n hx hb dX1_write_15 rfl (lv_at hl 2 rfl) ?_
      refine lv_iadd hx hb dX1_write_16 ?_
      refine q_ti (y := nI (n + K)) (by rw [hkK]; exact nI_add n K) ?_
      refine lv_ldc (v := 65536) hx hb hown (hts (.constant RX1 7 (65536)) (wsM_self _ (wsM_nin (by decide +kernel)))) dX1_write_17 ?_
      refine lv_icmp_le (tgt := 24) hx hb dX1_write_19 (by decide) (fun c_19 => ?_) (fun c_19 => ?_)
      · have hKn : n + K ≤ 65536 := (nI_leI (b := 65536) (by omega) (by omega)).mp c_19
        refine lv_iconst (v := 0) hx hb dX1_write_24 (by decide) ?_
        refine lv_istore (lv' := [(4, .int (0)), (0, .ref h0), (1, .long (ev)), (3, .int (k))]) hx hb dX1_write_25 hl (by decide) rfl (fun ls hl => ?_)
        have L27 : ∀ (d j : Nat), j + d = K → ∀ (H : Heap) (locs : List Loc), va_P (dC, dI) vwCl (mC h0 a0 cB (n + j) (ns) (wd) (wr_f f n ev j)) H → va_D A (mC h0 a0 cB (n + j) (ns) (wd) (wr_f f n ev j)) → va_S A s.heap H locs → ∀ ls : Array Slot, lv_has ls 5 [(0, .ref h0), (1, .long (ev)), (3, .int (k)), (4, .int (nI (j)))] → W p l e (headSpec wsM_write ({ frames := 0, cells := 0, slots := 0, locals := 0 } : Room)).room s m [Value.ref h0, .long ev, .int k].toArray below meth c H locs 0 0 (MQ below (va_Qi (fun (r : Int32) (u : Nat × (Nat → Int32)) => r = wr_ok n k ∧ u.1 = wr_n n k ∧ u.2 = wr_F n f ev k) (fun u : Nat × (Nat → Int32) => mO dC dI A h0 a0 cB u.1 ns wd u.2) A) [Value.ref h0, .long ev, .int k].toArray s 0 0 A) (F0 m 27 ls []) := by
          intro d
          induction d with
          | zero =>
            intro j hj H locs hP hD hS ls hl
            obtain rfl : K = j := by omega
            refine lv_iload hx hb dX1_write_27 (lv_at hl 3 rfl) ?_
            refine lv_iload_n hx hb dX1_write_29 rfl (lv_at hl 2 rfl) ?_
            refine q_ti (y := nI K) (hkK) ?_
            refine lv_icmp_ge (tgt := 70) hx hb dX1_write_30 (by decide) (fun c_30 => ?_) (fun c_30 => ?_)
            · refine lv_iconst (v := 1) hx hb dX1_write_70 (by decide) ?_
              exact W.zret (v := 1) hx hb hr (by decide) (fun t ht hW => ⟨⟨1, (n + K, wr_f f n ev K), rfl, (by have h := wr_yes (n := n) f ev hK1 hK8 hKn; rw [hkK]; exact h), by rw [ht]; exact hP, va_K.moved hW.alike hK, hD⟩, hS.F ht⟩) hS.2.2 dX1_write_71
            · exact absurd (nI_le (Nat.le_refl K) (by omega)) c_30
          | succ d ih =>
            intro j hj H locs hP hD hS ls hl
            have hjl : j < K := by omega
            refine lv_iload hx hb dX1_write_27 (lv_at hl 3 rfl) ?_
            refine lv_iload_n hx hb dX1_write_29 rfl (lv_at hl 2 rfl) ?_
            refine q_ti (y := nI K) (hkK) ?_
            refine lv_icmp_ge (tgt := 70) hx hb dX1_write_30 (by decide) (fun c_30 => ?_) (fun c_30 => ?_)
            · exact absurd c_30 (nI_ge hjl (by omega))
            · refine lv_aload_n hx hb dX1_write_33 rfl (lv_at hl 0 rfl) ?_
              refine va_get (D := (dC, dI)) (ci := 1) (v := .ref a0) (C := RX1) (T := TX1) (N := 4) hx hb hts hin hown hK hP 0 rfl rfl 0 (by decide) (hts (.fieldLink RX1 8 "StreamSumsModel" "row" "[B") (wsM_self _ (wsM_nin (by decide +kernel)))) (fun _ h9 => h9) rfl dX1_write_34 ?_
              refine lv_aload_n hx hb dX1_write_37 rfl (lv_at hl 0 rfl) ?_
              refine va_get (D := (dC, dI)) (ci := 1) (v := .int (nI (n + j))) (C := RX1) (T := TX1) (N := 4) hx hb hts hin hown hK hP 0 rfl rfl 1 (by decide) (hts (.fieldLink RX1 14 "StreamSumsModel" "length" "I") (wsM_self _ (wsM_nin (by decide +kernel)))) (fun _ h9 => h9) rfl dX1_write_38 ?_
              refine lv_lload_n hx hb dX1_write_41 rfl (lv_at hl 1 rfl) ?_
              refine lv_bipush (v := 56) hx hb dX1_write_42 (by decide) ?_
              refine lv_bipush (v := 8) hx hb dX1_write_44 (by decide) ?_
              refine lv_iload hx hb dX1_write_46 (lv_at hl 3 rfl) ?_
              refine lv_imul hx hb dX1_write_48 ?_
              refine lv_isub hx hb dX1_write_49 ?_
              refine lv_lushr (v := sh_U (ev) ((56 - (8 * nI (j))))) hx hb dX1_write_50 rfl ?_
              refine lv_l2i (v := ((sh_U (ev) ((56 - (8 * nI (j)))))).toInt32) hx hb dX1_write_51 rfl ?_
              refine lv_i2b (v := (((sh_U (ev) ((56 - (8 * nI (j)))))).toInt32).toInt8.toInt32) hx hb dX1_write_52 rfl ?_
              refine q_bast (j := n + j) (y := wr_b ev j) hx hb hK hP hD hS 1 0 rfl rfl rfl (by omega) (by omega) (pk_vb _) dX1_write_53 (fun H locs hP hD hS => ?_)
              have hP : va_P (dC, dI) vwCl (mC h0 a0 cB (n + j) (ns) (wd) (wr_f f n ev (j + 1))) H := hP
              have hD : va_D A (mC h0 a0 cB (n + j) (ns) (wd) (wr_f f n ev (j + 1))) := hD
              refine lv_aload_n hx hb dX1_write_54 rfl (lv_at hl 0 rfl) ?_
              refine lv_dup hx hb dX1_write_55 rfl ?_
              refine va_get (D := (dC, dI)) (ci := 1) (v := .int (nI (n + j))) (C := RX1) (T := TX1) (N := 4) hx hb hts hin hown hK hP 0 rfl rfl 1 (by decide) (hts (.fieldLink RX1 14 "StreamSumsModel" "length" "I") (wsM_self _ (wsM_nin (by decide +kernel)))) (fun _ h9 => h9) rfl dX1_write_56 ?_
              refine lv_iconst (v := 1) hx hb dX1_write_59 (by decide) ?_
              refine lv_iadd hx hb dX1_write_60 ?_
              refine q_ti (y := nI (n + (j + 1))) (nI_add (n + j) 1) ?_
              refine va_put (D := (dC, dI)) (ci := 1) (v := .int (nI (n + (j + 1)))) (ty := .int) (C := RX1) (T := TX1) (N := 4) hx hb hts hin tyX1 tyX1_ok nmX1 hown hK hP hD hS 0 rfl rfl 1 (by decide) (hts (.fieldLink RX1 14 "StreamSumsModel" "length" "I") (wsM_self _ (wsM_nin (by decide +kernel)))) (fun _ h9 => h9) rfl (by decide +kernel) rfl rfl (Nat.le_of_ble_eq_true rfl) dX1_write_61 (fun H locs hP hD hS => ?_)
              have hP : va_P (dC, dI) vwCl (mC h0 a0 cB (n + (j + 1)) (ns) (wd) (wr_f f n ev (j + 1))) H := hP
              have hD : va_D A (mC h0 a0 cB (n + (j + 1)) (ns) (wd) (wr_f f n ev (j + 1))) := hD
              refine lv_iinc (v := nI (j + 1)) (lv' := [(4, .int (nI (j + 1))), (0, .ref h0), (1, .long (ev)), (3, .int (k))]) hx hb dX1_write_64 hl (k := 3) rfl (nI_add j 1) (by decide) rfl (fun ls hl => ?_)
              refine lv_goto (tgt := 27) hx hb dX1_write_67 (by decide) ?_
              exact ih (j + 1) (by omega) _ _ hP hD hS ls (lv_sub hl [1, 2, 3, 0] rfl)
        exact L27 (K) 0 (by omega) _ _ hP hD hS ls (lv_sub hl [1, 2, 3, 0] rfl)
      · have hKn : 65536 < n + K := Nat.not_le.mp (fun q => c_19 (nI_le (b := 65536) q (by omega)))
        refine lv_iconst (v := 0) hx hb dX1_write_22 (by decide) ?_
        exact W.zret (v := 0) hx hb hr (by decide) (fun t ht hW => ⟨⟨0, (n, f), rfl, (wr_no f ev (by rw [hkK]; exact wr_big hK1 hK8 hKn)), by rw [ht]; exact hP, va_K.moved hW.alike hK, hD⟩, hS.F ht⟩) hS.2.2 dX1_write_23
set_option maxHeartbeats 4000000 in
set_option maxRecDepth 100000 in
theorem c_M_again (l : Launch) (dC : Nat → ClassId) (dI : Nat → Nat → Nat) (h0 a0 : Nat) (cB : ClassId) (sz n : Nat) (ns : Int32) (wd : Int64) (f : Nat → Int32) (x : Int32) (y : Int32) (hn : n ≤ 65536) : Met l yX1_again wsM_again ({ frames := 0, cells := 0, slots := 0, locals := 0 } : Room) (va_Pc [.ref h0, .int x, .int y] (mI dC dI h0 a0 cB sz n ns wd f)) (va_Qi (fun (r : Int32) (u : Nat × (Nat → Int32)) => r = ag_ok n x y ∧ u.1 = ag_n n x y ∧ u.2 = ag_F n f x y) (fun u : Nat × (Nat → Int32) => mO dC dI (va_A (mC h0 a0 cB (n) (ns) (wd) (f)) sz) h0 a0 cB u.1 ns wd u.2) (va_A (mC h0 a0 cB (n) (ns) (wd) (f)) sz)) 0 0 (va_A (mC h0 a0 cB (n) (ns) (wd) (f)) sz) := by
  refine Met.ofW (cc := cX1_again) (maxL := 5) (ret := some .boolean) (by decide) rfl ?_
  intro p e s m args below meth c s₁ B hml hv
  obtain ⟨rfl, hsz, hP, hK, hD0⟩ := hv
  have hx := B.exec
  have hb := B.bytes
  have hr := B.returns
  have hts := atoms_spec (ws := wsM_again) B.pre
  have hown : s.vm.findClass RX1 = some m.cls := findClass_of_methodNamed B.named
  have hlocks := B.notSynchronized
  have hin : ∀ w ∈ u_ws RX1 TX1 4, w ∈ wsM_again := fun w h => wsM_self w (wsM_fin w h)
  subst hsz
  have hD := hD0.self (sz := s.heap.size)
  generalize hAe : va_A (mC h0 a0 cB (n) (ns) (wd) (f)) s.heap.size = A at hD ⊢
  have hA : ∀ q : Nat, s.heap.size ≤ q → A q := fun q h => by rw [← hAe]; exact Or.inr h
  have hS : va_S A s.heap s.heap [] := va_S.rf
  have hl := lv_entry ([.ref h0, .int x, .int y]) (n := 5) (Nat.le_of_ble_eq_true rfl)
  rw [lg_entry_eq]
  generalize (lg_sl ([.ref h0, .int x, .int y]) ++ List.replicate (5 - (lg_sl ([.ref h0, .int x, .int y])).length) Slot.unset).toArray = ls at hl ⊢
  have hl : lv_has ls 5 [(0, .ref h0), (1, .int (x)), (2, .int (y))] := hl
  refine lv_iload_n hx hb dX1_again_0 rfl (lv_at hl 1 rfl) ?_
  refine lv_iconst (v := 1) hx hb dX1_again_1 (by decide) ?_
  refine lv_icmp_lt (tgt := 35) hx hb dX1_again_2 (by decide) (fun c_2 => ?_) (fun c_2 => ?_)
  · refine lv_iconst (v := 0) hx hb dX1_again_35 (by decide) ?_
    exact W.zret (v := 0) hx hb hr (by decide) (fun t ht hW => ⟨⟨0, (n, f), rfl, (ag_no f (by unfold ag_ok; rw [if_pos c_2])), by rw [ht]; exact hP, va_K.moved hW.alike hK, hD⟩, hS.F ht⟩) hS.2.2 dX1_again_36
  · refine lv_iload_n hx hb dX1_again_5 rfl (lv_at hl 1 rfl) ?_
    refine lv_aload_n hx hb dX1_again_6 rfl (lv_at hl 0 rfl) ?_
    refine va_get (D := (dC, dI)) (ci := 1) (v := .int (nI (n))) (C := RX1) (T := TX1) (N := 4) hx hb hts hin hown hK hP 0 rfl rfl 1 (by decide) (hts (.fieldLink RX1 14 "StreamSumsModel" "length" "I") (wsM_self _ (wsM_nin (by decide +kernel)))) (fun _ h9 => h9) rfl dX1_again_7 ?_
    refine lv_icmp_gt (tgt := 35) hx hb dX1_again_10 (by decide) (fun c_10 => ?_) (fun c_10 => ?_)
    · refine lv_iconst (v := 0) hx hb dX1_again_35 (by decide) ?_
      exact W.zret (v := 0) hx hb hr (by decide) (fun t ht hW => ⟨⟨0, (n, f), rfl, (ag_no f (by unfold ag_ok; rw [if_neg c_2, if_pos c_10])), by rw [ht]; exact hP, va_K.moved hW.alike hK, hD⟩, hS.F ht⟩) hS.2.2 dX1_again_36
    · refine lv_iload_n hx hb dX1_again_13 rfl (lv_at hl 2 rfl) ?_
      refine lv_if_lt (tgt := 35) hx hb dX1_again_14 (by decide) (fun c_14 => ?_) (fun c_14 => ?_)
      · refine lv_iconst (v := 0) hx hb dX1_again_35 (by decide) ?_
        exact W.zret (v := 0) hx hb hr (by decide) (fun t ht hW => ⟨⟨0, (n, f), rfl, (ag_no f (by unfold ag_ok; rw [if_neg c_2, if_neg c_10, if_pos c_14])), by rw [ht]; exact hP, va_K.moved hW.alike hK, hD⟩, hS.F ht⟩) hS.2.2 dX1_again_36
      · obtain ⟨w, k, hxw, hyk, hw1, hwn, hk⟩ := ag_k hn c_2 c_10 c_14
        have hwk := ag_lt (w := w) (k := k) (by omega) hk
        refine lv_aload_n hx hb dX1_again_17 rfl (lv_at hl 0 rfl) ?_
        refine va_get (D := (dC, dI)) (ci := 1) (v := .int (nI (n))) (C := RX1) (T := TX1) (N := 4) hx hb hts hin hown hK hP 0 rfl rfl 1 (by decide) (hts (.fieldLink RX1 14 "StreamSumsModel" "length" "I") (wsM_self _ (wsM_nin (by decide +kernel)))) (fun _ h9 => h9) rfl dX1_again_18 ?_
        refine lv_i2l (v := (nI (n)).toInt64) hx hb dX1_again_21 rfl ?_
        refine q_tl (y := lN n) (nI_l (by omega)) ?_
        refine lv_iload_n hx hb dX1_again_22 rfl (lv_at hl 1 rfl) ?_
        refine lv_i2l (v := (x).toInt64) hx hb dX1_again_23 rfl ?_
        refine lv_iload_n hx hb dX1_again_24 rfl (lv_at hl 2 rfl) ?_
        refine lv_i2l (v := (y).toInt64) hx hb dX1_again_25 rfl ?_
        refine lv_lmul hx hb dX1_again_26 ?_
        refine q_tl (y := lN (w * k)) (by rw [hxw, hyk]; exact ag_mul (by omega) hk) ?_
        refine lv_ladd hx hb dX1_again_27 ?_
        refine q_tl (y := lN (n + w * k)) (lN_add _ _) ?_
        refine lv_ldc2 (v := 65536) hx hb hown (hts (.constantLong RX1 25 (65536)) (wsM_self _ (wsM_nin (by decide +kernel)))) dX1_again_28 ?_
        refine W.lcmp hx hb dX1_again_31 ?_
        refine lv_if_le (tgt := 37) hx hb dX1_again_32 (by decide) (fun c_32 => ?_) (fun c_32 => ?_)
        · have hfit : n + w * k ≤ 65536 := by
            rw [lg_cmp_le, show (65536 : Int64) = lN 65536 from rfl, pk_lLE (by omega) (by omega)] at c_32
            omega
          refine lv_iload_n hx hb dX1_again_37 rfl (lv_at hl 1 rfl) ?_
          refine lv_iload_n hx hb dX1_again_38 rfl (lv_at hl 2 rfl) ?_
          refine lv_imul hx hb dX1_again_39 ?_
          refine q_ti (y := nI (w * k)) (by rw [hxw, hyk]; exact pk_mul w k) ?_
          refine lv_istore_n (lv' := [(3, .int (nI (w * k))), (0, .ref h0), (1, .int (x)), (2, .int (y))]) hx hb dX1_again_40 rfl hl (by decide) rfl (fun ls hl => ?_)
          refine lv_iconst (v := 0) hx hb dX1_again_41 (by decide) ?_
          refine lv_istore (lv' := [(4, .int (0)), (3, .int (nI (w * k))), (0, .ref h0), (1, .int (x)), (2, .int (y))]) hx hb dX1_again_42 hl (by decide) rfl (fun ls hl => ?_)
          have L44 : ∀ (d j : Nat), j + d = w * k → ∀ (H : Heap) (locs : List Loc), va_P (dC, dI) vwCl (mC h0 a0 cB (n + j) (ns) (wd) (ag_f f n w (j))) H → va_D A (mC h0 a0 cB (n + j) (ns) (wd) (ag_f f n w (j))) → va_S A s.heap H locs → ∀ ls : Array Slot, lv_has ls 5 [(0, .ref h0), (1, .int (x)), (2, .int (y)), (3, .int (nI (w * k))), (4, .int (nI (j)))] → W p l e (headSpec wsM_again ({ frames := 0, cells := 0, slots := 0, locals := 0 } : Room)).room s m [Value.ref h0, .int x, .int y].toArray below meth c H locs 0 0 (MQ below (va_Qi (fun (r : Int32) (u : Nat × (Nat → Int32)) => r = ag_ok n x y ∧ u.1 = ag_n n x y ∧ u.2 = ag_F n f x y) (fun u : Nat × (Nat → Int32) => mO dC dI A h0 a0 cB u.1 ns wd u.2) A) [Value.ref h0, .int x, .int y].toArray s 0 0 A) (F0 m 44 ls []) := by
            intro d
            induction d with
            | zero =>
              intro j hj H locs hP hD hS ls hl
              obtain rfl : w * k = j := by omega
              refine lv_iload hx hb dX1_again_44 (lv_at hl 4 rfl) ?_
              refine lv_iload_n hx hb dX1_again_46 rfl (lv_at hl 3 rfl) ?_
              refine lv_icmp_ge (tgt := 86) hx hb dX1_again_47 (by decide) (fun c_47 => ?_) (fun c_47 => ?_)
              · refine lv_iconst (v := 1) hx hb dX1_again_86 (by decide) ?_
                exact W.zret (v := 1) hx hb hr (by decide) (fun t ht hW => ⟨⟨1, (n + (w * k), ag_f f n w ((w * k))), rfl, (by have h := ag_yes (n := n) f hw1 hwn hk hn hfit; rw [hxw, hyk]; exact h), by rw [ht]; exact hP, va_K.moved hW.alike hK, hD⟩, hS.F ht⟩) hS.2.2 dX1_again_87
              · exact absurd (nI_le (Nat.le_refl _) (by omega)) c_47
            | succ d ih =>
              intro j hj H locs hP hD hS ls hl
              have hjl : j < w * k := by omega
              refine lv_iload hx hb dX1_again_44 (lv_at hl 4 rfl) ?_
              refine lv_iload_n hx hb dX1_again_46 rfl (lv_at hl 3 rfl) ?_
              refine lv_icmp_ge (tgt := 86) hx hb dX1_again_47 (by decide) (fun c_47 => ?_) (fun c_47 => ?_)
              · exact absurd c_47 (nI_ge hjl (by omega))
              · refine lv_aload_n hx hb dX1_again_50 rfl (lv_at hl 0 rfl) ?_
                refine va_get (D := (dC, dI)) (ci := 1) (v := .ref a0) (C := RX1) (T := TX1) (N := 4) hx hb hts hin hown hK hP 0 rfl rfl 0 (by decide) (hts (.fieldLink RX1 8 "StreamSumsModel" "row" "[B") (wsM_self _ (wsM_nin (by decide +kernel)))) (fun _ h9 => h9) rfl dX1_again_51 ?_
                refine lv_aload_n hx hb dX1_again_54 rfl (lv_at hl 0 rfl) ?_
                refine va_get (D := (dC, dI)) (ci := 1) (v := .int (nI (n + j))) (C := RX1) (T := TX1) (N := 4) hx hb hts hin hown hK hP 0 rfl rfl 1 (by decide) (hts (.fieldLink RX1 14 "StreamSumsModel" "length" "I") (wsM_self _ (wsM_nin (by decide +kernel)))) (fun _ h9 => h9) rfl dX1_again_55 ?_
                refine lv_aload_n hx hb dX1_again_58 rfl (lv_at hl 0 rfl) ?_
                refine va_get (D := (dC, dI)) (ci := 1) (v := .ref a0) (C := RX1) (T := TX1) (N := 4) hx hb hts hin hown hK hP 0 rfl rfl 0 (by decide) (hts (.fieldLink RX1 8 "StreamSumsModel" "row" "[B") (wsM_self _ (wsM_nin (by decide +kernel)))) (fun _ h9 => h9) rfl dX1_again_59 ?_
                refine lv_aload_n hx hb dX1_again_62 rfl (lv_at hl 0 rfl) ?_
                refine va_get (D := (dC, dI)) (ci := 1) (v := .int (nI (n + j))) (C := RX1) (T := TX1) (N := 4) hx hb hts hin hown hK hP 0 rfl rfl 1 (by decide) (hts (.fieldLink RX1 14 "StreamSumsModel" "length" "I") (wsM_self _ (wsM_nin (by decide +kernel)))) (fun _ h9 => h9) rfl dX1_again_63 ?_
                refine lv_iload_n hx hb dX1_again_66 rfl (lv_at hl 1 rfl) ?_
                refine lv_isub hx hb dX1_again_67 ?_
                refine q_ti (y := nI (n + j - w)) (by rw [hxw]; exact pk_sub (by omega)) ?_
                refine q_bald (j := n + j - w) hx hb hK hP 1 0 rfl rfl rfl (by omega) (by omega) dX1_again_68 ?_
                refine q_bast (j := n + j) (y := (ag_f f n w j (n + j - w)).toInt8.toInt32) hx hb hK hP hD hS 1 0 rfl rfl rfl (by omega) (by omega) (vp_nar_byte _) dX1_again_69 (fun H locs hP hD hS => ?_)
                have hP : va_P (dC, dI) vwCl (mC h0 a0 cB (n + j) (ns) (wd) (ag_f f n w (j + 1))) H := hP
                have hD : va_D A (mC h0 a0 cB (n + j) (ns) (wd) (ag_f f n w (j + 1))) := hD
                refine lv_aload_n hx hb dX1_again_70 rfl (lv_at hl 0 rfl) ?_
                refine lv_dup hx hb dX1_again_71 rfl ?_
                refine va_get (D := (dC, dI)) (ci := 1) (v := .int (nI (n + j))) (C := RX1) (T := TX1) (N := 4) hx hb hts hin hown hK hP 0 rfl rfl 1 (by decide) (hts (.fieldLink RX1 14 "StreamSumsModel" "length" "I") (wsM_self _ (wsM_nin (by decide +kernel)))) (fun _ h9 => h9) rfl dX1_again_72 ?_
                refine lv_iconst (v := 1) hx hb dX1_again_75 (by decide) ?_
                refine lv_iadd hx hb dX1_again_76 ?_
                refine q_ti (y := nI (n + (j + 1))) (nI_add (n + j) 1) ?_
                refine va_put (D := (dC, dI)) (ci := 1) (v := .int (nI (n + (j + 1)))) (ty := .int) (C := RX1) (T := TX1) (N := 4) hx hb hts hin tyX1 tyX1_ok nmX1 hown hK hP hD hS 0 rfl rfl 1 (by decide) (hts (.fieldLink RX1 14 "StreamSumsModel" "length" "I") (wsM_self _ (wsM_nin (by decide +kernel)))) (fun _ h9 => h9) rfl (by decide +kernel) rfl rfl (Nat.le_of_ble_eq_true rfl) dX1_again_77 (fun H locs hP hD hS => ?_)
                have hP : va_P (dC, dI) vwCl (mC h0 a0 cB (n + (j + 1)) (ns) (wd) (ag_f f n w (j + 1))) H := hP
                have hD : va_D A (mC h0 a0 cB (n + (j + 1)) (ns) (wd) (ag_f f n w (j + 1))) := hD
                refine lv_iinc (v := nI (j + 1)) (lv' := [(4, .int (nI (j + 1))), (0, .ref h0), (1, .int (x)), (2, .int (y)), (3, .int (nI (w * k)))]) hx hb dX1_again_80 hl (k := 4) rfl (nI_add j 1) (by decide) rfl (fun ls hl => ?_)
                refine lv_goto (tgt := 44) hx hb dX1_again_83 (by decide) ?_
                exact ih (j + 1) (by omega) _ _ hP hD hS ls (lv_sub hl [1, 2, 3, 4, 0] rfl)
          exact L44 (w * k) 0 (by omega) _ _ hP hD hS ls (lv_sub hl [2, 3, 4, 1, 0] rfl)
        · have hfit : 65536 < n + w * k := by
            rw [lg_cmp_le, show (65536 : Int64) = lN 65536 from rfl, pk_lLE (by omega) (by omega)] at c_32
            omega
          refine lv_iconst (v := 0) hx hb dX1_again_35 (by decide) ?_
          exact W.zret (v := 0) hx hb hr (by decide) (fun t ht hW => ⟨⟨0, (n, f), rfl, (ag_no f (by rw [hxw, hyk]; exact ag_big (by omega) hk hfit)), by rw [ht]; exact hP, va_K.moved hW.alike hK, hD⟩, hS.F ht⟩) hS.2.2 dX1_again_36
end
section
def tb_f : Nat → Nat → Int32
  | 0 => fun _ => 0
  | j + 1 => upd (tb_f j) j (cr_it cr_r 8 (nI j))
theorem tb_ok : ∀ j i, i < j → tb_f j i = cr_it cr_r 8 (nI i) := by
  intro j
  induction j with
  | zero => intro i hi; omega
  | succ j ih =>
    intro i hi
    show upd (tb_f j) j _ i = _
    by_cases e : i = j
    · subst e; exact pk_us
    · rw [pk_un e]; exact ih i (by omega)
set_option maxHeartbeats 4000000 in
set_option maxRecDepth 100000 in
theorem c_X_init (l : Launch) (dC : Nat → ClassId) (dI : Nat → Nat → Nat) (h0 sz : Nat) : Met l yX0_init wsX0_init ({ frames := 1, cells := 2, slots := 65792, locals := 40 } : Room) (va_Pc [.ref h0] (fun U => U.heap.size = sz ∧ va_P (dC, dI) vwCl [(h0, .inr (0, [.null, .null, .int 0, .int 0, .long 0]))] U.heap ∧ va_K (dC, dI) vwCl [] U ∧ va_D (fun _ => True) [(h0, .inr (0, [.null, .null, .int 0, .int 0, .long 0]))])) (va_Qv (fun u : (Nat × Nat × ClassId × ClassId × (Nat → Int32)) => ∀ i, i < 256 → u.2.2.2.2 i = cr_it cr_r 8 (nI i)) (fun u : (Nat × Nat × ClassId × ClassId × (Nat → Int32)) => xO dC dI (va_A [(h0, .inr (0, [.null, .null, .int 0, .int 0, .long 0]))] sz) h0 u.1 u.2.1 u.2.2.1 u.2.2.2.1 0 0 0 (fun _ => 0) u.2.2.2.2) (va_A [(h0, .inr (0, [.null, .null, .int 0, .int 0, .long 0]))] sz)) 2 65792 (va_A [(h0, .inr (0, [.null, .null, .int 0, .int 0, .long 0]))] sz) := by
  refine Met.ofW (cc := cX0_init) (maxL := 2) (ret := none) (by decide) rfl ?_
  intro p e s m args below meth c s₁ B hml hv
  obtain ⟨rfl, hsz, hP, hK, hD0⟩ := hv
  have hx := B.exec
  have hb := B.bytes
  have hr := B.returns
  have hts := atoms_spec (ws := wsX0_init) B.pre
  have hown : s.vm.findClass RX0 = some m.cls := findClass_of_methodNamed B.named
  have hlocks := B.notSynchronized
  have hmn : meth.name = "<init>" := (name_of_methodNamed B.named B.method).1
  have hin : ∀ w ∈ u_ws RX0 TX0 5, w ∈ wsX0_init := by decide +kernel
  subst hsz
  have hD := hD0.self (sz := s.heap.size)
  generalize hAe : va_A [(h0, .inr (0, [.null, .null, .int 0, .int 0, .long 0]))] s.heap.size = A at hD ⊢
  have hA : ∀ q : Nat, s.heap.size ≤ q → A q := fun q h => by rw [← hAe]; exact Or.inr h
  have hS : va_S A s.heap s.heap [] := va_S.rf
  have hl := lv_entry ([.ref h0]) (n := 2) (Nat.le_of_ble_eq_true rfl)
  rw [lg_entry_eq]
  generalize (lg_sl ([.ref h0]) ++ List.replicate (2 - (lg_sl ([.ref h0])).length) Slot.unset).toArray = ls at hl ⊢
  have hl : lv_has ls 2 [(0, .ref h0)] := hl
  refine lv_aload_n hx hb dX0_init_0 rfl (lv_at hl 0 rfl) ?_
  refine W.objInit hx hb hown (hts (.methodLink RX0 1 objectInit) (by decide +kernel)) (hts (.instanceMethod objectInit) (by decide +kernel)) (hts (.code objectInit ⟨#[0xb1]⟩ 1 none) (by decide +kernel)) rfl (by rw [hml]; exact hl.1) rfl dX0_init_1 (Nat.le_of_ble_eq_true rfl) (Nat.le_of_ble_eq_true rfl) ?_
  refine W.eq (g2 := F0 m 4 ls []) rfl ?_
  refine lv_aload_n hx hb dX0_init_4 rfl (lv_at hl 0 rfl) ?_
  refine lv_ldc (v := 65536) hx hb hown (hts (.constant RX0 9 (65536)) (by decide +kernel)) dX0_init_5 ?_
  refine va_newa (atype := .byte) (ty := .byte) (n := 65536) (N' := 65536) (a0 := (65536, .inl (fun _ => 0))) hx hb (hts (.arrayClass .byte) (by decide +kernel)) rfl hK hP hD hS hA (fun _ => rfl) (by decide) (by decide) (by decide) (Nat.le_of_ble_eq_true rfl) (Nat.le_of_ble_eq_true rfl) dX0_init_7 (fun a0 cB H hK hP hD hS => ?_)
  refine W.widen (k := 1) (n := 65536) (by omega) (by omega) ?_
  have hP : va_P (dC, dI) vwCl ([(h0, .inr (0, [.null, .null, .int 0, .int 0, .long 0])), (a0, .inl (cB, 65536, .inl (fun _ => 0)))]) H := hP
  have hD : va_D A ([(h0, .inr (0, [.null, .null, .int 0, .int 0, .long 0])), (a0, .inl (cB, 65536, .inl (fun _ => 0)))]) := hD
  refine va_putF (D := (dC, dI)) (ci := 0) (v := .ref a0) (ty := .array .byte) (C := RX0) (T := TX0) (N := 5) hx hb hts hin tyX0 tyX0_ok nmX0 hown hK hP hD hS 0 rfl rfl 0 (by decide) (hts (.fieldLink RX0 10 "StreamSums" "bytes" "[B") (by decide +kernel)) (fun _ h9 => h9) rfl hmn rfl (by decide +kernel) rfl rfl (Nat.le_of_ble_eq_true rfl) dX0_init_9 (fun H locs hP hD hS => ?_)
  have hP : va_P (dC, dI) vwCl ([(h0, .inr (0, [.ref a0, .null, .int 0, .int 0, .long 0])), (a0, .inl (cB, 65536, .inl (fun _ => 0)))]) H := hP
  have hD : va_D A ([(h0, .inr (0, [.ref a0, .null, .int 0, .int 0, .long 0])), (a0, .inl (cB, 65536, .inl (fun _ => 0)))]) := hD
  refine lv_aload_n hx hb dX0_init_12 rfl (lv_at hl 0 rfl) ?_
  refine lv_sipush (v := 256) hx hb dX0_init_13 (by decide) ?_
  refine va_newa (atype := .int) (ty := .int) (n := 256) (N' := 256) (a0 := (256, .inl (fun _ => 0))) hx hb (hts (.arrayClass .int) (by decide +kernel)) rfl hK hP hD hS hA (fun _ => rfl) (by decide) (by decide) (by decide) (Nat.le_of_ble_eq_true rfl) (Nat.le_of_ble_eq_true rfl) dX0_init_16 (fun a1 cI H hK hP hD hS => ?_)
  refine W.widen (k := 2) (n := 65792) (by omega) (by omega) ?_
  have hP : va_P (dC, dI) vwCl ([(h0, .inr (0, [.ref a0, .null, .int 0, .int 0, .long 0])), (a0, .inl (cB, 65536, .inl (fun _ => 0))), (a1, .inl (cI, 256, .inl (fun _ => 0)))]) H := hP
  have hD : va_D A ([(h0, .inr (0, [.ref a0, .null, .int 0, .int 0, .long 0])), (a0, .inl (cB, 65536, .inl (fun _ => 0))), (a1, .inl (cI, 256, .inl (fun _ => 0)))]) := hD
  have hK : va_K (dC, dI) vwCl (xT cB cI) s := hK
  refine va_putF (D := (dC, dI)) (ci := 0) (v := .ref a1) (ty := .array .int) (C := RX0) (T := TX0) (N := 5) hx hb hts hin tyX0 tyX0_ok nmX0 hown hK hP hD hS 0 rfl rfl 1 (by decide) (hts (.fieldLink RX0 14 "StreamSums" "eightSteps" "[I") (by decide +kernel)) (fun _ h9 => h9) rfl hmn rfl (by decide +kernel) rfl rfl (Nat.le_of_ble_eq_true rfl) dX0_init_18 (fun H locs hP hD hS => ?_)
  have hP : va_P (dC, dI) vwCl (xC h0 a0 a1 cB cI 0 0 0 (fun _ => 0) (tb_f 0)) H := hP
  have hD : va_D A (xC h0 a0 a1 cB cI 0 0 0 (fun _ => 0) (tb_f 0)) := hD
  refine lv_iconst (v := 0) hx hb dX0_init_21 (by decide) ?_
  refine lv_istore_n (lv' := [(1, .int 0), (0, .ref h0)]) hx hb dX0_init_22 rfl hl (by decide) rfl (fun ls hl => ?_)
  have L23 : ∀ (d j : Nat), j + d = 256 → ∀ (H : Heap) (locs : List Loc), va_P (dC, dI) vwCl (xC h0 a0 a1 cB cI 0 0 0 (fun _ => 0) (tb_f j)) H → va_D A (xC h0 a0 a1 cB cI 0 0 0 (fun _ => 0) (tb_f j)) → va_S A s.heap H locs → ∀ ls : Array Slot, lv_has ls 2 [(0, .ref h0), (1, .int (nI j))] → W p l e (headSpec wsX0_init ({ frames := 1, cells := 2, slots := 65792, locals := 40 } : Room)).room s m [Value.ref h0].toArray below meth c H locs 2 65792 (MQ below (va_Qv (fun u : (Nat × Nat × ClassId × ClassId × (Nat → Int32)) => ∀ i, i < 256 → u.2.2.2.2 i = cr_it cr_r 8 (nI i)) (fun u : (Nat × Nat × ClassId × ClassId × (Nat → Int32)) => xO dC dI A h0 u.1 u.2.1 u.2.2.1 u.2.2.2.1 0 0 0 (fun _ => 0) u.2.2.2.2) A) [Value.ref h0].toArray s 2 65792 A) (F0 m 23 ls []) := by
    intro d
    induction d with
    | zero =>
      intro j hj H locs hP hD hS ls hl
      obtain rfl : 256 = j := by omega
      refine lv_iload_n hx hb dX0_init_23 rfl (lv_at hl 1 rfl) ?_
      refine lv_sipush (v := 256) hx hb dX0_init_24 (by decide) ?_
      refine lv_icmp_ge (tgt := 48) hx hb dX0_init_27 (by decide) (fun c_27 => ?_) (fun c_27 => ?_)
      · refine lv_aload_n hx hb dX0_init_48 rfl (lv_at hl 0 rfl) ?_
        refine lv_iconst (v := 0) hx hb dX0_init_49 (by decide) ?_
        refine va_put (D := (dC, dI)) (ci := 0) (v := .int 0) (ty := .int) (C := RX0) (T := TX0) (N := 5) hx hb hts hin tyX0 tyX0_ok nmX0 hown hK hP hD hS 0 rfl rfl 2 (by decide) (hts (.fieldLink RX0 22 "StreamSums" "count" "I") (by decide +kernel)) (fun _ h9 => h9) rfl (by decide +kernel) rfl rfl (Nat.le_of_ble_eq_true rfl) dX0_init_50 (fun H locs hP hD hS => ?_)
        have hP : va_P (dC, dI) vwCl (xC h0 a0 a1 cB cI 0 0 0 (fun _ => 0) (tb_f 256)) H := hP
        have hD : va_D A (xC h0 a0 a1 cB cI 0 0 0 (fun _ => 0) (tb_f 256)) := hD
        refine lv_aload_n hx hb dX0_init_53 rfl (lv_at hl 0 rfl) ?_
        refine lv_iconst (v := 0) hx hb dX0_init_54 (by decide) ?_
        refine va_put (D := (dC, dI)) (ci := 0) (v := .int 0) (ty := .int) (C := RX0) (T := TX0) (N := 5) hx hb hts hin tyX0 tyX0_ok nmX0 hown hK hP hD hS 0 rfl rfl 3 (by decide) (hts (.fieldLink RX0 26 "StreamSums" "narrowSeed" "I") (by decide +kernel)) (fun _ h9 => h9) rfl (by decide +kernel) rfl rfl (Nat.le_of_ble_eq_true rfl) dX0_init_55 (fun H locs hP hD hS => ?_)
        have hP : va_P (dC, dI) vwCl (xC h0 a0 a1 cB cI 0 0 0 (fun _ => 0) (tb_f 256)) H := hP
        have hD : va_D A (xC h0 a0 a1 cB cI 0 0 0 (fun _ => 0) (tb_f 256)) := hD
        refine lv_aload_n hx hb dX0_init_58 rfl (lv_at hl 0 rfl) ?_
        refine lv_lconst (v := 0) hx hb dX0_init_59 (by decide) ?_
        refine va_put (D := (dC, dI)) (ci := 0) (v := .long 0) (ty := .long) (C := RX0) (T := TX0) (N := 5) hx hb hts hin tyX0 tyX0_ok nmX0 hown hK hP hD hS 0 rfl rfl 4 (by decide) (hts (.fieldLink RX0 29 "StreamSums" "wideSeed" "J") (by decide +kernel)) (fun _ h9 => h9) rfl (by decide +kernel) rfl rfl (Nat.le_of_ble_eq_true rfl) dX0_init_60 (fun H locs hP hD hS => ?_)
        have hP : va_P (dC, dI) vwCl (xC h0 a0 a1 cB cI 0 0 0 (fun _ => 0) (tb_f 256)) H := hP
        have hD : va_D A (xC h0 a0 a1 cB cI 0 0 0 (fun _ => 0) (tb_f 256)) := hD
        exact W.vret hx hb hr (fun t ht hW => ⟨⟨(a0, a1, cB, cI, tb_f 256), rfl, tb_ok 256, by rw [ht]; exact hP, va_K.moved hW.alike hK, hD⟩, hS.F ht⟩) hS.2.2 dX0_init_63
      · exact absurd (nI_le (a := 256) (b := 256) (Nat.le_refl _) (by omega)) c_27
    | succ d ih =>
      intro j hj H locs hP hD hS ls hl
      have hjl : j < 256 := by omega
      refine lv_iload_n hx hb dX0_init_23 rfl (lv_at hl 1 rfl) ?_
      refine lv_sipush (v := 256) hx hb dX0_init_24 (by decide) ?_
      refine lv_icmp_ge (tgt := 48) hx hb dX0_init_27 (by decide) (fun c_27 => ?_) (fun c_27 => ?_)
      · exact absurd c_27 (nI_ge (b := 256) hjl (by omega))
      · refine lv_aload_n hx hb dX0_init_30 rfl (lv_at hl 0 rfl) ?_
        refine va_get (D := (dC, dI)) (ci := 0) (v := .ref a1) (C := RX0) (T := TX0) (N := 5) hx hb hts hin hown hK hP 0 rfl rfl 1 (by decide) (hts (.fieldLink RX0 14 "StreamSums" "eightSteps" "[I") (by decide +kernel)) (fun _ h9 => h9) rfl dX0_init_31 ?_
        refine lv_iload_n hx hb dX0_init_34 rfl (lv_at hl 1 rfl) ?_
        refine lv_iload_n hx hb dX0_init_35 rfl (lv_at hl 1 rfl) ?_
        refine lv_bipush (v := 8) hx hb dX0_init_36 (by decide) ?_
        refine q_S (As := [.int (nI j), .int 8]) (rest := [.int (nI j), .ref a1]) ⟨hx, hb, hml, hown, hts⟩ (c_X_movedOn l (nI j) 8 (by omega)) (va_cwS 2 hts gX0_init_X0_movedOn rfl rfl rfl (by decide +kernel) ⟨Nat.le_of_ble_eq_true rfl, Nat.le_of_ble_eq_true rfl⟩) rfl hl.1 rfl (Nat.le_of_ble_eq_true rfl) dX0_init_38 ⟨Nat.le_of_ble_eq_true rfl, Nat.le_of_ble_eq_true rfl⟩ ?_
        refine q_iast (j := j) hx hb hK hP hD hS 2 1 rfl rfl rfl (by omega) (by omega) dX0_init_41 (fun H locs hP hD hS => ?_)
        have hP : va_P (dC, dI) vwCl (xC h0 a0 a1 cB cI 0 0 0 (fun _ => 0) (tb_f (j + 1))) H := hP
        have hD : va_D A (xC h0 a0 a1 cB cI 0 0 0 (fun _ => 0) (tb_f (j + 1))) := hD
        refine lv_iinc (v := nI (j + 1)) (lv' := [(1, .int (nI (j + 1))), (0, .ref h0)]) hx hb dX0_init_42 hl (k := 1) rfl (nI_add j 1) (by decide) rfl (fun ls hl => ?_)
        refine lv_goto (tgt := 23) hx hb dX0_init_45 (by decide) ?_
        exact ih (j + 1) (by omega) _ _ hP hD hS ls (lv_sub hl [1, 0] rfl)
  exact L23 256 0 (by omega) _ _ hP hD hS ls (lv_sub hl [1, 0] rfl)
set_option maxHeartbeats 4000000 in
set_option maxRecDepth 100000 in
theorem c_M_init (l : Launch) (dC : Nat → ClassId) (dI : Nat → Nat → Nat) (h0 sz : Nat) : Met l yX1_init wsM_init ({ frames := 1, cells := 1, slots := 65536, locals := 20 } : Room) (va_Pc [.ref h0] (fun U => U.heap.size = sz ∧ va_P (dC, dI) vwCl [(h0, .inr (1, [.null, .int 0, .int 0, .long 0]))] U.heap ∧ va_K (dC, dI) vwCl [] U ∧ va_D (fun _ => True) [(h0, .inr (1, [.null, .int 0, .int 0, .long 0]))])) (va_Qv (fun _ : (Nat × ClassId) => True) (fun u : (Nat × ClassId) => mO dC dI (va_A [(h0, .inr (1, [.null, .int 0, .int 0, .long 0]))] sz) h0 u.1 u.2 0 0 0 (fun _ => 0)) (va_A [(h0, .inr (1, [.null, .int 0, .int 0, .long 0]))] sz)) 1 65536 (va_A [(h0, .inr (1, [.null, .int 0, .int 0, .long 0]))] sz) := by
  refine Met.ofW (cc := cX1_init) (maxL := 1) (ret := none) (by decide) rfl ?_
  intro p e s m args below meth c s₁ B hml hv
  obtain ⟨rfl, hsz, hP, hK, hD0⟩ := hv
  have hx := B.exec
  have hb := B.bytes
  have hr := B.returns
  have hts := atoms_spec (ws := wsM_init) B.pre
  have hown : s.vm.findClass RX1 = some m.cls := findClass_of_methodNamed B.named
  have hlocks := B.notSynchronized
  have hmn : meth.name = "<init>" := (name_of_methodNamed B.named B.method).1
  have hin : ∀ w ∈ u_ws RX1 TX1 4, w ∈ wsM_init := fun w h => wsM_self w (wsM_fin w h)
  subst hsz
  have hD := hD0.self (sz := s.heap.size)
  generalize hAe : va_A [(h0, .inr (1, [.null, .int 0, .int 0, .long 0]))] s.heap.size = A at hD ⊢
  have hA : ∀ q : Nat, s.heap.size ≤ q → A q := fun q h => by rw [← hAe]; exact Or.inr h
  have hS : va_S A s.heap s.heap [] := va_S.rf
  have hl := lv_entry ([.ref h0]) (n := 1) (Nat.le_of_ble_eq_true rfl)
  rw [lg_entry_eq]
  generalize (lg_sl ([.ref h0]) ++ List.replicate (1 - (lg_sl ([.ref h0])).length) Slot.unset).toArray = ls at hl ⊢
  have hl : lv_has ls 1 [(0, .ref h0)] := hl
  refine lv_aload_n hx hb dX1_init_0 rfl (lv_at hl 0 rfl) ?_
  refine W.objInit hx hb hown (hts (.methodLink RX1 1 objectInit) (by decide +kernel)) (hts (.instanceMethod objectInit) (by decide +kernel)) (hts (.code objectInit ⟨#[0xb1]⟩ 1 none) (by decide +kernel)) rfl (by rw [hml]; exact hl.1) rfl dX1_init_1 (Nat.le_of_ble_eq_true rfl) (Nat.le_of_ble_eq_true rfl) ?_
  refine W.eq (g2 := F0 m 4 ls []) rfl ?_
  refine lv_aload_n hx hb dX1_init_4 rfl (lv_at hl 0 rfl) ?_
  refine lv_ldc (v := 65536) hx hb hown (hts (.constant RX1 7 (65536)) (by decide +kernel)) dX1_init_5 ?_
  refine va_newa (atype := .byte) (ty := .byte) (n := 65536) (N' := 65536) (a0 := (65536, .inl (fun _ => 0))) hx hb (hts (.arrayClass .byte) (by decide +kernel)) rfl hK hP hD hS hA (fun _ => rfl) (by decide) (by decide) (by decide) (Nat.le_of_ble_eq_true rfl) (Nat.le_of_ble_eq_true rfl) dX1_init_7 (fun a0 cB H hK hP hD hS => ?_)
  refine W.widen (k := 1) (n := 65536) (by omega) (by omega) ?_
  have hP : va_P (dC, dI) vwCl ([(h0, .inr (1, [.null, .int 0, .int 0, .long 0])), (a0, .inl (cB, 65536, .inl (fun _ => 0)))]) H := hP
  have hD : va_D A ([(h0, .inr (1, [.null, .int 0, .int 0, .long 0])), (a0, .inl (cB, 65536, .inl (fun _ => 0)))]) := hD
  have hK : va_K (dC, dI) vwCl (mT cB) s := hK
  refine va_putF (D := (dC, dI)) (ci := 1) (v := .ref a0) (ty := .array .byte) (C := RX1) (T := TX1) (N := 4) hx hb hts hin tyX1 tyX1_ok nmX1 hown hK hP hD hS 0 rfl rfl 0 (by decide) (hts (.fieldLink RX1 8 "StreamSumsModel" "row" "[B") (by decide +kernel)) (fun _ h9 => h9) rfl hmn rfl (by decide +kernel) rfl rfl (Nat.le_of_ble_eq_true rfl) dX1_init_9 (fun H locs hP hD hS => ?_)
  have hP : va_P (dC, dI) vwCl (mC h0 a0 cB 0 0 0 (fun _ => 0)) H := hP
  have hD : va_D A (mC h0 a0 cB 0 0 0 (fun _ => 0)) := hD
  exact W.vret hx hb hr (fun t ht hW => ⟨⟨(a0, cB), rfl, trivial, by rw [ht]; exact hP, va_K.moved hW.alike hK, hD⟩, hS.F ht⟩) hS.2.2 dX1_init_12
end
section
/-! THE CLAIM OUT OF ONE WALK OF THE LAW'S BODY. Your part is whole_start (and what it stands on); all else here is the same for every law, but numbers. -/
def R_law : String := "StreamSumsLaw"
def lw_P (b : Addr) (xs : List Int32) (args : Array Value) (s : State) : Prop := args = #[.ref b] ∧ s.IntsAt b xs ∧ xs.length ≤ 2560 ∧ (Jvm.Cond.and given_1 narrow_1).before args s = true
def lw_Q (_ : Array Value) (s : State) (o : Outcome) (t : State) : Prop := o = .returned (some (.int 1)) ∧ Framed s o t [] 600000 7302250
def lw_Z (below : List Frame) (a : Array Value) (s : State) : State → Prop := fun t => ∃ o, t.status = .running ∧ Ended t below o ∧ lw_Q a s o t
/-- the law's own end, with 1 on the stack, nothing written that was there before, its room as the claim has it -/
theorem lw_ret {p : Program} {l : Launch} {e : Env} {s : State} {m : MethodId} {below : List Frame} {meth : Method} {c : Code} {b : Nat} (hx : p.tables.exec = Jvm.exec) (hb : c.code = code) (hr : meth.sig.returnType = ret) (hlocks : meth.locks = false) {pc : Nat} {H : Heap} {ls : Array Slot} (hdg : decode code pc = .ok (.ireturn, 1)) : W p l e room_1 s m #[Value.ref b] below meth c H [] 600000 7302250 (lw_Z below #[Value.ref b] s) (F0 m pc ls [.int 1]) := by
  intro T hT X
  obtain ⟨fs, hret, hrun, hended, hW, hframe⟩ := X.leave (v := some (.int 1)) (hlocks := hlocks) (fun h => by rw [hr] at h; cases h)
  have hmeth' : T.vm.method? m = some meth := X.method'
  refine ⟨T.setFrames fs, ?_, .returned (some (.int 1)), hrun, hended, rfl, ⟨_, rfl⟩, hW, hframe⟩
  jvm_step X.here [X.here.top, hx, hb, hdg, hmeth', hr, ret, narrow_b1]
  (try refine ⟨rfl, ?_⟩); (try refine ⟨rfl, ?_⟩)
  first | (intro acts; rw [hret _ acts rfl rfl rfl]) | rw [hret _ _ rfl rfl rfl]
  exact Steps.refl _
/-- what holds at the law's entry: the machine, the code, the tables' words (any of lw_tbl by 'hts w (by decide +kernel)'), the script of L ints xs at the cell b, what the Statement gives of the start (any of its parts by flat_of_before) -/
def lw_At (p : Program) (s : State) (m : MethodId) (meth : Method) (c : Code) (b L : Nat) (xs : Nat → Int32) : Prop :=
  p.tables.exec = Jvm.exec ∧ c.code = code ∧ meth.sig.returnType = ret ∧ c.maxLocals = 4 ∧ s.vm.findClass R_law = some m.cls ∧ (∀ w ∈ lw_tbl, w.before #[Value.ref b] s = true) ∧ va_X b L xs s s.heap ∧ b < s.heap.size ∧ meth.locks = false ∧ (Jvm.Cond.and given_1 narrow_1).before #[Value.ref b] s = true
def wsLM_n : List Cond := [Cond.initialized RX1, Cond.instantiable RX1 4, Cond.methodLink RL 12 yX1_init, Cond.instanceMethod yX1_init, Cond.methodLink RL 19 yX1_begin, Cond.instanceMethod yX1_begin, Cond.selects RX1 yX1_begin yX1_begin, Cond.methodLink RL 24 yX1_write, Cond.instanceMethod yX1_write, Cond.selects RX1 yX1_write yX1_write, Cond.methodLink RL 29 yX1_again, Cond.instanceMethod yX1_again, Cond.selects RX1 yX1_again yX1_again, Cond.methodLink RL 34 yX1_size, Cond.instanceMethod yX1_size, Cond.selects RX1 yX1_size yX1_size, Cond.methodLink RL 39 yX1_byteAt, Cond.instanceMethod yX1_byteAt, Cond.selects RX1 yX1_byteAt yX1_byteAt, Cond.methodLink RL 43 yX1_narrow, Cond.instanceMethod yX1_narrow, Cond.selects RX1 yX1_narrow yX1_narrow, Cond.methodLink RL 48 yX1_wide, Cond.instanceMethod yX1_wide, Cond.selects RX1 yX1_wide yX1_wide, Cond.methodLink RL 52 yX1_poly, Cond.instanceMethod yX1_poly, Cond.selects RX1 yX1_poly yX1_poly, Cond.methodLink RL 57 yX1_narrowOf, Cond.instanceMethod yX1_narrowOf, Cond.selects RX1 yX1_narrowOf yX1_narrowOf, Cond.methodLink RL 62 yX1_wideOf, Cond.instanceMethod yX1_wideOf, Cond.selects RX1 yX1_wideOf yX1_wideOf, Cond.methodLink RL 67 yX1_polyOf, Cond.instanceMethod yX1_polyOf, Cond.selects RX1 yX1_polyOf yX1_polyOf, Cond.methodLink RL 72 yX1_masked, Cond.instanceMethod yX1_masked, Cond.selects RX1 yX1_masked yX1_masked, Cond.methodLink RL 77 yX1_joined, Cond.instanceMethod yX1_joined, Cond.selects RX1 yX1_joined yX1_joined, Cond.methodLink RL 81 yX1_cut, Cond.instanceMethod yX1_cut, Cond.selects RX1 yX1_cut yX1_cut, Cond.methodLink RL 85 yX1_forged, Cond.instanceMethod yX1_forged, Cond.selects RX1 yX1_forged yX1_forged, Cond.methodLink RL 89 yX1_mended, Cond.instanceMethod yX1_mended, Cond.selects RX1 yX1_mended yX1_mended]
def wsLM_c : List Cond := [Cond.code yX1_init cX1_init 1 none, Cond.code yX1_begin cX1_begin 4 none, Cond.code yX1_write cX1_write 5 (some .boolean), Cond.code yX1_again cX1_again 5 (some .boolean), Cond.code yX1_size cX1_size 1 (some .int), Cond.code yX1_byteAt cX1_byteAt 2 (some .int), Cond.code yX1_narrow cX1_narrow 1 (some .int), Cond.code yX1_wide cX1_wide 1 (some .long), Cond.code yX1_poly cX1_poly 1 (some .int), Cond.code yX1_narrowOf cX1_narrowOf 4 (some .int), Cond.code yX1_wideOf cX1_wideOf 5 (some .long), Cond.code yX1_polyOf cX1_polyOf 3 (some .int), Cond.code yX1_masked cX1_masked 3 (some .int), Cond.code yX1_joined cX1_joined 5 (some .int), Cond.code yX1_cut cX1_cut 5 (some .int), Cond.code yX1_forged cX1_forged 2 (some .int), Cond.code yX1_mended cX1_mended 5 (some .int)]
def wsLM : List Cond := wsLM_n ++ (wsLM_c ++ wsM)
set_option maxRecDepth 20000 in
theorem wsLM_in : ∀ w ∈ wsLM, w ∈ lw_tbl := fun w h => (goodIn_p wsLM [215, 234, 238, 242, 247, 251, 259, 291, 322, 283, 318, 337, 341, 346, 357, 367, 374, 29, 255, 360, 363, 370, 287, 311, 270, 274, 299, 350, 326, 332, 277, 263, 295, 353, 308, 305, 329] (by decide +kernel) (by decide +kernel) w h).1
theorem wsLM_m : ∀ w ∈ wsM, w ∈ wsLM := fun _ h => List.mem_append_right _ (List.mem_append_right _ h)
theorem wsLM_p {w : Cond} (h : w ∈ wsLM_n) : w ∈ wsLM := List.mem_append_left _ h
theorem wsLM_q {w : Cond} (h : w ∈ wsLM_c) : w ∈ wsLM := List.mem_append_right _ (List.mem_append_left _ h)
theorem gLM_init : GoodIn wsLM wsM_init := by
  intro w hw
  rcases List.mem_cons.mp hw with rfl | hw
  · exact ⟨wsLM_q (List.mem_of_getElem? (i := 0) rfl), Or.inl rfl⟩
  · exact ⟨wsLM_m w hw, good_of_word (List.all_eq_true.mp wsM_good w hw)⟩
theorem gL_law_X1_begin : GoodIn wsLM (wsV RL 19 RX1 yX1_begin wsM_begin) := gm_V wsLM_m (wsLM_p (by decide +kernel)) (wsLM_p (by decide +kernel)) (wsLM_p (by decide +kernel)) (wsLM_p (by decide +kernel)) (wsLM_q (List.mem_of_getElem? (i := 1) rfl))
theorem gL_law_X1_write : GoodIn wsLM (wsV RL 24 RX1 yX1_write wsM_write) := gm_V wsLM_m (wsLM_p (by decide +kernel)) (wsLM_p (by decide +kernel)) (wsLM_p (by decide +kernel)) (wsLM_p (by decide +kernel)) (wsLM_q (List.mem_of_getElem? (i := 2) rfl))
theorem gL_law_X1_again : GoodIn wsLM (wsV RL 29 RX1 yX1_again wsM_again) := gm_V wsLM_m (wsLM_p (by decide +kernel)) (wsLM_p (by decide +kernel)) (wsLM_p (by decide +kernel)) (wsLM_p (by decide +kernel)) (wsLM_q (List.mem_of_getElem? (i := 3) rfl))
theorem gL_law_X1_size : GoodIn wsLM (wsV RL 34 RX1 yX1_size wsM_size) := gm_V wsLM_m (wsLM_p (by decide +kernel)) (wsLM_p (by decide +kernel)) (wsLM_p (by decide +kernel)) (wsLM_p (by decide +kernel)) (wsLM_q (List.mem_of_getElem? (i := 4) rfl))
theorem gL_law_X1_byteAt : GoodIn wsLM (wsV RL 39 RX1 yX1_byteAt wsM_byteAt) := gm_V wsLM_m (wsLM_p (by decide +kernel)) (wsLM_p (by decide +kernel)) (wsLM_p (by decide +kernel)) (wsLM_p (by decide +kernel)) (wsLM_q (List.mem_of_getElem? (i := 5) rfl))
theorem gL_law_X1_narrow : GoodIn wsLM (wsV RL 43 RX1 yX1_narrow wsM_narrow) := gm_V wsLM_m (wsLM_p (by decide +kernel)) (wsLM_p (by decide +kernel)) (wsLM_p (by decide +kernel)) (wsLM_p (by decide +kernel)) (wsLM_q (List.mem_of_getElem? (i := 6) rfl))
theorem gL_law_X1_wide : GoodIn wsLM (wsV RL 48 RX1 yX1_wide wsM_wide) := gm_V wsLM_m (wsLM_p (by decide +kernel)) (wsLM_p (by decide +kernel)) (wsLM_p (by decide +kernel)) (wsLM_p (by decide +kernel)) (wsLM_q (List.mem_of_getElem? (i := 7) rfl))
theorem gL_law_X1_poly : GoodIn wsLM (wsV RL 52 RX1 yX1_poly wsM_poly) := gm_V wsLM_m (wsLM_p (by decide +kernel)) (wsLM_p (by decide +kernel)) (wsLM_p (by decide +kernel)) (wsLM_p (by decide +kernel)) (wsLM_q (List.mem_of_getElem? (i := 8) rfl))
theorem gL_law_X1_narrowOf : GoodIn wsLM (wsV RL 57 RX1 yX1_narrowOf wsM_narrowOf) := gm_V wsLM_m (wsLM_p (by decide +kernel)) (wsLM_p (by decide +kernel)) (wsLM_p (by decide +kernel)) (wsLM_p (by decide +kernel)) (wsLM_q (List.mem_of_getElem? (i := 9) rfl))
theorem gL_law_X1_wideOf : GoodIn wsLM (wsV RL 62 RX1 yX1_wideOf wsM_wideOf) := gm_V wsLM_m (wsLM_p (by decide +kernel)) (wsLM_p (by decide +kernel)) (wsLM_p (by decide +kernel)) (wsLM_p (by decide +kernel)) (wsLM_q (List.mem_of_getElem? (i := 10) rfl))
theorem gL_law_X1_polyOf : GoodIn wsLM (wsV RL 67 RX1 yX1_polyOf wsM_polyOf) := gm_V wsLM_m (wsLM_p (by decide +kernel)) (wsLM_p (by decide +kernel)) (wsLM_p (by decide +kernel)) (wsLM_p (by decide +kernel)) (wsLM_q (List.mem_of_getElem? (i := 11) rfl))
theorem gL_law_X1_masked : GoodIn wsLM (wsV RL 72 RX1 yX1_masked wsM_masked) := gm_V wsLM_m (wsLM_p (by decide +kernel)) (wsLM_p (by decide +kernel)) (wsLM_p (by decide +kernel)) (wsLM_p (by decide +kernel)) (wsLM_q (List.mem_of_getElem? (i := 12) rfl))
theorem gL_law_X1_joined : GoodIn wsLM (wsV RL 77 RX1 yX1_joined wsM_joined) := gm_V wsLM_m (wsLM_p (by decide +kernel)) (wsLM_p (by decide +kernel)) (wsLM_p (by decide +kernel)) (wsLM_p (by decide +kernel)) (wsLM_q (List.mem_of_getElem? (i := 13) rfl))
theorem gL_law_X1_cut : GoodIn wsLM (wsV RL 81 RX1 yX1_cut wsM_cut) := gm_V wsLM_m (wsLM_p (by decide +kernel)) (wsLM_p (by decide +kernel)) (wsLM_p (by decide +kernel)) (wsLM_p (by decide +kernel)) (wsLM_q (List.mem_of_getElem? (i := 14) rfl))
theorem gL_law_X1_forged : GoodIn wsLM (wsV RL 85 RX1 yX1_forged wsM_forged) := gm_V wsLM_m (wsLM_p (by decide +kernel)) (wsLM_p (by decide +kernel)) (wsLM_p (by decide +kernel)) (wsLM_p (by decide +kernel)) (wsLM_q (List.mem_of_getElem? (i := 15) rfl))
theorem gL_law_X1_mended : GoodIn wsLM (wsV RL 89 RX1 yX1_mended wsM_mended) := gm_V wsLM_m (wsLM_p (by decide +kernel)) (wsLM_p (by decide +kernel)) (wsLM_p (by decide +kernel)) (wsLM_p (by decide +kernel)) (wsLM_q (List.mem_of_getElem? (i := 16) rfl))
/-! the law's world and its own rows -/
abbrev lC (h0 a0 a1 : Nat) (cB cI : ClassId) (h1 b0 : Nat) (cM : ClassId) (n : Nat) (ns : Int32) (wd : Int64) (f g : Nat → Int32) (n2 : Nat) (ns2 : Int32) (wd2 : Int64) (f2 : Nat → Int32) : va_W := [(h0, .inr (0, [.ref a0, .ref a1, .int (nI n), .int ns, .long wd])), (a0, .inl (cB, 65536, .inl f)), (a1, .inl (cI, 256, .inl g)), (h1, .inr (1, [.ref b0, .int (nI n2), .int ns2, .long wd2])), (b0, .inl (cM, 65536, .inl f2))]
abbrev lT (cB cI cM : ClassId) : List (ClassId × FieldType) := [(cB, .byte), (cI, .int), (cM, .byte)]
theorem q_sld {p : Program} {l : Launch} {e : Env} {R : Room} {s : State} {m : MethodId} {args : Array Value} {below : List Frame} {meth : Method} {c : Code} {H H0 : Heap} {locs : List Loc} {cells slots : Nat} {Q : State → Prop} {cc : ByteArray} {pc : Nat} {ls : Array Slot} {rest : List Value} {A : Nat → Prop} (hexec : p.tables.exec = Jvm.exec) (hb : c.code = cc) {b L : Nat} {xs : Nat → Int32} (hX : va_X b L xs s H0) (hbl : b < H0.size) (hbA : ¬ A b) (hS : va_S A H0 H locs) {i : Int32} {j : Nat} (hi : i = nI j) (hj : j < L) (hL : L < 2 ^ 31) (hdg : decode cc pc = .ok (.iaload, 1))
    (kk : W p l e R s m args below meth c H locs cells slots Q (F0 m (pc + 1) ls (.int (xs j) :: rest))) : W p l e R s m args below meth c H locs cells slots Q (F0 m pc ls (.int i :: .ref b :: rest)) := by
  subst hi
  refine va_sld hexec hb hX hbl hbA hS (vp_in_nI hj hL) hdg ?_
  rw [nI_clamp (by omega)]
  exact kk
theorem wr_le {n : Nat} {k : Int32} (hn : n ≤ 65536) : wr_n n k ≤ 65536 := by
  unfold wr_n
  by_cases h : wr_ok n k = 0
  · rw [if_pos h]; exact hn
  · rw [if_neg h]
    unfold wr_ok at h
    by_cases h3 : 65536 < n + k.toNatClampNeg
    · rw [if_pos h3] at h
      exact absurd (by simp only [ite_self]) h
    · omega
theorem ag_le {n : Nat} {x y : Int32} (hn : n ≤ 65536) : ag_n n x y ≤ 65536 := by
  unfold ag_n
  by_cases h : ag_ok n x y = 0
  · rw [if_pos h]; exact hn
  · rw [if_neg h]
    unfold ag_ok at h
    by_cases h3 : 65536 < n + x.toNatClampNeg * y.toNatClampNeg
    · rw [if_pos h3] at h
      exact absurd (by simp only [ite_self]) h
    · omega
theorem law_gt {L t : Nat} (hL : L < 2 ^ 20) (h : L < 5 * t + 5) (ht : 5 * t < 2 ^ 20) : Int32.ofNat L - 5 < nI (5 * t) := by
  rw [Int32.lt_iff_toInt_lt, nI_toInt (by omega), show Int32.ofNat L - 5 = nI L - nI 5 from rfl, pk_sub_toInt (by omega) (by omega)]
  omega
theorem law_le {L t : Nat} (hL : L < 2 ^ 20) (ht : 5 * t < 2 ^ 20) (h : ¬ Int32.ofNat L - 5 < nI (5 * t)) : 5 * t + 5 ≤ L := by
  rw [Int32.lt_iff_toInt_lt, nI_toInt (by omega), show Int32.ofNat L - 5 = nI L - nI 5 from rfl, pk_sub_toInt (by omega) (by omega)] at h
  omega
theorem lw_k13 : Cond.constantLong RL 13 4294967295 ∈ lw_tbl := by decide +kernel
end
section
set_option maxHeartbeats 4000000 in
set_option maxRecDepth 100000 in
theorem law_case0 {p : Program} {l : Launch} {e : Env} {s : State} {m : MethodId} {below : List Frame} {meth : Method} {c : Code} {b L : Nat} {xs : Nat → Int32} (hL : L ≤ 2560) (C0 : lw_At p s m meth c b L xs) {dC : Nat → ClassId} {dI : Nat → Nat → Nat} {h0 a0 a1 : Nat} {cB cI : ClassId} {h1 b0 : Nat} {cM : ClassId} {g : Nat → Int32} (hg : ∀ i, i < 256 → g i = cr_it cr_r 8 (nI i)) (hK : va_K (dC, dI) vwCl (lT cB cI cM) s) (t : Nat) (ht5 : 5 * t + 5 ≤ L) (ih : ∀ (n : Nat) (ns : Int32) (wd : Int64) (f : Nat → Int32), n ≤ 65536 → ∀ (H : Heap) (locs : List Loc), va_P (dC, dI) vwCl (lC h0 a0 a1 cB cI h1 b0 cM n ns wd f g n ns wd f) H → va_D (fun q : Nat => s.heap.size ≤ q) (lC h0 a0 a1 cB cI h1 b0 cM n ns wd f g n ns wd f) → va_S (fun q : Nat => s.heap.size ≤ q) s.heap H locs → ∀ ls : Array Slot, lv_has ls 4 [(0, .ref b), (1, .ref h0), (2, .ref h1), (3, .int (nI (5 * (t + 1))))] → W p l e room_1 s m #[Value.ref b] below meth c H locs 5 131337 (lw_Z below #[Value.ref b] s) (F0 m 18 ls [])) : ∀ (n : Nat) (ns : Int32) (wd : Int64) (f : Nat → Int32), n ≤ 65536 → ∀ (H : Heap) (locs : List Loc), va_P (dC, dI) vwCl (lC h0 a0 a1 cB cI h1 b0 cM n ns wd f g n ns wd f) H → va_D (fun q : Nat => s.heap.size ≤ q) (lC h0 a0 a1 cB cI h1 b0 cM n ns wd f g n ns wd f) → va_S (fun q : Nat => s.heap.size ≤ q) s.heap H locs → ∀ ls : Array Slot, lv_has ls 4 [(0, .ref b), (1, .ref h0), (2, .ref h1), (3, .int (nI (5 * (t))))] → W p l e room_1 s m #[Value.ref b] below meth c H locs 5 131337 (lw_Z below #[Value.ref b] s) (F0 m 112 ls []) := by
  obtain ⟨hx, hb, hr, hml, hown0, hts0, hX, hbl, hlocks, hgv⟩ := id C0
  have hown : s.vm.findClass RL = some m.cls := hown0
  have hts : ∀ w ∈ wsL_law, w.before #[Value.ref b] s = true := fun w h => hts0 w (wsL_law_in w h)
  have htm : ∀ w ∈ wsLM, w.before #[Value.ref b] s = true := fun w h => hts0 w (wsLM_in w h)
  have hA : ∀ q : Nat, s.heap.size ≤ q → (fun q : Nat => s.heap.size ≤ q) q := fun _ h => h
  have hbA : ¬ (fun q : Nat => s.heap.size ≤ q) b := Nat.not_le.mpr hbl
  intro n ns wd f hn H locs hP hD hS ls hl
  refine lv_aload_n hx hb dL_law_112 rfl (lv_at hl 1 rfl) ?_
  refine lv_aload_n hx hb dL_law_113 rfl (lv_at hl 0 rfl) ?_
  refine lv_iload_n hx hb dL_law_114 rfl (lv_at hl 3 rfl) ?_
  refine lv_iconst (v := 1) hx hb dL_law_115 (by decide) ?_
  refine lv_iadd hx hb dL_law_116 ?_
  refine q_ti (y := nI (5 * t + 1)) (nI_add _ 1) ?_
  refine q_sld (j := 5 * t + 1) hx hb hX hbl hbA hS rfl (by omega) (by omega) dL_law_117 ?_
  refine lv_aload_n hx hb dL_law_118 rfl (lv_at hl 0 rfl) ?_
  refine lv_iload_n hx hb dL_law_119 rfl (lv_at hl 3 rfl) ?_
  refine lv_iconst (v := 2) hx hb dL_law_120 (by decide) ?_
  refine lv_iadd hx hb dL_law_121 ?_
  refine q_ti (y := nI (5 * t + 2)) (nI_add _ 2) ?_
  refine q_sld (j := 5 * t + 2) hx hb hX hbl hbA hS rfl (by omega) (by omega) dL_law_122 ?_
  refine lv_i2l (v := (xs (5 * t + 2)).toInt64) hx hb dL_law_123 rfl ?_
  refine lv_bipush (v := 32) hx hb dL_law_124 (by decide) ?_
  refine lv_lshl (v := sh_L ((xs (5 * t + 2)).toInt64) (32)) hx hb dL_law_126 rfl ?_
  refine lv_aload_n hx hb dL_law_127 rfl (lv_at hl 0 rfl) ?_
  refine lv_iload_n hx hb dL_law_128 rfl (lv_at hl 3 rfl) ?_
  refine lv_iconst (v := 3) hx hb dL_law_129 (by decide) ?_
  refine lv_iadd hx hb dL_law_130 ?_
  refine q_ti (y := nI (5 * t + 3)) (nI_add _ 3) ?_
  refine q_sld (j := 5 * t + 3) hx hb hX hbl hbA hS rfl (by omega) (by omega) dL_law_131 ?_
  refine lv_i2l (v := (xs (5 * t + 3)).toInt64) hx hb dL_law_132 rfl ?_
  refine lv_ldc2 (v := 4294967295) hx hb hown (hts0 (.constantLong RL 13 4294967295) lw_k13) dL_law_133 ?_
  refine lv_land hx hb dL_law_136 ?_
  refine lv_lor hx hb dL_law_137 ?_
  have hPc := hP.sub (ws' := xC h0 a0 a1 cB cI (n) (ns) (wd) (f) g) [0, 1, 2] rfl
  have hKc := hK.sub (tys' := xT cB cI) [0, 1] rfl
  have hDc := hD.sub (ws' := xC h0 a0 a1 cB cI (n) (ns) (wd) (f) g) [0, 1, 2] (by decide) rfl
  have hFc := va_free (wc := xC h0 a0 a1 cB cI (n) (ns) (wd) (f) g) hD hS hA [0, 1, 2] rfl
  refine va_callv (va_runV (As := [.int (xs (5 * t + 1)), .long (((sh_L ((xs (5 * t + 2)).toInt64) (32)) ||| ((xs (5 * t + 3)).toInt64 &&& 4294967295)))]) (rest := []) ⟨hx, hb, hml, hown, hts⟩ (c_X_begin l dC dI h0 a0 a1 cB cI H.size (n) (ns) (wd) (f) g (xs (5 * t + 1)) (((sh_L ((xs (5 * t + 2)).toInt64) (32)) ||| ((xs (5 * t + 3)).toInt64 &&& 4294967295)))) (cwV 2 hts gL_law_X0_begin rfl rfl rfl (by decide +kernel) ⟨Nat.le_of_ble_eq_true rfl, Nat.le_of_ble_eq_true rfl⟩) (xi_pre hPc hKc hDc _) rfl rfl hl.1 rfl (lv_room (Nat.le_of_ble_eq_true rfl)) dL_law_138 ⟨Nat.le_of_ble_eq_true rfl, Nat.le_of_ble_eq_true rfl⟩) hS (fun q _ h => hFc q h) hFc (fun u tt H1 locs ht hvm hw hB hz1 hk1 hS => ?_)
  obtain ⟨hP1, -, hD1⟩ := hB
  rw [ht] at hP1
  obtain ⟨hP, hD⟩ := va_join (wr := mC h1 b0 cM (n) (ns) (wd) (f)) (w1 := xC h0 a0 a1 cB cI (0) (xs (5 * t + 1)) (((sh_L ((xs (5 * t + 2)).toInt64) (32)) ||| ((xs (5 * t + 3)).toInt64 &&& 4294967295))) (f) g) hP hD [0, 1, 2] [3, 4] rfl rfl (by decide) (by decide) hk1 hFc hP1 hD1
  have hP := hP.sub (ws' := lC h0 a0 a1 cB cI h1 b0 cM (0) (xs (5 * t + 1)) (((sh_L ((xs (5 * t + 2)).toInt64) (32)) ||| ((xs (5 * t + 3)).toInt64 &&& 4294967295))) (f) g (n) (ns) (wd) (f)) [2, 3, 4, 0, 1] rfl
  have hD := hD.sub (ws' := lC h0 a0 a1 cB cI h1 b0 cM (0) (xs (5 * t + 1)) (((sh_L ((xs (5 * t + 2)).toInt64) (32)) ||| ((xs (5 * t + 3)).toInt64 &&& 4294967295))) (f) g (n) (ns) (wd) (f)) [2, 3, 4, 0, 1] (by decide) rfl
  generalize H1 = H at hP hS ⊢
  refine lv_aload_n hx hb dL_law_141 rfl (lv_at hl 2 rfl) ?_
  refine lv_aload_n hx hb dL_law_142 rfl (lv_at hl 0 rfl) ?_
  refine lv_iload_n hx hb dL_law_143 rfl (lv_at hl 3 rfl) ?_
  refine lv_iconst (v := 1) hx hb dL_law_144 (by decide) ?_
  refine lv_iadd hx hb dL_law_145 ?_
  refine q_ti (y := nI (5 * t + 1)) (nI_add _ 1) ?_
  refine q_sld (j := 5 * t + 1) hx hb hX hbl hbA hS rfl (by omega) (by omega) dL_law_146 ?_
  refine lv_aload_n hx hb dL_law_147 rfl (lv_at hl 0 rfl) ?_
  refine lv_iload_n hx hb dL_law_148 rfl (lv_at hl 3 rfl) ?_
  refine lv_iconst (v := 2) hx hb dL_law_149 (by decide) ?_
  refine lv_iadd hx hb dL_law_150 ?_
  refine q_ti (y := nI (5 * t + 2)) (nI_add _ 2) ?_
  refine q_sld (j := 5 * t + 2) hx hb hX hbl hbA hS rfl (by omega) (by omega) dL_law_151 ?_
  refine lv_i2l (v := (xs (5 * t + 2)).toInt64) hx hb dL_law_152 rfl ?_
  refine lv_bipush (v := 32) hx hb dL_law_153 (by decide) ?_
  refine lv_lshl (v := sh_L ((xs (5 * t + 2)).toInt64) (32)) hx hb dL_law_155 rfl ?_
  refine lv_aload_n hx hb dL_law_156 rfl (lv_at hl 0 rfl) ?_
  refine lv_iload_n hx hb dL_law_157 rfl (lv_at hl 3 rfl) ?_
  refine lv_iconst (v := 3) hx hb dL_law_158 (by decide) ?_
  refine lv_iadd hx hb dL_law_159 ?_
  refine q_ti (y := nI (5 * t + 3)) (nI_add _ 3) ?_
  refine q_sld (j := 5 * t + 3) hx hb hX hbl hbA hS rfl (by omega) (by omega) dL_law_160 ?_
  refine lv_i2l (v := (xs (5 * t + 3)).toInt64) hx hb dL_law_161 rfl ?_
  refine lv_ldc2 (v := 4294967295) hx hb hown (hts0 (.constantLong RL 13 4294967295) lw_k13) dL_law_162 ?_
  refine lv_land hx hb dL_law_165 ?_
  refine lv_lor hx hb dL_law_166 ?_
  have hPc := hP.sub (ws' := mC h1 b0 cM (n) (ns) (wd) (f)) [3, 4] rfl
  have hKc := hK.sub (tys' := mT cM) [2] rfl
  have hDc := hD.sub (ws' := mC h1 b0 cM (n) (ns) (wd) (f)) [3, 4] (by decide) rfl
  have hFc := va_free (wc := mC h1 b0 cM (n) (ns) (wd) (f)) hD hS hA [3, 4] rfl
  refine va_callv (va_runV (As := [.int (xs (5 * t + 1)), .long (((sh_L ((xs (5 * t + 2)).toInt64) (32)) ||| ((xs (5 * t + 3)).toInt64 &&& 4294967295)))]) (rest := []) ⟨hx, hb, hml, hown, htm⟩ (c_M_begin l dC dI h1 b0 cM H.size (n) (ns) (wd) (f) (xs (5 * t + 1)) (((sh_L ((xs (5 * t + 2)).toInt64) (32)) ||| ((xs (5 * t + 3)).toInt64 &&& 4294967295)))) (cwV 2 htm gL_law_X1_begin rfl rfl rfl (by decide +kernel) ⟨Nat.le_of_ble_eq_true rfl, Nat.le_of_ble_eq_true rfl⟩) (mi_pre hPc hKc hDc _) rfl rfl hl.1 rfl (lv_room (Nat.le_of_ble_eq_true rfl)) dL_law_167 ⟨Nat.le_of_ble_eq_true rfl, Nat.le_of_ble_eq_true rfl⟩) hS (fun q _ h => hFc q h) hFc (fun u tt H1 locs ht hvm hw hB hz1 hk1 hS => ?_)
  obtain ⟨hP1, -, hD1⟩ := hB
  rw [ht] at hP1
  obtain ⟨hP, hD⟩ := va_join (wr := xC h0 a0 a1 cB cI (0) (xs (5 * t + 1)) (((sh_L ((xs (5 * t + 2)).toInt64) (32)) ||| ((xs (5 * t + 3)).toInt64 &&& 4294967295))) (f) g) (w1 := mC h1 b0 cM (0) (xs (5 * t + 1)) (((sh_L ((xs (5 * t + 2)).toInt64) (32)) ||| ((xs (5 * t + 3)).toInt64 &&& 4294967295))) (f)) hP hD [3, 4] [0, 1, 2] rfl rfl (by decide) (by decide) hk1 hFc hP1 hD1
  have hP := hP.sub (ws' := lC h0 a0 a1 cB cI h1 b0 cM (0) (xs (5 * t + 1)) (((sh_L ((xs (5 * t + 2)).toInt64) (32)) ||| ((xs (5 * t + 3)).toInt64 &&& 4294967295))) (f) g (0) (xs (5 * t + 1)) (((sh_L ((xs (5 * t + 2)).toInt64) (32)) ||| ((xs (5 * t + 3)).toInt64 &&& 4294967295))) (f)) [0, 1, 2, 3, 4] rfl
  have hD := hD.sub (ws' := lC h0 a0 a1 cB cI h1 b0 cM (0) (xs (5 * t + 1)) (((sh_L ((xs (5 * t + 2)).toInt64) (32)) ||| ((xs (5 * t + 3)).toInt64 &&& 4294967295))) (f) g (0) (xs (5 * t + 1)) (((sh_L ((xs (5 * t + 2)).toInt64) (32)) ||| ((xs (5 * t + 3)).toInt64 &&& 4294967295))) (f)) [0, 1, 2, 3, 4] (by decide) rfl
  generalize H1 = H at hP hS ⊢
  refine lv_goto (tgt := 746) hx hb dL_law_170 (by decide) ?_
  refine lv_iinc (v := nI (5 * (t + 1))) (lv' := [(3, .int (nI (5 * (t + 1)))), (0, .ref b), (1, .ref h0), (2, .ref h1)]) hx hb dL_law_746 hl (k := 3) rfl (by rw [show 5 * (t + 1) = 5 * t + 5 by omega]; exact nI_add _ 5) (by decide) rfl (fun ls hl => ?_)
  refine lv_goto (tgt := 18) hx hb dL_law_749 (by decide) ?_
  exact ih (0) (xs (5 * t + 1)) (((sh_L ((xs (5 * t + 2)).toInt64) (32)) ||| ((xs (5 * t + 3)).toInt64 &&& 4294967295))) (f) (Nat.zero_le _) _ _ hP hD hS ls (lv_sub hl [1, 2, 3, 0] rfl)
set_option maxHeartbeats 4000000 in
set_option maxRecDepth 100000 in
theorem law_case1 {p : Program} {l : Launch} {e : Env} {s : State} {m : MethodId} {below : List Frame} {meth : Method} {c : Code} {b L : Nat} {xs : Nat → Int32} (hL : L ≤ 2560) (C0 : lw_At p s m meth c b L xs) {dC : Nat → ClassId} {dI : Nat → Nat → Nat} {h0 a0 a1 : Nat} {cB cI : ClassId} {h1 b0 : Nat} {cM : ClassId} {g : Nat → Int32} (hg : ∀ i, i < 256 → g i = cr_it cr_r 8 (nI i)) (hK : va_K (dC, dI) vwCl (lT cB cI cM) s) (t : Nat) (ht5 : 5 * t + 5 ≤ L) (ih : ∀ (n : Nat) (ns : Int32) (wd : Int64) (f : Nat → Int32), n ≤ 65536 → ∀ (H : Heap) (locs : List Loc), va_P (dC, dI) vwCl (lC h0 a0 a1 cB cI h1 b0 cM n ns wd f g n ns wd f) H → va_D (fun q : Nat => s.heap.size ≤ q) (lC h0 a0 a1 cB cI h1 b0 cM n ns wd f g n ns wd f) → va_S (fun q : Nat => s.heap.size ≤ q) s.heap H locs → ∀ ls : Array Slot, lv_has ls 4 [(0, .ref b), (1, .ref h0), (2, .ref h1), (3, .int (nI (5 * (t + 1))))] → W p l e room_1 s m #[Value.ref b] below meth c H locs 5 131337 (lw_Z below #[Value.ref b] s) (F0 m 18 ls [])) : ∀ (n : Nat) (ns : Int32) (wd : Int64) (f : Nat → Int32), n ≤ 65536 → ∀ (H : Heap) (locs : List Loc), va_P (dC, dI) vwCl (lC h0 a0 a1 cB cI h1 b0 cM n ns wd f g n ns wd f) H → va_D (fun q : Nat => s.heap.size ≤ q) (lC h0 a0 a1 cB cI h1 b0 cM n ns wd f g n ns wd f) → va_S (fun q : Nat => s.heap.size ≤ q) s.heap H locs → ∀ ls : Array Slot, lv_has ls 4 [(0, .ref b), (1, .ref h0), (2, .ref h1), (3, .int (nI (5 * (t))))] → W p l e room_1 s m #[Value.ref b] below meth c H locs 5 131337 (lw_Z below #[Value.ref b] s) (F0 m 173 ls []) := by
  obtain ⟨hx, hb, hr, hml, hown0, hts0, hX, hbl, hlocks, hgv⟩ := id C0
  have hown : s.vm.findClass RL = some m.cls := hown0
  have hts : ∀ w ∈ wsL_law, w.before #[Value.ref b] s = true := fun w h => hts0 w (wsL_law_in w h)
  have htm : ∀ w ∈ wsLM, w.before #[Value.ref b] s = true := fun w h => hts0 w (wsLM_in w h)
  have hA : ∀ q : Nat, s.heap.size ≤ q → (fun q : Nat => s.heap.size ≤ q) q := fun _ h => h
  have hbA : ¬ (fun q : Nat => s.heap.size ≤ q) b := Nat.not_le.mpr hbl
  intro n ns wd f hn H locs hP hD hS ls hl
  refine lv_aload_n hx hb dL_law_173 rfl (lv_at hl 1 rfl) ?_
  refine lv_aload_n hx hb dL_law_174 rfl (lv_at hl 0 rfl) ?_
  refine lv_iload_n hx hb dL_law_175 rfl (lv_at hl 3 rfl) ?_
  refine lv_iconst (v := 1) hx hb dL_law_176 (by decide) ?_
  refine lv_iadd hx hb dL_law_177 ?_
  refine q_ti (y := nI (5 * t + 1)) (nI_add _ 1) ?_
  refine q_sld (j := 5 * t + 1) hx hb hX hbl hbA hS rfl (by omega) (by omega) dL_law_178 ?_
  refine lv_i2l (v := (xs (5 * t + 1)).toInt64) hx hb dL_law_179 rfl ?_
  refine lv_bipush (v := 32) hx hb dL_law_180 (by decide) ?_
  refine lv_lshl (v := sh_L ((xs (5 * t + 1)).toInt64) (32)) hx hb dL_law_182 rfl ?_
  refine lv_aload_n hx hb dL_law_183 rfl (lv_at hl 0 rfl) ?_
  refine lv_iload_n hx hb dL_law_184 rfl (lv_at hl 3 rfl) ?_
  refine lv_iconst (v := 2) hx hb dL_law_185 (by decide) ?_
  refine lv_iadd hx hb dL_law_186 ?_
  refine q_ti (y := nI (5 * t + 2)) (nI_add _ 2) ?_
  refine q_sld (j := 5 * t + 2) hx hb hX hbl hbA hS rfl (by omega) (by omega) dL_law_187 ?_
  refine lv_i2l (v := (xs (5 * t + 2)).toInt64) hx hb dL_law_188 rfl ?_
  refine lv_ldc2 (v := 4294967295) hx hb hown (hts0 (.constantLong RL 13 4294967295) lw_k13) dL_law_189 ?_
  refine lv_land hx hb dL_law_192 ?_
  refine lv_lor hx hb dL_law_193 ?_
  refine lv_aload_n hx hb dL_law_194 rfl (lv_at hl 0 rfl) ?_
  refine lv_iload_n hx hb dL_law_195 rfl (lv_at hl 3 rfl) ?_
  refine lv_iconst (v := 3) hx hb dL_law_196 (by decide) ?_
  refine lv_iadd hx hb dL_law_197 ?_
  refine q_ti (y := nI (5 * t + 3)) (nI_add _ 3) ?_
  refine q_sld (j := 5 * t + 3) hx hb hX hbl hbA hS rfl (by omega) (by omega) dL_law_198 ?_
  have hPc := hP.sub (ws' := xC h0 a0 a1 cB cI (n) (ns) (wd) (f) g) [0, 1, 2] rfl
  have hKc := hK.sub (tys' := xT cB cI) [0, 1] rfl
  have hDc := hD.sub (ws' := xC h0 a0 a1 cB cI (n) (ns) (wd) (f) g) [0, 1, 2] (by decide) rfl
  have hFc := va_free (wc := xC h0 a0 a1 cB cI (n) (ns) (wd) (f) g) hD hS hA [0, 1, 2] rfl
  refine va_calli (va_runV (As := [.long (((sh_L ((xs (5 * t + 1)).toInt64) (32)) ||| ((xs (5 * t + 2)).toInt64 &&& 4294967295))), .int (xs (5 * t + 3))]) (rest := []) ⟨hx, hb, hml, hown, hts⟩ (c_X_write l dC dI h0 a0 a1 cB cI H.size (n) (ns) (wd) (f) g (((sh_L ((xs (5 * t + 1)).toInt64) (32)) ||| ((xs (5 * t + 2)).toInt64 &&& 4294967295))) (xs (5 * t + 3)) (hn)) (cwV 2 hts gL_law_X0_write rfl rfl rfl (by decide +kernel) ⟨Nat.le_of_ble_eq_true rfl, Nat.le_of_ble_eq_true rfl⟩) (xi_pre hPc hKc hDc _) rfl rfl hl.1 rfl (lv_room (Nat.le_of_ble_eq_true rfl)) dL_law_199 ⟨Nat.le_of_ble_eq_true rfl, Nat.le_of_ble_eq_true rfl⟩) hS (fun q _ h => hFc q h) hFc (fun rr u tt H1 locs ht hvm hw hB hz1 hk1 hS => ?_)
  obtain ⟨u1, u2⟩ := u
  obtain ⟨hr1, hu1, hu2⟩ := hw
  dsimp only at hu1 hu2
  subst hu1 hu2 hr1
  obtain ⟨hP1, -, hD1⟩ := hB
  rw [ht] at hP1
  obtain ⟨hP, hD⟩ := va_join (wr := mC h1 b0 cM (n) (ns) (wd) (f)) (w1 := xC h0 a0 a1 cB cI (wr_n (n) (xs (5 * t + 3))) (ns) (wd) (wr_F (n) (f) (((sh_L ((xs (5 * t + 1)).toInt64) (32)) ||| ((xs (5 * t + 2)).toInt64 &&& 4294967295))) (xs (5 * t + 3))) g) hP hD [0, 1, 2] [3, 4] rfl rfl (by decide) (by decide) hk1 hFc hP1 hD1
  have hP := hP.sub (ws' := lC h0 a0 a1 cB cI h1 b0 cM (wr_n (n) (xs (5 * t + 3))) (ns) (wd) (wr_F (n) (f) (((sh_L ((xs (5 * t + 1)).toInt64) (32)) ||| ((xs (5 * t + 2)).toInt64 &&& 4294967295))) (xs (5 * t + 3))) g (n) (ns) (wd) (f)) [2, 3, 4, 0, 1] rfl
  have hD := hD.sub (ws' := lC h0 a0 a1 cB cI h1 b0 cM (wr_n (n) (xs (5 * t + 3))) (ns) (wd) (wr_F (n) (f) (((sh_L ((xs (5 * t + 1)).toInt64) (32)) ||| ((xs (5 * t + 2)).toInt64 &&& 4294967295))) (xs (5 * t + 3))) g (n) (ns) (wd) (f)) [2, 3, 4, 0, 1] (by decide) rfl
  generalize H1 = H at hP hS ⊢
  refine lv_aload_n hx hb dL_law_202 rfl (lv_at hl 2 rfl) ?_
  refine lv_aload_n hx hb dL_law_203 rfl (lv_at hl 0 rfl) ?_
  refine lv_iload_n hx hb dL_law_204 rfl (lv_at hl 3 rfl) ?_
  refine lv_iconst (v := 1) hx hb dL_law_205 (by decide) ?_
  refine lv_iadd hx hb dL_law_206 ?_
  refine q_ti (y := nI (5 * t + 1)) (nI_add _ 1) ?_
  refine q_sld (j := 5 * t + 1) hx hb hX hbl hbA hS rfl (by omega) (by omega) dL_law_207 ?_
  refine lv_i2l (v := (xs (5 * t + 1)).toInt64) hx hb dL_law_208 rfl ?_
  refine lv_bipush (v := 32) hx hb dL_law_209 (by decide) ?_
  refine lv_lshl (v := sh_L ((xs (5 * t + 1)).toInt64) (32)) hx hb dL_law_211 rfl ?_
  refine lv_aload_n hx hb dL_law_212 rfl (lv_at hl 0 rfl) ?_
  refine lv_iload_n hx hb dL_law_213 rfl (lv_at hl 3 rfl) ?_
  refine lv_iconst (v := 2) hx hb dL_law_214 (by decide) ?_
  refine lv_iadd hx hb dL_law_215 ?_
  refine q_ti (y := nI (5 * t + 2)) (nI_add _ 2) ?_
  refine q_sld (j := 5 * t + 2) hx hb hX hbl hbA hS rfl (by omega) (by omega) dL_law_216 ?_
  refine lv_i2l (v := (xs (5 * t + 2)).toInt64) hx hb dL_law_217 rfl ?_
  refine lv_ldc2 (v := 4294967295) hx hb hown (hts0 (.constantLong RL 13 4294967295) lw_k13) dL_law_218 ?_
  refine lv_land hx hb dL_law_221 ?_
  refine lv_lor hx hb dL_law_222 ?_
  refine lv_aload_n hx hb dL_law_223 rfl (lv_at hl 0 rfl) ?_
  refine lv_iload_n hx hb dL_law_224 rfl (lv_at hl 3 rfl) ?_
  refine lv_iconst (v := 3) hx hb dL_law_225 (by decide) ?_
  refine lv_iadd hx hb dL_law_226 ?_
  refine q_ti (y := nI (5 * t + 3)) (nI_add _ 3) ?_
  refine q_sld (j := 5 * t + 3) hx hb hX hbl hbA hS rfl (by omega) (by omega) dL_law_227 ?_
  have hPc := hP.sub (ws' := mC h1 b0 cM (n) (ns) (wd) (f)) [3, 4] rfl
  have hKc := hK.sub (tys' := mT cM) [2] rfl
  have hDc := hD.sub (ws' := mC h1 b0 cM (n) (ns) (wd) (f)) [3, 4] (by decide) rfl
  have hFc := va_free (wc := mC h1 b0 cM (n) (ns) (wd) (f)) hD hS hA [3, 4] rfl
  refine va_calli (va_runV (As := [.long (((sh_L ((xs (5 * t + 1)).toInt64) (32)) ||| ((xs (5 * t + 2)).toInt64 &&& 4294967295))), .int (xs (5 * t + 3))]) (rest := [.int (wr_ok (n) (xs (5 * t + 3)))]) ⟨hx, hb, hml, hown, htm⟩ (c_M_write l dC dI h1 b0 cM H.size (n) (ns) (wd) (f) (((sh_L ((xs (5 * t + 1)).toInt64) (32)) ||| ((xs (5 * t + 2)).toInt64 &&& 4294967295))) (xs (5 * t + 3)) (hn)) (cwV 2 htm gL_law_X1_write rfl rfl rfl (by decide +kernel) ⟨Nat.le_of_ble_eq_true rfl, Nat.le_of_ble_eq_true rfl⟩) (mi_pre hPc hKc hDc _) rfl rfl hl.1 rfl (lv_room (Nat.le_of_ble_eq_true rfl)) dL_law_228 ⟨Nat.le_of_ble_eq_true rfl, Nat.le_of_ble_eq_true rfl⟩) hS (fun q _ h => hFc q h) hFc (fun rr u tt H1 locs ht hvm hw hB hz1 hk1 hS => ?_)
  obtain ⟨u1, u2⟩ := u
  obtain ⟨hr1, hu1, hu2⟩ := hw
  dsimp only at hu1 hu2
  subst hu1 hu2 hr1
  obtain ⟨hP1, -, hD1⟩ := hB
  rw [ht] at hP1
  obtain ⟨hP, hD⟩ := va_join (wr := xC h0 a0 a1 cB cI (wr_n (n) (xs (5 * t + 3))) (ns) (wd) (wr_F (n) (f) (((sh_L ((xs (5 * t + 1)).toInt64) (32)) ||| ((xs (5 * t + 2)).toInt64 &&& 4294967295))) (xs (5 * t + 3))) g) (w1 := mC h1 b0 cM (wr_n (n) (xs (5 * t + 3))) (ns) (wd) (wr_F (n) (f) (((sh_L ((xs (5 * t + 1)).toInt64) (32)) ||| ((xs (5 * t + 2)).toInt64 &&& 4294967295))) (xs (5 * t + 3)))) hP hD [3, 4] [0, 1, 2] rfl rfl (by decide) (by decide) hk1 hFc hP1 hD1
  have hP := hP.sub (ws' := lC h0 a0 a1 cB cI h1 b0 cM (wr_n (n) (xs (5 * t + 3))) (ns) (wd) (wr_F (n) (f) (((sh_L ((xs (5 * t + 1)).toInt64) (32)) ||| ((xs (5 * t + 2)).toInt64 &&& 4294967295))) (xs (5 * t + 3))) g (wr_n (n) (xs (5 * t + 3))) (ns) (wd) (wr_F (n) (f) (((sh_L ((xs (5 * t + 1)).toInt64) (32)) ||| ((xs (5 * t + 2)).toInt64 &&& 4294967295))) (xs (5 * t + 3)))) [0, 1, 2, 3, 4] rfl
  have hD := hD.sub (ws' := lC h0 a0 a1 cB cI h1 b0 cM (wr_n (n) (xs (5 * t + 3))) (ns) (wd) (wr_F (n) (f) (((sh_L ((xs (5 * t + 1)).toInt64) (32)) ||| ((xs (5 * t + 2)).toInt64 &&& 4294967295))) (xs (5 * t + 3))) g (wr_n (n) (xs (5 * t + 3))) (ns) (wd) (wr_F (n) (f) (((sh_L ((xs (5 * t + 1)).toInt64) (32)) ||| ((xs (5 * t + 2)).toInt64 &&& 4294967295))) (xs (5 * t + 3)))) [0, 1, 2, 3, 4] (by decide) rfl
  generalize H1 = H at hP hS ⊢
  refine lv_icmp_eq (tgt := 746) hx hb dL_law_231 (by decide) (fun c_231 => ?_) (fun c_231 => absurd rfl c_231)
  refine lv_iinc (v := nI (5 * (t + 1))) (lv' := [(3, .int (nI (5 * (t + 1)))), (0, .ref b), (1, .ref h0), (2, .ref h1)]) hx hb dL_law_746 hl (k := 3) rfl (by rw [show 5 * (t + 1) = 5 * t + 5 by omega]; exact nI_add _ 5) (by decide) rfl (fun ls hl => ?_)
  refine lv_goto (tgt := 18) hx hb dL_law_749 (by decide) ?_
  exact ih (wr_n (n) (xs (5 * t + 3))) (ns) (wd) (wr_F (n) (f) (((sh_L ((xs (5 * t + 1)).toInt64) (32)) ||| ((xs (5 * t + 2)).toInt64 &&& 4294967295))) (xs (5 * t + 3))) (wr_le (hn)) _ _ hP hD hS ls (lv_sub hl [1, 2, 3, 0] rfl)
set_option maxHeartbeats 4000000 in
set_option maxRecDepth 100000 in
theorem law_case2 {p : Program} {l : Launch} {e : Env} {s : State} {m : MethodId} {below : List Frame} {meth : Method} {c : Code} {b L : Nat} {xs : Nat → Int32} (hL : L ≤ 2560) (C0 : lw_At p s m meth c b L xs) {dC : Nat → ClassId} {dI : Nat → Nat → Nat} {h0 a0 a1 : Nat} {cB cI : ClassId} {h1 b0 : Nat} {cM : ClassId} {g : Nat → Int32} (hg : ∀ i, i < 256 → g i = cr_it cr_r 8 (nI i)) (hK : va_K (dC, dI) vwCl (lT cB cI cM) s) (t : Nat) (ht5 : 5 * t + 5 ≤ L) (ih : ∀ (n : Nat) (ns : Int32) (wd : Int64) (f : Nat → Int32), n ≤ 65536 → ∀ (H : Heap) (locs : List Loc), va_P (dC, dI) vwCl (lC h0 a0 a1 cB cI h1 b0 cM n ns wd f g n ns wd f) H → va_D (fun q : Nat => s.heap.size ≤ q) (lC h0 a0 a1 cB cI h1 b0 cM n ns wd f g n ns wd f) → va_S (fun q : Nat => s.heap.size ≤ q) s.heap H locs → ∀ ls : Array Slot, lv_has ls 4 [(0, .ref b), (1, .ref h0), (2, .ref h1), (3, .int (nI (5 * (t + 1))))] → W p l e room_1 s m #[Value.ref b] below meth c H locs 5 131337 (lw_Z below #[Value.ref b] s) (F0 m 18 ls [])) : ∀ (n : Nat) (ns : Int32) (wd : Int64) (f : Nat → Int32), n ≤ 65536 → ∀ (H : Heap) (locs : List Loc), va_P (dC, dI) vwCl (lC h0 a0 a1 cB cI h1 b0 cM n ns wd f g n ns wd f) H → va_D (fun q : Nat => s.heap.size ≤ q) (lC h0 a0 a1 cB cI h1 b0 cM n ns wd f g n ns wd f) → va_S (fun q : Nat => s.heap.size ≤ q) s.heap H locs → ∀ ls : Array Slot, lv_has ls 4 [(0, .ref b), (1, .ref h0), (2, .ref h1), (3, .int (nI (5 * (t))))] → W p l e room_1 s m #[Value.ref b] below meth c H locs 5 131337 (lw_Z below #[Value.ref b] s) (F0 m 236 ls []) := by
  obtain ⟨hx, hb, hr, hml, hown0, hts0, hX, hbl, hlocks, hgv⟩ := id C0
  have hown : s.vm.findClass RL = some m.cls := hown0
  have hts : ∀ w ∈ wsL_law, w.before #[Value.ref b] s = true := fun w h => hts0 w (wsL_law_in w h)
  have htm : ∀ w ∈ wsLM, w.before #[Value.ref b] s = true := fun w h => hts0 w (wsLM_in w h)
  have hA : ∀ q : Nat, s.heap.size ≤ q → (fun q : Nat => s.heap.size ≤ q) q := fun _ h => h
  have hbA : ¬ (fun q : Nat => s.heap.size ≤ q) b := Nat.not_le.mpr hbl
  intro n ns wd f hn H locs hP hD hS ls hl
  refine lv_aload_n hx hb dL_law_236 rfl (lv_at hl 1 rfl) ?_
  refine lv_aload_n hx hb dL_law_237 rfl (lv_at hl 0 rfl) ?_
  refine lv_iload_n hx hb dL_law_238 rfl (lv_at hl 3 rfl) ?_
  refine lv_iconst (v := 1) hx hb dL_law_239 (by decide) ?_
  refine lv_iadd hx hb dL_law_240 ?_
  refine q_ti (y := nI (5 * t + 1)) (nI_add _ 1) ?_
  refine q_sld (j := 5 * t + 1) hx hb hX hbl hbA hS rfl (by omega) (by omega) dL_law_241 ?_
  refine lv_aload_n hx hb dL_law_242 rfl (lv_at hl 0 rfl) ?_
  refine lv_iload_n hx hb dL_law_243 rfl (lv_at hl 3 rfl) ?_
  refine lv_iconst (v := 2) hx hb dL_law_244 (by decide) ?_
  refine lv_iadd hx hb dL_law_245 ?_
  refine q_ti (y := nI (5 * t + 2)) (nI_add _ 2) ?_
  refine q_sld (j := 5 * t + 2) hx hb hX hbl hbA hS rfl (by omega) (by omega) dL_law_246 ?_
  have hPc := hP.sub (ws' := xC h0 a0 a1 cB cI (n) (ns) (wd) (f) g) [0, 1, 2] rfl
  have hKc := hK.sub (tys' := xT cB cI) [0, 1] rfl
  have hDc := hD.sub (ws' := xC h0 a0 a1 cB cI (n) (ns) (wd) (f) g) [0, 1, 2] (by decide) rfl
  have hFc := va_free (wc := xC h0 a0 a1 cB cI (n) (ns) (wd) (f) g) hD hS hA [0, 1, 2] rfl
  refine va_calli (va_runV (As := [.int (xs (5 * t + 1)), .int (xs (5 * t + 2))]) (rest := []) ⟨hx, hb, hml, hown, hts⟩ (c_X_again l dC dI h0 a0 a1 cB cI H.size (n) (ns) (wd) (f) g (xs (5 * t + 1)) (xs (5 * t + 2)) (hn)) (cwV 2 hts gL_law_X0_again rfl rfl rfl (by decide +kernel) ⟨Nat.le_of_ble_eq_true rfl, Nat.le_of_ble_eq_true rfl⟩) (xi_pre hPc hKc hDc _) rfl rfl hl.1 rfl (lv_room (Nat.le_of_ble_eq_true rfl)) dL_law_247 ⟨Nat.le_of_ble_eq_true rfl, Nat.le_of_ble_eq_true rfl⟩) hS (fun q _ h => hFc q h) hFc (fun rr u tt H1 locs ht hvm hw hB hz1 hk1 hS => ?_)
  obtain ⟨u1, u2⟩ := u
  obtain ⟨hr1, hu1, hu2⟩ := hw
  dsimp only at hu1 hu2
  subst hu1 hu2 hr1
  obtain ⟨hP1, -, hD1⟩ := hB
  rw [ht] at hP1
  obtain ⟨hP, hD⟩ := va_join (wr := mC h1 b0 cM (n) (ns) (wd) (f)) (w1 := xC h0 a0 a1 cB cI (ag_n (n) (xs (5 * t + 1)) (xs (5 * t + 2))) (ns) (wd) (ag_F (n) (f) (xs (5 * t + 1)) (xs (5 * t + 2))) g) hP hD [0, 1, 2] [3, 4] rfl rfl (by decide) (by decide) hk1 hFc hP1 hD1
  have hP := hP.sub (ws' := lC h0 a0 a1 cB cI h1 b0 cM (ag_n (n) (xs (5 * t + 1)) (xs (5 * t + 2))) (ns) (wd) (ag_F (n) (f) (xs (5 * t + 1)) (xs (5 * t + 2))) g (n) (ns) (wd) (f)) [2, 3, 4, 0, 1] rfl
  have hD := hD.sub (ws' := lC h0 a0 a1 cB cI h1 b0 cM (ag_n (n) (xs (5 * t + 1)) (xs (5 * t + 2))) (ns) (wd) (ag_F (n) (f) (xs (5 * t + 1)) (xs (5 * t + 2))) g (n) (ns) (wd) (f)) [2, 3, 4, 0, 1] (by decide) rfl
  generalize H1 = H at hP hS ⊢
  refine lv_aload_n hx hb dL_law_250 rfl (lv_at hl 2 rfl) ?_
  refine lv_aload_n hx hb dL_law_251 rfl (lv_at hl 0 rfl) ?_
  refine lv_iload_n hx hb dL_law_252 rfl (lv_at hl 3 rfl) ?_
  refine lv_iconst (v := 1) hx hb dL_law_253 (by decide) ?_
  refine lv_iadd hx hb dL_law_254 ?_
  refine q_ti (y := nI (5 * t + 1)) (nI_add _ 1) ?_
  refine q_sld (j := 5 * t + 1) hx hb hX hbl hbA hS rfl (by omega) (by omega) dL_law_255 ?_
  refine lv_aload_n hx hb dL_law_256 rfl (lv_at hl 0 rfl) ?_
  refine lv_iload_n hx hb dL_law_257 rfl (lv_at hl 3 rfl) ?_
  refine lv_iconst (v := 2) hx hb dL_law_258 (by decide) ?_
  refine lv_iadd hx hb dL_law_259 ?_
  refine q_ti (y := nI (5 * t + 2)) (nI_add _ 2) ?_
  refine q_sld (j := 5 * t + 2) hx hb hX hbl hbA hS rfl (by omega) (by omega) dL_law_260 ?_
  have hPc := hP.sub (ws' := mC h1 b0 cM (n) (ns) (wd) (f)) [3, 4] rfl
  have hKc := hK.sub (tys' := mT cM) [2] rfl
  have hDc := hD.sub (ws' := mC h1 b0 cM (n) (ns) (wd) (f)) [3, 4] (by decide) rfl
  have hFc := va_free (wc := mC h1 b0 cM (n) (ns) (wd) (f)) hD hS hA [3, 4] rfl
  refine va_calli (va_runV (As := [.int (xs (5 * t + 1)), .int (xs (5 * t + 2))]) (rest := [.int (ag_ok (n) (xs (5 * t + 1)) (xs (5 * t + 2)))]) ⟨hx, hb, hml, hown, htm⟩ (c_M_again l dC dI h1 b0 cM H.size (n) (ns) (wd) (f) (xs (5 * t + 1)) (xs (5 * t + 2)) (hn)) (cwV 2 htm gL_law_X1_again rfl rfl rfl (by decide +kernel) ⟨Nat.le_of_ble_eq_true rfl, Nat.le_of_ble_eq_true rfl⟩) (mi_pre hPc hKc hDc _) rfl rfl hl.1 rfl (lv_room (Nat.le_of_ble_eq_true rfl)) dL_law_261 ⟨Nat.le_of_ble_eq_true rfl, Nat.le_of_ble_eq_true rfl⟩) hS (fun q _ h => hFc q h) hFc (fun rr u tt H1 locs ht hvm hw hB hz1 hk1 hS => ?_)
  obtain ⟨u1, u2⟩ := u
  obtain ⟨hr1, hu1, hu2⟩ := hw
  dsimp only at hu1 hu2
  subst hu1 hu2 hr1
  obtain ⟨hP1, -, hD1⟩ := hB
  rw [ht] at hP1
  obtain ⟨hP, hD⟩ := va_join (wr := xC h0 a0 a1 cB cI (ag_n (n) (xs (5 * t + 1)) (xs (5 * t + 2))) (ns) (wd) (ag_F (n) (f) (xs (5 * t + 1)) (xs (5 * t + 2))) g) (w1 := mC h1 b0 cM (ag_n (n) (xs (5 * t + 1)) (xs (5 * t + 2))) (ns) (wd) (ag_F (n) (f) (xs (5 * t + 1)) (xs (5 * t + 2)))) hP hD [3, 4] [0, 1, 2] rfl rfl (by decide) (by decide) hk1 hFc hP1 hD1
  have hP := hP.sub (ws' := lC h0 a0 a1 cB cI h1 b0 cM (ag_n (n) (xs (5 * t + 1)) (xs (5 * t + 2))) (ns) (wd) (ag_F (n) (f) (xs (5 * t + 1)) (xs (5 * t + 2))) g (ag_n (n) (xs (5 * t + 1)) (xs (5 * t + 2))) (ns) (wd) (ag_F (n) (f) (xs (5 * t + 1)) (xs (5 * t + 2)))) [0, 1, 2, 3, 4] rfl
  have hD := hD.sub (ws' := lC h0 a0 a1 cB cI h1 b0 cM (ag_n (n) (xs (5 * t + 1)) (xs (5 * t + 2))) (ns) (wd) (ag_F (n) (f) (xs (5 * t + 1)) (xs (5 * t + 2))) g (ag_n (n) (xs (5 * t + 1)) (xs (5 * t + 2))) (ns) (wd) (ag_F (n) (f) (xs (5 * t + 1)) (xs (5 * t + 2)))) [0, 1, 2, 3, 4] (by decide) rfl
  generalize H1 = H at hP hS ⊢
  refine lv_icmp_eq (tgt := 746) hx hb dL_law_264 (by decide) (fun c_264 => ?_) (fun c_264 => absurd rfl c_264)
  refine lv_iinc (v := nI (5 * (t + 1))) (lv' := [(3, .int (nI (5 * (t + 1)))), (0, .ref b), (1, .ref h0), (2, .ref h1)]) hx hb dL_law_746 hl (k := 3) rfl (by rw [show 5 * (t + 1) = 5 * t + 5 by omega]; exact nI_add _ 5) (by decide) rfl (fun ls hl => ?_)
  refine lv_goto (tgt := 18) hx hb dL_law_749 (by decide) ?_
  exact ih (ag_n (n) (xs (5 * t + 1)) (xs (5 * t + 2))) (ns) (wd) (ag_F (n) (f) (xs (5 * t + 1)) (xs (5 * t + 2))) (ag_le (hn)) _ _ hP hD hS ls (lv_sub hl [1, 2, 3, 0] rfl)
set_option maxHeartbeats 4000000 in
set_option maxRecDepth 100000 in
theorem law_case3 {p : Program} {l : Launch} {e : Env} {s : State} {m : MethodId} {below : List Frame} {meth : Method} {c : Code} {b L : Nat} {xs : Nat → Int32} (hL : L ≤ 2560) (C0 : lw_At p s m meth c b L xs) {dC : Nat → ClassId} {dI : Nat → Nat → Nat} {h0 a0 a1 : Nat} {cB cI : ClassId} {h1 b0 : Nat} {cM : ClassId} {g : Nat → Int32} (hg : ∀ i, i < 256 → g i = cr_it cr_r 8 (nI i)) (hK : va_K (dC, dI) vwCl (lT cB cI cM) s) (t : Nat) (ht5 : 5 * t + 5 ≤ L) (ih : ∀ (n : Nat) (ns : Int32) (wd : Int64) (f : Nat → Int32), n ≤ 65536 → ∀ (H : Heap) (locs : List Loc), va_P (dC, dI) vwCl (lC h0 a0 a1 cB cI h1 b0 cM n ns wd f g n ns wd f) H → va_D (fun q : Nat => s.heap.size ≤ q) (lC h0 a0 a1 cB cI h1 b0 cM n ns wd f g n ns wd f) → va_S (fun q : Nat => s.heap.size ≤ q) s.heap H locs → ∀ ls : Array Slot, lv_has ls 4 [(0, .ref b), (1, .ref h0), (2, .ref h1), (3, .int (nI (5 * (t + 1))))] → W p l e room_1 s m #[Value.ref b] below meth c H locs 5 131337 (lw_Z below #[Value.ref b] s) (F0 m 18 ls [])) : ∀ (n : Nat) (ns : Int32) (wd : Int64) (f : Nat → Int32), n ≤ 65536 → ∀ (H : Heap) (locs : List Loc), va_P (dC, dI) vwCl (lC h0 a0 a1 cB cI h1 b0 cM n ns wd f g n ns wd f) H → va_D (fun q : Nat => s.heap.size ≤ q) (lC h0 a0 a1 cB cI h1 b0 cM n ns wd f g n ns wd f) → va_S (fun q : Nat => s.heap.size ≤ q) s.heap H locs → ∀ ls : Array Slot, lv_has ls 4 [(0, .ref b), (1, .ref h0), (2, .ref h1), (3, .int (nI (5 * (t))))] → W p l e room_1 s m #[Value.ref b] below meth c H locs 5 131337 (lw_Z below #[Value.ref b] s) (F0 m 269 ls []) := by
  obtain ⟨hx, hb, hr, hml, hown0, hts0, hX, hbl, hlocks, hgv⟩ := id C0
  have hown : s.vm.findClass RL = some m.cls := hown0
  have hts : ∀ w ∈ wsL_law, w.before #[Value.ref b] s = true := fun w h => hts0 w (wsL_law_in w h)
  have htm : ∀ w ∈ wsLM, w.before #[Value.ref b] s = true := fun w h => hts0 w (wsLM_in w h)
  have hA : ∀ q : Nat, s.heap.size ≤ q → (fun q : Nat => s.heap.size ≤ q) q := fun _ h => h
  have hbA : ¬ (fun q : Nat => s.heap.size ≤ q) b := Nat.not_le.mpr hbl
  intro n ns wd f hn H locs hP hD hS ls hl
  refine lv_aload_n hx hb dL_law_269 rfl (lv_at hl 1 rfl) ?_
  have hPc := hP.sub (ws' := xC h0 a0 a1 cB cI (n) (ns) (wd) (f) g) [0, 1, 2] rfl
  have hKc := hK.sub (tys' := xT cB cI) [0, 1] rfl
  refine q_V (As := []) (rest := []) ⟨hx, hb, hml, hown, hts⟩ (c_X_size l dC dI h0 a0 a1 cB cI (n) (ns) (wd) (f) g) (cwV 0 hts gL_law_X0_size rfl rfl rfl (by decide +kernel) ⟨Nat.le_of_ble_eq_true rfl, Nat.le_of_ble_eq_true rfl⟩) (xw_pre hPc hKc _) rfl hl.1 rfl (Nat.le_of_ble_eq_true rfl) dL_law_270 ⟨Nat.le_of_ble_eq_true rfl, Nat.le_of_ble_eq_true rfl⟩ ?_
  refine lv_aload_n hx hb dL_law_273 rfl (lv_at hl 2 rfl) ?_
  have hPc := hP.sub (ws' := mC h1 b0 cM (n) (ns) (wd) (f)) [3, 4] rfl
  have hKc := hK.sub (tys' := mT cM) [2] rfl
  refine q_V (As := []) (rest := [.int ((nI n))]) ⟨hx, hb, hml, hown, htm⟩ (c_M_size l dC dI h1 b0 cM (n) (ns) (wd) (f)) (cwV 0 htm gL_law_X1_size rfl rfl rfl (by decide +kernel) ⟨Nat.le_of_ble_eq_true rfl, Nat.le_of_ble_eq_true rfl⟩) (mw_pre hPc hKc _) rfl hl.1 rfl (Nat.le_of_ble_eq_true rfl) dL_law_274 ⟨Nat.le_of_ble_eq_true rfl, Nat.le_of_ble_eq_true rfl⟩ ?_
  refine lv_icmp_eq (tgt := 746) hx hb dL_law_277 (by decide) (fun c_277 => ?_) (fun c_277 => absurd rfl c_277)
  refine lv_iinc (v := nI (5 * (t + 1))) (lv' := [(3, .int (nI (5 * (t + 1)))), (0, .ref b), (1, .ref h0), (2, .ref h1)]) hx hb dL_law_746 hl (k := 3) rfl (by rw [show 5 * (t + 1) = 5 * t + 5 by omega]; exact nI_add _ 5) (by decide) rfl (fun ls hl => ?_)
  refine lv_goto (tgt := 18) hx hb dL_law_749 (by decide) ?_
  exact ih (n) (ns) (wd) (f) (hn) _ _ hP hD hS ls (lv_sub hl [1, 2, 3, 0] rfl)
set_option maxHeartbeats 4000000 in
set_option maxRecDepth 100000 in
theorem law_case4 {p : Program} {l : Launch} {e : Env} {s : State} {m : MethodId} {below : List Frame} {meth : Method} {c : Code} {b L : Nat} {xs : Nat → Int32} (hL : L ≤ 2560) (C0 : lw_At p s m meth c b L xs) {dC : Nat → ClassId} {dI : Nat → Nat → Nat} {h0 a0 a1 : Nat} {cB cI : ClassId} {h1 b0 : Nat} {cM : ClassId} {g : Nat → Int32} (hg : ∀ i, i < 256 → g i = cr_it cr_r 8 (nI i)) (hK : va_K (dC, dI) vwCl (lT cB cI cM) s) (t : Nat) (ht5 : 5 * t + 5 ≤ L) (ih : ∀ (n : Nat) (ns : Int32) (wd : Int64) (f : Nat → Int32), n ≤ 65536 → ∀ (H : Heap) (locs : List Loc), va_P (dC, dI) vwCl (lC h0 a0 a1 cB cI h1 b0 cM n ns wd f g n ns wd f) H → va_D (fun q : Nat => s.heap.size ≤ q) (lC h0 a0 a1 cB cI h1 b0 cM n ns wd f g n ns wd f) → va_S (fun q : Nat => s.heap.size ≤ q) s.heap H locs → ∀ ls : Array Slot, lv_has ls 4 [(0, .ref b), (1, .ref h0), (2, .ref h1), (3, .int (nI (5 * (t + 1))))] → W p l e room_1 s m #[Value.ref b] below meth c H locs 5 131337 (lw_Z below #[Value.ref b] s) (F0 m 18 ls [])) : ∀ (n : Nat) (ns : Int32) (wd : Int64) (f : Nat → Int32), n ≤ 65536 → ∀ (H : Heap) (locs : List Loc), va_P (dC, dI) vwCl (lC h0 a0 a1 cB cI h1 b0 cM n ns wd f g n ns wd f) H → va_D (fun q : Nat => s.heap.size ≤ q) (lC h0 a0 a1 cB cI h1 b0 cM n ns wd f g n ns wd f) → va_S (fun q : Nat => s.heap.size ≤ q) s.heap H locs → ∀ ls : Array Slot, lv_has ls 4 [(0, .ref b), (1, .ref h0), (2, .ref h1), (3, .int (nI (5 * (t))))] → W p l e room_1 s m #[Value.ref b] below meth c H locs 5 131337 (lw_Z below #[Value.ref b] s) (F0 m 282 ls []) := by
  obtain ⟨hx, hb, hr, hml, hown0, hts0, hX, hbl, hlocks, hgv⟩ := id C0
  have hown : s.vm.findClass RL = some m.cls := hown0
  have hts : ∀ w ∈ wsL_law, w.before #[Value.ref b] s = true := fun w h => hts0 w (wsL_law_in w h)
  have htm : ∀ w ∈ wsLM, w.before #[Value.ref b] s = true := fun w h => hts0 w (wsLM_in w h)
  have hA : ∀ q : Nat, s.heap.size ≤ q → (fun q : Nat => s.heap.size ≤ q) q := fun _ h => h
  have hbA : ¬ (fun q : Nat => s.heap.size ≤ q) b := Nat.not_le.mpr hbl
  intro n ns wd f hn H locs hP hD hS ls hl
  refine lv_aload_n hx hb dL_law_282 rfl (lv_at hl 1 rfl) ?_
  refine lv_aload_n hx hb dL_law_283 rfl (lv_at hl 0 rfl) ?_
  refine lv_iload_n hx hb dL_law_284 rfl (lv_at hl 3 rfl) ?_
  refine lv_iconst (v := 1) hx hb dL_law_285 (by decide) ?_
  refine lv_iadd hx hb dL_law_286 ?_
  refine q_ti (y := nI (5 * t + 1)) (nI_add _ 1) ?_
  refine q_sld (j := 5 * t + 1) hx hb hX hbl hbA hS rfl (by omega) (by omega) dL_law_287 ?_
  have hPc := hP.sub (ws' := xC h0 a0 a1 cB cI (n) (ns) (wd) (f) g) [0, 1, 2] rfl
  have hKc := hK.sub (tys' := xT cB cI) [0, 1] rfl
  refine q_V (As := [.int (xs (5 * t + 1))]) (rest := []) ⟨hx, hb, hml, hown, hts⟩ (c_X_byteAt l dC dI h0 a0 a1 cB cI (n) (ns) (wd) (f) g (xs (5 * t + 1)) (hn)) (cwV 1 hts gL_law_X0_byteAt rfl rfl rfl (by decide +kernel) ⟨Nat.le_of_ble_eq_true rfl, Nat.le_of_ble_eq_true rfl⟩) (xw_pre hPc hKc _) rfl hl.1 rfl (Nat.le_of_ble_eq_true rfl) dL_law_288 ⟨Nat.le_of_ble_eq_true rfl, Nat.le_of_ble_eq_true rfl⟩ ?_
  refine lv_aload_n hx hb dL_law_291 rfl (lv_at hl 2 rfl) ?_
  refine lv_aload_n hx hb dL_law_292 rfl (lv_at hl 0 rfl) ?_
  refine lv_iload_n hx hb dL_law_293 rfl (lv_at hl 3 rfl) ?_
  refine lv_iconst (v := 1) hx hb dL_law_294 (by decide) ?_
  refine lv_iadd hx hb dL_law_295 ?_
  refine q_ti (y := nI (5 * t + 1)) (nI_add _ 1) ?_
  refine q_sld (j := 5 * t + 1) hx hb hX hbl hbA hS rfl (by omega) (by omega) dL_law_296 ?_
  have hPc := hP.sub (ws' := mC h1 b0 cM (n) (ns) (wd) (f)) [3, 4] rfl
  have hKc := hK.sub (tys' := mT cM) [2] rfl
  refine q_V (As := [.int (xs (5 * t + 1))]) (rest := [.int ((by_at n f (xs (5 * t + 1))))]) ⟨hx, hb, hml, hown, htm⟩ (c_M_byteAt l dC dI h1 b0 cM (n) (ns) (wd) (f) (xs (5 * t + 1)) (hn)) (cwV 1 htm gL_law_X1_byteAt rfl rfl rfl (by decide +kernel) ⟨Nat.le_of_ble_eq_true rfl, Nat.le_of_ble_eq_true rfl⟩) (mw_pre hPc hKc _) rfl hl.1 rfl (Nat.le_of_ble_eq_true rfl) dL_law_297 ⟨Nat.le_of_ble_eq_true rfl, Nat.le_of_ble_eq_true rfl⟩ ?_
  refine lv_icmp_eq (tgt := 746) hx hb dL_law_300 (by decide) (fun c_300 => ?_) (fun c_300 => absurd rfl c_300)
  refine lv_iinc (v := nI (5 * (t + 1))) (lv' := [(3, .int (nI (5 * (t + 1)))), (0, .ref b), (1, .ref h0), (2, .ref h1)]) hx hb dL_law_746 hl (k := 3) rfl (by rw [show 5 * (t + 1) = 5 * t + 5 by omega]; exact nI_add _ 5) (by decide) rfl (fun ls hl => ?_)
  refine lv_goto (tgt := 18) hx hb dL_law_749 (by decide) ?_
  exact ih (n) (ns) (wd) (f) (hn) _ _ hP hD hS ls (lv_sub hl [1, 2, 3, 0] rfl)
set_option maxHeartbeats 4000000 in
set_option maxRecDepth 100000 in
theorem law_case5 {p : Program} {l : Launch} {e : Env} {s : State} {m : MethodId} {below : List Frame} {meth : Method} {c : Code} {b L : Nat} {xs : Nat → Int32} (hL : L ≤ 2560) (C0 : lw_At p s m meth c b L xs) {dC : Nat → ClassId} {dI : Nat → Nat → Nat} {h0 a0 a1 : Nat} {cB cI : ClassId} {h1 b0 : Nat} {cM : ClassId} {g : Nat → Int32} (hg : ∀ i, i < 256 → g i = cr_it cr_r 8 (nI i)) (hK : va_K (dC, dI) vwCl (lT cB cI cM) s) (t : Nat) (ht5 : 5 * t + 5 ≤ L) (ih : ∀ (n : Nat) (ns : Int32) (wd : Int64) (f : Nat → Int32), n ≤ 65536 → ∀ (H : Heap) (locs : List Loc), va_P (dC, dI) vwCl (lC h0 a0 a1 cB cI h1 b0 cM n ns wd f g n ns wd f) H → va_D (fun q : Nat => s.heap.size ≤ q) (lC h0 a0 a1 cB cI h1 b0 cM n ns wd f g n ns wd f) → va_S (fun q : Nat => s.heap.size ≤ q) s.heap H locs → ∀ ls : Array Slot, lv_has ls 4 [(0, .ref b), (1, .ref h0), (2, .ref h1), (3, .int (nI (5 * (t + 1))))] → W p l e room_1 s m #[Value.ref b] below meth c H locs 5 131337 (lw_Z below #[Value.ref b] s) (F0 m 18 ls [])) : ∀ (n : Nat) (ns : Int32) (wd : Int64) (f : Nat → Int32), n ≤ 65536 → ∀ (H : Heap) (locs : List Loc), va_P (dC, dI) vwCl (lC h0 a0 a1 cB cI h1 b0 cM n ns wd f g n ns wd f) H → va_D (fun q : Nat => s.heap.size ≤ q) (lC h0 a0 a1 cB cI h1 b0 cM n ns wd f g n ns wd f) → va_S (fun q : Nat => s.heap.size ≤ q) s.heap H locs → ∀ ls : Array Slot, lv_has ls 4 [(0, .ref b), (1, .ref h0), (2, .ref h1), (3, .int (nI (5 * (t))))] → W p l e room_1 s m #[Value.ref b] below meth c H locs 5 131337 (lw_Z below #[Value.ref b] s) (F0 m 305 ls []) := by
  obtain ⟨hx, hb, hr, hml, hown0, hts0, hX, hbl, hlocks, hgv⟩ := id C0
  have hown : s.vm.findClass RL = some m.cls := hown0
  have hts : ∀ w ∈ wsL_law, w.before #[Value.ref b] s = true := fun w h => hts0 w (wsL_law_in w h)
  have htm : ∀ w ∈ wsLM, w.before #[Value.ref b] s = true := fun w h => hts0 w (wsLM_in w h)
  have hA : ∀ q : Nat, s.heap.size ≤ q → (fun q : Nat => s.heap.size ≤ q) q := fun _ h => h
  have hbA : ¬ (fun q : Nat => s.heap.size ≤ q) b := Nat.not_le.mpr hbl
  intro n ns wd f hn H locs hP hD hS ls hl
  refine lv_aload_n hx hb dL_law_305 rfl (lv_at hl 1 rfl) ?_
  have hPc := hP.sub (ws' := xC h0 a0 a1 cB cI (n) (ns) (wd) (f) g) [0, 1, 2] rfl
  have hKc := hK.sub (tys' := xT cB cI) [0, 1] rfl
  refine q_V (As := []) (rest := []) ⟨hx, hb, hml, hown, hts⟩ (c_X_narrow l dC dI h0 a0 a1 cB cI (n) (ns) (wd) (f) g (hn)) (cwV 0 hts gL_law_X0_narrow rfl rfl rfl (by decide +kernel) ⟨Nat.le_of_ble_eq_true rfl, Nat.le_of_ble_eq_true rfl⟩) (xw_pre hPc hKc _) rfl hl.1 rfl (Nat.le_of_ble_eq_true rfl) dL_law_306 ⟨Nat.le_of_ble_eq_true rfl, Nat.le_of_ble_eq_true rfl⟩ ?_
  refine lv_aload_n hx hb dL_law_309 rfl (lv_at hl 2 rfl) ?_
  have hPc := hP.sub (ws' := mC h1 b0 cM (n) (ns) (wd) (f)) [3, 4] rfl
  have hKc := hK.sub (tys' := mT cM) [2] rfl
  refine q_V (As := []) (rest := [.int ((na_sum f 0 n ns))]) ⟨hx, hb, hml, hown, htm⟩ (c_M_narrow l dC dI h1 b0 cM (n) (ns) (wd) (f) (hn)) (cwV 0 htm gL_law_X1_narrow rfl rfl rfl (by decide +kernel) ⟨Nat.le_of_ble_eq_true rfl, Nat.le_of_ble_eq_true rfl⟩) (mw_pre hPc hKc _) rfl hl.1 rfl (Nat.le_of_ble_eq_true rfl) dL_law_310 ⟨Nat.le_of_ble_eq_true rfl, Nat.le_of_ble_eq_true rfl⟩ ?_
  refine lv_icmp_eq (tgt := 746) hx hb dL_law_313 (by decide) (fun c_313 => ?_) (fun c_313 => absurd rfl c_313)
  refine lv_iinc (v := nI (5 * (t + 1))) (lv' := [(3, .int (nI (5 * (t + 1)))), (0, .ref b), (1, .ref h0), (2, .ref h1)]) hx hb dL_law_746 hl (k := 3) rfl (by rw [show 5 * (t + 1) = 5 * t + 5 by omega]; exact nI_add _ 5) (by decide) rfl (fun ls hl => ?_)
  refine lv_goto (tgt := 18) hx hb dL_law_749 (by decide) ?_
  exact ih (n) (ns) (wd) (f) (hn) _ _ hP hD hS ls (lv_sub hl [1, 2, 3, 0] rfl)
end
section
set_option maxHeartbeats 4000000 in
set_option maxRecDepth 100000 in
theorem law_case6 {p : Program} {l : Launch} {e : Env} {s : State} {m : MethodId} {below : List Frame} {meth : Method} {c : Code} {b L : Nat} {xs : Nat → Int32} (hL : L ≤ 2560) (C0 : lw_At p s m meth c b L xs) {dC : Nat → ClassId} {dI : Nat → Nat → Nat} {h0 a0 a1 : Nat} {cB cI : ClassId} {h1 b0 : Nat} {cM : ClassId} {g : Nat → Int32} (hg : ∀ i, i < 256 → g i = cr_it cr_r 8 (nI i)) (hK : va_K (dC, dI) vwCl (lT cB cI cM) s) (t : Nat) (ht5 : 5 * t + 5 ≤ L) (ih : ∀ (n : Nat) (ns : Int32) (wd : Int64) (f : Nat → Int32), n ≤ 65536 → ∀ (H : Heap) (locs : List Loc), va_P (dC, dI) vwCl (lC h0 a0 a1 cB cI h1 b0 cM n ns wd f g n ns wd f) H → va_D (fun q : Nat => s.heap.size ≤ q) (lC h0 a0 a1 cB cI h1 b0 cM n ns wd f g n ns wd f) → va_S (fun q : Nat => s.heap.size ≤ q) s.heap H locs → ∀ ls : Array Slot, lv_has ls 4 [(0, .ref b), (1, .ref h0), (2, .ref h1), (3, .int (nI (5 * (t + 1))))] → W p l e room_1 s m #[Value.ref b] below meth c H locs 5 131337 (lw_Z below #[Value.ref b] s) (F0 m 18 ls [])) : ∀ (n : Nat) (ns : Int32) (wd : Int64) (f : Nat → Int32), n ≤ 65536 → ∀ (H : Heap) (locs : List Loc), va_P (dC, dI) vwCl (lC h0 a0 a1 cB cI h1 b0 cM n ns wd f g n ns wd f) H → va_D (fun q : Nat => s.heap.size ≤ q) (lC h0 a0 a1 cB cI h1 b0 cM n ns wd f g n ns wd f) → va_S (fun q : Nat => s.heap.size ≤ q) s.heap H locs → ∀ ls : Array Slot, lv_has ls 4 [(0, .ref b), (1, .ref h0), (2, .ref h1), (3, .int (nI (5 * (t))))] → W p l e room_1 s m #[Value.ref b] below meth c H locs 5 131337 (lw_Z below #[Value.ref b] s) (F0 m 318 ls []) := by
  obtain ⟨hx, hb, hr, hml, hown0, hts0, hX, hbl, hlocks, hgv⟩ := id C0
  have hown : s.vm.findClass RL = some m.cls := hown0
  have hts : ∀ w ∈ wsL_law, w.before #[Value.ref b] s = true := fun w h => hts0 w (wsL_law_in w h)
  have htm : ∀ w ∈ wsLM, w.before #[Value.ref b] s = true := fun w h => hts0 w (wsLM_in w h)
  have hA : ∀ q : Nat, s.heap.size ≤ q → (fun q : Nat => s.heap.size ≤ q) q := fun _ h => h
  have hbA : ¬ (fun q : Nat => s.heap.size ≤ q) b := Nat.not_le.mpr hbl
  intro n ns wd f hn H locs hP hD hS ls hl
  refine lv_aload_n hx hb dL_law_318 rfl (lv_at hl 1 rfl) ?_
  have hPc := hP.sub (ws' := xC h0 a0 a1 cB cI (n) (ns) (wd) (f) g) [0, 1, 2] rfl
  have hKc := hK.sub (tys' := xT cB cI) [0, 1] rfl
  refine q_V (As := []) (rest := []) ⟨hx, hb, hml, hown, hts⟩ (c_X_wide l dC dI h0 a0 a1 cB cI (n) (ns) (wd) (f) g (hn)) (cwV 0 hts gL_law_X0_wide rfl rfl rfl (by decide +kernel) ⟨Nat.le_of_ble_eq_true rfl, Nat.le_of_ble_eq_true rfl⟩) (xw_pre hPc hKc _) rfl hl.1 rfl (Nat.le_of_ble_eq_true rfl) dL_law_319 ⟨Nat.le_of_ble_eq_true rfl, Nat.le_of_ble_eq_true rfl⟩ ?_
  refine lv_aload_n hx hb dL_law_322 rfl (lv_at hl 2 rfl) ?_
  have hPc := hP.sub (ws' := mC h1 b0 cM (n) (ns) (wd) (f)) [3, 4] rfl
  have hKc := hK.sub (tys' := mT cM) [2] rfl
  refine q_V (As := []) (rest := [.long ((wi_sum f 0 n wd))]) ⟨hx, hb, hml, hown, htm⟩ (c_M_wide l dC dI h1 b0 cM (n) (ns) (wd) (f) (hn)) (cwV 0 htm gL_law_X1_wide rfl rfl rfl (by decide +kernel) ⟨Nat.le_of_ble_eq_true rfl, Nat.le_of_ble_eq_true rfl⟩) (mw_pre hPc hKc _) rfl hl.1 rfl (Nat.le_of_ble_eq_true rfl) dL_law_323 ⟨Nat.le_of_ble_eq_true rfl, Nat.le_of_ble_eq_true rfl⟩ ?_
  refine W.lcmp hx hb dL_law_326 ?_
  refine lv_if_eq (tgt := 746) hx hb dL_law_327 (by decide) (fun c_327 => ?_) (fun c_327 => absurd ((lg_cmp_eq _ _).mpr rfl) c_327)
  refine lv_iinc (v := nI (5 * (t + 1))) (lv' := [(3, .int (nI (5 * (t + 1)))), (0, .ref b), (1, .ref h0), (2, .ref h1)]) hx hb dL_law_746 hl (k := 3) rfl (by rw [show 5 * (t + 1) = 5 * t + 5 by omega]; exact nI_add _ 5) (by decide) rfl (fun ls hl => ?_)
  refine lv_goto (tgt := 18) hx hb dL_law_749 (by decide) ?_
  exact ih (n) (ns) (wd) (f) (hn) _ _ hP hD hS ls (lv_sub hl [1, 2, 3, 0] rfl)
set_option maxHeartbeats 4000000 in
set_option maxRecDepth 100000 in
theorem law_case7 {p : Program} {l : Launch} {e : Env} {s : State} {m : MethodId} {below : List Frame} {meth : Method} {c : Code} {b L : Nat} {xs : Nat → Int32} (hL : L ≤ 2560) (C0 : lw_At p s m meth c b L xs) {dC : Nat → ClassId} {dI : Nat → Nat → Nat} {h0 a0 a1 : Nat} {cB cI : ClassId} {h1 b0 : Nat} {cM : ClassId} {g : Nat → Int32} (hg : ∀ i, i < 256 → g i = cr_it cr_r 8 (nI i)) (hK : va_K (dC, dI) vwCl (lT cB cI cM) s) (t : Nat) (ht5 : 5 * t + 5 ≤ L) (ih : ∀ (n : Nat) (ns : Int32) (wd : Int64) (f : Nat → Int32), n ≤ 65536 → ∀ (H : Heap) (locs : List Loc), va_P (dC, dI) vwCl (lC h0 a0 a1 cB cI h1 b0 cM n ns wd f g n ns wd f) H → va_D (fun q : Nat => s.heap.size ≤ q) (lC h0 a0 a1 cB cI h1 b0 cM n ns wd f g n ns wd f) → va_S (fun q : Nat => s.heap.size ≤ q) s.heap H locs → ∀ ls : Array Slot, lv_has ls 4 [(0, .ref b), (1, .ref h0), (2, .ref h1), (3, .int (nI (5 * (t + 1))))] → W p l e room_1 s m #[Value.ref b] below meth c H locs 5 131337 (lw_Z below #[Value.ref b] s) (F0 m 18 ls [])) : ∀ (n : Nat) (ns : Int32) (wd : Int64) (f : Nat → Int32), n ≤ 65536 → ∀ (H : Heap) (locs : List Loc), va_P (dC, dI) vwCl (lC h0 a0 a1 cB cI h1 b0 cM n ns wd f g n ns wd f) H → va_D (fun q : Nat => s.heap.size ≤ q) (lC h0 a0 a1 cB cI h1 b0 cM n ns wd f g n ns wd f) → va_S (fun q : Nat => s.heap.size ≤ q) s.heap H locs → ∀ ls : Array Slot, lv_has ls 4 [(0, .ref b), (1, .ref h0), (2, .ref h1), (3, .int (nI (5 * (t))))] → W p l e room_1 s m #[Value.ref b] below meth c H locs 5 131337 (lw_Z below #[Value.ref b] s) (F0 m 332 ls []) := by
  obtain ⟨hx, hb, hr, hml, hown0, hts0, hX, hbl, hlocks, hgv⟩ := id C0
  have hown : s.vm.findClass RL = some m.cls := hown0
  have hts : ∀ w ∈ wsL_law, w.before #[Value.ref b] s = true := fun w h => hts0 w (wsL_law_in w h)
  have htm : ∀ w ∈ wsLM, w.before #[Value.ref b] s = true := fun w h => hts0 w (wsLM_in w h)
  have hA : ∀ q : Nat, s.heap.size ≤ q → (fun q : Nat => s.heap.size ≤ q) q := fun _ h => h
  have hbA : ¬ (fun q : Nat => s.heap.size ≤ q) b := Nat.not_le.mpr hbl
  intro n ns wd f hn H locs hP hD hS ls hl
  refine lv_aload_n hx hb dL_law_332 rfl (lv_at hl 1 rfl) ?_
  have hPc := hP.sub (ws' := xC h0 a0 a1 cB cI (n) (ns) (wd) (f) g) [0, 1, 2] rfl
  have hKc := hK.sub (tys' := xT cB cI) [0, 1] rfl
  refine q_V (As := []) (rest := []) ⟨hx, hb, hml, hown, hts⟩ (c_X_poly l dC dI h0 a0 a1 cB cI (n) (ns) (wd) (f) g (hn) (hg)) (cwV 0 hts gL_law_X0_poly rfl rfl rfl (by decide +kernel) ⟨Nat.le_of_ble_eq_true rfl, Nat.le_of_ble_eq_true rfl⟩) (xw_pre hPc hKc _) rfl hl.1 rfl (Nat.le_of_ble_eq_true rfl) dL_law_333 ⟨Nat.le_of_ble_eq_true rfl, Nat.le_of_ble_eq_true rfl⟩ ?_
  refine lv_aload_n hx hb dL_law_336 rfl (lv_at hl 2 rfl) ?_
  have hPc := hP.sub (ws' := mC h1 b0 cM (n) (ns) (wd) (f)) [3, 4] rfl
  have hKc := hK.sub (tys' := mT cM) [2] rfl
  refine q_V (As := []) (rest := [.int ((cr_rg f 0 (-1) n ^^^ (-1)))]) ⟨hx, hb, hml, hown, htm⟩ (c_M_poly l dC dI h1 b0 cM (n) (ns) (wd) (f) (hn)) (cwV 0 htm gL_law_X1_poly rfl rfl rfl (by decide +kernel) ⟨Nat.le_of_ble_eq_true rfl, Nat.le_of_ble_eq_true rfl⟩) (mw_pre hPc hKc _) rfl hl.1 rfl (Nat.le_of_ble_eq_true rfl) dL_law_337 ⟨Nat.le_of_ble_eq_true rfl, Nat.le_of_ble_eq_true rfl⟩ ?_
  refine lv_icmp_eq (tgt := 746) hx hb dL_law_340 (by decide) (fun c_340 => ?_) (fun c_340 => absurd rfl c_340)
  refine lv_iinc (v := nI (5 * (t + 1))) (lv' := [(3, .int (nI (5 * (t + 1)))), (0, .ref b), (1, .ref h0), (2, .ref h1)]) hx hb dL_law_746 hl (k := 3) rfl (by rw [show 5 * (t + 1) = 5 * t + 5 by omega]; exact nI_add _ 5) (by decide) rfl (fun ls hl => ?_)
  refine lv_goto (tgt := 18) hx hb dL_law_749 (by decide) ?_
  exact ih (n) (ns) (wd) (f) (hn) _ _ hP hD hS ls (lv_sub hl [1, 2, 3, 0] rfl)
set_option maxHeartbeats 4000000 in
set_option maxRecDepth 100000 in
theorem law_case8 {p : Program} {l : Launch} {e : Env} {s : State} {m : MethodId} {below : List Frame} {meth : Method} {c : Code} {b L : Nat} {xs : Nat → Int32} (hL : L ≤ 2560) (C0 : lw_At p s m meth c b L xs) {dC : Nat → ClassId} {dI : Nat → Nat → Nat} {h0 a0 a1 : Nat} {cB cI : ClassId} {h1 b0 : Nat} {cM : ClassId} {g : Nat → Int32} (hg : ∀ i, i < 256 → g i = cr_it cr_r 8 (nI i)) (hK : va_K (dC, dI) vwCl (lT cB cI cM) s) (t : Nat) (ht5 : 5 * t + 5 ≤ L) (ih : ∀ (n : Nat) (ns : Int32) (wd : Int64) (f : Nat → Int32), n ≤ 65536 → ∀ (H : Heap) (locs : List Loc), va_P (dC, dI) vwCl (lC h0 a0 a1 cB cI h1 b0 cM n ns wd f g n ns wd f) H → va_D (fun q : Nat => s.heap.size ≤ q) (lC h0 a0 a1 cB cI h1 b0 cM n ns wd f g n ns wd f) → va_S (fun q : Nat => s.heap.size ≤ q) s.heap H locs → ∀ ls : Array Slot, lv_has ls 4 [(0, .ref b), (1, .ref h0), (2, .ref h1), (3, .int (nI (5 * (t + 1))))] → W p l e room_1 s m #[Value.ref b] below meth c H locs 5 131337 (lw_Z below #[Value.ref b] s) (F0 m 18 ls [])) : ∀ (n : Nat) (ns : Int32) (wd : Int64) (f : Nat → Int32), n ≤ 65536 → ∀ (H : Heap) (locs : List Loc), va_P (dC, dI) vwCl (lC h0 a0 a1 cB cI h1 b0 cM n ns wd f g n ns wd f) H → va_D (fun q : Nat => s.heap.size ≤ q) (lC h0 a0 a1 cB cI h1 b0 cM n ns wd f g n ns wd f) → va_S (fun q : Nat => s.heap.size ≤ q) s.heap H locs → ∀ ls : Array Slot, lv_has ls 4 [(0, .ref b), (1, .ref h0), (2, .ref h1), (3, .int (nI (5 * (t))))] → W p l e room_1 s m #[Value.ref b] below meth c H locs 5 131337 (lw_Z below #[Value.ref b] s) (F0 m 345 ls []) := by
  obtain ⟨hx, hb, hr, hml, hown0, hts0, hX, hbl, hlocks, hgv⟩ := id C0
  have hown : s.vm.findClass RL = some m.cls := hown0
  have hts : ∀ w ∈ wsL_law, w.before #[Value.ref b] s = true := fun w h => hts0 w (wsL_law_in w h)
  have htm : ∀ w ∈ wsLM, w.before #[Value.ref b] s = true := fun w h => hts0 w (wsLM_in w h)
  have hA : ∀ q : Nat, s.heap.size ≤ q → (fun q : Nat => s.heap.size ≤ q) q := fun _ h => h
  have hbA : ¬ (fun q : Nat => s.heap.size ≤ q) b := Nat.not_le.mpr hbl
  intro n ns wd f hn H locs hP hD hS ls hl
  refine lv_aload_n hx hb dL_law_345 rfl (lv_at hl 1 rfl) ?_
  refine lv_aload_n hx hb dL_law_346 rfl (lv_at hl 0 rfl) ?_
  refine lv_iload_n hx hb dL_law_347 rfl (lv_at hl 3 rfl) ?_
  refine lv_iconst (v := 1) hx hb dL_law_348 (by decide) ?_
  refine lv_iadd hx hb dL_law_349 ?_
  refine q_ti (y := nI (5 * t + 1)) (nI_add _ 1) ?_
  refine q_sld (j := 5 * t + 1) hx hb hX hbl hbA hS rfl (by omega) (by omega) dL_law_350 ?_
  refine lv_aload_n hx hb dL_law_351 rfl (lv_at hl 0 rfl) ?_
  refine lv_iload_n hx hb dL_law_352 rfl (lv_at hl 3 rfl) ?_
  refine lv_iconst (v := 2) hx hb dL_law_353 (by decide) ?_
  refine lv_iadd hx hb dL_law_354 ?_
  refine q_ti (y := nI (5 * t + 2)) (nI_add _ 2) ?_
  refine q_sld (j := 5 * t + 2) hx hb hX hbl hbA hS rfl (by omega) (by omega) dL_law_355 ?_
  refine lv_aload_n hx hb dL_law_356 rfl (lv_at hl 0 rfl) ?_
  refine lv_iload_n hx hb dL_law_357 rfl (lv_at hl 3 rfl) ?_
  refine lv_iconst (v := 3) hx hb dL_law_358 (by decide) ?_
  refine lv_iadd hx hb dL_law_359 ?_
  refine q_ti (y := nI (5 * t + 3)) (nI_add _ 3) ?_
  refine q_sld (j := 5 * t + 3) hx hb hX hbl hbA hS rfl (by omega) (by omega) dL_law_360 ?_
  have hPc := hP.sub (ws' := xC h0 a0 a1 cB cI (n) (ns) (wd) (f) g) [0, 1, 2] rfl
  have hKc := hK.sub (tys' := xT cB cI) [0, 1] rfl
  refine q_V (As := [.int (xs (5 * t + 1)), .int (xs (5 * t + 2)), .int (xs (5 * t + 3))]) (rest := []) ⟨hx, hb, hml, hown, hts⟩ (c_X_narrowOf l dC dI h0 a0 a1 cB cI (n) (ns) (wd) (f) g (xs (5 * t + 1)) (xs (5 * t + 2)) (xs (5 * t + 3)) (hn)) (cwV 3 hts gL_law_X0_narrowOf rfl rfl rfl (by decide +kernel) ⟨Nat.le_of_ble_eq_true rfl, Nat.le_of_ble_eq_true rfl⟩) (xw_pre hPc hKc _) rfl hl.1 rfl (Nat.le_of_ble_eq_true rfl) dL_law_361 ⟨Nat.le_of_ble_eq_true rfl, Nat.le_of_ble_eq_true rfl⟩ ?_
  refine lv_aload_n hx hb dL_law_364 rfl (lv_at hl 2 rfl) ?_
  refine lv_aload_n hx hb dL_law_365 rfl (lv_at hl 0 rfl) ?_
  refine lv_iload_n hx hb dL_law_366 rfl (lv_at hl 3 rfl) ?_
  refine lv_iconst (v := 1) hx hb dL_law_367 (by decide) ?_
  refine lv_iadd hx hb dL_law_368 ?_
  refine q_ti (y := nI (5 * t + 1)) (nI_add _ 1) ?_
  refine q_sld (j := 5 * t + 1) hx hb hX hbl hbA hS rfl (by omega) (by omega) dL_law_369 ?_
  refine lv_aload_n hx hb dL_law_370 rfl (lv_at hl 0 rfl) ?_
  refine lv_iload_n hx hb dL_law_371 rfl (lv_at hl 3 rfl) ?_
  refine lv_iconst (v := 2) hx hb dL_law_372 (by decide) ?_
  refine lv_iadd hx hb dL_law_373 ?_
  refine q_ti (y := nI (5 * t + 2)) (nI_add _ 2) ?_
  refine q_sld (j := 5 * t + 2) hx hb hX hbl hbA hS rfl (by omega) (by omega) dL_law_374 ?_
  refine lv_aload_n hx hb dL_law_375 rfl (lv_at hl 0 rfl) ?_
  refine lv_iload_n hx hb dL_law_376 rfl (lv_at hl 3 rfl) ?_
  refine lv_iconst (v := 3) hx hb dL_law_377 (by decide) ?_
  refine lv_iadd hx hb dL_law_378 ?_
  refine q_ti (y := nI (5 * t + 3)) (nI_add _ 3) ?_
  refine q_sld (j := 5 * t + 3) hx hb hX hbl hbA hS rfl (by omega) (by omega) dL_law_379 ?_
  have hPc := hP.sub (ws' := mC h1 b0 cM (n) (ns) (wd) (f)) [3, 4] rfl
  have hKc := hK.sub (tys' := mT cM) [2] rfl
  refine q_V (As := [.int (xs (5 * t + 1)), .int (xs (5 * t + 2)), .int (xs (5 * t + 3))]) (rest := [.int ((an_na n f (xs (5 * t + 1)) (xs (5 * t + 2)) (xs (5 * t + 3))))]) ⟨hx, hb, hml, hown, htm⟩ (c_M_narrowOf l dC dI h1 b0 cM (n) (ns) (wd) (f) (xs (5 * t + 1)) (xs (5 * t + 2)) (xs (5 * t + 3)) (hn)) (cwV 3 htm gL_law_X1_narrowOf rfl rfl rfl (by decide +kernel) ⟨Nat.le_of_ble_eq_true rfl, Nat.le_of_ble_eq_true rfl⟩) (mw_pre hPc hKc _) rfl hl.1 rfl (Nat.le_of_ble_eq_true rfl) dL_law_380 ⟨Nat.le_of_ble_eq_true rfl, Nat.le_of_ble_eq_true rfl⟩ ?_
  refine lv_icmp_eq (tgt := 746) hx hb dL_law_383 (by decide) (fun c_383 => ?_) (fun c_383 => absurd rfl c_383)
  refine lv_iinc (v := nI (5 * (t + 1))) (lv' := [(3, .int (nI (5 * (t + 1)))), (0, .ref b), (1, .ref h0), (2, .ref h1)]) hx hb dL_law_746 hl (k := 3) rfl (by rw [show 5 * (t + 1) = 5 * t + 5 by omega]; exact nI_add _ 5) (by decide) rfl (fun ls hl => ?_)
  refine lv_goto (tgt := 18) hx hb dL_law_749 (by decide) ?_
  exact ih (n) (ns) (wd) (f) (hn) _ _ hP hD hS ls (lv_sub hl [1, 2, 3, 0] rfl)
set_option maxHeartbeats 4000000 in
set_option maxRecDepth 100000 in
theorem law_case9 {p : Program} {l : Launch} {e : Env} {s : State} {m : MethodId} {below : List Frame} {meth : Method} {c : Code} {b L : Nat} {xs : Nat → Int32} (hL : L ≤ 2560) (C0 : lw_At p s m meth c b L xs) {dC : Nat → ClassId} {dI : Nat → Nat → Nat} {h0 a0 a1 : Nat} {cB cI : ClassId} {h1 b0 : Nat} {cM : ClassId} {g : Nat → Int32} (hg : ∀ i, i < 256 → g i = cr_it cr_r 8 (nI i)) (hK : va_K (dC, dI) vwCl (lT cB cI cM) s) (t : Nat) (ht5 : 5 * t + 5 ≤ L) (ih : ∀ (n : Nat) (ns : Int32) (wd : Int64) (f : Nat → Int32), n ≤ 65536 → ∀ (H : Heap) (locs : List Loc), va_P (dC, dI) vwCl (lC h0 a0 a1 cB cI h1 b0 cM n ns wd f g n ns wd f) H → va_D (fun q : Nat => s.heap.size ≤ q) (lC h0 a0 a1 cB cI h1 b0 cM n ns wd f g n ns wd f) → va_S (fun q : Nat => s.heap.size ≤ q) s.heap H locs → ∀ ls : Array Slot, lv_has ls 4 [(0, .ref b), (1, .ref h0), (2, .ref h1), (3, .int (nI (5 * (t + 1))))] → W p l e room_1 s m #[Value.ref b] below meth c H locs 5 131337 (lw_Z below #[Value.ref b] s) (F0 m 18 ls [])) : ∀ (n : Nat) (ns : Int32) (wd : Int64) (f : Nat → Int32), n ≤ 65536 → ∀ (H : Heap) (locs : List Loc), va_P (dC, dI) vwCl (lC h0 a0 a1 cB cI h1 b0 cM n ns wd f g n ns wd f) H → va_D (fun q : Nat => s.heap.size ≤ q) (lC h0 a0 a1 cB cI h1 b0 cM n ns wd f g n ns wd f) → va_S (fun q : Nat => s.heap.size ≤ q) s.heap H locs → ∀ ls : Array Slot, lv_has ls 4 [(0, .ref b), (1, .ref h0), (2, .ref h1), (3, .int (nI (5 * (t))))] → W p l e room_1 s m #[Value.ref b] below meth c H locs 5 131337 (lw_Z below #[Value.ref b] s) (F0 m 388 ls []) := by
  obtain ⟨hx, hb, hr, hml, hown0, hts0, hX, hbl, hlocks, hgv⟩ := id C0
  have hown : s.vm.findClass RL = some m.cls := hown0
  have hts : ∀ w ∈ wsL_law, w.before #[Value.ref b] s = true := fun w h => hts0 w (wsL_law_in w h)
  have htm : ∀ w ∈ wsLM, w.before #[Value.ref b] s = true := fun w h => hts0 w (wsLM_in w h)
  have hA : ∀ q : Nat, s.heap.size ≤ q → (fun q : Nat => s.heap.size ≤ q) q := fun _ h => h
  have hbA : ¬ (fun q : Nat => s.heap.size ≤ q) b := Nat.not_le.mpr hbl
  intro n ns wd f hn H locs hP hD hS ls hl
  refine lv_aload_n hx hb dL_law_388 rfl (lv_at hl 1 rfl) ?_
  refine lv_aload_n hx hb dL_law_389 rfl (lv_at hl 0 rfl) ?_
  refine lv_iload_n hx hb dL_law_390 rfl (lv_at hl 3 rfl) ?_
  refine lv_iconst (v := 1) hx hb dL_law_391 (by decide) ?_
  refine lv_iadd hx hb dL_law_392 ?_
  refine q_ti (y := nI (5 * t + 1)) (nI_add _ 1) ?_
  refine q_sld (j := 5 * t + 1) hx hb hX hbl hbA hS rfl (by omega) (by omega) dL_law_393 ?_
  refine lv_aload_n hx hb dL_law_394 rfl (lv_at hl 0 rfl) ?_
  refine lv_iload_n hx hb dL_law_395 rfl (lv_at hl 3 rfl) ?_
  refine lv_iconst (v := 2) hx hb dL_law_396 (by decide) ?_
  refine lv_iadd hx hb dL_law_397 ?_
  refine q_ti (y := nI (5 * t + 2)) (nI_add _ 2) ?_
  refine q_sld (j := 5 * t + 2) hx hb hX hbl hbA hS rfl (by omega) (by omega) dL_law_398 ?_
  refine lv_aload_n hx hb dL_law_399 rfl (lv_at hl 0 rfl) ?_
  refine lv_iload_n hx hb dL_law_400 rfl (lv_at hl 3 rfl) ?_
  refine lv_iconst (v := 3) hx hb dL_law_401 (by decide) ?_
  refine lv_iadd hx hb dL_law_402 ?_
  refine q_ti (y := nI (5 * t + 3)) (nI_add _ 3) ?_
  refine q_sld (j := 5 * t + 3) hx hb hX hbl hbA hS rfl (by omega) (by omega) dL_law_403 ?_
  refine lv_i2l (v := (xs (5 * t + 3)).toInt64) hx hb dL_law_404 rfl ?_
  refine lv_bipush (v := 32) hx hb dL_law_405 (by decide) ?_
  refine lv_lshl (v := sh_L ((xs (5 * t + 3)).toInt64) (32)) hx hb dL_law_407 rfl ?_
  refine lv_aload_n hx hb dL_law_408 rfl (lv_at hl 0 rfl) ?_
  refine lv_iload_n hx hb dL_law_409 rfl (lv_at hl 3 rfl) ?_
  refine lv_iconst (v := 4) hx hb dL_law_410 (by decide) ?_
  refine lv_iadd hx hb dL_law_411 ?_
  refine q_ti (y := nI (5 * t + 4)) (nI_add _ 4) ?_
  refine q_sld (j := 5 * t + 4) hx hb hX hbl hbA hS rfl (by omega) (by omega) dL_law_412 ?_
  refine lv_i2l (v := (xs (5 * t + 4)).toInt64) hx hb dL_law_413 rfl ?_
  refine lv_ldc2 (v := 4294967295) hx hb hown (hts0 (.constantLong RL 13 4294967295) lw_k13) dL_law_414 ?_
  refine lv_land hx hb dL_law_417 ?_
  refine lv_lor hx hb dL_law_418 ?_
  have hPc := hP.sub (ws' := xC h0 a0 a1 cB cI (n) (ns) (wd) (f) g) [0, 1, 2] rfl
  have hKc := hK.sub (tys' := xT cB cI) [0, 1] rfl
  refine q_V (As := [.int (xs (5 * t + 1)), .int (xs (5 * t + 2)), .long (((sh_L ((xs (5 * t + 3)).toInt64) (32)) ||| ((xs (5 * t + 4)).toInt64 &&& 4294967295)))]) (rest := []) ⟨hx, hb, hml, hown, hts⟩ (c_X_wideOf l dC dI h0 a0 a1 cB cI (n) (ns) (wd) (f) g (xs (5 * t + 1)) (xs (5 * t + 2)) (((sh_L ((xs (5 * t + 3)).toInt64) (32)) ||| ((xs (5 * t + 4)).toInt64 &&& 4294967295))) (hn)) (cwV 3 hts gL_law_X0_wideOf rfl rfl rfl (by decide +kernel) ⟨Nat.le_of_ble_eq_true rfl, Nat.le_of_ble_eq_true rfl⟩) (xw_pre hPc hKc _) rfl hl.1 rfl (Nat.le_of_ble_eq_true rfl) dL_law_419 ⟨Nat.le_of_ble_eq_true rfl, Nat.le_of_ble_eq_true rfl⟩ ?_
  refine lv_aload_n hx hb dL_law_422 rfl (lv_at hl 2 rfl) ?_
  refine lv_aload_n hx hb dL_law_423 rfl (lv_at hl 0 rfl) ?_
  refine lv_iload_n hx hb dL_law_424 rfl (lv_at hl 3 rfl) ?_
  refine lv_iconst (v := 1) hx hb dL_law_425 (by decide) ?_
  refine lv_iadd hx hb dL_law_426 ?_
  refine q_ti (y := nI (5 * t + 1)) (nI_add _ 1) ?_
  refine q_sld (j := 5 * t + 1) hx hb hX hbl hbA hS rfl (by omega) (by omega) dL_law_427 ?_
  refine lv_aload_n hx hb dL_law_428 rfl (lv_at hl 0 rfl) ?_
  refine lv_iload_n hx hb dL_law_429 rfl (lv_at hl 3 rfl) ?_
  refine lv_iconst (v := 2) hx hb dL_law_430 (by decide) ?_
  refine lv_iadd hx hb dL_law_431 ?_
  refine q_ti (y := nI (5 * t + 2)) (nI_add _ 2) ?_
  refine q_sld (j := 5 * t + 2) hx hb hX hbl hbA hS rfl (by omega) (by omega) dL_law_432 ?_
  refine lv_aload_n hx hb dL_law_433 rfl (lv_at hl 0 rfl) ?_
  refine lv_iload_n hx hb dL_law_434 rfl (lv_at hl 3 rfl) ?_
  refine lv_iconst (v := 3) hx hb dL_law_435 (by decide) ?_
  refine lv_iadd hx hb dL_law_436 ?_
  refine q_ti (y := nI (5 * t + 3)) (nI_add _ 3) ?_
  refine q_sld (j := 5 * t + 3) hx hb hX hbl hbA hS rfl (by omega) (by omega) dL_law_437 ?_
  refine lv_i2l (v := (xs (5 * t + 3)).toInt64) hx hb dL_law_438 rfl ?_
  refine lv_bipush (v := 32) hx hb dL_law_439 (by decide) ?_
  refine lv_lshl (v := sh_L ((xs (5 * t + 3)).toInt64) (32)) hx hb dL_law_441 rfl ?_
  refine lv_aload_n hx hb dL_law_442 rfl (lv_at hl 0 rfl) ?_
  refine lv_iload_n hx hb dL_law_443 rfl (lv_at hl 3 rfl) ?_
  refine lv_iconst (v := 4) hx hb dL_law_444 (by decide) ?_
  refine lv_iadd hx hb dL_law_445 ?_
  refine q_ti (y := nI (5 * t + 4)) (nI_add _ 4) ?_
  refine q_sld (j := 5 * t + 4) hx hb hX hbl hbA hS rfl (by omega) (by omega) dL_law_446 ?_
  refine lv_i2l (v := (xs (5 * t + 4)).toInt64) hx hb dL_law_447 rfl ?_
  refine lv_ldc2 (v := 4294967295) hx hb hown (hts0 (.constantLong RL 13 4294967295) lw_k13) dL_law_448 ?_
  refine lv_land hx hb dL_law_451 ?_
  refine lv_lor hx hb dL_law_452 ?_
  have hPc := hP.sub (ws' := mC h1 b0 cM (n) (ns) (wd) (f)) [3, 4] rfl
  have hKc := hK.sub (tys' := mT cM) [2] rfl
  refine q_V (As := [.int (xs (5 * t + 1)), .int (xs (5 * t + 2)), .long (((sh_L ((xs (5 * t + 3)).toInt64) (32)) ||| ((xs (5 * t + 4)).toInt64 &&& 4294967295)))]) (rest := [.long ((an_wi n f (xs (5 * t + 1)) (xs (5 * t + 2)) (((sh_L ((xs (5 * t + 3)).toInt64) (32)) ||| ((xs (5 * t + 4)).toInt64 &&& 4294967295)))))]) ⟨hx, hb, hml, hown, htm⟩ (c_M_wideOf l dC dI h1 b0 cM (n) (ns) (wd) (f) (xs (5 * t + 1)) (xs (5 * t + 2)) (((sh_L ((xs (5 * t + 3)).toInt64) (32)) ||| ((xs (5 * t + 4)).toInt64 &&& 4294967295))) (hn)) (cwV 3 htm gL_law_X1_wideOf rfl rfl rfl (by decide +kernel) ⟨Nat.le_of_ble_eq_true rfl, Nat.le_of_ble_eq_true rfl⟩) (mw_pre hPc hKc _) rfl hl.1 rfl (Nat.le_of_ble_eq_true rfl) dL_law_453 ⟨Nat.le_of_ble_eq_true rfl, Nat.le_of_ble_eq_true rfl⟩ ?_
  refine W.lcmp hx hb dL_law_456 ?_
  refine lv_if_eq (tgt := 746) hx hb dL_law_457 (by decide) (fun c_457 => ?_) (fun c_457 => absurd ((lg_cmp_eq _ _).mpr rfl) c_457)
  refine lv_iinc (v := nI (5 * (t + 1))) (lv' := [(3, .int (nI (5 * (t + 1)))), (0, .ref b), (1, .ref h0), (2, .ref h1)]) hx hb dL_law_746 hl (k := 3) rfl (by rw [show 5 * (t + 1) = 5 * t + 5 by omega]; exact nI_add _ 5) (by decide) rfl (fun ls hl => ?_)
  refine lv_goto (tgt := 18) hx hb dL_law_749 (by decide) ?_
  exact ih (n) (ns) (wd) (f) (hn) _ _ hP hD hS ls (lv_sub hl [1, 2, 3, 0] rfl)
set_option maxHeartbeats 4000000 in
set_option maxRecDepth 100000 in
theorem law_case10 {p : Program} {l : Launch} {e : Env} {s : State} {m : MethodId} {below : List Frame} {meth : Method} {c : Code} {b L : Nat} {xs : Nat → Int32} (hL : L ≤ 2560) (C0 : lw_At p s m meth c b L xs) {dC : Nat → ClassId} {dI : Nat → Nat → Nat} {h0 a0 a1 : Nat} {cB cI : ClassId} {h1 b0 : Nat} {cM : ClassId} {g : Nat → Int32} (hg : ∀ i, i < 256 → g i = cr_it cr_r 8 (nI i)) (hK : va_K (dC, dI) vwCl (lT cB cI cM) s) (t : Nat) (ht5 : 5 * t + 5 ≤ L) (ih : ∀ (n : Nat) (ns : Int32) (wd : Int64) (f : Nat → Int32), n ≤ 65536 → ∀ (H : Heap) (locs : List Loc), va_P (dC, dI) vwCl (lC h0 a0 a1 cB cI h1 b0 cM n ns wd f g n ns wd f) H → va_D (fun q : Nat => s.heap.size ≤ q) (lC h0 a0 a1 cB cI h1 b0 cM n ns wd f g n ns wd f) → va_S (fun q : Nat => s.heap.size ≤ q) s.heap H locs → ∀ ls : Array Slot, lv_has ls 4 [(0, .ref b), (1, .ref h0), (2, .ref h1), (3, .int (nI (5 * (t + 1))))] → W p l e room_1 s m #[Value.ref b] below meth c H locs 5 131337 (lw_Z below #[Value.ref b] s) (F0 m 18 ls [])) : ∀ (n : Nat) (ns : Int32) (wd : Int64) (f : Nat → Int32), n ≤ 65536 → ∀ (H : Heap) (locs : List Loc), va_P (dC, dI) vwCl (lC h0 a0 a1 cB cI h1 b0 cM n ns wd f g n ns wd f) H → va_D (fun q : Nat => s.heap.size ≤ q) (lC h0 a0 a1 cB cI h1 b0 cM n ns wd f g n ns wd f) → va_S (fun q : Nat => s.heap.size ≤ q) s.heap H locs → ∀ ls : Array Slot, lv_has ls 4 [(0, .ref b), (1, .ref h0), (2, .ref h1), (3, .int (nI (5 * (t))))] → W p l e room_1 s m #[Value.ref b] below meth c H locs 5 131337 (lw_Z below #[Value.ref b] s) (F0 m 462 ls []) := by
  obtain ⟨hx, hb, hr, hml, hown0, hts0, hX, hbl, hlocks, hgv⟩ := id C0
  have hown : s.vm.findClass RL = some m.cls := hown0
  have hts : ∀ w ∈ wsL_law, w.before #[Value.ref b] s = true := fun w h => hts0 w (wsL_law_in w h)
  have htm : ∀ w ∈ wsLM, w.before #[Value.ref b] s = true := fun w h => hts0 w (wsLM_in w h)
  have hA : ∀ q : Nat, s.heap.size ≤ q → (fun q : Nat => s.heap.size ≤ q) q := fun _ h => h
  have hbA : ¬ (fun q : Nat => s.heap.size ≤ q) b := Nat.not_le.mpr hbl
  intro n ns wd f hn H locs hP hD hS ls hl
  refine lv_aload_n hx hb dL_law_462 rfl (lv_at hl 1 rfl) ?_
  refine lv_aload_n hx hb dL_law_463 rfl (lv_at hl 0 rfl) ?_
  refine lv_iload_n hx hb dL_law_464 rfl (lv_at hl 3 rfl) ?_
  refine lv_iconst (v := 1) hx hb dL_law_465 (by decide) ?_
  refine lv_iadd hx hb dL_law_466 ?_
  refine q_ti (y := nI (5 * t + 1)) (nI_add _ 1) ?_
  refine q_sld (j := 5 * t + 1) hx hb hX hbl hbA hS rfl (by omega) (by omega) dL_law_467 ?_
  refine lv_aload_n hx hb dL_law_468 rfl (lv_at hl 0 rfl) ?_
  refine lv_iload_n hx hb dL_law_469 rfl (lv_at hl 3 rfl) ?_
  refine lv_iconst (v := 2) hx hb dL_law_470 (by decide) ?_
  refine lv_iadd hx hb dL_law_471 ?_
  refine q_ti (y := nI (5 * t + 2)) (nI_add _ 2) ?_
  refine q_sld (j := 5 * t + 2) hx hb hX hbl hbA hS rfl (by omega) (by omega) dL_law_472 ?_
  have hPc := hP.sub (ws' := xC h0 a0 a1 cB cI (n) (ns) (wd) (f) g) [0, 1, 2] rfl
  have hKc := hK.sub (tys' := xT cB cI) [0, 1] rfl
  refine q_V (As := [.int (xs (5 * t + 1)), .int (xs (5 * t + 2))]) (rest := []) ⟨hx, hb, hml, hown, hts⟩ (c_X_polyOf l dC dI h0 a0 a1 cB cI (n) (ns) (wd) (f) g (xs (5 * t + 1)) (xs (5 * t + 2)) (hn) (hg)) (cwV 2 hts gL_law_X0_polyOf rfl rfl rfl (by decide +kernel) ⟨Nat.le_of_ble_eq_true rfl, Nat.le_of_ble_eq_true rfl⟩) (xw_pre hPc hKc _) rfl hl.1 rfl (Nat.le_of_ble_eq_true rfl) dL_law_473 ⟨Nat.le_of_ble_eq_true rfl, Nat.le_of_ble_eq_true rfl⟩ ?_
  refine lv_aload_n hx hb dL_law_476 rfl (lv_at hl 2 rfl) ?_
  refine lv_aload_n hx hb dL_law_477 rfl (lv_at hl 0 rfl) ?_
  refine lv_iload_n hx hb dL_law_478 rfl (lv_at hl 3 rfl) ?_
  refine lv_iconst (v := 1) hx hb dL_law_479 (by decide) ?_
  refine lv_iadd hx hb dL_law_480 ?_
  refine q_ti (y := nI (5 * t + 1)) (nI_add _ 1) ?_
  refine q_sld (j := 5 * t + 1) hx hb hX hbl hbA hS rfl (by omega) (by omega) dL_law_481 ?_
  refine lv_aload_n hx hb dL_law_482 rfl (lv_at hl 0 rfl) ?_
  refine lv_iload_n hx hb dL_law_483 rfl (lv_at hl 3 rfl) ?_
  refine lv_iconst (v := 2) hx hb dL_law_484 (by decide) ?_
  refine lv_iadd hx hb dL_law_485 ?_
  refine q_ti (y := nI (5 * t + 2)) (nI_add _ 2) ?_
  refine q_sld (j := 5 * t + 2) hx hb hX hbl hbA hS rfl (by omega) (by omega) dL_law_486 ?_
  have hPc := hP.sub (ws' := mC h1 b0 cM (n) (ns) (wd) (f)) [3, 4] rfl
  have hKc := hK.sub (tys' := mT cM) [2] rfl
  refine q_V (As := [.int (xs (5 * t + 1)), .int (xs (5 * t + 2))]) (rest := [.int ((an_po n f (xs (5 * t + 1)) (xs (5 * t + 2))))]) ⟨hx, hb, hml, hown, htm⟩ (c_M_polyOf l dC dI h1 b0 cM (n) (ns) (wd) (f) (xs (5 * t + 1)) (xs (5 * t + 2)) (hn)) (cwV 2 htm gL_law_X1_polyOf rfl rfl rfl (by decide +kernel) ⟨Nat.le_of_ble_eq_true rfl, Nat.le_of_ble_eq_true rfl⟩) (mw_pre hPc hKc _) rfl hl.1 rfl (Nat.le_of_ble_eq_true rfl) dL_law_487 ⟨Nat.le_of_ble_eq_true rfl, Nat.le_of_ble_eq_true rfl⟩ ?_
  refine lv_icmp_eq (tgt := 746) hx hb dL_law_490 (by decide) (fun c_490 => ?_) (fun c_490 => absurd rfl c_490)
  refine lv_iinc (v := nI (5 * (t + 1))) (lv' := [(3, .int (nI (5 * (t + 1)))), (0, .ref b), (1, .ref h0), (2, .ref h1)]) hx hb dL_law_746 hl (k := 3) rfl (by rw [show 5 * (t + 1) = 5 * t + 5 by omega]; exact nI_add _ 5) (by decide) rfl (fun ls hl => ?_)
  refine lv_goto (tgt := 18) hx hb dL_law_749 (by decide) ?_
  exact ih (n) (ns) (wd) (f) (hn) _ _ hP hD hS ls (lv_sub hl [1, 2, 3, 0] rfl)
end
section
set_option maxHeartbeats 4000000 in
set_option maxRecDepth 100000 in
theorem law_case11 {p : Program} {l : Launch} {e : Env} {s : State} {m : MethodId} {below : List Frame} {meth : Method} {c : Code} {b L : Nat} {xs : Nat → Int32} (hL : L ≤ 2560) (C0 : lw_At p s m meth c b L xs) {dC : Nat → ClassId} {dI : Nat → Nat → Nat} {h0 a0 a1 : Nat} {cB cI : ClassId} {h1 b0 : Nat} {cM : ClassId} {g : Nat → Int32} (hg : ∀ i, i < 256 → g i = cr_it cr_r 8 (nI i)) (hK : va_K (dC, dI) vwCl (lT cB cI cM) s) (t : Nat) (ht5 : 5 * t + 5 ≤ L) (ih : ∀ (n : Nat) (ns : Int32) (wd : Int64) (f : Nat → Int32), n ≤ 65536 → ∀ (H : Heap) (locs : List Loc), va_P (dC, dI) vwCl (lC h0 a0 a1 cB cI h1 b0 cM n ns wd f g n ns wd f) H → va_D (fun q : Nat => s.heap.size ≤ q) (lC h0 a0 a1 cB cI h1 b0 cM n ns wd f g n ns wd f) → va_S (fun q : Nat => s.heap.size ≤ q) s.heap H locs → ∀ ls : Array Slot, lv_has ls 4 [(0, .ref b), (1, .ref h0), (2, .ref h1), (3, .int (nI (5 * (t + 1))))] → W p l e room_1 s m #[Value.ref b] below meth c H locs 5 131337 (lw_Z below #[Value.ref b] s) (F0 m 18 ls [])) : ∀ (n : Nat) (ns : Int32) (wd : Int64) (f : Nat → Int32), n ≤ 65536 → ∀ (H : Heap) (locs : List Loc), va_P (dC, dI) vwCl (lC h0 a0 a1 cB cI h1 b0 cM n ns wd f g n ns wd f) H → va_D (fun q : Nat => s.heap.size ≤ q) (lC h0 a0 a1 cB cI h1 b0 cM n ns wd f g n ns wd f) → va_S (fun q : Nat => s.heap.size ≤ q) s.heap H locs → ∀ ls : Array Slot, lv_has ls 4 [(0, .ref b), (1, .ref h0), (2, .ref h1), (3, .int (nI (5 * (t))))] → W p l e room_1 s m #[Value.ref b] below meth c H locs 5 131337 (lw_Z below #[Value.ref b] s) (F0 m 495 ls []) := by
  obtain ⟨hx, hb, hr, hml, hown0, hts0, hX, hbl, hlocks, hgv⟩ := id C0
  have hown : s.vm.findClass RL = some m.cls := hown0
  have hts : ∀ w ∈ wsL_law, w.before #[Value.ref b] s = true := fun w h => hts0 w (wsL_law_in w h)
  have htm : ∀ w ∈ wsLM, w.before #[Value.ref b] s = true := fun w h => hts0 w (wsLM_in w h)
  have hA : ∀ q : Nat, s.heap.size ≤ q → (fun q : Nat => s.heap.size ≤ q) q := fun _ h => h
  have hbA : ¬ (fun q : Nat => s.heap.size ≤ q) b := Nat.not_le.mpr hbl
  intro n ns wd f hn H locs hP hD hS ls hl
  refine lv_aload_n hx hb dL_law_495 rfl (lv_at hl 1 rfl) ?_
  refine lv_aload_n hx hb dL_law_496 rfl (lv_at hl 0 rfl) ?_
  refine lv_iload_n hx hb dL_law_497 rfl (lv_at hl 3 rfl) ?_
  refine lv_iconst (v := 1) hx hb dL_law_498 (by decide) ?_
  refine lv_iadd hx hb dL_law_499 ?_
  refine q_ti (y := nI (5 * t + 1)) (nI_add _ 1) ?_
  refine q_sld (j := 5 * t + 1) hx hb hX hbl hbA hS rfl (by omega) (by omega) dL_law_500 ?_
  refine lv_aload_n hx hb dL_law_501 rfl (lv_at hl 0 rfl) ?_
  refine lv_iload_n hx hb dL_law_502 rfl (lv_at hl 3 rfl) ?_
  refine lv_iconst (v := 2) hx hb dL_law_503 (by decide) ?_
  refine lv_iadd hx hb dL_law_504 ?_
  refine q_ti (y := nI (5 * t + 2)) (nI_add _ 2) ?_
  refine q_sld (j := 5 * t + 2) hx hb hX hbl hbA hS rfl (by omega) (by omega) dL_law_505 ?_
  refine lv_if_eq (tgt := 513) hx hb dL_law_506 (by decide) (fun c_506 => ?_) (fun c_506 => ?_)
  · refine lv_iconst (v := 0) hx hb dL_law_513 (by decide) ?_
    have hPc := hP.sub (ws' := xC h0 a0 a1 cB cI (n) (ns) (wd) (f) g) [0, 1, 2] rfl
    have hKc := hK.sub (tys' := xT cB cI) [0, 1] rfl
    refine q_V (As := [.int (xs (5 * t + 1)), .int (0)]) (rest := []) ⟨hx, hb, hml, hown, hts⟩ (c_X_masked l dC dI h0 a0 a1 cB cI (n) (ns) (wd) (f) g (xs (5 * t + 1)) (0)) (cwV 2 hts gL_law_X0_masked rfl rfl rfl (by decide +kernel) ⟨Nat.le_of_ble_eq_true rfl, Nat.le_of_ble_eq_true rfl⟩) (xw_pre hPc hKc _) rfl hl.1 rfl (Nat.le_of_ble_eq_true rfl) dL_law_514 ⟨Nat.le_of_ble_eq_true rfl, Nat.le_of_ble_eq_true rfl⟩ ?_
    refine lv_aload_n hx hb dL_law_517 rfl (lv_at hl 2 rfl) ?_
    refine lv_aload_n hx hb dL_law_518 rfl (lv_at hl 0 rfl) ?_
    refine lv_iload_n hx hb dL_law_519 rfl (lv_at hl 3 rfl) ?_
    refine lv_iconst (v := 1) hx hb dL_law_520 (by decide) ?_
    refine lv_iadd hx hb dL_law_521 ?_
    refine q_ti (y := nI (5 * t + 1)) (nI_add _ 1) ?_
    refine q_sld (j := 5 * t + 1) hx hb hX hbl hbA hS rfl (by omega) (by omega) dL_law_522 ?_
    refine lv_aload_n hx hb dL_law_523 rfl (lv_at hl 0 rfl) ?_
    refine lv_iload_n hx hb dL_law_524 rfl (lv_at hl 3 rfl) ?_
    refine lv_iconst (v := 2) hx hb dL_law_525 (by decide) ?_
    refine lv_iadd hx hb dL_law_526 ?_
    refine q_ti (y := nI (5 * t + 2)) (nI_add _ 2) ?_
    refine q_sld (j := 5 * t + 2) hx hb hX hbl hbA hS rfl (by omega) (by omega) dL_law_527 ?_
    refine lv_if_eq (tgt := 535) hx hb dL_law_528 (by decide) (fun c_528 => ?_) (fun c_528 => ?_)
    · refine lv_iconst (v := 0) hx hb dL_law_535 (by decide) ?_
      have hPc := hP.sub (ws' := mC h1 b0 cM (n) (ns) (wd) (f)) [3, 4] rfl
      have hKc := hK.sub (tys' := mT cM) [2] rfl
      refine q_V (As := [.int (xs (5 * t + 1)), .int (0)]) (rest := [.int ((an_ma (xs (5 * t + 1)) 0))]) ⟨hx, hb, hml, hown, htm⟩ (c_M_masked l dC dI h1 b0 cM (n) (ns) (wd) (f) (xs (5 * t + 1)) (0)) (cwV 2 htm gL_law_X1_masked rfl rfl rfl (by decide +kernel) ⟨Nat.le_of_ble_eq_true rfl, Nat.le_of_ble_eq_true rfl⟩) (mw_pre hPc hKc _) rfl hl.1 rfl (Nat.le_of_ble_eq_true rfl) dL_law_536 ⟨Nat.le_of_ble_eq_true rfl, Nat.le_of_ble_eq_true rfl⟩ ?_
      refine lv_icmp_eq (tgt := 746) hx hb dL_law_539 (by decide) (fun c_539 => ?_) (fun c_539 => absurd rfl c_539)
      refine lv_iinc (v := nI (5 * (t + 1))) (lv' := [(3, .int (nI (5 * (t + 1)))), (0, .ref b), (1, .ref h0), (2, .ref h1)]) hx hb dL_law_746 hl (k := 3) rfl (by rw [show 5 * (t + 1) = 5 * t + 5 by omega]; exact nI_add _ 5) (by decide) rfl (fun ls hl => ?_)
      refine lv_goto (tgt := 18) hx hb dL_law_749 (by decide) ?_
      exact ih (n) (ns) (wd) (f) (hn) _ _ hP hD hS ls (lv_sub hl [1, 2, 3, 0] rfl)
    · exact absurd c_506 c_528
  · refine lv_iconst (v := 1) hx hb dL_law_509 (by decide) ?_
    refine lv_goto (tgt := 514) hx hb dL_law_510 (by decide) ?_
    have hPc := hP.sub (ws' := xC h0 a0 a1 cB cI (n) (ns) (wd) (f) g) [0, 1, 2] rfl
    have hKc := hK.sub (tys' := xT cB cI) [0, 1] rfl
    refine q_V (As := [.int (xs (5 * t + 1)), .int (1)]) (rest := []) ⟨hx, hb, hml, hown, hts⟩ (c_X_masked l dC dI h0 a0 a1 cB cI (n) (ns) (wd) (f) g (xs (5 * t + 1)) (1)) (cwV 2 hts gL_law_X0_masked rfl rfl rfl (by decide +kernel) ⟨Nat.le_of_ble_eq_true rfl, Nat.le_of_ble_eq_true rfl⟩) (xw_pre hPc hKc _) rfl hl.1 rfl (Nat.le_of_ble_eq_true rfl) dL_law_514 ⟨Nat.le_of_ble_eq_true rfl, Nat.le_of_ble_eq_true rfl⟩ ?_
    refine lv_aload_n hx hb dL_law_517 rfl (lv_at hl 2 rfl) ?_
    refine lv_aload_n hx hb dL_law_518 rfl (lv_at hl 0 rfl) ?_
    refine lv_iload_n hx hb dL_law_519 rfl (lv_at hl 3 rfl) ?_
    refine lv_iconst (v := 1) hx hb dL_law_520 (by decide) ?_
    refine lv_iadd hx hb dL_law_521 ?_
    refine q_ti (y := nI (5 * t + 1)) (nI_add _ 1) ?_
    refine q_sld (j := 5 * t + 1) hx hb hX hbl hbA hS rfl (by omega) (by omega) dL_law_522 ?_
    refine lv_aload_n hx hb dL_law_523 rfl (lv_at hl 0 rfl) ?_
    refine lv_iload_n hx hb dL_law_524 rfl (lv_at hl 3 rfl) ?_
    refine lv_iconst (v := 2) hx hb dL_law_525 (by decide) ?_
    refine lv_iadd hx hb dL_law_526 ?_
    refine q_ti (y := nI (5 * t + 2)) (nI_add _ 2) ?_
    refine q_sld (j := 5 * t + 2) hx hb hX hbl hbA hS rfl (by omega) (by omega) dL_law_527 ?_
    refine lv_if_eq (tgt := 535) hx hb dL_law_528 (by decide) (fun c_528 => ?_) (fun c_528 => ?_)
    · exact absurd c_528 c_506
    · refine lv_iconst (v := 1) hx hb dL_law_531 (by decide) ?_
      refine lv_goto (tgt := 536) hx hb dL_law_532 (by decide) ?_
      have hPc := hP.sub (ws' := mC h1 b0 cM (n) (ns) (wd) (f)) [3, 4] rfl
      have hKc := hK.sub (tys' := mT cM) [2] rfl
      refine q_V (As := [.int (xs (5 * t + 1)), .int (1)]) (rest := [.int ((an_ma (xs (5 * t + 1)) 1))]) ⟨hx, hb, hml, hown, htm⟩ (c_M_masked l dC dI h1 b0 cM (n) (ns) (wd) (f) (xs (5 * t + 1)) (1)) (cwV 2 htm gL_law_X1_masked rfl rfl rfl (by decide +kernel) ⟨Nat.le_of_ble_eq_true rfl, Nat.le_of_ble_eq_true rfl⟩) (mw_pre hPc hKc _) rfl hl.1 rfl (Nat.le_of_ble_eq_true rfl) dL_law_536 ⟨Nat.le_of_ble_eq_true rfl, Nat.le_of_ble_eq_true rfl⟩ ?_
      refine lv_icmp_eq (tgt := 746) hx hb dL_law_539 (by decide) (fun c_539 => ?_) (fun c_539 => absurd rfl c_539)
      refine lv_iinc (v := nI (5 * (t + 1))) (lv' := [(3, .int (nI (5 * (t + 1)))), (0, .ref b), (1, .ref h0), (2, .ref h1)]) hx hb dL_law_746 hl (k := 3) rfl (by rw [show 5 * (t + 1) = 5 * t + 5 by omega]; exact nI_add _ 5) (by decide) rfl (fun ls hl => ?_)
      refine lv_goto (tgt := 18) hx hb dL_law_749 (by decide) ?_
      exact ih (n) (ns) (wd) (f) (hn) _ _ hP hD hS ls (lv_sub hl [1, 2, 3, 0] rfl)
set_option maxHeartbeats 4000000 in
set_option maxRecDepth 100000 in
theorem law_case12 {p : Program} {l : Launch} {e : Env} {s : State} {m : MethodId} {below : List Frame} {meth : Method} {c : Code} {b L : Nat} {xs : Nat → Int32} (hL : L ≤ 2560) (C0 : lw_At p s m meth c b L xs) {dC : Nat → ClassId} {dI : Nat → Nat → Nat} {h0 a0 a1 : Nat} {cB cI : ClassId} {h1 b0 : Nat} {cM : ClassId} {g : Nat → Int32} (hg : ∀ i, i < 256 → g i = cr_it cr_r 8 (nI i)) (hK : va_K (dC, dI) vwCl (lT cB cI cM) s) (t : Nat) (ht5 : 5 * t + 5 ≤ L) (ih : ∀ (n : Nat) (ns : Int32) (wd : Int64) (f : Nat → Int32), n ≤ 65536 → ∀ (H : Heap) (locs : List Loc), va_P (dC, dI) vwCl (lC h0 a0 a1 cB cI h1 b0 cM n ns wd f g n ns wd f) H → va_D (fun q : Nat => s.heap.size ≤ q) (lC h0 a0 a1 cB cI h1 b0 cM n ns wd f g n ns wd f) → va_S (fun q : Nat => s.heap.size ≤ q) s.heap H locs → ∀ ls : Array Slot, lv_has ls 4 [(0, .ref b), (1, .ref h0), (2, .ref h1), (3, .int (nI (5 * (t + 1))))] → W p l e room_1 s m #[Value.ref b] below meth c H locs 5 131337 (lw_Z below #[Value.ref b] s) (F0 m 18 ls [])) : ∀ (n : Nat) (ns : Int32) (wd : Int64) (f : Nat → Int32), n ≤ 65536 → ∀ (H : Heap) (locs : List Loc), va_P (dC, dI) vwCl (lC h0 a0 a1 cB cI h1 b0 cM n ns wd f g n ns wd f) H → va_D (fun q : Nat => s.heap.size ≤ q) (lC h0 a0 a1 cB cI h1 b0 cM n ns wd f g n ns wd f) → va_S (fun q : Nat => s.heap.size ≤ q) s.heap H locs → ∀ ls : Array Slot, lv_has ls 4 [(0, .ref b), (1, .ref h0), (2, .ref h1), (3, .int (nI (5 * (t))))] → W p l e room_1 s m #[Value.ref b] below meth c H locs 5 131337 (lw_Z below #[Value.ref b] s) (F0 m 544 ls []) := by
  obtain ⟨hx, hb, hr, hml, hown0, hts0, hX, hbl, hlocks, hgv⟩ := id C0
  have hown : s.vm.findClass RL = some m.cls := hown0
  have hts : ∀ w ∈ wsL_law, w.before #[Value.ref b] s = true := fun w h => hts0 w (wsL_law_in w h)
  have htm : ∀ w ∈ wsLM, w.before #[Value.ref b] s = true := fun w h => hts0 w (wsLM_in w h)
  have hA : ∀ q : Nat, s.heap.size ≤ q → (fun q : Nat => s.heap.size ≤ q) q := fun _ h => h
  have hbA : ¬ (fun q : Nat => s.heap.size ≤ q) b := Nat.not_le.mpr hbl
  intro n ns wd f hn H locs hP hD hS ls hl
  refine lv_aload_n hx hb dL_law_544 rfl (lv_at hl 1 rfl) ?_
  refine lv_aload_n hx hb dL_law_545 rfl (lv_at hl 0 rfl) ?_
  refine lv_iload_n hx hb dL_law_546 rfl (lv_at hl 3 rfl) ?_
  refine lv_iconst (v := 1) hx hb dL_law_547 (by decide) ?_
  refine lv_iadd hx hb dL_law_548 ?_
  refine q_ti (y := nI (5 * t + 1)) (nI_add _ 1) ?_
  refine q_sld (j := 5 * t + 1) hx hb hX hbl hbA hS rfl (by omega) (by omega) dL_law_549 ?_
  refine lv_aload_n hx hb dL_law_550 rfl (lv_at hl 0 rfl) ?_
  refine lv_iload_n hx hb dL_law_551 rfl (lv_at hl 3 rfl) ?_
  refine lv_iconst (v := 2) hx hb dL_law_552 (by decide) ?_
  refine lv_iadd hx hb dL_law_553 ?_
  refine q_ti (y := nI (5 * t + 2)) (nI_add _ 2) ?_
  refine q_sld (j := 5 * t + 2) hx hb hX hbl hbA hS rfl (by omega) (by omega) dL_law_554 ?_
  refine lv_aload_n hx hb dL_law_555 rfl (lv_at hl 0 rfl) ?_
  refine lv_iload_n hx hb dL_law_556 rfl (lv_at hl 3 rfl) ?_
  refine lv_iconst (v := 3) hx hb dL_law_557 (by decide) ?_
  refine lv_iadd hx hb dL_law_558 ?_
  refine q_ti (y := nI (5 * t + 3)) (nI_add _ 3) ?_
  refine q_sld (j := 5 * t + 3) hx hb hX hbl hbA hS rfl (by omega) (by omega) dL_law_559 ?_
  refine lv_i2l (v := (xs (5 * t + 3)).toInt64) hx hb dL_law_560 rfl ?_
  refine lv_bipush (v := 32) hx hb dL_law_561 (by decide) ?_
  refine lv_lshl (v := sh_L ((xs (5 * t + 3)).toInt64) (32)) hx hb dL_law_563 rfl ?_
  refine lv_aload_n hx hb dL_law_564 rfl (lv_at hl 0 rfl) ?_
  refine lv_iload_n hx hb dL_law_565 rfl (lv_at hl 3 rfl) ?_
  refine lv_iconst (v := 4) hx hb dL_law_566 (by decide) ?_
  refine lv_iadd hx hb dL_law_567 ?_
  refine q_ti (y := nI (5 * t + 4)) (nI_add _ 4) ?_
  refine q_sld (j := 5 * t + 4) hx hb hX hbl hbA hS rfl (by omega) (by omega) dL_law_568 ?_
  refine lv_i2l (v := (xs (5 * t + 4)).toInt64) hx hb dL_law_569 rfl ?_
  refine lv_ldc2 (v := 4294967295) hx hb hown (hts0 (.constantLong RL 13 4294967295) lw_k13) dL_law_570 ?_
  refine lv_land hx hb dL_law_573 ?_
  refine lv_lor hx hb dL_law_574 ?_
  have hPc := hP.sub (ws' := xC h0 a0 a1 cB cI (n) (ns) (wd) (f) g) [0, 1, 2] rfl
  have hKc := hK.sub (tys' := xT cB cI) [0, 1] rfl
  refine q_V (As := [.int (xs (5 * t + 1)), .int (xs (5 * t + 2)), .long (((sh_L ((xs (5 * t + 3)).toInt64) (32)) ||| ((xs (5 * t + 4)).toInt64 &&& 4294967295)))]) (rest := []) ⟨hx, hb, hml, hown, hts⟩ (c_X_joined l dC dI h0 a0 a1 cB cI (n) (ns) (wd) (f) g (xs (5 * t + 1)) (xs (5 * t + 2)) (((sh_L ((xs (5 * t + 3)).toInt64) (32)) ||| ((xs (5 * t + 4)).toInt64 &&& 4294967295)))) (cwV 3 hts gL_law_X0_joined rfl rfl rfl (by decide +kernel) ⟨Nat.le_of_ble_eq_true rfl, Nat.le_of_ble_eq_true rfl⟩) (xw_pre hPc hKc _) rfl hl.1 rfl (Nat.le_of_ble_eq_true rfl) dL_law_575 ⟨Nat.le_of_ble_eq_true rfl, Nat.le_of_ble_eq_true rfl⟩ ?_
  refine lv_aload_n hx hb dL_law_578 rfl (lv_at hl 2 rfl) ?_
  refine lv_aload_n hx hb dL_law_579 rfl (lv_at hl 0 rfl) ?_
  refine lv_iload_n hx hb dL_law_580 rfl (lv_at hl 3 rfl) ?_
  refine lv_iconst (v := 1) hx hb dL_law_581 (by decide) ?_
  refine lv_iadd hx hb dL_law_582 ?_
  refine q_ti (y := nI (5 * t + 1)) (nI_add _ 1) ?_
  refine q_sld (j := 5 * t + 1) hx hb hX hbl hbA hS rfl (by omega) (by omega) dL_law_583 ?_
  refine lv_aload_n hx hb dL_law_584 rfl (lv_at hl 0 rfl) ?_
  refine lv_iload_n hx hb dL_law_585 rfl (lv_at hl 3 rfl) ?_
  refine lv_iconst (v := 2) hx hb dL_law_586 (by decide) ?_
  refine lv_iadd hx hb dL_law_587 ?_
  refine q_ti (y := nI (5 * t + 2)) (nI_add _ 2) ?_
  refine q_sld (j := 5 * t + 2) hx hb hX hbl hbA hS rfl (by omega) (by omega) dL_law_588 ?_
  refine lv_aload_n hx hb dL_law_589 rfl (lv_at hl 0 rfl) ?_
  refine lv_iload_n hx hb dL_law_590 rfl (lv_at hl 3 rfl) ?_
  refine lv_iconst (v := 3) hx hb dL_law_591 (by decide) ?_
  refine lv_iadd hx hb dL_law_592 ?_
  refine q_ti (y := nI (5 * t + 3)) (nI_add _ 3) ?_
  refine q_sld (j := 5 * t + 3) hx hb hX hbl hbA hS rfl (by omega) (by omega) dL_law_593 ?_
  refine lv_i2l (v := (xs (5 * t + 3)).toInt64) hx hb dL_law_594 rfl ?_
  refine lv_bipush (v := 32) hx hb dL_law_595 (by decide) ?_
  refine lv_lshl (v := sh_L ((xs (5 * t + 3)).toInt64) (32)) hx hb dL_law_597 rfl ?_
  refine lv_aload_n hx hb dL_law_598 rfl (lv_at hl 0 rfl) ?_
  refine lv_iload_n hx hb dL_law_599 rfl (lv_at hl 3 rfl) ?_
  refine lv_iconst (v := 4) hx hb dL_law_600 (by decide) ?_
  refine lv_iadd hx hb dL_law_601 ?_
  refine q_ti (y := nI (5 * t + 4)) (nI_add _ 4) ?_
  refine q_sld (j := 5 * t + 4) hx hb hX hbl hbA hS rfl (by omega) (by omega) dL_law_602 ?_
  refine lv_i2l (v := (xs (5 * t + 4)).toInt64) hx hb dL_law_603 rfl ?_
  refine lv_ldc2 (v := 4294967295) hx hb hown (hts0 (.constantLong RL 13 4294967295) lw_k13) dL_law_604 ?_
  refine lv_land hx hb dL_law_607 ?_
  refine lv_lor hx hb dL_law_608 ?_
  have hPc := hP.sub (ws' := mC h1 b0 cM (n) (ns) (wd) (f)) [3, 4] rfl
  have hKc := hK.sub (tys' := mT cM) [2] rfl
  refine q_V (As := [.int (xs (5 * t + 1)), .int (xs (5 * t + 2)), .long (((sh_L ((xs (5 * t + 3)).toInt64) (32)) ||| ((xs (5 * t + 4)).toInt64 &&& 4294967295)))]) (rest := [.int ((an_jo (xs (5 * t + 1)) (xs (5 * t + 2)) (((sh_L ((xs (5 * t + 3)).toInt64) (32)) ||| ((xs (5 * t + 4)).toInt64 &&& 4294967295)))))]) ⟨hx, hb, hml, hown, htm⟩ (c_M_joined l dC dI h1 b0 cM (n) (ns) (wd) (f) (xs (5 * t + 1)) (xs (5 * t + 2)) (((sh_L ((xs (5 * t + 3)).toInt64) (32)) ||| ((xs (5 * t + 4)).toInt64 &&& 4294967295)))) (cwV 3 htm gL_law_X1_joined rfl rfl rfl (by decide +kernel) ⟨Nat.le_of_ble_eq_true rfl, Nat.le_of_ble_eq_true rfl⟩) (mw_pre hPc hKc _) rfl hl.1 rfl (Nat.le_of_ble_eq_true rfl) dL_law_609 ⟨Nat.le_of_ble_eq_true rfl, Nat.le_of_ble_eq_true rfl⟩ ?_
  refine lv_icmp_eq (tgt := 746) hx hb dL_law_612 (by decide) (fun c_612 => ?_) (fun c_612 => absurd rfl c_612)
  refine lv_iinc (v := nI (5 * (t + 1))) (lv' := [(3, .int (nI (5 * (t + 1)))), (0, .ref b), (1, .ref h0), (2, .ref h1)]) hx hb dL_law_746 hl (k := 3) rfl (by rw [show 5 * (t + 1) = 5 * t + 5 by omega]; exact nI_add _ 5) (by decide) rfl (fun ls hl => ?_)
  refine lv_goto (tgt := 18) hx hb dL_law_749 (by decide) ?_
  exact ih (n) (ns) (wd) (f) (hn) _ _ hP hD hS ls (lv_sub hl [1, 2, 3, 0] rfl)
set_option maxHeartbeats 4000000 in
set_option maxRecDepth 100000 in
theorem law_case13 {p : Program} {l : Launch} {e : Env} {s : State} {m : MethodId} {below : List Frame} {meth : Method} {c : Code} {b L : Nat} {xs : Nat → Int32} (hL : L ≤ 2560) (C0 : lw_At p s m meth c b L xs) {dC : Nat → ClassId} {dI : Nat → Nat → Nat} {h0 a0 a1 : Nat} {cB cI : ClassId} {h1 b0 : Nat} {cM : ClassId} {g : Nat → Int32} (hg : ∀ i, i < 256 → g i = cr_it cr_r 8 (nI i)) (hK : va_K (dC, dI) vwCl (lT cB cI cM) s) (t : Nat) (ht5 : 5 * t + 5 ≤ L) (ih : ∀ (n : Nat) (ns : Int32) (wd : Int64) (f : Nat → Int32), n ≤ 65536 → ∀ (H : Heap) (locs : List Loc), va_P (dC, dI) vwCl (lC h0 a0 a1 cB cI h1 b0 cM n ns wd f g n ns wd f) H → va_D (fun q : Nat => s.heap.size ≤ q) (lC h0 a0 a1 cB cI h1 b0 cM n ns wd f g n ns wd f) → va_S (fun q : Nat => s.heap.size ≤ q) s.heap H locs → ∀ ls : Array Slot, lv_has ls 4 [(0, .ref b), (1, .ref h0), (2, .ref h1), (3, .int (nI (5 * (t + 1))))] → W p l e room_1 s m #[Value.ref b] below meth c H locs 5 131337 (lw_Z below #[Value.ref b] s) (F0 m 18 ls [])) : ∀ (n : Nat) (ns : Int32) (wd : Int64) (f : Nat → Int32), n ≤ 65536 → ∀ (H : Heap) (locs : List Loc), va_P (dC, dI) vwCl (lC h0 a0 a1 cB cI h1 b0 cM n ns wd f g n ns wd f) H → va_D (fun q : Nat => s.heap.size ≤ q) (lC h0 a0 a1 cB cI h1 b0 cM n ns wd f g n ns wd f) → va_S (fun q : Nat => s.heap.size ≤ q) s.heap H locs → ∀ ls : Array Slot, lv_has ls 4 [(0, .ref b), (1, .ref h0), (2, .ref h1), (3, .int (nI (5 * (t))))] → W p l e room_1 s m #[Value.ref b] below meth c H locs 5 131337 (lw_Z below #[Value.ref b] s) (F0 m 617 ls []) := by
  obtain ⟨hx, hb, hr, hml, hown0, hts0, hX, hbl, hlocks, hgv⟩ := id C0
  have hown : s.vm.findClass RL = some m.cls := hown0
  have hts : ∀ w ∈ wsL_law, w.before #[Value.ref b] s = true := fun w h => hts0 w (wsL_law_in w h)
  have htm : ∀ w ∈ wsLM, w.before #[Value.ref b] s = true := fun w h => hts0 w (wsLM_in w h)
  have hA : ∀ q : Nat, s.heap.size ≤ q → (fun q : Nat => s.heap.size ≤ q) q := fun _ h => h
  have hbA : ¬ (fun q : Nat => s.heap.size ≤ q) b := Nat.not_le.mpr hbl
  intro n ns wd f hn H locs hP hD hS ls hl
  refine lv_aload_n hx hb dL_law_617 rfl (lv_at hl 1 rfl) ?_
  refine lv_aload_n hx hb dL_law_618 rfl (lv_at hl 0 rfl) ?_
  refine lv_iload_n hx hb dL_law_619 rfl (lv_at hl 3 rfl) ?_
  refine lv_iconst (v := 1) hx hb dL_law_620 (by decide) ?_
  refine lv_iadd hx hb dL_law_621 ?_
  refine q_ti (y := nI (5 * t + 1)) (nI_add _ 1) ?_
  refine q_sld (j := 5 * t + 1) hx hb hX hbl hbA hS rfl (by omega) (by omega) dL_law_622 ?_
  refine lv_aload_n hx hb dL_law_623 rfl (lv_at hl 0 rfl) ?_
  refine lv_iload_n hx hb dL_law_624 rfl (lv_at hl 3 rfl) ?_
  refine lv_iconst (v := 2) hx hb dL_law_625 (by decide) ?_
  refine lv_iadd hx hb dL_law_626 ?_
  refine q_ti (y := nI (5 * t + 2)) (nI_add _ 2) ?_
  refine q_sld (j := 5 * t + 2) hx hb hX hbl hbA hS rfl (by omega) (by omega) dL_law_627 ?_
  refine lv_aload_n hx hb dL_law_628 rfl (lv_at hl 0 rfl) ?_
  refine lv_iload_n hx hb dL_law_629 rfl (lv_at hl 3 rfl) ?_
  refine lv_iconst (v := 3) hx hb dL_law_630 (by decide) ?_
  refine lv_iadd hx hb dL_law_631 ?_
  refine q_ti (y := nI (5 * t + 3)) (nI_add _ 3) ?_
  refine q_sld (j := 5 * t + 3) hx hb hX hbl hbA hS rfl (by omega) (by omega) dL_law_632 ?_
  refine lv_i2l (v := (xs (5 * t + 3)).toInt64) hx hb dL_law_633 rfl ?_
  refine lv_bipush (v := 32) hx hb dL_law_634 (by decide) ?_
  refine lv_lshl (v := sh_L ((xs (5 * t + 3)).toInt64) (32)) hx hb dL_law_636 rfl ?_
  refine lv_aload_n hx hb dL_law_637 rfl (lv_at hl 0 rfl) ?_
  refine lv_iload_n hx hb dL_law_638 rfl (lv_at hl 3 rfl) ?_
  refine lv_iconst (v := 4) hx hb dL_law_639 (by decide) ?_
  refine lv_iadd hx hb dL_law_640 ?_
  refine q_ti (y := nI (5 * t + 4)) (nI_add _ 4) ?_
  refine q_sld (j := 5 * t + 4) hx hb hX hbl hbA hS rfl (by omega) (by omega) dL_law_641 ?_
  refine lv_i2l (v := (xs (5 * t + 4)).toInt64) hx hb dL_law_642 rfl ?_
  refine lv_ldc2 (v := 4294967295) hx hb hown (hts0 (.constantLong RL 13 4294967295) lw_k13) dL_law_643 ?_
  refine lv_land hx hb dL_law_646 ?_
  refine lv_lor hx hb dL_law_647 ?_
  have hPc := hP.sub (ws' := xC h0 a0 a1 cB cI (n) (ns) (wd) (f) g) [0, 1, 2] rfl
  have hKc := hK.sub (tys' := xT cB cI) [0, 1] rfl
  refine q_V (As := [.int (xs (5 * t + 1)), .int (xs (5 * t + 2)), .long (((sh_L ((xs (5 * t + 3)).toInt64) (32)) ||| ((xs (5 * t + 4)).toInt64 &&& 4294967295)))]) (rest := []) ⟨hx, hb, hml, hown, hts⟩ (c_X_cut l dC dI h0 a0 a1 cB cI (n) (ns) (wd) (f) g (xs (5 * t + 1)) (xs (5 * t + 2)) (((sh_L ((xs (5 * t + 3)).toInt64) (32)) ||| ((xs (5 * t + 4)).toInt64 &&& 4294967295)))) (cwV 3 hts gL_law_X0_cut rfl rfl rfl (by decide +kernel) ⟨Nat.le_of_ble_eq_true rfl, Nat.le_of_ble_eq_true rfl⟩) (xw_pre hPc hKc _) rfl hl.1 rfl (Nat.le_of_ble_eq_true rfl) dL_law_648 ⟨Nat.le_of_ble_eq_true rfl, Nat.le_of_ble_eq_true rfl⟩ ?_
  refine lv_aload_n hx hb dL_law_651 rfl (lv_at hl 2 rfl) ?_
  refine lv_aload_n hx hb dL_law_652 rfl (lv_at hl 0 rfl) ?_
  refine lv_iload_n hx hb dL_law_653 rfl (lv_at hl 3 rfl) ?_
  refine lv_iconst (v := 1) hx hb dL_law_654 (by decide) ?_
  refine lv_iadd hx hb dL_law_655 ?_
  refine q_ti (y := nI (5 * t + 1)) (nI_add _ 1) ?_
  refine q_sld (j := 5 * t + 1) hx hb hX hbl hbA hS rfl (by omega) (by omega) dL_law_656 ?_
  refine lv_aload_n hx hb dL_law_657 rfl (lv_at hl 0 rfl) ?_
  refine lv_iload_n hx hb dL_law_658 rfl (lv_at hl 3 rfl) ?_
  refine lv_iconst (v := 2) hx hb dL_law_659 (by decide) ?_
  refine lv_iadd hx hb dL_law_660 ?_
  refine q_ti (y := nI (5 * t + 2)) (nI_add _ 2) ?_
  refine q_sld (j := 5 * t + 2) hx hb hX hbl hbA hS rfl (by omega) (by omega) dL_law_661 ?_
  refine lv_aload_n hx hb dL_law_662 rfl (lv_at hl 0 rfl) ?_
  refine lv_iload_n hx hb dL_law_663 rfl (lv_at hl 3 rfl) ?_
  refine lv_iconst (v := 3) hx hb dL_law_664 (by decide) ?_
  refine lv_iadd hx hb dL_law_665 ?_
  refine q_ti (y := nI (5 * t + 3)) (nI_add _ 3) ?_
  refine q_sld (j := 5 * t + 3) hx hb hX hbl hbA hS rfl (by omega) (by omega) dL_law_666 ?_
  refine lv_i2l (v := (xs (5 * t + 3)).toInt64) hx hb dL_law_667 rfl ?_
  refine lv_bipush (v := 32) hx hb dL_law_668 (by decide) ?_
  refine lv_lshl (v := sh_L ((xs (5 * t + 3)).toInt64) (32)) hx hb dL_law_670 rfl ?_
  refine lv_aload_n hx hb dL_law_671 rfl (lv_at hl 0 rfl) ?_
  refine lv_iload_n hx hb dL_law_672 rfl (lv_at hl 3 rfl) ?_
  refine lv_iconst (v := 4) hx hb dL_law_673 (by decide) ?_
  refine lv_iadd hx hb dL_law_674 ?_
  refine q_ti (y := nI (5 * t + 4)) (nI_add _ 4) ?_
  refine q_sld (j := 5 * t + 4) hx hb hX hbl hbA hS rfl (by omega) (by omega) dL_law_675 ?_
  refine lv_i2l (v := (xs (5 * t + 4)).toInt64) hx hb dL_law_676 rfl ?_
  refine lv_ldc2 (v := 4294967295) hx hb hown (hts0 (.constantLong RL 13 4294967295) lw_k13) dL_law_677 ?_
  refine lv_land hx hb dL_law_680 ?_
  refine lv_lor hx hb dL_law_681 ?_
  have hPc := hP.sub (ws' := mC h1 b0 cM (n) (ns) (wd) (f)) [3, 4] rfl
  have hKc := hK.sub (tys' := mT cM) [2] rfl
  refine q_V (As := [.int (xs (5 * t + 1)), .int (xs (5 * t + 2)), .long (((sh_L ((xs (5 * t + 3)).toInt64) (32)) ||| ((xs (5 * t + 4)).toInt64 &&& 4294967295)))]) (rest := [.int ((an_cu (xs (5 * t + 1)) (xs (5 * t + 2)) (((sh_L ((xs (5 * t + 3)).toInt64) (32)) ||| ((xs (5 * t + 4)).toInt64 &&& 4294967295)))))]) ⟨hx, hb, hml, hown, htm⟩ (c_M_cut l dC dI h1 b0 cM (n) (ns) (wd) (f) (xs (5 * t + 1)) (xs (5 * t + 2)) (((sh_L ((xs (5 * t + 3)).toInt64) (32)) ||| ((xs (5 * t + 4)).toInt64 &&& 4294967295)))) (cwV 3 htm gL_law_X1_cut rfl rfl rfl (by decide +kernel) ⟨Nat.le_of_ble_eq_true rfl, Nat.le_of_ble_eq_true rfl⟩) (mw_pre hPc hKc _) rfl hl.1 rfl (Nat.le_of_ble_eq_true rfl) dL_law_682 ⟨Nat.le_of_ble_eq_true rfl, Nat.le_of_ble_eq_true rfl⟩ ?_
  refine lv_icmp_eq (tgt := 746) hx hb dL_law_685 (by decide) (fun c_685 => ?_) (fun c_685 => absurd rfl c_685)
  refine lv_iinc (v := nI (5 * (t + 1))) (lv' := [(3, .int (nI (5 * (t + 1)))), (0, .ref b), (1, .ref h0), (2, .ref h1)]) hx hb dL_law_746 hl (k := 3) rfl (by rw [show 5 * (t + 1) = 5 * t + 5 by omega]; exact nI_add _ 5) (by decide) rfl (fun ls hl => ?_)
  refine lv_goto (tgt := 18) hx hb dL_law_749 (by decide) ?_
  exact ih (n) (ns) (wd) (f) (hn) _ _ hP hD hS ls (lv_sub hl [1, 2, 3, 0] rfl)
set_option maxHeartbeats 4000000 in
set_option maxRecDepth 100000 in
theorem law_case14 {p : Program} {l : Launch} {e : Env} {s : State} {m : MethodId} {below : List Frame} {meth : Method} {c : Code} {b L : Nat} {xs : Nat → Int32} (hL : L ≤ 2560) (C0 : lw_At p s m meth c b L xs) {dC : Nat → ClassId} {dI : Nat → Nat → Nat} {h0 a0 a1 : Nat} {cB cI : ClassId} {h1 b0 : Nat} {cM : ClassId} {g : Nat → Int32} (hg : ∀ i, i < 256 → g i = cr_it cr_r 8 (nI i)) (hK : va_K (dC, dI) vwCl (lT cB cI cM) s) (t : Nat) (ht5 : 5 * t + 5 ≤ L) (ih : ∀ (n : Nat) (ns : Int32) (wd : Int64) (f : Nat → Int32), n ≤ 65536 → ∀ (H : Heap) (locs : List Loc), va_P (dC, dI) vwCl (lC h0 a0 a1 cB cI h1 b0 cM n ns wd f g n ns wd f) H → va_D (fun q : Nat => s.heap.size ≤ q) (lC h0 a0 a1 cB cI h1 b0 cM n ns wd f g n ns wd f) → va_S (fun q : Nat => s.heap.size ≤ q) s.heap H locs → ∀ ls : Array Slot, lv_has ls 4 [(0, .ref b), (1, .ref h0), (2, .ref h1), (3, .int (nI (5 * (t + 1))))] → W p l e room_1 s m #[Value.ref b] below meth c H locs 5 131337 (lw_Z below #[Value.ref b] s) (F0 m 18 ls [])) : ∀ (n : Nat) (ns : Int32) (wd : Int64) (f : Nat → Int32), n ≤ 65536 → ∀ (H : Heap) (locs : List Loc), va_P (dC, dI) vwCl (lC h0 a0 a1 cB cI h1 b0 cM n ns wd f g n ns wd f) H → va_D (fun q : Nat => s.heap.size ≤ q) (lC h0 a0 a1 cB cI h1 b0 cM n ns wd f g n ns wd f) → va_S (fun q : Nat => s.heap.size ≤ q) s.heap H locs → ∀ ls : Array Slot, lv_has ls 4 [(0, .ref b), (1, .ref h0), (2, .ref h1), (3, .int (nI (5 * (t))))] → W p l e room_1 s m #[Value.ref b] below meth c H locs 5 131337 (lw_Z below #[Value.ref b] s) (F0 m 690 ls []) := by
  obtain ⟨hx, hb, hr, hml, hown0, hts0, hX, hbl, hlocks, hgv⟩ := id C0
  have hown : s.vm.findClass RL = some m.cls := hown0
  have hts : ∀ w ∈ wsL_law, w.before #[Value.ref b] s = true := fun w h => hts0 w (wsL_law_in w h)
  have htm : ∀ w ∈ wsLM, w.before #[Value.ref b] s = true := fun w h => hts0 w (wsLM_in w h)
  have hA : ∀ q : Nat, s.heap.size ≤ q → (fun q : Nat => s.heap.size ≤ q) q := fun _ h => h
  have hbA : ¬ (fun q : Nat => s.heap.size ≤ q) b := Nat.not_le.mpr hbl
  intro n ns wd f hn H locs hP hD hS ls hl
  refine lv_aload_n hx hb dL_law_690 rfl (lv_at hl 1 rfl) ?_
  refine lv_aload_n hx hb dL_law_691 rfl (lv_at hl 0 rfl) ?_
  refine lv_iload_n hx hb dL_law_692 rfl (lv_at hl 3 rfl) ?_
  refine lv_iconst (v := 1) hx hb dL_law_693 (by decide) ?_
  refine lv_iadd hx hb dL_law_694 ?_
  refine q_ti (y := nI (5 * t + 1)) (nI_add _ 1) ?_
  refine q_sld (j := 5 * t + 1) hx hb hX hbl hbA hS rfl (by omega) (by omega) dL_law_695 ?_
  have hPc := hP.sub (ws' := xC h0 a0 a1 cB cI (n) (ns) (wd) (f) g) [0, 1, 2] rfl
  have hKc := hK.sub (tys' := xT cB cI) [0, 1] rfl
  refine q_V (As := [.int (xs (5 * t + 1))]) (rest := []) ⟨hx, hb, hml, hown, hts⟩ (c_X_forged l dC dI h0 a0 a1 cB cI (n) (ns) (wd) (f) g (xs (5 * t + 1)) (hn) (hg)) (cwV 1 hts gL_law_X0_forged rfl rfl rfl (by decide +kernel) ⟨Nat.le_of_ble_eq_true rfl, Nat.le_of_ble_eq_true rfl⟩) (xw_pre hPc hKc _) rfl hl.1 rfl (Nat.le_of_ble_eq_true rfl) dL_law_696 ⟨Nat.le_of_ble_eq_true rfl, Nat.le_of_ble_eq_true rfl⟩ ?_
  refine lv_aload_n hx hb dL_law_699 rfl (lv_at hl 2 rfl) ?_
  refine lv_aload_n hx hb dL_law_700 rfl (lv_at hl 0 rfl) ?_
  refine lv_iload_n hx hb dL_law_701 rfl (lv_at hl 3 rfl) ?_
  refine lv_iconst (v := 1) hx hb dL_law_702 (by decide) ?_
  refine lv_iadd hx hb dL_law_703 ?_
  refine q_ti (y := nI (5 * t + 1)) (nI_add _ 1) ?_
  refine q_sld (j := 5 * t + 1) hx hb hX hbl hbA hS rfl (by omega) (by omega) dL_law_704 ?_
  have hPc := hP.sub (ws' := mC h1 b0 cM (n) (ns) (wd) (f)) [3, 4] rfl
  have hKc := hK.sub (tys' := mT cM) [2] rfl
  refine q_V (As := [.int (xs (5 * t + 1))]) (rest := [.int ((an_fo n f (xs (5 * t + 1))))]) ⟨hx, hb, hml, hown, htm⟩ (c_M_forged l dC dI h1 b0 cM (n) (ns) (wd) (f) (xs (5 * t + 1)) (hn)) (cwV 1 htm gL_law_X1_forged rfl rfl rfl (by decide +kernel) ⟨Nat.le_of_ble_eq_true rfl, Nat.le_of_ble_eq_true rfl⟩) (mw_pre hPc hKc _) rfl hl.1 rfl (Nat.le_of_ble_eq_true rfl) dL_law_705 ⟨Nat.le_of_ble_eq_true rfl, Nat.le_of_ble_eq_true rfl⟩ ?_
  refine lv_icmp_eq (tgt := 746) hx hb dL_law_708 (by decide) (fun c_708 => ?_) (fun c_708 => absurd rfl c_708)
  refine lv_iinc (v := nI (5 * (t + 1))) (lv' := [(3, .int (nI (5 * (t + 1)))), (0, .ref b), (1, .ref h0), (2, .ref h1)]) hx hb dL_law_746 hl (k := 3) rfl (by rw [show 5 * (t + 1) = 5 * t + 5 by omega]; exact nI_add _ 5) (by decide) rfl (fun ls hl => ?_)
  refine lv_goto (tgt := 18) hx hb dL_law_749 (by decide) ?_
  exact ih (n) (ns) (wd) (f) (hn) _ _ hP hD hS ls (lv_sub hl [1, 2, 3, 0] rfl)
set_option maxHeartbeats 4000000 in
set_option maxRecDepth 100000 in
theorem law_case15 {p : Program} {l : Launch} {e : Env} {s : State} {m : MethodId} {below : List Frame} {meth : Method} {c : Code} {b L : Nat} {xs : Nat → Int32} (hL : L ≤ 2560) (C0 : lw_At p s m meth c b L xs) {dC : Nat → ClassId} {dI : Nat → Nat → Nat} {h0 a0 a1 : Nat} {cB cI : ClassId} {h1 b0 : Nat} {cM : ClassId} {g : Nat → Int32} (hg : ∀ i, i < 256 → g i = cr_it cr_r 8 (nI i)) (hK : va_K (dC, dI) vwCl (lT cB cI cM) s) (t : Nat) (ht5 : 5 * t + 5 ≤ L) (ih : ∀ (n : Nat) (ns : Int32) (wd : Int64) (f : Nat → Int32), n ≤ 65536 → ∀ (H : Heap) (locs : List Loc), va_P (dC, dI) vwCl (lC h0 a0 a1 cB cI h1 b0 cM n ns wd f g n ns wd f) H → va_D (fun q : Nat => s.heap.size ≤ q) (lC h0 a0 a1 cB cI h1 b0 cM n ns wd f g n ns wd f) → va_S (fun q : Nat => s.heap.size ≤ q) s.heap H locs → ∀ ls : Array Slot, lv_has ls 4 [(0, .ref b), (1, .ref h0), (2, .ref h1), (3, .int (nI (5 * (t + 1))))] → W p l e room_1 s m #[Value.ref b] below meth c H locs 5 131337 (lw_Z below #[Value.ref b] s) (F0 m 18 ls [])) : ∀ (n : Nat) (ns : Int32) (wd : Int64) (f : Nat → Int32), n ≤ 65536 → ∀ (H : Heap) (locs : List Loc), va_P (dC, dI) vwCl (lC h0 a0 a1 cB cI h1 b0 cM n ns wd f g n ns wd f) H → va_D (fun q : Nat => s.heap.size ≤ q) (lC h0 a0 a1 cB cI h1 b0 cM n ns wd f g n ns wd f) → va_S (fun q : Nat => s.heap.size ≤ q) s.heap H locs → ∀ ls : Array Slot, lv_has ls 4 [(0, .ref b), (1, .ref h0), (2, .ref h1), (3, .int (nI (5 * (t))))] → W p l e room_1 s m #[Value.ref b] below meth c H locs 5 131337 (lw_Z below #[Value.ref b] s) (F0 m 713 ls []) := by
  obtain ⟨hx, hb, hr, hml, hown0, hts0, hX, hbl, hlocks, hgv⟩ := id C0
  have hown : s.vm.findClass RL = some m.cls := hown0
  have hts : ∀ w ∈ wsL_law, w.before #[Value.ref b] s = true := fun w h => hts0 w (wsL_law_in w h)
  have htm : ∀ w ∈ wsLM, w.before #[Value.ref b] s = true := fun w h => hts0 w (wsLM_in w h)
  have hA : ∀ q : Nat, s.heap.size ≤ q → (fun q : Nat => s.heap.size ≤ q) q := fun _ h => h
  have hbA : ¬ (fun q : Nat => s.heap.size ≤ q) b := Nat.not_le.mpr hbl
  intro n ns wd f hn H locs hP hD hS ls hl
  refine lv_aload_n hx hb dL_law_713 rfl (lv_at hl 1 rfl) ?_
  refine lv_aload_n hx hb dL_law_714 rfl (lv_at hl 0 rfl) ?_
  refine lv_iload_n hx hb dL_law_715 rfl (lv_at hl 3 rfl) ?_
  refine lv_iconst (v := 1) hx hb dL_law_716 (by decide) ?_
  refine lv_iadd hx hb dL_law_717 ?_
  refine q_ti (y := nI (5 * t + 1)) (nI_add _ 1) ?_
  refine q_sld (j := 5 * t + 1) hx hb hX hbl hbA hS rfl (by omega) (by omega) dL_law_718 ?_
  refine lv_aload_n hx hb dL_law_719 rfl (lv_at hl 0 rfl) ?_
  refine lv_iload_n hx hb dL_law_720 rfl (lv_at hl 3 rfl) ?_
  refine lv_iconst (v := 2) hx hb dL_law_721 (by decide) ?_
  refine lv_iadd hx hb dL_law_722 ?_
  refine q_ti (y := nI (5 * t + 2)) (nI_add _ 2) ?_
  refine q_sld (j := 5 * t + 2) hx hb hX hbl hbA hS rfl (by omega) (by omega) dL_law_723 ?_
  have hPc := hP.sub (ws' := xC h0 a0 a1 cB cI (n) (ns) (wd) (f) g) [0, 1, 2] rfl
  have hKc := hK.sub (tys' := xT cB cI) [0, 1] rfl
  refine q_V (As := [.int (xs (5 * t + 1)), .int (xs (5 * t + 2))]) (rest := []) ⟨hx, hb, hml, hown, hts⟩ (c_X_mended l dC dI h0 a0 a1 cB cI (n) (ns) (wd) (f) g (xs (5 * t + 1)) (xs (5 * t + 2)) (hn) (hg)) (cwV 2 hts gL_law_X0_mended rfl rfl rfl (by decide +kernel) ⟨Nat.le_of_ble_eq_true rfl, Nat.le_of_ble_eq_true rfl⟩) (xw_pre hPc hKc _) rfl hl.1 rfl (Nat.le_of_ble_eq_true rfl) dL_law_724 ⟨Nat.le_of_ble_eq_true rfl, Nat.le_of_ble_eq_true rfl⟩ ?_
  refine lv_aload_n hx hb dL_law_727 rfl (lv_at hl 2 rfl) ?_
  refine lv_aload_n hx hb dL_law_728 rfl (lv_at hl 0 rfl) ?_
  refine lv_iload_n hx hb dL_law_729 rfl (lv_at hl 3 rfl) ?_
  refine lv_iconst (v := 1) hx hb dL_law_730 (by decide) ?_
  refine lv_iadd hx hb dL_law_731 ?_
  refine q_ti (y := nI (5 * t + 1)) (nI_add _ 1) ?_
  refine q_sld (j := 5 * t + 1) hx hb hX hbl hbA hS rfl (by omega) (by omega) dL_law_732 ?_
  refine lv_aload_n hx hb dL_law_733 rfl (lv_at hl 0 rfl) ?_
  refine lv_iload_n hx hb dL_law_734 rfl (lv_at hl 3 rfl) ?_
  refine lv_iconst (v := 2) hx hb dL_law_735 (by decide) ?_
  refine lv_iadd hx hb dL_law_736 ?_
  refine q_ti (y := nI (5 * t + 2)) (nI_add _ 2) ?_
  refine q_sld (j := 5 * t + 2) hx hb hX hbl hbA hS rfl (by omega) (by omega) dL_law_737 ?_
  have hPc := hP.sub (ws' := mC h1 b0 cM (n) (ns) (wd) (f)) [3, 4] rfl
  have hKc := hK.sub (tys' := mT cM) [2] rfl
  refine q_V (As := [.int (xs (5 * t + 1)), .int (xs (5 * t + 2))]) (rest := [.int ((an_me n f (xs (5 * t + 1)) (xs (5 * t + 2))))]) ⟨hx, hb, hml, hown, htm⟩ (c_M_mended l dC dI h1 b0 cM (n) (ns) (wd) (f) (xs (5 * t + 1)) (xs (5 * t + 2)) (hn)) (cwV 2 htm gL_law_X1_mended rfl rfl rfl (by decide +kernel) ⟨Nat.le_of_ble_eq_true rfl, Nat.le_of_ble_eq_true rfl⟩) (mw_pre hPc hKc _) rfl hl.1 rfl (Nat.le_of_ble_eq_true rfl) dL_law_738 ⟨Nat.le_of_ble_eq_true rfl, Nat.le_of_ble_eq_true rfl⟩ ?_
  refine lv_icmp_eq (tgt := 746) hx hb dL_law_741 (by decide) (fun c_741 => ?_) (fun c_741 => absurd rfl c_741)
  refine lv_iinc (v := nI (5 * (t + 1))) (lv' := [(3, .int (nI (5 * (t + 1)))), (0, .ref b), (1, .ref h0), (2, .ref h1)]) hx hb dL_law_746 hl (k := 3) rfl (by rw [show 5 * (t + 1) = 5 * t + 5 by omega]; exact nI_add _ 5) (by decide) rfl (fun ls hl => ?_)
  refine lv_goto (tgt := 18) hx hb dL_law_749 (by decide) ?_
  exact ih (n) (ns) (wd) (f) (hn) _ _ hP hD hS ls (lv_sub hl [1, 2, 3, 0] rfl)
end
section
set_option maxHeartbeats 4000000 in
set_option maxRecDepth 100000 in
theorem law_loop {p : Program} {l : Launch} {e : Env} {s : State} {m : MethodId} {below : List Frame} {meth : Method} {c : Code} {b L : Nat} {xs : Nat → Int32} (hL : L ≤ 2560) (C0 : lw_At p s m meth c b L xs) {dC : Nat → ClassId} {dI : Nat → Nat → Nat} {h0 a0 a1 : Nat} {cB cI : ClassId} {h1 b0 : Nat} {cM : ClassId} {g : Nat → Int32} (hg : ∀ i, i < 256 → g i = cr_it cr_r 8 (nI i)) (hK : va_K (dC, dI) vwCl (lT cB cI cM) s) : ∀ (d t : Nat), L ≤ 5 * t + d → 5 * t ≤ L → ∀ (n : Nat) (ns : Int32) (wd : Int64) (f : Nat → Int32), n ≤ 65536 → ∀ (H : Heap) (locs : List Loc), va_P (dC, dI) vwCl (lC h0 a0 a1 cB cI h1 b0 cM n ns wd f g n ns wd f) H → va_D (fun q : Nat => s.heap.size ≤ q) (lC h0 a0 a1 cB cI h1 b0 cM n ns wd f g n ns wd f) → va_S (fun q : Nat => s.heap.size ≤ q) s.heap H locs → ∀ ls : Array Slot, lv_has ls 4 [(0, .ref b), (1, .ref h0), (2, .ref h1), (3, .int (nI (5 * (t))))] → W p l e room_1 s m #[Value.ref b] below meth c H locs 5 131337 (lw_Z below #[Value.ref b] s) (F0 m 18 ls []) := by
  obtain ⟨hx, hb, hr, hml, hown0, hts0, hX, hbl, hlocks, hgv⟩ := id C0
  have hown : s.vm.findClass RL = some m.cls := hown0
  have hts : ∀ w ∈ wsL_law, w.before #[Value.ref b] s = true := fun w h => hts0 w (wsL_law_in w h)
  have htm : ∀ w ∈ wsLM, w.before #[Value.ref b] s = true := fun w h => hts0 w (wsLM_in w h)
  have hA : ∀ q : Nat, s.heap.size ≤ q → (fun q : Nat => s.heap.size ≤ q) q := fun _ h => h
  have hbA : ¬ (fun q : Nat => s.heap.size ≤ q) b := Nat.not_le.mpr hbl
  intro d
  induction d with
  | zero =>
    intro t hd ht n ns wd f hn H locs hP hD hS ls hl
    refine lv_iload_n hx hb dL_law_18 rfl (lv_at hl 3 rfl) ?_
    refine lv_aload_n hx hb dL_law_19 rfl (lv_at hl 0 rfl) ?_
    refine va_slen hx hb hX hbl hbA hS dL_law_20 ?_
    refine lv_iconst (v := 5) hx hb dL_law_21 (by decide) ?_
    refine lv_isub hx hb dL_law_22 ?_
    refine lv_icmp_gt (tgt := 752) hx hb dL_law_23 (by decide) (fun c_23 => ?_) (fun c_23 => ?_)
    · refine lv_iconst (v := 1) hx hb dL_law_752 (by decide) ?_
      refine va_forget hS.2.2 ?_
      refine W.widen (k := 600000) (n := 7302250) (by omega) (by omega) ?_
      exact lw_ret hx hb hr hlocks dL_law_753
    · exact absurd (law_gt (by omega) (by omega) (by omega)) c_23
  | succ d ih =>
    intro t hd ht n ns wd f hn H locs hP hD hS ls hl
    refine lv_iload_n hx hb dL_law_18 rfl (lv_at hl 3 rfl) ?_
    refine lv_aload_n hx hb dL_law_19 rfl (lv_at hl 0 rfl) ?_
    refine va_slen hx hb hX hbl hbA hS dL_law_20 ?_
    refine lv_iconst (v := 5) hx hb dL_law_21 (by decide) ?_
    refine lv_isub hx hb dL_law_22 ?_
    refine lv_icmp_gt (tgt := 752) hx hb dL_law_23 (by decide) (fun c_23 => ?_) (fun c_23 => ?_)
    · refine lv_iconst (v := 1) hx hb dL_law_752 (by decide) ?_
      refine va_forget hS.2.2 ?_
      refine W.widen (k := 600000) (n := 7302250) (by omega) (by omega) ?_
      exact lw_ret hx hb hr hlocks dL_law_753
    · have ht5 : 5 * t + 5 ≤ L := law_le (by omega) (by omega) c_23
      refine lv_aload_n hx hb dL_law_26 rfl (lv_at hl 0 rfl) ?_
      refine lv_iload_n hx hb dL_law_27 rfl (lv_at hl 3 rfl) ?_
      refine q_sld (j := 5 * t) hx hb hX hbl hbA hS rfl (by omega) (by omega) dL_law_28 ?_
      refine lv_bipush (v := 15) hx hb dL_law_29 (by decide) ?_
      refine lv_iand hx hb dL_law_31 ?_
      obtain ⟨v, hv, ev⟩ := pk_andE (xs (5 * t)) (m := 15) 4 (by decide)
      refine q_ti (y := nI v) ev ?_
      have ih := ih (t + 1) (by omega) (by omega)
      have hv16 : v = 0 ∨ v = 1 ∨ v = 2 ∨ v = 3 ∨ v = 4 ∨ v = 5 ∨ v = 6 ∨ v = 7 ∨ v = 8 ∨ v = 9 ∨ v = 10 ∨ v = 11 ∨ v = 12 ∨ v = 13 ∨ v = 14 ∨ v = 15 := by omega
      rcases hv16 with rfl | rfl | rfl | rfl | rfl | rfl | rfl | rfl | rfl | rfl | rfl | rfl | rfl | rfl | rfl | rfl
      · refine lv_tableIn (off := 80) (tgt := 112) hx hb dL_law_32 (by decide) (by decide) (by decide) (by decide) ?_
        exact law_case0 hL C0 hg hK t ht5 ih n ns wd f hn _ _ hP hD hS ls hl
      · refine lv_tableIn (off := 141) (tgt := 173) hx hb dL_law_32 (by decide) (by decide) (by decide) (by decide) ?_
        exact law_case1 hL C0 hg hK t ht5 ih n ns wd f hn _ _ hP hD hS ls hl
      · refine lv_tableIn (off := 204) (tgt := 236) hx hb dL_law_32 (by decide) (by decide) (by decide) (by decide) ?_
        exact law_case2 hL C0 hg hK t ht5 ih n ns wd f hn _ _ hP hD hS ls hl
      · refine lv_tableIn (off := 237) (tgt := 269) hx hb dL_law_32 (by decide) (by decide) (by decide) (by decide) ?_
        exact law_case3 hL C0 hg hK t ht5 ih n ns wd f hn _ _ hP hD hS ls hl
      · refine lv_tableIn (off := 250) (tgt := 282) hx hb dL_law_32 (by decide) (by decide) (by decide) (by decide) ?_
        exact law_case4 hL C0 hg hK t ht5 ih n ns wd f hn _ _ hP hD hS ls hl
      · refine lv_tableIn (off := 273) (tgt := 305) hx hb dL_law_32 (by decide) (by decide) (by decide) (by decide) ?_
        exact law_case5 hL C0 hg hK t ht5 ih n ns wd f hn _ _ hP hD hS ls hl
      · refine lv_tableIn (off := 286) (tgt := 318) hx hb dL_law_32 (by decide) (by decide) (by decide) (by decide) ?_
        exact law_case6 hL C0 hg hK t ht5 ih n ns wd f hn _ _ hP hD hS ls hl
      · refine lv_tableIn (off := 300) (tgt := 332) hx hb dL_law_32 (by decide) (by decide) (by decide) (by decide) ?_
        exact law_case7 hL C0 hg hK t ht5 ih n ns wd f hn _ _ hP hD hS ls hl
      · refine lv_tableIn (off := 313) (tgt := 345) hx hb dL_law_32 (by decide) (by decide) (by decide) (by decide) ?_
        exact law_case8 hL C0 hg hK t ht5 ih n ns wd f hn _ _ hP hD hS ls hl
      · refine lv_tableIn (off := 356) (tgt := 388) hx hb dL_law_32 (by decide) (by decide) (by decide) (by decide) ?_
        exact law_case9 hL C0 hg hK t ht5 ih n ns wd f hn _ _ hP hD hS ls hl
      · refine lv_tableIn (off := 430) (tgt := 462) hx hb dL_law_32 (by decide) (by decide) (by decide) (by decide) ?_
        exact law_case10 hL C0 hg hK t ht5 ih n ns wd f hn _ _ hP hD hS ls hl
      · refine lv_tableIn (off := 463) (tgt := 495) hx hb dL_law_32 (by decide) (by decide) (by decide) (by decide) ?_
        exact law_case11 hL C0 hg hK t ht5 ih n ns wd f hn _ _ hP hD hS ls hl
      · refine lv_tableIn (off := 512) (tgt := 544) hx hb dL_law_32 (by decide) (by decide) (by decide) (by decide) ?_
        exact law_case12 hL C0 hg hK t ht5 ih n ns wd f hn _ _ hP hD hS ls hl
      · refine lv_tableIn (off := 585) (tgt := 617) hx hb dL_law_32 (by decide) (by decide) (by decide) (by decide) ?_
        exact law_case13 hL C0 hg hK t ht5 ih n ns wd f hn _ _ hP hD hS ls hl
      · refine lv_tableIn (off := 658) (tgt := 690) hx hb dL_law_32 (by decide) (by decide) (by decide) (by decide) ?_
        exact law_case14 hL C0 hg hK t ht5 ih n ns wd f hn _ _ hP hD hS ls hl
      · refine lv_tableIn (off := 681) (tgt := 713) hx hb dL_law_32 (by decide) (by decide) (by decide) (by decide) ?_
        exact law_case15 hL C0 hg hK t ht5 ih n ns wd f hn _ _ hP hD hS ls hl
end
section
set_option maxHeartbeats 4000000 in
set_option maxRecDepth 100000 in
theorem whole_start {p : Program} {e : Env} {s : State} {m : MethodId} {below : List Frame} {meth : Method} {c : Code} (l : Launch) {b L : Nat} {xs : Nat → Int32} (hL : L ≤ 2560) (C0 : lw_At p s m meth c b L xs) : W p l e room_1 s m #[Value.ref b] below meth c s.heap [] 0 0 (lw_Z below #[Value.ref b] s) (entryFrame m ([Value.ref b] : List Value).toArray 4) := by
  obtain ⟨hx, hb, hr, hml, hown0, hts0, hX, hbl, hlocks, hgv⟩ := id C0
  have hown : s.vm.findClass RL = some m.cls := hown0
  have hts : ∀ w ∈ wsL_law, w.before #[Value.ref b] s = true := fun w h => hts0 w (wsL_law_in w h)
  have htm : ∀ w ∈ wsLM, w.before #[Value.ref b] s = true := fun w h => hts0 w (wsLM_in w h)
  have hA : ∀ q : Nat, s.heap.size ≤ q → (fun q : Nat => s.heap.size ≤ q) q := fun _ h => h
  have hbA : ¬ (fun q : Nat => s.heap.size ≤ q) b := Nat.not_le.mpr hbl
  obtain ⟨c0, iS0, hKn0⟩ := u_known (C := RX0) (T := TX0) (N := 5) (n := 5) hts inlX0 (hts (.instantiable RX0 5) (by decide +kernel))
  obtain ⟨c1, iS1, hKn1⟩ := u_known (C := RX1) (T := TX1) (N := 4) (n := 4) hts inlX1 (hts (.instantiable RX1 4) (by decide +kernel))
  obtain ⟨dC, dI, hKc⟩ : ∃ (dC : Nat → ClassId) (dI : Nat → Nat → Nat), ∀ (k : Nat) (q : vw_C), vwCl[k]? = some q → u_Kn s q.1 q.2.1 q.2.2 (dC k) (dI k) := by
    refine ⟨fun k => if k = 0 then c0 else c1, fun k => if k = 0 then iS0 else iS1, ?_⟩
    intro k q hq
    match k, hq with
    | 0, hq => cases hq; exact hKn0
    | 1, hq => cases hq; exact hKn1
    | k + 2, hq => simp [vwCl] at hq
  have hS : va_S (fun q : Nat => s.heap.size ≤ q) s.heap s.heap [] := va_S.rf
  have hK : va_K (dC, dI) vwCl [] s := ⟨hKc, fun k q h => by simp at h⟩
  have hP : va_P (dC, dI) vwCl [] s.heap := fun k q h => by simp at h
  have hD : va_D (fun q : Nat => s.heap.size ≤ q) [] := ⟨fun i j p q h => by simp at h, fun k q h => by simp at h⟩
  have hl := lv_entry ([.ref b]) (n := 4) (Nat.le_of_ble_eq_true rfl)
  rw [lg_entry_eq]
  generalize (lg_sl ([.ref b]) ++ List.replicate (4 - (lg_sl ([.ref b])).length) Slot.unset).toArray = ls at hl ⊢
  have hl : lv_has ls 4 [(0, .ref b)] := hl
  refine va_new (ci := 0) (fs := [.null, .null, .int 0, .int 0, .long 0]) (C := RX0) (T := TX0) (N := 5) hx hb hts inlX0 tyX0 tyX0_ok hown (hts (.classLink RL 7 RX0) (by decide +kernel)) (hts (.instantiable RX0 5) (by decide +kernel)) (hts (.initialized RX0) (by decide +kernel)) hK hP hD hS hA rfl (fun j hj => by rcases (show j = 0 ∨ j = 1 ∨ j = 2 ∨ j = 3 ∨ j = 4 by omega) with rfl | rfl | rfl | rfl | rfl <;> rfl) (Nat.le_of_ble_eq_true rfl) (Nat.le_of_ble_eq_true rfl) dL_law_0 (fun h0 H hP hD hS => ?_)
  have hP : va_P (dC, dI) vwCl [(h0, .inr (0, [.null, .null, .int 0, .int 0, .long 0]))] H := hP
  have hD : va_D (fun q : Nat => s.heap.size ≤ q) [(h0, .inr (0, [.null, .null, .int 0, .int 0, .long 0]))] := hD
  refine W.widen (k := 1) (n := 5) (by omega) (by omega) ?_
  refine lv_dup hx hb dL_law_3 rfl ?_
  have hPc := hP
  have hDc := hD
  have hKc := hK
  have hFc := va_free (wc := [(h0, .inr (0, [.null, .null, .int 0, .int 0, .long 0]))]) hD hS hA [0] rfl
  refine va_callv (va_runI (As := []) (rest := [.ref h0]) ⟨hx, hb, hml, hown, hts⟩ (c_X_init l dC dI h0 H.size) (cwI 0 hts gL_law_X0_init rfl rfl rfl (hts (.initialized RX0) (by decide +kernel)) (hts (.methodLink RL 9 yX0_init) (by decide +kernel)) (hts (.instanceMethod yX0_init) (by decide +kernel)) rfl (by decide +kernel) ⟨(Nat.le_of_ble_eq_true rfl), (Nat.le_of_ble_eq_true rfl)⟩) ⟨fun a U g mk q => ⟨q.1, q.2.1, q.2.2.1, va_K.moved (u := U) (U := U.calling g mk a) (Vm.Alike.refl U.vm) q.2.2.2.1, q.2.2.2.2⟩, fun U hU hW => ⟨rfl, by rw [hU], by rw [hU]; exact hPc, va_K.moved hW.alike hKc, hDc.weaken (fun _ _ _ _ => trivial)⟩⟩ rfl rfl hl.1 rfl (lv_room (Nat.le_of_ble_eq_true rfl)) dL_law_4 ⟨(Nat.le_of_ble_eq_true rfl), (Nat.le_of_ble_eq_true rfl)⟩) hS (fun q _ h => hFc q h) hFc (fun u tt H1 locs ht hvm hg hB hz1 hk1 hS => ?_)
  obtain ⟨a0, a1, cB, cI, g⟩ := u
  obtain ⟨hP1, hK1, hD1⟩ := hB
  rw [ht] at hP1
  have hK := va_K.moved hvm.symm hK1
  dsimp only at hg hP1 hK hD1
  obtain ⟨hP, hD⟩ := va_join (wr := []) (w1 := xC h0 a0 a1 cB cI 0 0 0 (fun _ => 0) g) hP hD [0] [] rfl rfl (by decide) (by decide) hk1 hFc hP1 hD1
  generalize H1 = H at hP hS ⊢
  have hP : va_P (dC, dI) vwCl (xC h0 a0 a1 cB cI 0 0 0 (fun _ => 0) g) H := hP
  have hD : va_D (fun q : Nat => s.heap.size ≤ q) (xC h0 a0 a1 cB cI 0 0 0 (fun _ => 0) g) := hD
  refine W.widen (k := 3) (n := 65797) (by omega) (by omega) ?_
  refine lv_astore_n (lv' := [(1, .ref h0), (0, .ref b)]) hx hb dL_law_7 rfl hl (by decide) rfl (fun ls hl => ?_)
  refine va_new (ci := 1) (fs := [.null, .int 0, .int 0, .long 0]) (C := RX1) (T := TX1) (N := 4) hx hb hts inlX1 tyX1 tyX1_ok hown (hts (.classLink RL 10 RX1) (by decide +kernel)) (hts (.instantiable RX1 4) (by decide +kernel)) (hts (.initialized RX1) (by decide +kernel)) hK hP hD hS hA rfl (fun j hj => by rcases (show j = 0 ∨ j = 1 ∨ j = 2 ∨ j = 3 by omega) with rfl | rfl | rfl | rfl <;> rfl) (Nat.le_of_ble_eq_true rfl) (Nat.le_of_ble_eq_true rfl) dL_law_8 (fun h1 H hP hD hS => ?_)
  refine W.widen (k := 4) (n := 65801) (by omega) (by omega) ?_
  refine lv_dup hx hb dL_law_11 rfl ?_
  have hPc := hP.sub (ws' := [(h1, .inr (1, [.null, .int 0, .int 0, .long 0]))]) [3] rfl
  have hDc := hD.sub (ws' := [(h1, .inr (1, [.null, .int 0, .int 0, .long 0]))]) [3] (by decide) rfl
  have hKc := hK.sub (tys' := []) [] rfl
  have hFc := va_free (wc := [(h1, .inr (1, [.null, .int 0, .int 0, .long 0]))]) hD hS hA [3] rfl
  refine va_callv (va_runI (As := []) (rest := [.ref h1]) ⟨hx, hb, hml, hown, htm⟩ (c_M_init l dC dI h1 H.size) (cwI 0 htm gLM_init rfl rfl rfl (htm (.initialized RX1) (wsLM_p (by decide +kernel))) (htm (.methodLink RL 12 yX1_init) (wsLM_p (by decide +kernel))) (htm (.instanceMethod yX1_init) (wsLM_p (by decide +kernel))) rfl (by decide +kernel) ⟨(Nat.le_of_ble_eq_true rfl), (Nat.le_of_ble_eq_true rfl)⟩) ⟨fun a U g mk q => ⟨q.1, q.2.1, q.2.2.1, va_K.moved (u := U) (U := U.calling g mk a) (Vm.Alike.refl U.vm) q.2.2.2.1, q.2.2.2.2⟩, fun U hU hW => ⟨rfl, by rw [hU], by rw [hU]; exact hPc, va_K.moved hW.alike hKc, hDc.weaken (fun _ _ _ _ => trivial)⟩⟩ rfl rfl hl.1 rfl (lv_room (Nat.le_of_ble_eq_true rfl)) dL_law_12 ⟨(Nat.le_of_ble_eq_true rfl), (Nat.le_of_ble_eq_true rfl)⟩) hS (fun q _ h => hFc q h) hFc (fun u tt H1 locs ht hvm hw hB hz1 hk1 hS => ?_)
  obtain ⟨b0, cM⟩ := u
  obtain ⟨hP1, hK1, hD1⟩ := hB
  rw [ht] at hP1
  have hK1 := va_K.moved hvm.symm hK1
  dsimp only at hP1 hK1 hD1
  obtain ⟨hP, hD⟩ := va_join (wr := xC h0 a0 a1 cB cI 0 0 0 (fun _ => 0) g) (w1 := mC h1 b0 cM 0 0 0 (fun _ => 0)) hP hD [3] [0, 1, 2] rfl rfl (by decide) (by decide) hk1 hFc hP1 hD1
  have hK : va_K (dC, dI) vwCl (lT cB cI cM) s := hK.app hK1
  generalize H1 = H at hP hS ⊢
  refine W.widen (k := 5) (n := 131337) (by omega) (by omega) ?_
  refine lv_astore_n (lv' := [(2, .ref h1), (1, .ref h0), (0, .ref b)]) hx hb dL_law_15 rfl hl (by decide) rfl (fun ls hl => ?_)
  refine lv_iconst (v := 0) hx hb dL_law_16 (by decide) ?_
  refine lv_istore_n (lv' := [(3, .int 0), (2, .ref h1), (1, .ref h0), (0, .ref b)]) hx hb dL_law_17 rfl hl (by decide) rfl (fun ls hl => ?_)
  exact law_loop hL C0 hg hK L 0 (by omega) (by omega) 0 0 0 (fun _ => 0) (by omega) _ _ hP hD hS ls (lv_sub hl [3, 2, 1, 0] rfl)
set_option maxHeartbeats 4000000 in
theorem lw_walk (l : Launch) (b : Addr) (xs : List Int32) : MetFree l x (headSpec (Jvm.Cond.code x code maxLocals ret :: tables_1) room_1) (lw_P b xs) (fun _ _ _ _ _ => True) lw_Q := by
  refine MetFree.of_bodyS (code := code) (maxLocals := maxLocals) (ret := ret) (by decide) ?_ ?_
  · intro args s m h hn
    obtain ⟨meth, c, h1, h2, h3, h4, h5, h6, -, -⟩ := Cond.code_spec hn (atoms_spec (ws := Jvm.Cond.code x code maxLocals ret :: tables_1) h _ List.mem_cons_self)
    exact ⟨meth, c, h1, h2, h3, h4, h5, h6⟩
  · intro p e s m args below meth c s₁ B hml0 hP _
    obtain ⟨rfl, hx, hbd, hgv⟩ := hP
    obtain ⟨scr, harrAt, hlist, hof, hsmall⟩ := hx
    obtain ⟨hcb, hkn, -, -⟩ := State.arrayAt?_spec harrAt
    have hown : s.vm.findClass R_law = some m.cls := findClass_of_methodNamed B.named
    have hts0 : ∀ c ∈ (Jvm.Cond.code x code maxLocals ret :: tables_1), c.before #[Value.ref b] s = true := atoms_spec (ws := Jvm.Cond.code x code maxLocals ret :: tables_1) B.pre
    have hts : ∀ w ∈ lw_tbl, w.before #[Value.ref b] s = true := k2_hts_sels lw_privs (fun w hw => hts0 w (List.mem_cons_of_mem _ hw)) lw_privs_ok
    have hml : c.maxLocals = 4 := B.maxLocals_eq (hts0 _ List.mem_cons_self)
    have X₀ : Stand p l e room_1 s m #[Value.ref b] below meth c s₁ [] 0 0 := Stand.of_body B
    have hh0 : s₁.heap = s.heap := by rw [B.state]; rfl
    have hsz : scr.slots.size = xs.length := by rw [← Array.length_toList, hlist, List.length_map]
    have hval : ∀ j : Nat, j < xs.length → scr.slots[j]? = some (.int (xs.getD j 0)) := fun j hj => by
      rw [← Array.getElem?_toList, hlist]
      simp [hj]
    have hbl : b < s.heap.size := (Array.getElem?_eq_some_iff.mp hcb).1
    have hX : va_X b xs.length (fun j => xs.getD j 0) s s.heap := ⟨scr, hcb, hof, hkn, hsz, hval⟩
    have K : W p l e room_1 s m #[Value.ref b] below meth c s₁.heap [] 0 0 (lw_Z below #[Value.ref b] s) (entryFrame m ([Value.ref b] : List Value).toArray 4) := by
      rw [hh0]
      exact whole_start l hbd ⟨B.exec, B.bytes, B.returns, hml, hown, hts, hX, hbl, B.notSynchronized, hgv⟩
    obtain ⟨t, a1, o, b1, b2, b3⟩ := K s₁ rfl X₀
    exact ⟨t, o, a1, b1, b2, b3⟩
theorem lw_pre_spec {args : Array Value} {s : State} (h : (Jvm.Cond.and given_1 narrow_1).before args s = true) (hr : rest_1_c.before args s = true) : ∃ (b : Addr) (xs : List Int32), lw_P b xs args s := by
  have hs := flat_of_before _ h
  have hq := flat_of_before _ hr
  have hc : (Cond.count 1).before args s = true := hs _ (by decide +kernel)
  have harr : (Cond.arrayOf (.arg 0) .int).before args s = true := hs _ (by decide +kernel)
  have hle : (Cond.le (.length (.arg 0)) (.int 2560)).before args s = true := hs _ (by decide +kernel)
  have hlen : (Cond.isInt (.length (.arg 0))).before args s = true := hq _ (by decide +kernel)
  have hall : (Cond.all (.arg 0) (.isInt (.elem (.arg 0) (.index 0)))).before args s = true := hq _ (by decide +kernel)
  obtain ⟨b, xs, hb, hx⟩ := State.ints_of_pre rfl harr hlen hall
  have hsm : xs.length < 2 ^ 31 := hx.choose_spec.2.2.2
  have hev : (Term.length (.arg 0)).eval args s none [] s = some (.int xs.length.toInt32) := hx.length_eval hb
  have hv := Cond.le_ints hev (show (Term.int 2560).eval args s none [] s = some (.int 2560) from rfl)
  have hd : xs.length.toInt32 ≤ 2560 := by
    simpa [Cond.before, Cond.holds, hv] using hle
  have hN : xs.length ≤ 2560 := (Int32.ofNat_le_ofNat hsm (by decide)).mp (show Int32.ofNat xs.length ≤ Int32.ofNat 2560 from hd)
  exact ⟨b, xs, Cond.one_arg hc (show args[0]? = some (.ref b) from hb), hx, hN, h⟩
theorem lw_comes (l : Launch) : Comes l x (Jvm.Cond.code x code maxLocals ret :: tables_1) room_1 (fun tb e args s => Calls_1 tb e args s ∧ rest_1 tb e args s ∧ Pre_1 tb e args s)
    (fun _ _ args s o t => lw_Q args s o t) := by
  intro p e ha hc hk s m args below hf hfit hheap happ hpre
  obtain ⟨b, xs, hP⟩ := lw_pre_spec hpre.2.2 hpre.2.1
  obtain ⟨k, o, h1, h2, h3, hQ⟩ := lw_walk l b xs p e ha hc hk s m args below hf ((Spec.applies_iff_loose hf).mp happ).1 hP trivial
  exact ⟨k, o, h1, h2, h3, hQ⟩
theorem lw_frame {s t : State} {o : Outcome} {args : Array Value} (h : Framed s o t [] 600000 7302250) :
    Framed s o t (fieldLocs frame_1_writes args s ++ arrayLocs frame_1_arrays args s ++ staticLocs frame_1_statics s) 600000 7302250 := h
theorem lw_limb (L : Cond) (hL : ∀ (args : Array Value) (s t : State), L.after args s (.returned (some (.int 1))) t = true) :
    ArmFor flags0 classFile x code maxLocals ret World_1 tables_1 room_1 Calls_1 rest_1 Pre_1
      (fun tb e a s o t => postC L tb e a s o t ∧ Framed s o t (fieldLocs frame_1_writes a s ++ arrayLocs frame_1_arrays a s ++ staticLocs frame_1_statics s) 600000 7302250) := by
  intro l _ _ _ p e ha hc hk s m args below hf hfit hheap happ hpre
  obtain ⟨k, o, h1, h2, h3, rfl, hF⟩ := lw_comes l p e ha hc hk s m args below hf hfit hheap happ hpre
  exact ⟨k, _, h1, h2, h3, hL args s _, lw_frame hF⟩
theorem i_vc : Claimed_1_1 ∧ Claimed_1_2 := ⟨lw_limb limb_1_1 (fun args s t => by simp [limb_1_1, Cond.after, Cond.holds, Cond.value]), lw_limb limb_1_2 (fun args s t => Cond.after_iff.mpr (by
  first | (rw [show limb_1_2 = Cond.eq .result (.int 1) from rfl, Cond.eq_ints (x := 1) (y := 1) rfl rfl]; simp; done) | (simp [limb_1_2, Cond.value, Term.eval]; done)))⟩
end
