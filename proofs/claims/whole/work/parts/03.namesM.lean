abbrev cX1_isPart : ByteArray := prog_3_method_8_code
def yX1_isPart : MethodName := ⟨RX1, "isPart", "(II)Z"⟩
abbrev cX1_number : ByteArray := prog_3_method_9_code
def yX1_number : MethodName := ⟨RX1, "number", "(II)J"⟩
abbrev cX1_rotated : ByteArray := prog_3_method_10_code
def yX1_rotated : MethodName := ⟨RX1, "rotated", "(II)I"⟩
abbrev cX1_lane : ByteArray := prog_3_method_11_code
def yX1_lane : MethodName := ⟨RX1, "lane", "(IIII)I"⟩
abbrev cX1_sumNarrow : ByteArray := prog_3_method_12_code
def yX1_sumNarrow : MethodName := ⟨RX1, "sumNarrow", "(III)I"⟩
abbrev cX1_narrow : ByteArray := prog_3_method_13_code
def yX1_narrow : MethodName := ⟨RX1, "narrow", "()I"⟩
abbrev cX1_narrowOf : ByteArray := prog_3_method_14_code
def yX1_narrowOf : MethodName := ⟨RX1, "narrowOf", "(III)I"⟩
abbrev cX1_turned : ByteArray := prog_3_method_15_code
def yX1_turned : MethodName := ⟨RX1, "turned", "(JI)J"⟩
abbrev cX1_wideLane : ByteArray := prog_3_method_16_code
def yX1_wideLane : MethodName := ⟨RX1, "wideLane", "(JIII)J"⟩
abbrev cX1_join : ByteArray := prog_3_method_17_code
def yX1_join : MethodName := ⟨RX1, "join", "(JJ)J"⟩
abbrev cX1_ofLanes : ByteArray := prog_3_method_18_code
def yX1_ofLanes : MethodName := ⟨RX1, "ofLanes", "(IIJ)J"⟩
abbrev cX1_sumWide : ByteArray := prog_3_method_19_code
def yX1_sumWide : MethodName := ⟨RX1, "sumWide", "(IIJ)J"⟩
abbrev cX1_wide : ByteArray := prog_3_method_20_code
def yX1_wide : MethodName := ⟨RX1, "wide", "()J"⟩
abbrev cX1_wideOf : ByteArray := prog_3_method_21_code
def yX1_wideOf : MethodName := ⟨RX1, "wideOf", "(IIJ)J"⟩
abbrev cX1_right : ByteArray := prog_3_method_22_code
def yX1_right : MethodName := ⟨RX1, "right", "(I)I"⟩
abbrev cX1_before : ByteArray := prog_3_method_23_code
def yX1_before : MethodName := ⟨RX1, "before", "(I)I"⟩
abbrev cX1_withByte : ByteArray := prog_3_method_24_code
def yX1_withByte : MethodName := ⟨RX1, "withByte", "(II)I"⟩
abbrev cX1_back : ByteArray := prog_3_method_25_code
def yX1_back : MethodName := ⟨RX1, "back", "(II)I"⟩
abbrev cX1_register : ByteArray := prog_3_method_26_code
def yX1_register : MethodName := ⟨RX1, "register", "(II)I"⟩
abbrev cX1_poly : ByteArray := prog_3_method_27_code
def yX1_poly : MethodName := ⟨RX1, "poly", "()I"⟩
abbrev cX1_polyOf : ByteArray := prog_3_method_28_code
def yX1_polyOf : MethodName := ⟨RX1, "polyOf", "(II)I"⟩
abbrev cX1_masked : ByteArray := prog_3_method_29_code
def yX1_masked : MethodName := ⟨RX1, "masked", "(IZ)I"⟩
abbrev cX1_times : ByteArray := prog_3_method_30_code
def yX1_times : MethodName := ⟨RX1, "times", "(II)I"⟩
abbrev cX1_power : ByteArray := prog_3_method_31_code
def yX1_power : MethodName := ⟨RX1, "power", "(IJ)I"⟩
abbrev cX1_joined : ByteArray := prog_3_method_32_code
def yX1_joined : MethodName := ⟨RX1, "joined", "(IIJ)I"⟩
abbrev cX1_cut : ByteArray := prog_3_method_33_code
def yX1_cut : MethodName := ⟨RX1, "cut", "(IIJ)I"⟩
abbrev cX1_between : ByteArray := prog_3_method_34_code
def yX1_between : MethodName := ⟨RX1, "between", "(II)I"⟩
abbrev cX1_forged : ByteArray := prog_3_method_35_code
def yX1_forged : MethodName := ⟨RX1, "forged", "(I)I"⟩
abbrev cX1_mended : ByteArray := prog_3_method_36_code
def yX1_mended : MethodName := ⟨RX1, "mended", "(II)I"⟩
def wsM_n : List Cond := [Cond.initialized RX1, Cond.arrayClass .byte, Cond.methodLink RX1 1 objectInit, Cond.instanceMethod objectInit, Cond.fieldLink RX1 8 "StreamSumsModel" "row" "[B", Cond.fieldLink RX1 14 "StreamSumsModel" "length" "I", Cond.fieldLink RX1 18 "StreamSumsModel" "seedNarrow" "I", Cond.fieldLink RX1 21 "StreamSumsModel" "seedWide" "J", Cond.constant RX1 7 (65536), Cond.constantLong RX1 25 (65536), Cond.constant RX1 35 (-2048144777), Cond.constant RX1 40 (-1640531535), Cond.constant RX1 41 (374761393), Cond.constant RX1 46 (-1028477379), Cond.constant RX1 47 (668265263), Cond.constantLong RX1 56 (-4417276706812531889), Cond.constantLong RX1 62 (-7046029288634856825), Cond.constantLong RX1 64 (-8796714831421723037), Cond.constantLong RX1 78 (2870177450012600261), Cond.constantLong RX1 80 (1609587929392839161), Cond.constant RX1 85 (-2097792136), Cond.constant RX1 98 (-1568478504), Cond.constant RX1 99 (-2147483648), Cond.methodLink RX1 27 yX1_at, Cond.methodLink RX1 31 yX1_number, Cond.methodLink RX1 36 yX1_rotated, Cond.methodLink RX1 42 yX1_lane, Cond.methodLink RX1 48 yX1_sumNarrow, Cond.methodLink RX1 52 yX1_isPart, Cond.methodLink RX1 58 yX1_turned, Cond.methodLink RX1 66 yX1_wideLane, Cond.methodLink RX1 70 yX1_join, Cond.methodLink RX1 74 yX1_ofLanes, Cond.methodLink RX1 82 yX1_sumWide, Cond.methodLink RX1 86 yX1_right, Cond.methodLink RX1 89 yX1_before, Cond.methodLink RX1 92 yX1_withByte, Cond.methodLink RX1 95 yX1_register, Cond.methodLink RX1 100 yX1_times, Cond.methodLink RX1 103 yX1_power, Cond.methodLink RX1 107 yX1_back, Cond.methodLink RX1 110 yX1_between, Cond.static yX1_rotated, Cond.static yX1_turned, Cond.static yX1_join, Cond.static yX1_right, Cond.static yX1_before, Cond.static yX1_withByte, Cond.static yX1_times, Cond.static yX1_power, Cond.static yX1_back, Cond.static yX1_between, Cond.instanceMethod yX1_at, Cond.selects RX1 yX1_at yX1_at, Cond.instanceMethod yX1_number, Cond.selects RX1 yX1_number yX1_number, Cond.instanceMethod yX1_lane, Cond.selects RX1 yX1_lane yX1_lane, Cond.instanceMethod yX1_sumNarrow, Cond.selects RX1 yX1_sumNarrow yX1_sumNarrow, Cond.instanceMethod yX1_isPart, Cond.selects RX1 yX1_isPart yX1_isPart, Cond.instanceMethod yX1_wideLane, Cond.selects RX1 yX1_wideLane yX1_wideLane, Cond.instanceMethod yX1_ofLanes, Cond.selects RX1 yX1_ofLanes yX1_ofLanes, Cond.instanceMethod yX1_sumWide, Cond.selects RX1 yX1_sumWide yX1_sumWide, Cond.instanceMethod yX1_register, Cond.selects RX1 yX1_register yX1_register]
def wsM_c : List Cond := [Cond.code objectInit ⟨#[0xb1]⟩ 1 none, Cond.code yX1_at cX1_at 2 (some .int), Cond.code yX1_back cX1_back 4 (some .int), Cond.code yX1_before cX1_before 1 (some .int), Cond.code yX1_between cX1_between 3 (some .int), Cond.code yX1_isPart cX1_isPart 3 (some .boolean), Cond.code yX1_join cX1_join 4 (some .long), Cond.code yX1_lane cX1_lane 7 (some .int), Cond.code yX1_number cX1_number 6 (some .long), Cond.code yX1_ofLanes cX1_ofLanes 15 (some .long), Cond.code yX1_power cX1_power 5 (some .int), Cond.code yX1_register cX1_register 5 (some .int), Cond.code yX1_right cX1_right 1 (some .int), Cond.code yX1_rotated cX1_rotated 2 (some .int), Cond.code yX1_sumNarrow cX1_sumNarrow 8 (some .int), Cond.code yX1_sumWide cX1_sumWide 10 (some .long), Cond.code yX1_times cX1_times 5 (some .int), Cond.code yX1_turned cX1_turned 3 (some .long), Cond.code yX1_wideLane cX1_wideLane 9 (some .long), Cond.code yX1_withByte cX1_withByte 4 (some .int)]
def wsM : List Cond := wsM_n ++ (wsX10 ++ wsM_c)
theorem wsM_good : wsM.all goodWord = true := by decide +kernel
theorem wsM_nin {w : Cond} (h : w ∈ wsM_n) : w ∈ wsM := List.mem_append_left _ h
theorem wsM_cin {w : Cond} (h : w ∈ wsM_c) : w ∈ wsM := List.mem_append_right _ (List.mem_append_right _ h)
theorem wsM_fin : ∀ w ∈ u_ws RX1 TX1 4, w ∈ wsM := fun _ h => List.mem_append_right _ (List.mem_append_left _ h)
theorem wsM_self {c : Cond} : ∀ w ∈ wsM, w ∈ c :: wsM := fun _ h => List.mem_cons_of_mem _ h
theorem gm_V {big : List Cond} {own : String} {ix : Nat} {y : MethodName} {b : ByteArray} {k : Nat} {r : Option FieldType} (hb : ∀ w ∈ wsM, w ∈ big) (h1 : Cond.methodLink own ix y ∈ big) (h2 : Cond.instanceMethod y ∈ big) (h3 : Cond.selects RX1 y y ∈ big) (h4 : Cond.initialized RX1 ∈ big) (h5 : Cond.code y b k r ∈ big) : GoodIn big (wsV own ix RX1 y (Cond.code y b k r :: wsM)) := by
  intro w hw
  unfold wsV at hw
  simp only [List.mem_append, List.mem_cons, List.not_mem_nil, or_false] at hw
  rcases hw with (rfl | rfl | rfl | rfl) | rfl | hw
  · exact ⟨h1, Or.inl rfl⟩
  · exact ⟨h2, Or.inl rfl⟩
  · exact ⟨h3, Or.inl rfl⟩
  · exact ⟨h4, Or.inl rfl⟩
  · exact ⟨h5, Or.inl rfl⟩
  · exact ⟨hb w hw, good_of_word (List.all_eq_true.mp wsM_good w hw)⟩
theorem gm_S {big : List Cond} {own : String} {ix : Nat} {y : MethodName} {b : ByteArray} {k : Nat} {r : Option FieldType} (hb : ∀ w ∈ wsM, w ∈ big) (h1 : Cond.methodLink own ix y ∈ big) (h2 : Cond.static y ∈ big) (h4 : Cond.initialized y.cls ∈ big) (h5 : Cond.code y b k r ∈ big) : GoodIn big (va_wsS own ix y (Cond.code y b k r :: wsM)) := by
  intro w hw
  unfold va_wsS at hw
  simp only [List.mem_append, List.mem_cons, List.not_mem_nil, or_false] at hw
  rcases hw with (rfl | rfl | rfl) | rfl | hw
  · exact ⟨h1, Or.inl rfl⟩
  · exact ⟨h2, Or.inl rfl⟩
  · exact ⟨h4, Or.inl rfl⟩
  · exact ⟨h5, Or.inl rfl⟩
  · exact ⟨hb w hw, good_of_word (List.all_eq_true.mp wsM_good w hw)⟩
def wsM_init : List Cond := .code yX1_init cX1_init 1 none :: wsM
def wsM_begin : List Cond := .code yX1_begin cX1_begin 4 none :: wsM
def wsM_write : List Cond := .code yX1_write cX1_write 5 (some .boolean) :: wsM
def wsM_again : List Cond := .code yX1_again cX1_again 5 (some .boolean) :: wsM
def wsM_size : List Cond := .code yX1_size cX1_size 1 (some .int) :: wsM
def wsM_at : List Cond := .code yX1_at cX1_at 2 (some .int) :: wsM
def wsM_byteAt : List Cond := .code yX1_byteAt cX1_byteAt 2 (some .int) :: wsM
def wsM_isPart : List Cond := .code yX1_isPart cX1_isPart 3 (some .boolean) :: wsM
def wsM_number : List Cond := .code yX1_number cX1_number 6 (some .long) :: wsM
def wsM_rotated : List Cond := .code yX1_rotated cX1_rotated 2 (some .int) :: wsM
def wsM_lane : List Cond := .code yX1_lane cX1_lane 7 (some .int) :: wsM
def wsM_sumNarrow : List Cond := .code yX1_sumNarrow cX1_sumNarrow 8 (some .int) :: wsM
def wsM_narrow : List Cond := .code yX1_narrow cX1_narrow 1 (some .int) :: wsM
def wsM_narrowOf : List Cond := .code yX1_narrowOf cX1_narrowOf 4 (some .int) :: wsM
def wsM_turned : List Cond := .code yX1_turned cX1_turned 3 (some .long) :: wsM
def wsM_wideLane : List Cond := .code yX1_wideLane cX1_wideLane 9 (some .long) :: wsM
def wsM_join : List Cond := .code yX1_join cX1_join 4 (some .long) :: wsM
def wsM_ofLanes : List Cond := .code yX1_ofLanes cX1_ofLanes 15 (some .long) :: wsM
def wsM_sumWide : List Cond := .code yX1_sumWide cX1_sumWide 10 (some .long) :: wsM
def wsM_wide : List Cond := .code yX1_wide cX1_wide 1 (some .long) :: wsM
def wsM_wideOf : List Cond := .code yX1_wideOf cX1_wideOf 5 (some .long) :: wsM
def wsM_right : List Cond := .code yX1_right cX1_right 1 (some .int) :: wsM
def wsM_before : List Cond := .code yX1_before cX1_before 1 (some .int) :: wsM
def wsM_withByte : List Cond := .code yX1_withByte cX1_withByte 4 (some .int) :: wsM
def wsM_back : List Cond := .code yX1_back cX1_back 4 (some .int) :: wsM
def wsM_register : List Cond := .code yX1_register cX1_register 5 (some .int) :: wsM
def wsM_poly : List Cond := .code yX1_poly cX1_poly 1 (some .int) :: wsM
def wsM_polyOf : List Cond := .code yX1_polyOf cX1_polyOf 3 (some .int) :: wsM
def wsM_masked : List Cond := .code yX1_masked cX1_masked 3 (some .int) :: wsM
def wsM_times : List Cond := .code yX1_times cX1_times 5 (some .int) :: wsM
def wsM_power : List Cond := .code yX1_power cX1_power 5 (some .int) :: wsM
def wsM_joined : List Cond := .code yX1_joined cX1_joined 5 (some .int) :: wsM
def wsM_cut : List Cond := .code yX1_cut cX1_cut 5 (some .int) :: wsM
def wsM_between : List Cond := .code yX1_between cX1_between 3 (some .int) :: wsM
def wsM_forged : List Cond := .code yX1_forged cX1_forged 2 (some .int) :: wsM
def wsM_mended : List Cond := .code yX1_mended cX1_mended 5 (some .int) :: wsM
theorem gX1_byteAt_X1_at : GoodIn wsM_byteAt (wsV RX1 27 RX1 yX1_at wsM_at) := gm_V wsM_self (wsM_self _ (wsM_nin (by decide +kernel))) (wsM_self _ (wsM_nin (by decide +kernel))) (wsM_self _ (wsM_nin (by decide +kernel))) (wsM_self _ (wsM_nin (by decide +kernel))) (wsM_self _ (wsM_cin (List.mem_of_getElem? (i := 1) rfl)))
theorem gX1_number_X1_at : GoodIn wsM_number (wsV RX1 27 RX1 yX1_at wsM_at) := gm_V wsM_self (wsM_self _ (wsM_nin (by decide +kernel))) (wsM_self _ (wsM_nin (by decide +kernel))) (wsM_self _ (wsM_nin (by decide +kernel))) (wsM_self _ (wsM_nin (by decide +kernel))) (wsM_self _ (wsM_cin (List.mem_of_getElem? (i := 1) rfl)))
theorem gX1_lane_X1_number : GoodIn wsM_lane (wsV RX1 31 RX1 yX1_number wsM_number) := gm_V wsM_self (wsM_self _ (wsM_nin (by decide +kernel))) (wsM_self _ (wsM_nin (by decide +kernel))) (wsM_self _ (wsM_nin (by decide +kernel))) (wsM_self _ (wsM_nin (by decide +kernel))) (wsM_self _ (wsM_cin (List.mem_of_getElem? (i := 8) rfl)))
theorem gX1_lane_X1_rotated : GoodIn wsM_lane (va_wsS RX1 36 yX1_rotated wsM_rotated) := gm_S wsM_self (wsM_self _ (wsM_nin (by decide +kernel))) (wsM_self _ (wsM_nin (by decide +kernel))) (wsM_self _ (wsM_nin (by decide +kernel))) (wsM_self _ (wsM_cin (List.mem_of_getElem? (i := 13) rfl)))
theorem gX1_sumNarrow_X1_lane : GoodIn wsM_sumNarrow (wsV RX1 42 RX1 yX1_lane wsM_lane) := gm_V wsM_self (wsM_self _ (wsM_nin (by decide +kernel))) (wsM_self _ (wsM_nin (by decide +kernel))) (wsM_self _ (wsM_nin (by decide +kernel))) (wsM_self _ (wsM_nin (by decide +kernel))) (wsM_self _ (wsM_cin (List.mem_of_getElem? (i := 7) rfl)))
theorem gX1_sumNarrow_X1_rotated : GoodIn wsM_sumNarrow (va_wsS RX1 36 yX1_rotated wsM_rotated) := gm_S wsM_self (wsM_self _ (wsM_nin (by decide +kernel))) (wsM_self _ (wsM_nin (by decide +kernel))) (wsM_self _ (wsM_nin (by decide +kernel))) (wsM_self _ (wsM_cin (List.mem_of_getElem? (i := 13) rfl)))
theorem gX1_sumNarrow_X1_number : GoodIn wsM_sumNarrow (wsV RX1 31 RX1 yX1_number wsM_number) := gm_V wsM_self (wsM_self _ (wsM_nin (by decide +kernel))) (wsM_self _ (wsM_nin (by decide +kernel))) (wsM_self _ (wsM_nin (by decide +kernel))) (wsM_self _ (wsM_nin (by decide +kernel))) (wsM_self _ (wsM_cin (List.mem_of_getElem? (i := 8) rfl)))
theorem gX1_sumNarrow_X1_at : GoodIn wsM_sumNarrow (wsV RX1 27 RX1 yX1_at wsM_at) := gm_V wsM_self (wsM_self _ (wsM_nin (by decide +kernel))) (wsM_self _ (wsM_nin (by decide +kernel))) (wsM_self _ (wsM_nin (by decide +kernel))) (wsM_self _ (wsM_nin (by decide +kernel))) (wsM_self _ (wsM_cin (List.mem_of_getElem? (i := 1) rfl)))
theorem gX1_narrow_X1_sumNarrow : GoodIn wsM_narrow (wsV RX1 48 RX1 yX1_sumNarrow wsM_sumNarrow) := gm_V wsM_self (wsM_self _ (wsM_nin (by decide +kernel))) (wsM_self _ (wsM_nin (by decide +kernel))) (wsM_self _ (wsM_nin (by decide +kernel))) (wsM_self _ (wsM_nin (by decide +kernel))) (wsM_self _ (wsM_cin (List.mem_of_getElem? (i := 14) rfl)))
theorem gX1_narrowOf_X1_isPart : GoodIn wsM_narrowOf (wsV RX1 52 RX1 yX1_isPart wsM_isPart) := gm_V wsM_self (wsM_self _ (wsM_nin (by decide +kernel))) (wsM_self _ (wsM_nin (by decide +kernel))) (wsM_self _ (wsM_nin (by decide +kernel))) (wsM_self _ (wsM_nin (by decide +kernel))) (wsM_self _ (wsM_cin (List.mem_of_getElem? (i := 5) rfl)))
theorem gX1_narrowOf_X1_sumNarrow : GoodIn wsM_narrowOf (wsV RX1 48 RX1 yX1_sumNarrow wsM_sumNarrow) := gm_V wsM_self (wsM_self _ (wsM_nin (by decide +kernel))) (wsM_self _ (wsM_nin (by decide +kernel))) (wsM_self _ (wsM_nin (by decide +kernel))) (wsM_self _ (wsM_nin (by decide +kernel))) (wsM_self _ (wsM_cin (List.mem_of_getElem? (i := 14) rfl)))
theorem gX1_wideLane_X1_number : GoodIn wsM_wideLane (wsV RX1 31 RX1 yX1_number wsM_number) := gm_V wsM_self (wsM_self _ (wsM_nin (by decide +kernel))) (wsM_self _ (wsM_nin (by decide +kernel))) (wsM_self _ (wsM_nin (by decide +kernel))) (wsM_self _ (wsM_nin (by decide +kernel))) (wsM_self _ (wsM_cin (List.mem_of_getElem? (i := 8) rfl)))
theorem gX1_wideLane_X1_turned : GoodIn wsM_wideLane (va_wsS RX1 58 yX1_turned wsM_turned) := gm_S wsM_self (wsM_self _ (wsM_nin (by decide +kernel))) (wsM_self _ (wsM_nin (by decide +kernel))) (wsM_self _ (wsM_nin (by decide +kernel))) (wsM_self _ (wsM_cin (List.mem_of_getElem? (i := 17) rfl)))
theorem gX1_join_X1_turned : GoodIn wsM_join (va_wsS RX1 58 yX1_turned wsM_turned) := gm_S wsM_self (wsM_self _ (wsM_nin (by decide +kernel))) (wsM_self _ (wsM_nin (by decide +kernel))) (wsM_self _ (wsM_nin (by decide +kernel))) (wsM_self _ (wsM_cin (List.mem_of_getElem? (i := 17) rfl)))
theorem gX1_ofLanes_X1_wideLane : GoodIn wsM_ofLanes (wsV RX1 66 RX1 yX1_wideLane wsM_wideLane) := gm_V wsM_self (wsM_self _ (wsM_nin (by decide +kernel))) (wsM_self _ (wsM_nin (by decide +kernel))) (wsM_self _ (wsM_nin (by decide +kernel))) (wsM_self _ (wsM_nin (by decide +kernel))) (wsM_self _ (wsM_cin (List.mem_of_getElem? (i := 18) rfl)))
theorem gX1_ofLanes_X1_turned : GoodIn wsM_ofLanes (va_wsS RX1 58 yX1_turned wsM_turned) := gm_S wsM_self (wsM_self _ (wsM_nin (by decide +kernel))) (wsM_self _ (wsM_nin (by decide +kernel))) (wsM_self _ (wsM_nin (by decide +kernel))) (wsM_self _ (wsM_cin (List.mem_of_getElem? (i := 17) rfl)))
theorem gX1_ofLanes_X1_join : GoodIn wsM_ofLanes (va_wsS RX1 70 yX1_join wsM_join) := gm_S wsM_self (wsM_self _ (wsM_nin (by decide +kernel))) (wsM_self _ (wsM_nin (by decide +kernel))) (wsM_self _ (wsM_nin (by decide +kernel))) (wsM_self _ (wsM_cin (List.mem_of_getElem? (i := 6) rfl)))
theorem gX1_sumWide_X1_ofLanes : GoodIn wsM_sumWide (wsV RX1 74 RX1 yX1_ofLanes wsM_ofLanes) := gm_V wsM_self (wsM_self _ (wsM_nin (by decide +kernel))) (wsM_self _ (wsM_nin (by decide +kernel))) (wsM_self _ (wsM_nin (by decide +kernel))) (wsM_self _ (wsM_nin (by decide +kernel))) (wsM_self _ (wsM_cin (List.mem_of_getElem? (i := 9) rfl)))
theorem gX1_sumWide_X1_number : GoodIn wsM_sumWide (wsV RX1 31 RX1 yX1_number wsM_number) := gm_V wsM_self (wsM_self _ (wsM_nin (by decide +kernel))) (wsM_self _ (wsM_nin (by decide +kernel))) (wsM_self _ (wsM_nin (by decide +kernel))) (wsM_self _ (wsM_nin (by decide +kernel))) (wsM_self _ (wsM_cin (List.mem_of_getElem? (i := 8) rfl)))
theorem gX1_sumWide_X1_turned : GoodIn wsM_sumWide (va_wsS RX1 58 yX1_turned wsM_turned) := gm_S wsM_self (wsM_self _ (wsM_nin (by decide +kernel))) (wsM_self _ (wsM_nin (by decide +kernel))) (wsM_self _ (wsM_nin (by decide +kernel))) (wsM_self _ (wsM_cin (List.mem_of_getElem? (i := 17) rfl)))
theorem gX1_sumWide_X1_at : GoodIn wsM_sumWide (wsV RX1 27 RX1 yX1_at wsM_at) := gm_V wsM_self (wsM_self _ (wsM_nin (by decide +kernel))) (wsM_self _ (wsM_nin (by decide +kernel))) (wsM_self _ (wsM_nin (by decide +kernel))) (wsM_self _ (wsM_nin (by decide +kernel))) (wsM_self _ (wsM_cin (List.mem_of_getElem? (i := 1) rfl)))
theorem gX1_wide_X1_sumWide : GoodIn wsM_wide (wsV RX1 82 RX1 yX1_sumWide wsM_sumWide) := gm_V wsM_self (wsM_self _ (wsM_nin (by decide +kernel))) (wsM_self _ (wsM_nin (by decide +kernel))) (wsM_self _ (wsM_nin (by decide +kernel))) (wsM_self _ (wsM_nin (by decide +kernel))) (wsM_self _ (wsM_cin (List.mem_of_getElem? (i := 15) rfl)))
theorem gX1_wideOf_X1_isPart : GoodIn wsM_wideOf (wsV RX1 52 RX1 yX1_isPart wsM_isPart) := gm_V wsM_self (wsM_self _ (wsM_nin (by decide +kernel))) (wsM_self _ (wsM_nin (by decide +kernel))) (wsM_self _ (wsM_nin (by decide +kernel))) (wsM_self _ (wsM_nin (by decide +kernel))) (wsM_self _ (wsM_cin (List.mem_of_getElem? (i := 5) rfl)))
theorem gX1_wideOf_X1_sumWide : GoodIn wsM_wideOf (wsV RX1 82 RX1 yX1_sumWide wsM_sumWide) := gm_V wsM_self (wsM_self _ (wsM_nin (by decide +kernel))) (wsM_self _ (wsM_nin (by decide +kernel))) (wsM_self _ (wsM_nin (by decide +kernel))) (wsM_self _ (wsM_nin (by decide +kernel))) (wsM_self _ (wsM_cin (List.mem_of_getElem? (i := 15) rfl)))
theorem gX1_withByte_X1_right : GoodIn wsM_withByte (va_wsS RX1 86 yX1_right wsM_right) := gm_S wsM_self (wsM_self _ (wsM_nin (by decide +kernel))) (wsM_self _ (wsM_nin (by decide +kernel))) (wsM_self _ (wsM_nin (by decide +kernel))) (wsM_self _ (wsM_cin (List.mem_of_getElem? (i := 12) rfl)))
theorem gX1_back_X1_before : GoodIn wsM_back (va_wsS RX1 89 yX1_before wsM_before) := gm_S wsM_self (wsM_self _ (wsM_nin (by decide +kernel))) (wsM_self _ (wsM_nin (by decide +kernel))) (wsM_self _ (wsM_nin (by decide +kernel))) (wsM_self _ (wsM_cin (List.mem_of_getElem? (i := 3) rfl)))
theorem gX1_register_X1_at : GoodIn wsM_register (wsV RX1 27 RX1 yX1_at wsM_at) := gm_V wsM_self (wsM_self _ (wsM_nin (by decide +kernel))) (wsM_self _ (wsM_nin (by decide +kernel))) (wsM_self _ (wsM_nin (by decide +kernel))) (wsM_self _ (wsM_nin (by decide +kernel))) (wsM_self _ (wsM_cin (List.mem_of_getElem? (i := 1) rfl)))
theorem gX1_register_X1_withByte : GoodIn wsM_register (va_wsS RX1 92 yX1_withByte wsM_withByte) := gm_S wsM_self (wsM_self _ (wsM_nin (by decide +kernel))) (wsM_self _ (wsM_nin (by decide +kernel))) (wsM_self _ (wsM_nin (by decide +kernel))) (wsM_self _ (wsM_cin (List.mem_of_getElem? (i := 19) rfl)))
theorem gX1_poly_X1_register : GoodIn wsM_poly (wsV RX1 95 RX1 yX1_register wsM_register) := gm_V wsM_self (wsM_self _ (wsM_nin (by decide +kernel))) (wsM_self _ (wsM_nin (by decide +kernel))) (wsM_self _ (wsM_nin (by decide +kernel))) (wsM_self _ (wsM_nin (by decide +kernel))) (wsM_self _ (wsM_cin (List.mem_of_getElem? (i := 11) rfl)))
theorem gX1_polyOf_X1_isPart : GoodIn wsM_polyOf (wsV RX1 52 RX1 yX1_isPart wsM_isPart) := gm_V wsM_self (wsM_self _ (wsM_nin (by decide +kernel))) (wsM_self _ (wsM_nin (by decide +kernel))) (wsM_self _ (wsM_nin (by decide +kernel))) (wsM_self _ (wsM_nin (by decide +kernel))) (wsM_self _ (wsM_cin (List.mem_of_getElem? (i := 5) rfl)))
theorem gX1_polyOf_X1_register : GoodIn wsM_polyOf (wsV RX1 95 RX1 yX1_register wsM_register) := gm_V wsM_self (wsM_self _ (wsM_nin (by decide +kernel))) (wsM_self _ (wsM_nin (by decide +kernel))) (wsM_self _ (wsM_nin (by decide +kernel))) (wsM_self _ (wsM_nin (by decide +kernel))) (wsM_self _ (wsM_cin (List.mem_of_getElem? (i := 11) rfl)))
theorem gX1_masked_X1_rotated : GoodIn wsM_masked (va_wsS RX1 36 yX1_rotated wsM_rotated) := gm_S wsM_self (wsM_self _ (wsM_nin (by decide +kernel))) (wsM_self _ (wsM_nin (by decide +kernel))) (wsM_self _ (wsM_nin (by decide +kernel))) (wsM_self _ (wsM_cin (List.mem_of_getElem? (i := 13) rfl)))
theorem gX1_times_X1_right : GoodIn wsM_times (va_wsS RX1 86 yX1_right wsM_right) := gm_S wsM_self (wsM_self _ (wsM_nin (by decide +kernel))) (wsM_self _ (wsM_nin (by decide +kernel))) (wsM_self _ (wsM_nin (by decide +kernel))) (wsM_self _ (wsM_cin (List.mem_of_getElem? (i := 12) rfl)))
theorem gX1_power_X1_times : GoodIn wsM_power (va_wsS RX1 100 yX1_times wsM_times) := gm_S wsM_self (wsM_self _ (wsM_nin (by decide +kernel))) (wsM_self _ (wsM_nin (by decide +kernel))) (wsM_self _ (wsM_nin (by decide +kernel))) (wsM_self _ (wsM_cin (List.mem_of_getElem? (i := 16) rfl)))
theorem gX1_joined_X1_withByte : GoodIn wsM_joined (va_wsS RX1 92 yX1_withByte wsM_withByte) := gm_S wsM_self (wsM_self _ (wsM_nin (by decide +kernel))) (wsM_self _ (wsM_nin (by decide +kernel))) (wsM_self _ (wsM_nin (by decide +kernel))) (wsM_self _ (wsM_cin (List.mem_of_getElem? (i := 19) rfl)))
theorem gX1_joined_X1_power : GoodIn wsM_joined (va_wsS RX1 103 yX1_power wsM_power) := gm_S wsM_self (wsM_self _ (wsM_nin (by decide +kernel))) (wsM_self _ (wsM_nin (by decide +kernel))) (wsM_self _ (wsM_nin (by decide +kernel))) (wsM_self _ (wsM_cin (List.mem_of_getElem? (i := 10) rfl)))
theorem gX1_joined_X1_times : GoodIn wsM_joined (va_wsS RX1 100 yX1_times wsM_times) := gm_S wsM_self (wsM_self _ (wsM_nin (by decide +kernel))) (wsM_self _ (wsM_nin (by decide +kernel))) (wsM_self _ (wsM_nin (by decide +kernel))) (wsM_self _ (wsM_cin (List.mem_of_getElem? (i := 16) rfl)))
theorem gX1_cut_X1_back : GoodIn wsM_cut (va_wsS RX1 107 yX1_back wsM_back) := gm_S wsM_self (wsM_self _ (wsM_nin (by decide +kernel))) (wsM_self _ (wsM_nin (by decide +kernel))) (wsM_self _ (wsM_nin (by decide +kernel))) (wsM_self _ (wsM_cin (List.mem_of_getElem? (i := 2) rfl)))
theorem gX1_cut_X1_power : GoodIn wsM_cut (va_wsS RX1 103 yX1_power wsM_power) := gm_S wsM_self (wsM_self _ (wsM_nin (by decide +kernel))) (wsM_self _ (wsM_nin (by decide +kernel))) (wsM_self _ (wsM_nin (by decide +kernel))) (wsM_self _ (wsM_cin (List.mem_of_getElem? (i := 10) rfl)))
theorem gX1_cut_X1_times : GoodIn wsM_cut (va_wsS RX1 100 yX1_times wsM_times) := gm_S wsM_self (wsM_self _ (wsM_nin (by decide +kernel))) (wsM_self _ (wsM_nin (by decide +kernel))) (wsM_self _ (wsM_nin (by decide +kernel))) (wsM_self _ (wsM_cin (List.mem_of_getElem? (i := 16) rfl)))
theorem gX1_between_X1_back : GoodIn wsM_between (va_wsS RX1 107 yX1_back wsM_back) := gm_S wsM_self (wsM_self _ (wsM_nin (by decide +kernel))) (wsM_self _ (wsM_nin (by decide +kernel))) (wsM_self _ (wsM_nin (by decide +kernel))) (wsM_self _ (wsM_cin (List.mem_of_getElem? (i := 2) rfl)))
theorem gX1_forged_X1_register : GoodIn wsM_forged (wsV RX1 95 RX1 yX1_register wsM_register) := gm_V wsM_self (wsM_self _ (wsM_nin (by decide +kernel))) (wsM_self _ (wsM_nin (by decide +kernel))) (wsM_self _ (wsM_nin (by decide +kernel))) (wsM_self _ (wsM_nin (by decide +kernel))) (wsM_self _ (wsM_cin (List.mem_of_getElem? (i := 11) rfl)))
theorem gX1_forged_X1_between : GoodIn wsM_forged (va_wsS RX1 110 yX1_between wsM_between) := gm_S wsM_self (wsM_self _ (wsM_nin (by decide +kernel))) (wsM_self _ (wsM_nin (by decide +kernel))) (wsM_self _ (wsM_nin (by decide +kernel))) (wsM_self _ (wsM_cin (List.mem_of_getElem? (i := 4) rfl)))
theorem gX1_mended_X1_back : GoodIn wsM_mended (va_wsS RX1 107 yX1_back wsM_back) := gm_S wsM_self (wsM_self _ (wsM_nin (by decide +kernel))) (wsM_self _ (wsM_nin (by decide +kernel))) (wsM_self _ (wsM_nin (by decide +kernel))) (wsM_self _ (wsM_cin (List.mem_of_getElem? (i := 2) rfl)))
theorem gX1_mended_X1_at : GoodIn wsM_mended (wsV RX1 27 RX1 yX1_at wsM_at) := gm_V wsM_self (wsM_self _ (wsM_nin (by decide +kernel))) (wsM_self _ (wsM_nin (by decide +kernel))) (wsM_self _ (wsM_nin (by decide +kernel))) (wsM_self _ (wsM_nin (by decide +kernel))) (wsM_self _ (wsM_cin (List.mem_of_getElem? (i := 1) rfl)))
theorem gX1_mended_X1_register : GoodIn wsM_mended (wsV RX1 95 RX1 yX1_register wsM_register) := gm_V wsM_self (wsM_self _ (wsM_nin (by decide +kernel))) (wsM_self _ (wsM_nin (by decide +kernel))) (wsM_self _ (wsM_nin (by decide +kernel))) (wsM_self _ (wsM_nin (by decide +kernel))) (wsM_self _ (wsM_cin (List.mem_of_getElem? (i := 11) rfl)))
theorem gX1_mended_X1_between : GoodIn wsM_mended (va_wsS RX1 110 yX1_between wsM_between) := gm_S wsM_self (wsM_self _ (wsM_nin (by decide +kernel))) (wsM_self _ (wsM_nin (by decide +kernel))) (wsM_self _ (wsM_nin (by decide +kernel))) (wsM_self _ (wsM_cin (List.mem_of_getElem? (i := 4) rfl)))
theorem dX1_isPart_0 : decode cX1_isPart 0 = .ok (.iload_n 1, 1) := by decide +kernel
theorem dX1_isPart_1 : decode cX1_isPart 1 = .ok (.ifCond .lt 20, 3) := by decide +kernel
theorem dX1_isPart_4 : decode cX1_isPart 4 = .ok (.iload_n 1, 1) := by decide +kernel
theorem dX1_isPart_5 : decode cX1_isPart 5 = .ok (.iload_n 2, 1) := by decide +kernel
theorem dX1_isPart_6 : decode cX1_isPart 6 = .ok (.if_icmp .gt 15, 3) := by decide +kernel
theorem dX1_isPart_9 : decode cX1_isPart 9 = .ok (.iload_n 2, 1) := by decide +kernel
theorem dX1_isPart_10 : decode cX1_isPart 10 = .ok (.aload_n 0, 1) := by decide +kernel
theorem dX1_isPart_11 : decode cX1_isPart 11 = .ok (.getfield 14, 3) := by decide +kernel
theorem dX1_isPart_14 : decode cX1_isPart 14 = .ok (.if_icmp .gt 7, 3) := by decide +kernel
theorem dX1_isPart_17 : decode cX1_isPart 17 = .ok (.iconst 1, 1) := by decide +kernel
theorem dX1_isPart_18 : decode cX1_isPart 18 = .ok (.goto 4, 3) := by decide +kernel
theorem dX1_isPart_21 : decode cX1_isPart 21 = .ok (.iconst 0, 1) := by decide +kernel
theorem dX1_isPart_22 : decode cX1_isPart 22 = .ok (.ireturn, 1) := by decide +kernel
theorem dX1_number_0 : decode cX1_number 0 = .ok (.lconst 0, 1) := by decide +kernel
theorem dX1_number_1 : decode cX1_number 1 = .ok (.lstore_n 3, 1) := by decide +kernel
theorem dX1_number_2 : decode cX1_number 2 = .ok (.iconst 0, 1) := by decide +kernel
theorem dX1_number_3 : decode cX1_number 3 = .ok (.istore 5, 2) := by decide +kernel
theorem dX1_number_5 : decode cX1_number 5 = .ok (.iload 5, 2) := by decide +kernel
theorem dX1_number_7 : decode cX1_number 7 = .ok (.iload_n 2, 1) := by decide +kernel
theorem dX1_number_8 : decode cX1_number 8 = .ok (.if_icmp .ge 27, 3) := by decide +kernel
theorem dX1_number_11 : decode cX1_number 11 = .ok (.lload_n 3, 1) := by decide +kernel
theorem dX1_number_12 : decode cX1_number 12 = .ok (.aload_n 0, 1) := by decide +kernel
theorem dX1_number_13 : decode cX1_number 13 = .ok (.iload_n 1, 1) := by decide +kernel
theorem dX1_number_14 : decode cX1_number 14 = .ok (.iload 5, 2) := by decide +kernel
theorem dX1_number_16 : decode cX1_number 16 = .ok (.iadd, 1) := by decide +kernel
theorem dX1_number_17 : decode cX1_number 17 = .ok (.invokevirtual 27, 3) := by decide +kernel
theorem dX1_number_20 : decode cX1_number 20 = .ok (.i2l, 1) := by decide +kernel
theorem dX1_number_21 : decode cX1_number 21 = .ok (.bipush 8, 2) := by decide +kernel
theorem dX1_number_23 : decode cX1_number 23 = .ok (.iload 5, 2) := by decide +kernel
theorem dX1_number_25 : decode cX1_number 25 = .ok (.imul, 1) := by decide +kernel
theorem dX1_number_26 : decode cX1_number 26 = .ok (.lshl, 1) := by decide +kernel
theorem dX1_number_27 : decode cX1_number 27 = .ok (.lor, 1) := by decide +kernel
theorem dX1_number_28 : decode cX1_number 28 = .ok (.lstore_n 3, 1) := by decide +kernel
theorem dX1_number_29 : decode cX1_number 29 = .ok (.iinc 5 1, 3) := by decide +kernel
theorem dX1_number_32 : decode cX1_number 32 = .ok (.goto (-27), 3) := by decide +kernel
theorem dX1_number_35 : decode cX1_number 35 = .ok (.lload_n 3, 1) := by decide +kernel
theorem dX1_number_36 : decode cX1_number 36 = .ok (.lreturn, 1) := by decide +kernel
theorem dX1_rotated_0 : decode cX1_rotated 0 = .ok (.iload_n 0, 1) := by decide +kernel
theorem dX1_rotated_1 : decode cX1_rotated 1 = .ok (.iload_n 1, 1) := by decide +kernel
theorem dX1_rotated_2 : decode cX1_rotated 2 = .ok (.ishl, 1) := by decide +kernel
theorem dX1_rotated_3 : decode cX1_rotated 3 = .ok (.iload_n 0, 1) := by decide +kernel
theorem dX1_rotated_4 : decode cX1_rotated 4 = .ok (.bipush 32, 2) := by decide +kernel
theorem dX1_rotated_6 : decode cX1_rotated 6 = .ok (.iload_n 1, 1) := by decide +kernel
theorem dX1_rotated_7 : decode cX1_rotated 7 = .ok (.isub, 1) := by decide +kernel
theorem dX1_rotated_8 : decode cX1_rotated 8 = .ok (.iushr, 1) := by decide +kernel
theorem dX1_rotated_9 : decode cX1_rotated 9 = .ok (.ior, 1) := by decide +kernel
theorem dX1_rotated_10 : decode cX1_rotated 10 = .ok (.ireturn, 1) := by decide +kernel
theorem dX1_lane_0 : decode cX1_lane 0 = .ok (.iload_n 1, 1) := by decide +kernel
theorem dX1_lane_1 : decode cX1_lane 1 = .ok (.istore 5, 2) := by decide +kernel
theorem dX1_lane_3 : decode cX1_lane 3 = .ok (.iload_n 2, 1) := by decide +kernel
theorem dX1_lane_4 : decode cX1_lane 4 = .ok (.istore 6, 2) := by decide +kernel
theorem dX1_lane_6 : decode cX1_lane 6 = .ok (.iload_n 3, 1) := by decide +kernel
theorem dX1_lane_7 : decode cX1_lane 7 = .ok (.iload 6, 2) := by decide +kernel
theorem dX1_lane_9 : decode cX1_lane 9 = .ok (.isub, 1) := by decide +kernel
theorem dX1_lane_10 : decode cX1_lane 10 = .ok (.bipush 16, 2) := by decide +kernel
theorem dX1_lane_12 : decode cX1_lane 12 = .ok (.if_icmp .lt 38, 3) := by decide +kernel
theorem dX1_lane_15 : decode cX1_lane 15 = .ok (.iload 5, 2) := by decide +kernel
theorem dX1_lane_17 : decode cX1_lane 17 = .ok (.aload_n 0, 1) := by decide +kernel
theorem dX1_lane_18 : decode cX1_lane 18 = .ok (.iload 6, 2) := by decide +kernel
theorem dX1_lane_20 : decode cX1_lane 20 = .ok (.iconst 4, 1) := by decide +kernel
theorem dX1_lane_21 : decode cX1_lane 21 = .ok (.iload 4, 2) := by decide +kernel
theorem dX1_lane_23 : decode cX1_lane 23 = .ok (.imul, 1) := by decide +kernel
theorem dX1_lane_24 : decode cX1_lane 24 = .ok (.iadd, 1) := by decide +kernel
theorem dX1_lane_25 : decode cX1_lane 25 = .ok (.iconst 4, 1) := by decide +kernel
theorem dX1_lane_26 : decode cX1_lane 26 = .ok (.invokevirtual 31, 3) := by decide +kernel
theorem dX1_lane_29 : decode cX1_lane 29 = .ok (.l2i, 1) := by decide +kernel
theorem dX1_lane_30 : decode cX1_lane 30 = .ok (.ldc 35, 2) := by decide +kernel
theorem dX1_lane_32 : decode cX1_lane 32 = .ok (.imul, 1) := by decide +kernel
theorem dX1_lane_33 : decode cX1_lane 33 = .ok (.iadd, 1) := by decide +kernel
theorem dX1_lane_34 : decode cX1_lane 34 = .ok (.bipush 13, 2) := by decide +kernel
theorem dX1_lane_36 : decode cX1_lane 36 = .ok (.invokestatic 36, 3) := by decide +kernel
theorem dX1_lane_39 : decode cX1_lane 39 = .ok (.ldc 40, 2) := by decide +kernel
theorem dX1_lane_41 : decode cX1_lane 41 = .ok (.imul, 1) := by decide +kernel
theorem dX1_lane_42 : decode cX1_lane 42 = .ok (.istore 5, 2) := by decide +kernel
theorem dX1_lane_44 : decode cX1_lane 44 = .ok (.iinc 6 16, 3) := by decide +kernel
theorem dX1_lane_47 : decode cX1_lane 47 = .ok (.goto (-41), 3) := by decide +kernel
theorem dX1_lane_50 : decode cX1_lane 50 = .ok (.iload 5, 2) := by decide +kernel
theorem dX1_lane_52 : decode cX1_lane 52 = .ok (.ireturn, 1) := by decide +kernel
theorem dX1_sumNarrow_0 : decode cX1_sumNarrow 0 = .ok (.iload_n 2, 1) := by decide +kernel
theorem dX1_sumNarrow_1 : decode cX1_sumNarrow 1 = .ok (.iload_n 1, 1) := by decide +kernel
theorem dX1_sumNarrow_2 : decode cX1_sumNarrow 2 = .ok (.isub, 1) := by decide +kernel
theorem dX1_sumNarrow_3 : decode cX1_sumNarrow 3 = .ok (.istore 4, 2) := by decide +kernel
theorem dX1_sumNarrow_5 : decode cX1_sumNarrow 5 = .ok (.iload_n 3, 1) := by decide +kernel
theorem dX1_sumNarrow_6 : decode cX1_sumNarrow 6 = .ok (.ldc 41, 2) := by decide +kernel
theorem dX1_sumNarrow_8 : decode cX1_sumNarrow 8 = .ok (.iadd, 1) := by decide +kernel
theorem dX1_sumNarrow_9 : decode cX1_sumNarrow 9 = .ok (.istore 5, 2) := by decide +kernel
theorem dX1_sumNarrow_11 : decode cX1_sumNarrow 11 = .ok (.iload_n 1, 1) := by decide +kernel
theorem dX1_sumNarrow_12 : decode cX1_sumNarrow 12 = .ok (.istore 6, 2) := by decide +kernel
theorem dX1_sumNarrow_14 : decode cX1_sumNarrow 14 = .ok (.iload 4, 2) := by decide +kernel
theorem dX1_sumNarrow_16 : decode cX1_sumNarrow 16 = .ok (.bipush 16, 2) := by decide +kernel
theorem dX1_sumNarrow_18 : decode cX1_sumNarrow 18 = .ok (.if_icmp .lt 84, 3) := by decide +kernel
theorem dX1_sumNarrow_21 : decode cX1_sumNarrow 21 = .ok (.aload_n 0, 1) := by decide +kernel
theorem dX1_sumNarrow_22 : decode cX1_sumNarrow 22 = .ok (.iload_n 3, 1) := by decide +kernel
theorem dX1_sumNarrow_23 : decode cX1_sumNarrow 23 = .ok (.ldc 40, 2) := by decide +kernel
theorem dX1_sumNarrow_25 : decode cX1_sumNarrow 25 = .ok (.iadd, 1) := by decide +kernel
theorem dX1_sumNarrow_26 : decode cX1_sumNarrow 26 = .ok (.ldc 35, 2) := by decide +kernel
theorem dX1_sumNarrow_28 : decode cX1_sumNarrow 28 = .ok (.iadd, 1) := by decide +kernel
theorem dX1_sumNarrow_29 : decode cX1_sumNarrow 29 = .ok (.iload_n 1, 1) := by decide +kernel
theorem dX1_sumNarrow_30 : decode cX1_sumNarrow 30 = .ok (.iload_n 2, 1) := by decide +kernel
theorem dX1_sumNarrow_31 : decode cX1_sumNarrow 31 = .ok (.iconst 0, 1) := by decide +kernel
theorem dX1_sumNarrow_32 : decode cX1_sumNarrow 32 = .ok (.invokevirtual 42, 3) := by decide +kernel
theorem dX1_sumNarrow_35 : decode cX1_sumNarrow 35 = .ok (.iconst 1, 1) := by decide +kernel
theorem dX1_sumNarrow_36 : decode cX1_sumNarrow 36 = .ok (.invokestatic 36, 3) := by decide +kernel
theorem dX1_sumNarrow_39 : decode cX1_sumNarrow 39 = .ok (.aload_n 0, 1) := by decide +kernel
theorem dX1_sumNarrow_40 : decode cX1_sumNarrow 40 = .ok (.iload_n 3, 1) := by decide +kernel
theorem dX1_sumNarrow_41 : decode cX1_sumNarrow 41 = .ok (.ldc 35, 2) := by decide +kernel
theorem dX1_sumNarrow_43 : decode cX1_sumNarrow 43 = .ok (.iadd, 1) := by decide +kernel
theorem dX1_sumNarrow_44 : decode cX1_sumNarrow 44 = .ok (.iload_n 1, 1) := by decide +kernel
theorem dX1_sumNarrow_45 : decode cX1_sumNarrow 45 = .ok (.iload_n 2, 1) := by decide +kernel
theorem dX1_sumNarrow_46 : decode cX1_sumNarrow 46 = .ok (.iconst 1, 1) := by decide +kernel
theorem dX1_sumNarrow_47 : decode cX1_sumNarrow 47 = .ok (.invokevirtual 42, 3) := by decide +kernel
theorem dX1_sumNarrow_50 : decode cX1_sumNarrow 50 = .ok (.bipush 7, 2) := by decide +kernel
theorem dX1_sumNarrow_52 : decode cX1_sumNarrow 52 = .ok (.invokestatic 36, 3) := by decide +kernel
theorem dX1_sumNarrow_55 : decode cX1_sumNarrow 55 = .ok (.iadd, 1) := by decide +kernel
theorem dX1_sumNarrow_56 : decode cX1_sumNarrow 56 = .ok (.istore 5, 2) := by decide +kernel
theorem dX1_sumNarrow_58 : decode cX1_sumNarrow 58 = .ok (.iload 5, 2) := by decide +kernel
theorem dX1_sumNarrow_60 : decode cX1_sumNarrow 60 = .ok (.aload_n 0, 1) := by decide +kernel
theorem dX1_sumNarrow_61 : decode cX1_sumNarrow 61 = .ok (.iload_n 3, 1) := by decide +kernel
theorem dX1_sumNarrow_62 : decode cX1_sumNarrow 62 = .ok (.iload_n 1, 1) := by decide +kernel
theorem dX1_sumNarrow_63 : decode cX1_sumNarrow 63 = .ok (.iload_n 2, 1) := by decide +kernel
theorem dX1_sumNarrow_64 : decode cX1_sumNarrow 64 = .ok (.iconst 2, 1) := by decide +kernel
theorem dX1_sumNarrow_65 : decode cX1_sumNarrow 65 = .ok (.invokevirtual 42, 3) := by decide +kernel
theorem dX1_sumNarrow_68 : decode cX1_sumNarrow 68 = .ok (.bipush 12, 2) := by decide +kernel
theorem dX1_sumNarrow_70 : decode cX1_sumNarrow 70 = .ok (.invokestatic 36, 3) := by decide +kernel
theorem dX1_sumNarrow_73 : decode cX1_sumNarrow 73 = .ok (.aload_n 0, 1) := by decide +kernel
theorem dX1_sumNarrow_74 : decode cX1_sumNarrow 74 = .ok (.iload_n 3, 1) := by decide +kernel
theorem dX1_sumNarrow_75 : decode cX1_sumNarrow 75 = .ok (.ldc 40, 2) := by decide +kernel
theorem dX1_sumNarrow_77 : decode cX1_sumNarrow 77 = .ok (.isub, 1) := by decide +kernel
theorem dX1_sumNarrow_78 : decode cX1_sumNarrow 78 = .ok (.iload_n 1, 1) := by decide +kernel
theorem dX1_sumNarrow_79 : decode cX1_sumNarrow 79 = .ok (.iload_n 2, 1) := by decide +kernel
theorem dX1_sumNarrow_80 : decode cX1_sumNarrow 80 = .ok (.iconst 3, 1) := by decide +kernel
theorem dX1_sumNarrow_81 : decode cX1_sumNarrow 81 = .ok (.invokevirtual 42, 3) := by decide +kernel
theorem dX1_sumNarrow_84 : decode cX1_sumNarrow 84 = .ok (.bipush 18, 2) := by decide +kernel
theorem dX1_sumNarrow_86 : decode cX1_sumNarrow 86 = .ok (.invokestatic 36, 3) := by decide +kernel
theorem dX1_sumNarrow_89 : decode cX1_sumNarrow 89 = .ok (.iadd, 1) := by decide +kernel
theorem dX1_sumNarrow_90 : decode cX1_sumNarrow 90 = .ok (.iadd, 1) := by decide +kernel
theorem dX1_sumNarrow_91 : decode cX1_sumNarrow 91 = .ok (.istore 5, 2) := by decide +kernel
theorem dX1_sumNarrow_93 : decode cX1_sumNarrow 93 = .ok (.iload_n 2, 1) := by decide +kernel
theorem dX1_sumNarrow_94 : decode cX1_sumNarrow 94 = .ok (.iload 4, 2) := by decide +kernel
theorem dX1_sumNarrow_96 : decode cX1_sumNarrow 96 = .ok (.bipush 16, 2) := by decide +kernel
theorem dX1_sumNarrow_98 : decode cX1_sumNarrow 98 = .ok (.irem, 1) := by decide +kernel
theorem dX1_sumNarrow_99 : decode cX1_sumNarrow 99 = .ok (.isub, 1) := by decide +kernel
theorem dX1_sumNarrow_100 : decode cX1_sumNarrow 100 = .ok (.istore 6, 2) := by decide +kernel
theorem dX1_sumNarrow_102 : decode cX1_sumNarrow 102 = .ok (.iload 5, 2) := by decide +kernel
theorem dX1_sumNarrow_104 : decode cX1_sumNarrow 104 = .ok (.iload 4, 2) := by decide +kernel
theorem dX1_sumNarrow_106 : decode cX1_sumNarrow 106 = .ok (.iadd, 1) := by decide +kernel
theorem dX1_sumNarrow_107 : decode cX1_sumNarrow 107 = .ok (.istore 5, 2) := by decide +kernel
theorem dX1_sumNarrow_109 : decode cX1_sumNarrow 109 = .ok (.iconst 0, 1) := by decide +kernel
theorem dX1_sumNarrow_110 : decode cX1_sumNarrow 110 = .ok (.istore 7, 2) := by decide +kernel
theorem dX1_sumNarrow_112 : decode cX1_sumNarrow 112 = .ok (.iload 7, 2) := by decide +kernel
theorem dX1_sumNarrow_114 : decode cX1_sumNarrow 114 = .ok (.iconst 3, 1) := by decide +kernel
theorem dX1_sumNarrow_115 : decode cX1_sumNarrow 115 = .ok (.if_icmp .ge 44, 3) := by decide +kernel
theorem dX1_sumNarrow_118 : decode cX1_sumNarrow 118 = .ok (.iload_n 2, 1) := by decide +kernel
theorem dX1_sumNarrow_119 : decode cX1_sumNarrow 119 = .ok (.iload 6, 2) := by decide +kernel
theorem dX1_sumNarrow_121 : decode cX1_sumNarrow 121 = .ok (.isub, 1) := by decide +kernel
theorem dX1_sumNarrow_122 : decode cX1_sumNarrow 122 = .ok (.iconst 4, 1) := by decide +kernel
theorem dX1_sumNarrow_123 : decode cX1_sumNarrow 123 = .ok (.if_icmp .lt 36, 3) := by decide +kernel
theorem dX1_sumNarrow_126 : decode cX1_sumNarrow 126 = .ok (.iload 5, 2) := by decide +kernel
theorem dX1_sumNarrow_128 : decode cX1_sumNarrow 128 = .ok (.aload_n 0, 1) := by decide +kernel
theorem dX1_sumNarrow_129 : decode cX1_sumNarrow 129 = .ok (.iload 6, 2) := by decide +kernel
theorem dX1_sumNarrow_131 : decode cX1_sumNarrow 131 = .ok (.iconst 4, 1) := by decide +kernel
theorem dX1_sumNarrow_132 : decode cX1_sumNarrow 132 = .ok (.invokevirtual 31, 3) := by decide +kernel
theorem dX1_sumNarrow_135 : decode cX1_sumNarrow 135 = .ok (.l2i, 1) := by decide +kernel
theorem dX1_sumNarrow_136 : decode cX1_sumNarrow 136 = .ok (.ldc 46, 2) := by decide +kernel
theorem dX1_sumNarrow_138 : decode cX1_sumNarrow 138 = .ok (.imul, 1) := by decide +kernel
theorem dX1_sumNarrow_139 : decode cX1_sumNarrow 139 = .ok (.iadd, 1) := by decide +kernel
theorem dX1_sumNarrow_140 : decode cX1_sumNarrow 140 = .ok (.bipush 17, 2) := by decide +kernel
theorem dX1_sumNarrow_142 : decode cX1_sumNarrow 142 = .ok (.invokestatic 36, 3) := by decide +kernel
theorem dX1_sumNarrow_145 : decode cX1_sumNarrow 145 = .ok (.ldc 47, 2) := by decide +kernel
theorem dX1_sumNarrow_147 : decode cX1_sumNarrow 147 = .ok (.imul, 1) := by decide +kernel
theorem dX1_sumNarrow_148 : decode cX1_sumNarrow 148 = .ok (.istore 5, 2) := by decide +kernel
theorem dX1_sumNarrow_150 : decode cX1_sumNarrow 150 = .ok (.iinc 6 4, 3) := by decide +kernel
theorem dX1_sumNarrow_153 : decode cX1_sumNarrow 153 = .ok (.iinc 7 1, 3) := by decide +kernel
theorem dX1_sumNarrow_156 : decode cX1_sumNarrow 156 = .ok (.goto (-44), 3) := by decide +kernel
theorem dX1_sumNarrow_159 : decode cX1_sumNarrow 159 = .ok (.iload 6, 2) := by decide +kernel
theorem dX1_sumNarrow_161 : decode cX1_sumNarrow 161 = .ok (.istore 7, 2) := by decide +kernel
theorem dX1_sumNarrow_163 : decode cX1_sumNarrow 163 = .ok (.iload 7, 2) := by decide +kernel
theorem dX1_sumNarrow_165 : decode cX1_sumNarrow 165 = .ok (.iload_n 2, 1) := by decide +kernel
theorem dX1_sumNarrow_166 : decode cX1_sumNarrow 166 = .ok (.if_icmp .ge 31, 3) := by decide +kernel
theorem dX1_sumNarrow_169 : decode cX1_sumNarrow 169 = .ok (.iload 5, 2) := by decide +kernel
theorem dX1_sumNarrow_171 : decode cX1_sumNarrow 171 = .ok (.aload_n 0, 1) := by decide +kernel
theorem dX1_sumNarrow_172 : decode cX1_sumNarrow 172 = .ok (.iload 7, 2) := by decide +kernel
theorem dX1_sumNarrow_174 : decode cX1_sumNarrow 174 = .ok (.invokevirtual 27, 3) := by decide +kernel
theorem dX1_sumNarrow_177 : decode cX1_sumNarrow 177 = .ok (.ldc 41, 2) := by decide +kernel
theorem dX1_sumNarrow_179 : decode cX1_sumNarrow 179 = .ok (.imul, 1) := by decide +kernel
theorem dX1_sumNarrow_180 : decode cX1_sumNarrow 180 = .ok (.iadd, 1) := by decide +kernel
theorem dX1_sumNarrow_181 : decode cX1_sumNarrow 181 = .ok (.bipush 11, 2) := by decide +kernel
theorem dX1_sumNarrow_183 : decode cX1_sumNarrow 183 = .ok (.invokestatic 36, 3) := by decide +kernel
theorem dX1_sumNarrow_186 : decode cX1_sumNarrow 186 = .ok (.ldc 40, 2) := by decide +kernel
theorem dX1_sumNarrow_188 : decode cX1_sumNarrow 188 = .ok (.imul, 1) := by decide +kernel
theorem dX1_sumNarrow_189 : decode cX1_sumNarrow 189 = .ok (.istore 5, 2) := by decide +kernel
theorem dX1_sumNarrow_191 : decode cX1_sumNarrow 191 = .ok (.iinc 7 1, 3) := by decide +kernel
theorem dX1_sumNarrow_194 : decode cX1_sumNarrow 194 = .ok (.goto (-31), 3) := by decide +kernel
theorem dX1_sumNarrow_197 : decode cX1_sumNarrow 197 = .ok (.iload 5, 2) := by decide +kernel
theorem dX1_sumNarrow_199 : decode cX1_sumNarrow 199 = .ok (.iload 5, 2) := by decide +kernel
theorem dX1_sumNarrow_201 : decode cX1_sumNarrow 201 = .ok (.bipush 15, 2) := by decide +kernel
theorem dX1_sumNarrow_203 : decode cX1_sumNarrow 203 = .ok (.iushr, 1) := by decide +kernel
theorem dX1_sumNarrow_204 : decode cX1_sumNarrow 204 = .ok (.ixor, 1) := by decide +kernel
theorem dX1_sumNarrow_205 : decode cX1_sumNarrow 205 = .ok (.ldc 35, 2) := by decide +kernel
theorem dX1_sumNarrow_207 : decode cX1_sumNarrow 207 = .ok (.imul, 1) := by decide +kernel
theorem dX1_sumNarrow_208 : decode cX1_sumNarrow 208 = .ok (.istore 5, 2) := by decide +kernel
theorem dX1_sumNarrow_210 : decode cX1_sumNarrow 210 = .ok (.iload 5, 2) := by decide +kernel
theorem dX1_sumNarrow_212 : decode cX1_sumNarrow 212 = .ok (.iload 5, 2) := by decide +kernel
theorem dX1_sumNarrow_214 : decode cX1_sumNarrow 214 = .ok (.bipush 13, 2) := by decide +kernel
theorem dX1_sumNarrow_216 : decode cX1_sumNarrow 216 = .ok (.iushr, 1) := by decide +kernel
theorem dX1_sumNarrow_217 : decode cX1_sumNarrow 217 = .ok (.ixor, 1) := by decide +kernel
theorem dX1_sumNarrow_218 : decode cX1_sumNarrow 218 = .ok (.ldc 46, 2) := by decide +kernel
theorem dX1_sumNarrow_220 : decode cX1_sumNarrow 220 = .ok (.imul, 1) := by decide +kernel
theorem dX1_sumNarrow_221 : decode cX1_sumNarrow 221 = .ok (.istore 5, 2) := by decide +kernel
theorem dX1_sumNarrow_223 : decode cX1_sumNarrow 223 = .ok (.iload 5, 2) := by decide +kernel
theorem dX1_sumNarrow_225 : decode cX1_sumNarrow 225 = .ok (.iload 5, 2) := by decide +kernel
theorem dX1_sumNarrow_227 : decode cX1_sumNarrow 227 = .ok (.bipush 16, 2) := by decide +kernel
theorem dX1_sumNarrow_229 : decode cX1_sumNarrow 229 = .ok (.iushr, 1) := by decide +kernel
theorem dX1_sumNarrow_230 : decode cX1_sumNarrow 230 = .ok (.ixor, 1) := by decide +kernel
theorem dX1_sumNarrow_231 : decode cX1_sumNarrow 231 = .ok (.ireturn, 1) := by decide +kernel
theorem dX1_narrow_0 : decode cX1_narrow 0 = .ok (.aload_n 0, 1) := by decide +kernel
theorem dX1_narrow_1 : decode cX1_narrow 1 = .ok (.iconst 0, 1) := by decide +kernel
theorem dX1_narrow_2 : decode cX1_narrow 2 = .ok (.aload_n 0, 1) := by decide +kernel
theorem dX1_narrow_3 : decode cX1_narrow 3 = .ok (.getfield 14, 3) := by decide +kernel
theorem dX1_narrow_6 : decode cX1_narrow 6 = .ok (.aload_n 0, 1) := by decide +kernel
theorem dX1_narrow_7 : decode cX1_narrow 7 = .ok (.getfield 18, 3) := by decide +kernel
theorem dX1_narrow_10 : decode cX1_narrow 10 = .ok (.invokevirtual 48, 3) := by decide +kernel
theorem dX1_narrow_13 : decode cX1_narrow 13 = .ok (.ireturn, 1) := by decide +kernel
theorem dX1_narrowOf_0 : decode cX1_narrowOf 0 = .ok (.aload_n 0, 1) := by decide +kernel
theorem dX1_narrowOf_1 : decode cX1_narrowOf 1 = .ok (.iload_n 1, 1) := by decide +kernel
theorem dX1_narrowOf_2 : decode cX1_narrowOf 2 = .ok (.iload_n 2, 1) := by decide +kernel
theorem dX1_narrowOf_3 : decode cX1_narrowOf 3 = .ok (.invokevirtual 52, 3) := by decide +kernel
theorem dX1_narrowOf_6 : decode cX1_narrowOf 6 = .ok (.ifCond .eq 13, 3) := by decide +kernel
theorem dX1_narrowOf_9 : decode cX1_narrowOf 9 = .ok (.aload_n 0, 1) := by decide +kernel
theorem dX1_narrowOf_10 : decode cX1_narrowOf 10 = .ok (.iload_n 1, 1) := by decide +kernel
theorem dX1_narrowOf_11 : decode cX1_narrowOf 11 = .ok (.iload_n 2, 1) := by decide +kernel
theorem dX1_narrowOf_12 : decode cX1_narrowOf 12 = .ok (.iload_n 3, 1) := by decide +kernel
theorem dX1_narrowOf_13 : decode cX1_narrowOf 13 = .ok (.invokevirtual 48, 3) := by decide +kernel
theorem dX1_narrowOf_16 : decode cX1_narrowOf 16 = .ok (.goto 10, 3) := by decide +kernel
theorem dX1_narrowOf_19 : decode cX1_narrowOf 19 = .ok (.aload_n 0, 1) := by decide +kernel
theorem dX1_narrowOf_20 : decode cX1_narrowOf 20 = .ok (.iconst 0, 1) := by decide +kernel
theorem dX1_narrowOf_21 : decode cX1_narrowOf 21 = .ok (.iconst 0, 1) := by decide +kernel
theorem dX1_narrowOf_22 : decode cX1_narrowOf 22 = .ok (.iload_n 3, 1) := by decide +kernel
theorem dX1_narrowOf_23 : decode cX1_narrowOf 23 = .ok (.invokevirtual 48, 3) := by decide +kernel
theorem dX1_narrowOf_26 : decode cX1_narrowOf 26 = .ok (.ireturn, 1) := by decide +kernel
theorem dX1_turned_0 : decode cX1_turned 0 = .ok (.lload_n 0, 1) := by decide +kernel
theorem dX1_turned_1 : decode cX1_turned 1 = .ok (.iload_n 2, 1) := by decide +kernel
theorem dX1_turned_2 : decode cX1_turned 2 = .ok (.lshl, 1) := by decide +kernel
theorem dX1_turned_3 : decode cX1_turned 3 = .ok (.lload_n 0, 1) := by decide +kernel
theorem dX1_turned_4 : decode cX1_turned 4 = .ok (.bipush 64, 2) := by decide +kernel
theorem dX1_turned_6 : decode cX1_turned 6 = .ok (.iload_n 2, 1) := by decide +kernel
theorem dX1_turned_7 : decode cX1_turned 7 = .ok (.isub, 1) := by decide +kernel
theorem dX1_turned_8 : decode cX1_turned 8 = .ok (.lushr, 1) := by decide +kernel
theorem dX1_turned_9 : decode cX1_turned 9 = .ok (.lor, 1) := by decide +kernel
theorem dX1_turned_10 : decode cX1_turned 10 = .ok (.lreturn, 1) := by decide +kernel
theorem dX1_wideLane_0 : decode cX1_wideLane 0 = .ok (.lload_n 1, 1) := by decide +kernel
theorem dX1_wideLane_1 : decode cX1_wideLane 1 = .ok (.lstore 6, 2) := by decide +kernel
theorem dX1_wideLane_3 : decode cX1_wideLane 3 = .ok (.iload_n 3, 1) := by decide +kernel
theorem dX1_wideLane_4 : decode cX1_wideLane 4 = .ok (.istore 8, 2) := by decide +kernel
theorem dX1_wideLane_6 : decode cX1_wideLane 6 = .ok (.iload 4, 2) := by decide +kernel
theorem dX1_wideLane_8 : decode cX1_wideLane 8 = .ok (.iload 8, 2) := by decide +kernel
theorem dX1_wideLane_10 : decode cX1_wideLane 10 = .ok (.isub, 1) := by decide +kernel
theorem dX1_wideLane_11 : decode cX1_wideLane 11 = .ok (.bipush 32, 2) := by decide +kernel
theorem dX1_wideLane_13 : decode cX1_wideLane 13 = .ok (.if_icmp .lt 41, 3) := by decide +kernel
theorem dX1_wideLane_16 : decode cX1_wideLane 16 = .ok (.lload 6, 2) := by decide +kernel
theorem dX1_wideLane_18 : decode cX1_wideLane 18 = .ok (.aload_n 0, 1) := by decide +kernel
theorem dX1_wideLane_19 : decode cX1_wideLane 19 = .ok (.iload 8, 2) := by decide +kernel
theorem dX1_wideLane_21 : decode cX1_wideLane 21 = .ok (.bipush 8, 2) := by decide +kernel
theorem dX1_wideLane_23 : decode cX1_wideLane 23 = .ok (.iload 5, 2) := by decide +kernel
theorem dX1_wideLane_25 : decode cX1_wideLane 25 = .ok (.imul, 1) := by decide +kernel
theorem dX1_wideLane_26 : decode cX1_wideLane 26 = .ok (.iadd, 1) := by decide +kernel
theorem dX1_wideLane_27 : decode cX1_wideLane 27 = .ok (.bipush 8, 2) := by decide +kernel
theorem dX1_wideLane_29 : decode cX1_wideLane 29 = .ok (.invokevirtual 31, 3) := by decide +kernel
theorem dX1_wideLane_32 : decode cX1_wideLane 32 = .ok (.ldc2_w 56, 3) := by decide +kernel
theorem dX1_wideLane_35 : decode cX1_wideLane 35 = .ok (.lmul, 1) := by decide +kernel
theorem dX1_wideLane_36 : decode cX1_wideLane 36 = .ok (.ladd, 1) := by decide +kernel
theorem dX1_wideLane_37 : decode cX1_wideLane 37 = .ok (.bipush 31, 2) := by decide +kernel
theorem dX1_wideLane_39 : decode cX1_wideLane 39 = .ok (.invokestatic 58, 3) := by decide +kernel
theorem dX1_wideLane_42 : decode cX1_wideLane 42 = .ok (.ldc2_w 62, 3) := by decide +kernel
theorem dX1_wideLane_45 : decode cX1_wideLane 45 = .ok (.lmul, 1) := by decide +kernel
theorem dX1_wideLane_46 : decode cX1_wideLane 46 = .ok (.lstore 6, 2) := by decide +kernel
theorem dX1_wideLane_48 : decode cX1_wideLane 48 = .ok (.iinc 8 32, 3) := by decide +kernel
theorem dX1_wideLane_51 : decode cX1_wideLane 51 = .ok (.goto (-45), 3) := by decide +kernel
theorem dX1_wideLane_54 : decode cX1_wideLane 54 = .ok (.lload 6, 2) := by decide +kernel
theorem dX1_wideLane_56 : decode cX1_wideLane 56 = .ok (.lreturn, 1) := by decide +kernel
theorem dX1_join_0 : decode cX1_join 0 = .ok (.lload_n 0, 1) := by decide +kernel
theorem dX1_join_1 : decode cX1_join 1 = .ok (.lload_n 2, 1) := by decide +kernel
theorem dX1_join_2 : decode cX1_join 2 = .ok (.ldc2_w 56, 3) := by decide +kernel
theorem dX1_join_5 : decode cX1_join 5 = .ok (.lmul, 1) := by decide +kernel
theorem dX1_join_6 : decode cX1_join 6 = .ok (.bipush 31, 2) := by decide +kernel
theorem dX1_join_8 : decode cX1_join 8 = .ok (.invokestatic 58, 3) := by decide +kernel
theorem dX1_join_11 : decode cX1_join 11 = .ok (.ldc2_w 62, 3) := by decide +kernel
theorem dX1_join_14 : decode cX1_join 14 = .ok (.lmul, 1) := by decide +kernel
theorem dX1_join_15 : decode cX1_join 15 = .ok (.lxor, 1) := by decide +kernel
theorem dX1_join_16 : decode cX1_join 16 = .ok (.ldc2_w 62, 3) := by decide +kernel
theorem dX1_join_19 : decode cX1_join 19 = .ok (.lmul, 1) := by decide +kernel
theorem dX1_join_20 : decode cX1_join 20 = .ok (.ldc2_w 64, 3) := by decide +kernel
theorem dX1_join_23 : decode cX1_join 23 = .ok (.ladd, 1) := by decide +kernel
theorem dX1_join_24 : decode cX1_join 24 = .ok (.lreturn, 1) := by decide +kernel
theorem dX1_ofLanes_0 : decode cX1_ofLanes 0 = .ok (.aload_n 0, 1) := by decide +kernel
theorem dX1_ofLanes_1 : decode cX1_ofLanes 1 = .ok (.lload_n 3, 1) := by decide +kernel
theorem dX1_ofLanes_2 : decode cX1_ofLanes 2 = .ok (.ldc2_w 62, 3) := by decide +kernel
theorem dX1_ofLanes_5 : decode cX1_ofLanes 5 = .ok (.ladd, 1) := by decide +kernel
theorem dX1_ofLanes_6 : decode cX1_ofLanes 6 = .ok (.ldc2_w 56, 3) := by decide +kernel
theorem dX1_ofLanes_9 : decode cX1_ofLanes 9 = .ok (.ladd, 1) := by decide +kernel
theorem dX1_ofLanes_10 : decode cX1_ofLanes 10 = .ok (.iload_n 1, 1) := by decide +kernel
theorem dX1_ofLanes_11 : decode cX1_ofLanes 11 = .ok (.iload_n 2, 1) := by decide +kernel
theorem dX1_ofLanes_12 : decode cX1_ofLanes 12 = .ok (.iconst 0, 1) := by decide +kernel
theorem dX1_ofLanes_13 : decode cX1_ofLanes 13 = .ok (.invokevirtual 66, 3) := by decide +kernel
theorem dX1_ofLanes_16 : decode cX1_ofLanes 16 = .ok (.lstore 5, 2) := by decide +kernel
theorem dX1_ofLanes_18 : decode cX1_ofLanes 18 = .ok (.aload_n 0, 1) := by decide +kernel
theorem dX1_ofLanes_19 : decode cX1_ofLanes 19 = .ok (.lload_n 3, 1) := by decide +kernel
theorem dX1_ofLanes_20 : decode cX1_ofLanes 20 = .ok (.ldc2_w 56, 3) := by decide +kernel
theorem dX1_ofLanes_23 : decode cX1_ofLanes 23 = .ok (.ladd, 1) := by decide +kernel
theorem dX1_ofLanes_24 : decode cX1_ofLanes 24 = .ok (.iload_n 1, 1) := by decide +kernel
theorem dX1_ofLanes_25 : decode cX1_ofLanes 25 = .ok (.iload_n 2, 1) := by decide +kernel
theorem dX1_ofLanes_26 : decode cX1_ofLanes 26 = .ok (.iconst 1, 1) := by decide +kernel
theorem dX1_ofLanes_27 : decode cX1_ofLanes 27 = .ok (.invokevirtual 66, 3) := by decide +kernel
theorem dX1_ofLanes_30 : decode cX1_ofLanes 30 = .ok (.lstore 7, 2) := by decide +kernel
theorem dX1_ofLanes_32 : decode cX1_ofLanes 32 = .ok (.aload_n 0, 1) := by decide +kernel
theorem dX1_ofLanes_33 : decode cX1_ofLanes 33 = .ok (.lload_n 3, 1) := by decide +kernel
theorem dX1_ofLanes_34 : decode cX1_ofLanes 34 = .ok (.iload_n 1, 1) := by decide +kernel
theorem dX1_ofLanes_35 : decode cX1_ofLanes 35 = .ok (.iload_n 2, 1) := by decide +kernel
theorem dX1_ofLanes_36 : decode cX1_ofLanes 36 = .ok (.iconst 2, 1) := by decide +kernel
theorem dX1_ofLanes_37 : decode cX1_ofLanes 37 = .ok (.invokevirtual 66, 3) := by decide +kernel
theorem dX1_ofLanes_40 : decode cX1_ofLanes 40 = .ok (.lstore 9, 2) := by decide +kernel
theorem dX1_ofLanes_42 : decode cX1_ofLanes 42 = .ok (.aload_n 0, 1) := by decide +kernel
theorem dX1_ofLanes_43 : decode cX1_ofLanes 43 = .ok (.lload_n 3, 1) := by decide +kernel
theorem dX1_ofLanes_44 : decode cX1_ofLanes 44 = .ok (.ldc2_w 62, 3) := by decide +kernel
theorem dX1_ofLanes_47 : decode cX1_ofLanes 47 = .ok (.lsub, 1) := by decide +kernel
theorem dX1_ofLanes_48 : decode cX1_ofLanes 48 = .ok (.iload_n 1, 1) := by decide +kernel
theorem dX1_ofLanes_49 : decode cX1_ofLanes 49 = .ok (.iload_n 2, 1) := by decide +kernel
theorem dX1_ofLanes_50 : decode cX1_ofLanes 50 = .ok (.iconst 3, 1) := by decide +kernel
theorem dX1_ofLanes_51 : decode cX1_ofLanes 51 = .ok (.invokevirtual 66, 3) := by decide +kernel
theorem dX1_ofLanes_54 : decode cX1_ofLanes 54 = .ok (.lstore 11, 2) := by decide +kernel
theorem dX1_ofLanes_56 : decode cX1_ofLanes 56 = .ok (.lload 5, 2) := by decide +kernel
theorem dX1_ofLanes_58 : decode cX1_ofLanes 58 = .ok (.iconst 1, 1) := by decide +kernel
theorem dX1_ofLanes_59 : decode cX1_ofLanes 59 = .ok (.invokestatic 58, 3) := by decide +kernel
theorem dX1_ofLanes_62 : decode cX1_ofLanes 62 = .ok (.lload 7, 2) := by decide +kernel
theorem dX1_ofLanes_64 : decode cX1_ofLanes 64 = .ok (.bipush 7, 2) := by decide +kernel
theorem dX1_ofLanes_66 : decode cX1_ofLanes 66 = .ok (.invokestatic 58, 3) := by decide +kernel
theorem dX1_ofLanes_69 : decode cX1_ofLanes 69 = .ok (.ladd, 1) := by decide +kernel
theorem dX1_ofLanes_70 : decode cX1_ofLanes 70 = .ok (.lload 9, 2) := by decide +kernel
theorem dX1_ofLanes_72 : decode cX1_ofLanes 72 = .ok (.bipush 12, 2) := by decide +kernel
theorem dX1_ofLanes_74 : decode cX1_ofLanes 74 = .ok (.invokestatic 58, 3) := by decide +kernel
theorem dX1_ofLanes_77 : decode cX1_ofLanes 77 = .ok (.ladd, 1) := by decide +kernel
theorem dX1_ofLanes_78 : decode cX1_ofLanes 78 = .ok (.lload 11, 2) := by decide +kernel
theorem dX1_ofLanes_80 : decode cX1_ofLanes 80 = .ok (.bipush 18, 2) := by decide +kernel
theorem dX1_ofLanes_82 : decode cX1_ofLanes 82 = .ok (.invokestatic 58, 3) := by decide +kernel
theorem dX1_ofLanes_85 : decode cX1_ofLanes 85 = .ok (.ladd, 1) := by decide +kernel
theorem dX1_ofLanes_86 : decode cX1_ofLanes 86 = .ok (.lstore 13, 2) := by decide +kernel
theorem dX1_ofLanes_88 : decode cX1_ofLanes 88 = .ok (.lload 13, 2) := by decide +kernel
theorem dX1_ofLanes_90 : decode cX1_ofLanes 90 = .ok (.lload 5, 2) := by decide +kernel
theorem dX1_ofLanes_92 : decode cX1_ofLanes 92 = .ok (.invokestatic 70, 3) := by decide +kernel
theorem dX1_ofLanes_95 : decode cX1_ofLanes 95 = .ok (.lstore 13, 2) := by decide +kernel
theorem dX1_ofLanes_97 : decode cX1_ofLanes 97 = .ok (.lload 13, 2) := by decide +kernel
theorem dX1_ofLanes_99 : decode cX1_ofLanes 99 = .ok (.lload 7, 2) := by decide +kernel
theorem dX1_ofLanes_101 : decode cX1_ofLanes 101 = .ok (.invokestatic 70, 3) := by decide +kernel
theorem dX1_ofLanes_104 : decode cX1_ofLanes 104 = .ok (.lstore 13, 2) := by decide +kernel
theorem dX1_ofLanes_106 : decode cX1_ofLanes 106 = .ok (.lload 13, 2) := by decide +kernel
theorem dX1_ofLanes_108 : decode cX1_ofLanes 108 = .ok (.lload 9, 2) := by decide +kernel
theorem dX1_ofLanes_110 : decode cX1_ofLanes 110 = .ok (.invokestatic 70, 3) := by decide +kernel
theorem dX1_ofLanes_113 : decode cX1_ofLanes 113 = .ok (.lstore 13, 2) := by decide +kernel
theorem dX1_ofLanes_115 : decode cX1_ofLanes 115 = .ok (.lload 13, 2) := by decide +kernel
theorem dX1_ofLanes_117 : decode cX1_ofLanes 117 = .ok (.lload 11, 2) := by decide +kernel
theorem dX1_ofLanes_119 : decode cX1_ofLanes 119 = .ok (.invokestatic 70, 3) := by decide +kernel
theorem dX1_ofLanes_122 : decode cX1_ofLanes 122 = .ok (.lreturn, 1) := by decide +kernel
theorem dX1_sumWide_0 : decode cX1_sumWide 0 = .ok (.iload_n 2, 1) := by decide +kernel
theorem dX1_sumWide_1 : decode cX1_sumWide 1 = .ok (.iload_n 1, 1) := by decide +kernel
theorem dX1_sumWide_2 : decode cX1_sumWide 2 = .ok (.isub, 1) := by decide +kernel
theorem dX1_sumWide_3 : decode cX1_sumWide 3 = .ok (.istore 5, 2) := by decide +kernel
theorem dX1_sumWide_5 : decode cX1_sumWide 5 = .ok (.iload 5, 2) := by decide +kernel
theorem dX1_sumWide_7 : decode cX1_sumWide 7 = .ok (.bipush 32, 2) := by decide +kernel
theorem dX1_sumWide_9 : decode cX1_sumWide 9 = .ok (.if_icmp .lt 13, 3) := by decide +kernel
theorem dX1_sumWide_12 : decode cX1_sumWide 12 = .ok (.aload_n 0, 1) := by decide +kernel
theorem dX1_sumWide_13 : decode cX1_sumWide 13 = .ok (.iload_n 1, 1) := by decide +kernel
theorem dX1_sumWide_14 : decode cX1_sumWide 14 = .ok (.iload_n 2, 1) := by decide +kernel
theorem dX1_sumWide_15 : decode cX1_sumWide 15 = .ok (.lload_n 3, 1) := by decide +kernel
theorem dX1_sumWide_16 : decode cX1_sumWide 16 = .ok (.invokevirtual 74, 3) := by decide +kernel
theorem dX1_sumWide_19 : decode cX1_sumWide 19 = .ok (.goto 8, 3) := by decide +kernel
theorem dX1_sumWide_22 : decode cX1_sumWide 22 = .ok (.lload_n 3, 1) := by decide +kernel
theorem dX1_sumWide_23 : decode cX1_sumWide 23 = .ok (.ldc2_w 78, 3) := by decide +kernel
theorem dX1_sumWide_26 : decode cX1_sumWide 26 = .ok (.ladd, 1) := by decide +kernel
theorem dX1_sumWide_27 : decode cX1_sumWide 27 = .ok (.lstore 6, 2) := by decide +kernel
theorem dX1_sumWide_29 : decode cX1_sumWide 29 = .ok (.iload 5, 2) := by decide +kernel
theorem dX1_sumWide_31 : decode cX1_sumWide 31 = .ok (.bipush 32, 2) := by decide +kernel
theorem dX1_sumWide_33 : decode cX1_sumWide 33 = .ok (.if_icmp .lt 13, 3) := by decide +kernel
theorem dX1_sumWide_36 : decode cX1_sumWide 36 = .ok (.iload_n 2, 1) := by decide +kernel
theorem dX1_sumWide_37 : decode cX1_sumWide 37 = .ok (.iload 5, 2) := by decide +kernel
theorem dX1_sumWide_39 : decode cX1_sumWide 39 = .ok (.bipush 32, 2) := by decide +kernel
theorem dX1_sumWide_41 : decode cX1_sumWide 41 = .ok (.irem, 1) := by decide +kernel
theorem dX1_sumWide_42 : decode cX1_sumWide 42 = .ok (.isub, 1) := by decide +kernel
theorem dX1_sumWide_43 : decode cX1_sumWide 43 = .ok (.goto 4, 3) := by decide +kernel
theorem dX1_sumWide_46 : decode cX1_sumWide 46 = .ok (.iload_n 1, 1) := by decide +kernel
theorem dX1_sumWide_47 : decode cX1_sumWide 47 = .ok (.istore 8, 2) := by decide +kernel
theorem dX1_sumWide_49 : decode cX1_sumWide 49 = .ok (.lload 6, 2) := by decide +kernel
theorem dX1_sumWide_51 : decode cX1_sumWide 51 = .ok (.iload 5, 2) := by decide +kernel
theorem dX1_sumWide_53 : decode cX1_sumWide 53 = .ok (.i2l, 1) := by decide +kernel
theorem dX1_sumWide_54 : decode cX1_sumWide 54 = .ok (.ladd, 1) := by decide +kernel
theorem dX1_sumWide_55 : decode cX1_sumWide 55 = .ok (.lstore 6, 2) := by decide +kernel
theorem dX1_sumWide_57 : decode cX1_sumWide 57 = .ok (.iconst 0, 1) := by decide +kernel
theorem dX1_sumWide_58 : decode cX1_sumWide 58 = .ok (.istore 9, 2) := by decide +kernel
theorem dX1_sumWide_60 : decode cX1_sumWide 60 = .ok (.iload 9, 2) := by decide +kernel
theorem dX1_sumWide_62 : decode cX1_sumWide 62 = .ok (.iconst 3, 1) := by decide +kernel
theorem dX1_sumWide_63 : decode cX1_sumWide 63 = .ok (.if_icmp .ge 60, 3) := by decide +kernel
theorem dX1_sumWide_66 : decode cX1_sumWide 66 = .ok (.iload_n 2, 1) := by decide +kernel
theorem dX1_sumWide_67 : decode cX1_sumWide 67 = .ok (.iload 8, 2) := by decide +kernel
theorem dX1_sumWide_69 : decode cX1_sumWide 69 = .ok (.isub, 1) := by decide +kernel
theorem dX1_sumWide_70 : decode cX1_sumWide 70 = .ok (.bipush 8, 2) := by decide +kernel
theorem dX1_sumWide_72 : decode cX1_sumWide 72 = .ok (.if_icmp .lt 51, 3) := by decide +kernel
theorem dX1_sumWide_75 : decode cX1_sumWide 75 = .ok (.lload 6, 2) := by decide +kernel
theorem dX1_sumWide_77 : decode cX1_sumWide 77 = .ok (.aload_n 0, 1) := by decide +kernel
theorem dX1_sumWide_78 : decode cX1_sumWide 78 = .ok (.iload 8, 2) := by decide +kernel
theorem dX1_sumWide_80 : decode cX1_sumWide 80 = .ok (.bipush 8, 2) := by decide +kernel
theorem dX1_sumWide_82 : decode cX1_sumWide 82 = .ok (.invokevirtual 31, 3) := by decide +kernel
theorem dX1_sumWide_85 : decode cX1_sumWide 85 = .ok (.ldc2_w 56, 3) := by decide +kernel
theorem dX1_sumWide_88 : decode cX1_sumWide 88 = .ok (.lmul, 1) := by decide +kernel
theorem dX1_sumWide_89 : decode cX1_sumWide 89 = .ok (.bipush 31, 2) := by decide +kernel
theorem dX1_sumWide_91 : decode cX1_sumWide 91 = .ok (.invokestatic 58, 3) := by decide +kernel
theorem dX1_sumWide_94 : decode cX1_sumWide 94 = .ok (.ldc2_w 62, 3) := by decide +kernel
theorem dX1_sumWide_97 : decode cX1_sumWide 97 = .ok (.lmul, 1) := by decide +kernel
theorem dX1_sumWide_98 : decode cX1_sumWide 98 = .ok (.lxor, 1) := by decide +kernel
theorem dX1_sumWide_99 : decode cX1_sumWide 99 = .ok (.bipush 27, 2) := by decide +kernel
theorem dX1_sumWide_101 : decode cX1_sumWide 101 = .ok (.invokestatic 58, 3) := by decide +kernel
theorem dX1_sumWide_104 : decode cX1_sumWide 104 = .ok (.ldc2_w 62, 3) := by decide +kernel
theorem dX1_sumWide_107 : decode cX1_sumWide 107 = .ok (.lmul, 1) := by decide +kernel
theorem dX1_sumWide_108 : decode cX1_sumWide 108 = .ok (.ldc2_w 64, 3) := by decide +kernel
theorem dX1_sumWide_111 : decode cX1_sumWide 111 = .ok (.ladd, 1) := by decide +kernel
theorem dX1_sumWide_112 : decode cX1_sumWide 112 = .ok (.lstore 6, 2) := by decide +kernel
theorem dX1_sumWide_114 : decode cX1_sumWide 114 = .ok (.iinc 8 8, 3) := by decide +kernel
theorem dX1_sumWide_117 : decode cX1_sumWide 117 = .ok (.iinc 9 1, 3) := by decide +kernel
theorem dX1_sumWide_120 : decode cX1_sumWide 120 = .ok (.goto (-60), 3) := by decide +kernel
theorem dX1_sumWide_123 : decode cX1_sumWide 123 = .ok (.iload_n 2, 1) := by decide +kernel
theorem dX1_sumWide_124 : decode cX1_sumWide 124 = .ok (.iload 8, 2) := by decide +kernel
theorem dX1_sumWide_126 : decode cX1_sumWide 126 = .ok (.isub, 1) := by decide +kernel
theorem dX1_sumWide_127 : decode cX1_sumWide 127 = .ok (.iconst 4, 1) := by decide +kernel
theorem dX1_sumWide_128 : decode cX1_sumWide 128 = .ok (.if_icmp .lt 35, 3) := by decide +kernel
theorem dX1_sumWide_131 : decode cX1_sumWide 131 = .ok (.lload 6, 2) := by decide +kernel
theorem dX1_sumWide_133 : decode cX1_sumWide 133 = .ok (.aload_n 0, 1) := by decide +kernel
theorem dX1_sumWide_134 : decode cX1_sumWide 134 = .ok (.iload 8, 2) := by decide +kernel
theorem dX1_sumWide_136 : decode cX1_sumWide 136 = .ok (.iconst 4, 1) := by decide +kernel
theorem dX1_sumWide_137 : decode cX1_sumWide 137 = .ok (.invokevirtual 31, 3) := by decide +kernel
theorem dX1_sumWide_140 : decode cX1_sumWide 140 = .ok (.ldc2_w 62, 3) := by decide +kernel
theorem dX1_sumWide_143 : decode cX1_sumWide 143 = .ok (.lmul, 1) := by decide +kernel
theorem dX1_sumWide_144 : decode cX1_sumWide 144 = .ok (.lxor, 1) := by decide +kernel
theorem dX1_sumWide_145 : decode cX1_sumWide 145 = .ok (.bipush 23, 2) := by decide +kernel
theorem dX1_sumWide_147 : decode cX1_sumWide 147 = .ok (.invokestatic 58, 3) := by decide +kernel
theorem dX1_sumWide_150 : decode cX1_sumWide 150 = .ok (.ldc2_w 56, 3) := by decide +kernel
theorem dX1_sumWide_153 : decode cX1_sumWide 153 = .ok (.lmul, 1) := by decide +kernel
theorem dX1_sumWide_154 : decode cX1_sumWide 154 = .ok (.ldc2_w 80, 3) := by decide +kernel
theorem dX1_sumWide_157 : decode cX1_sumWide 157 = .ok (.ladd, 1) := by decide +kernel
theorem dX1_sumWide_158 : decode cX1_sumWide 158 = .ok (.lstore 6, 2) := by decide +kernel
theorem dX1_sumWide_160 : decode cX1_sumWide 160 = .ok (.iinc 8 4, 3) := by decide +kernel
theorem dX1_sumWide_163 : decode cX1_sumWide 163 = .ok (.iload 8, 2) := by decide +kernel
theorem dX1_sumWide_165 : decode cX1_sumWide 165 = .ok (.istore 9, 2) := by decide +kernel
theorem dX1_sumWide_167 : decode cX1_sumWide 167 = .ok (.iload 9, 2) := by decide +kernel
theorem dX1_sumWide_169 : decode cX1_sumWide 169 = .ok (.iload_n 2, 1) := by decide +kernel
theorem dX1_sumWide_170 : decode cX1_sumWide 170 = .ok (.if_icmp .ge 34, 3) := by decide +kernel
theorem dX1_sumWide_173 : decode cX1_sumWide 173 = .ok (.lload 6, 2) := by decide +kernel
theorem dX1_sumWide_175 : decode cX1_sumWide 175 = .ok (.aload_n 0, 1) := by decide +kernel
theorem dX1_sumWide_176 : decode cX1_sumWide 176 = .ok (.iload 9, 2) := by decide +kernel
theorem dX1_sumWide_178 : decode cX1_sumWide 178 = .ok (.invokevirtual 27, 3) := by decide +kernel
theorem dX1_sumWide_181 : decode cX1_sumWide 181 = .ok (.i2l, 1) := by decide +kernel
theorem dX1_sumWide_182 : decode cX1_sumWide 182 = .ok (.ldc2_w 78, 3) := by decide +kernel
theorem dX1_sumWide_185 : decode cX1_sumWide 185 = .ok (.lmul, 1) := by decide +kernel
theorem dX1_sumWide_186 : decode cX1_sumWide 186 = .ok (.lxor, 1) := by decide +kernel
theorem dX1_sumWide_187 : decode cX1_sumWide 187 = .ok (.bipush 11, 2) := by decide +kernel
theorem dX1_sumWide_189 : decode cX1_sumWide 189 = .ok (.invokestatic 58, 3) := by decide +kernel
theorem dX1_sumWide_192 : decode cX1_sumWide 192 = .ok (.ldc2_w 62, 3) := by decide +kernel
theorem dX1_sumWide_195 : decode cX1_sumWide 195 = .ok (.lmul, 1) := by decide +kernel
theorem dX1_sumWide_196 : decode cX1_sumWide 196 = .ok (.lstore 6, 2) := by decide +kernel
theorem dX1_sumWide_198 : decode cX1_sumWide 198 = .ok (.iinc 9 1, 3) := by decide +kernel
theorem dX1_sumWide_201 : decode cX1_sumWide 201 = .ok (.goto (-34), 3) := by decide +kernel
theorem dX1_sumWide_204 : decode cX1_sumWide 204 = .ok (.lload 6, 2) := by decide +kernel
theorem dX1_sumWide_206 : decode cX1_sumWide 206 = .ok (.lload 6, 2) := by decide +kernel
theorem dX1_sumWide_208 : decode cX1_sumWide 208 = .ok (.bipush 33, 2) := by decide +kernel
theorem dX1_sumWide_210 : decode cX1_sumWide 210 = .ok (.lushr, 1) := by decide +kernel
theorem dX1_sumWide_211 : decode cX1_sumWide 211 = .ok (.lxor, 1) := by decide +kernel
theorem dX1_sumWide_212 : decode cX1_sumWide 212 = .ok (.ldc2_w 56, 3) := by decide +kernel
theorem dX1_sumWide_215 : decode cX1_sumWide 215 = .ok (.lmul, 1) := by decide +kernel
theorem dX1_sumWide_216 : decode cX1_sumWide 216 = .ok (.lstore 6, 2) := by decide +kernel
theorem dX1_sumWide_218 : decode cX1_sumWide 218 = .ok (.lload 6, 2) := by decide +kernel
theorem dX1_sumWide_220 : decode cX1_sumWide 220 = .ok (.lload 6, 2) := by decide +kernel
theorem dX1_sumWide_222 : decode cX1_sumWide 222 = .ok (.bipush 29, 2) := by decide +kernel
theorem dX1_sumWide_224 : decode cX1_sumWide 224 = .ok (.lushr, 1) := by decide +kernel
theorem dX1_sumWide_225 : decode cX1_sumWide 225 = .ok (.lxor, 1) := by decide +kernel
theorem dX1_sumWide_226 : decode cX1_sumWide 226 = .ok (.ldc2_w 80, 3) := by decide +kernel
theorem dX1_sumWide_229 : decode cX1_sumWide 229 = .ok (.lmul, 1) := by decide +kernel
theorem dX1_sumWide_230 : decode cX1_sumWide 230 = .ok (.lstore 6, 2) := by decide +kernel
theorem dX1_sumWide_232 : decode cX1_sumWide 232 = .ok (.lload 6, 2) := by decide +kernel
theorem dX1_sumWide_234 : decode cX1_sumWide 234 = .ok (.lload 6, 2) := by decide +kernel
theorem dX1_sumWide_236 : decode cX1_sumWide 236 = .ok (.bipush 32, 2) := by decide +kernel
theorem dX1_sumWide_238 : decode cX1_sumWide 238 = .ok (.lushr, 1) := by decide +kernel
theorem dX1_sumWide_239 : decode cX1_sumWide 239 = .ok (.lxor, 1) := by decide +kernel
theorem dX1_sumWide_240 : decode cX1_sumWide 240 = .ok (.lreturn, 1) := by decide +kernel
theorem dX1_wide_0 : decode cX1_wide 0 = .ok (.aload_n 0, 1) := by decide +kernel
theorem dX1_wide_1 : decode cX1_wide 1 = .ok (.iconst 0, 1) := by decide +kernel
theorem dX1_wide_2 : decode cX1_wide 2 = .ok (.aload_n 0, 1) := by decide +kernel
theorem dX1_wide_3 : decode cX1_wide 3 = .ok (.getfield 14, 3) := by decide +kernel
theorem dX1_wide_6 : decode cX1_wide 6 = .ok (.aload_n 0, 1) := by decide +kernel
theorem dX1_wide_7 : decode cX1_wide 7 = .ok (.getfield 21, 3) := by decide +kernel
theorem dX1_wide_10 : decode cX1_wide 10 = .ok (.invokevirtual 82, 3) := by decide +kernel
theorem dX1_wide_13 : decode cX1_wide 13 = .ok (.lreturn, 1) := by decide +kernel
theorem dX1_wideOf_0 : decode cX1_wideOf 0 = .ok (.aload_n 0, 1) := by decide +kernel
theorem dX1_wideOf_1 : decode cX1_wideOf 1 = .ok (.iload_n 1, 1) := by decide +kernel
theorem dX1_wideOf_2 : decode cX1_wideOf 2 = .ok (.iload_n 2, 1) := by decide +kernel
theorem dX1_wideOf_3 : decode cX1_wideOf 3 = .ok (.invokevirtual 52, 3) := by decide +kernel
theorem dX1_wideOf_6 : decode cX1_wideOf 6 = .ok (.ifCond .eq 13, 3) := by decide +kernel
theorem dX1_wideOf_9 : decode cX1_wideOf 9 = .ok (.aload_n 0, 1) := by decide +kernel
theorem dX1_wideOf_10 : decode cX1_wideOf 10 = .ok (.iload_n 1, 1) := by decide +kernel
theorem dX1_wideOf_11 : decode cX1_wideOf 11 = .ok (.iload_n 2, 1) := by decide +kernel
theorem dX1_wideOf_12 : decode cX1_wideOf 12 = .ok (.lload_n 3, 1) := by decide +kernel
theorem dX1_wideOf_13 : decode cX1_wideOf 13 = .ok (.invokevirtual 82, 3) := by decide +kernel
theorem dX1_wideOf_16 : decode cX1_wideOf 16 = .ok (.goto 10, 3) := by decide +kernel
theorem dX1_wideOf_19 : decode cX1_wideOf 19 = .ok (.aload_n 0, 1) := by decide +kernel
theorem dX1_wideOf_20 : decode cX1_wideOf 20 = .ok (.iconst 0, 1) := by decide +kernel
theorem dX1_wideOf_21 : decode cX1_wideOf 21 = .ok (.iconst 0, 1) := by decide +kernel
theorem dX1_wideOf_22 : decode cX1_wideOf 22 = .ok (.lload_n 3, 1) := by decide +kernel
theorem dX1_wideOf_23 : decode cX1_wideOf 23 = .ok (.invokevirtual 82, 3) := by decide +kernel
theorem dX1_wideOf_26 : decode cX1_wideOf 26 = .ok (.lreturn, 1) := by decide +kernel
theorem dX1_right_0 : decode cX1_right 0 = .ok (.iload_n 0, 1) := by decide +kernel
theorem dX1_right_1 : decode cX1_right 1 = .ok (.iconst 1, 1) := by decide +kernel
theorem dX1_right_2 : decode cX1_right 2 = .ok (.iand, 1) := by decide +kernel
theorem dX1_right_3 : decode cX1_right 3 = .ok (.ifCond .ne 9, 3) := by decide +kernel
theorem dX1_right_6 : decode cX1_right 6 = .ok (.iload_n 0, 1) := by decide +kernel
theorem dX1_right_7 : decode cX1_right 7 = .ok (.iconst 1, 1) := by decide +kernel
theorem dX1_right_8 : decode cX1_right 8 = .ok (.iushr, 1) := by decide +kernel
theorem dX1_right_9 : decode cX1_right 9 = .ok (.goto 9, 3) := by decide +kernel
theorem dX1_right_12 : decode cX1_right 12 = .ok (.iload_n 0, 1) := by decide +kernel
theorem dX1_right_13 : decode cX1_right 13 = .ok (.iconst 1, 1) := by decide +kernel
theorem dX1_right_14 : decode cX1_right 14 = .ok (.iushr, 1) := by decide +kernel
theorem dX1_right_15 : decode cX1_right 15 = .ok (.ldc 85, 2) := by decide +kernel
theorem dX1_right_17 : decode cX1_right 17 = .ok (.ixor, 1) := by decide +kernel
theorem dX1_right_18 : decode cX1_right 18 = .ok (.ireturn, 1) := by decide +kernel
theorem dX1_before_0 : decode cX1_before 0 = .ok (.iload_n 0, 1) := by decide +kernel
theorem dX1_before_1 : decode cX1_before 1 = .ok (.ifCond .ge 14, 3) := by decide +kernel
theorem dX1_before_4 : decode cX1_before 4 = .ok (.iload_n 0, 1) := by decide +kernel
theorem dX1_before_5 : decode cX1_before 5 = .ok (.ldc 85, 2) := by decide +kernel
theorem dX1_before_7 : decode cX1_before 7 = .ok (.ixor, 1) := by decide +kernel
theorem dX1_before_8 : decode cX1_before 8 = .ok (.iconst 1, 1) := by decide +kernel
theorem dX1_before_9 : decode cX1_before 9 = .ok (.ishl, 1) := by decide +kernel
theorem dX1_before_10 : decode cX1_before 10 = .ok (.iconst 1, 1) := by decide +kernel
theorem dX1_before_11 : decode cX1_before 11 = .ok (.ior, 1) := by decide +kernel
theorem dX1_before_12 : decode cX1_before 12 = .ok (.goto 6, 3) := by decide +kernel
theorem dX1_before_15 : decode cX1_before 15 = .ok (.iload_n 0, 1) := by decide +kernel
theorem dX1_before_16 : decode cX1_before 16 = .ok (.iconst 1, 1) := by decide +kernel
theorem dX1_before_17 : decode cX1_before 17 = .ok (.ishl, 1) := by decide +kernel
theorem dX1_before_18 : decode cX1_before 18 = .ok (.ireturn, 1) := by decide +kernel
theorem dX1_withByte_0 : decode cX1_withByte 0 = .ok (.iload_n 0, 1) := by decide +kernel
theorem dX1_withByte_1 : decode cX1_withByte 1 = .ok (.istore_n 2, 1) := by decide +kernel
theorem dX1_withByte_2 : decode cX1_withByte 2 = .ok (.iconst 0, 1) := by decide +kernel
theorem dX1_withByte_3 : decode cX1_withByte 3 = .ok (.istore_n 3, 1) := by decide +kernel
theorem dX1_withByte_4 : decode cX1_withByte 4 = .ok (.iload_n 3, 1) := by decide +kernel
theorem dX1_withByte_5 : decode cX1_withByte 5 = .ok (.bipush 8, 2) := by decide +kernel
theorem dX1_withByte_7 : decode cX1_withByte 7 = .ok (.if_icmp .ge 20, 3) := by decide +kernel
theorem dX1_withByte_10 : decode cX1_withByte 10 = .ok (.iload_n 2, 1) := by decide +kernel
theorem dX1_withByte_11 : decode cX1_withByte 11 = .ok (.iload_n 1, 1) := by decide +kernel
theorem dX1_withByte_12 : decode cX1_withByte 12 = .ok (.iload_n 3, 1) := by decide +kernel
theorem dX1_withByte_13 : decode cX1_withByte 13 = .ok (.ishr, 1) := by decide +kernel
theorem dX1_withByte_14 : decode cX1_withByte 14 = .ok (.iconst 1, 1) := by decide +kernel
theorem dX1_withByte_15 : decode cX1_withByte 15 = .ok (.iand, 1) := by decide +kernel
theorem dX1_withByte_16 : decode cX1_withByte 16 = .ok (.ixor, 1) := by decide +kernel
theorem dX1_withByte_17 : decode cX1_withByte 17 = .ok (.invokestatic 86, 3) := by decide +kernel
theorem dX1_withByte_20 : decode cX1_withByte 20 = .ok (.istore_n 2, 1) := by decide +kernel
theorem dX1_withByte_21 : decode cX1_withByte 21 = .ok (.iinc 3 1, 3) := by decide +kernel
theorem dX1_withByte_24 : decode cX1_withByte 24 = .ok (.goto (-20), 3) := by decide +kernel
theorem dX1_withByte_27 : decode cX1_withByte 27 = .ok (.iload_n 2, 1) := by decide +kernel
theorem dX1_withByte_28 : decode cX1_withByte 28 = .ok (.ireturn, 1) := by decide +kernel
theorem dX1_back_0 : decode cX1_back 0 = .ok (.iload_n 0, 1) := by decide +kernel
theorem dX1_back_1 : decode cX1_back 1 = .ok (.istore_n 2, 1) := by decide +kernel
theorem dX1_back_2 : decode cX1_back 2 = .ok (.iconst 0, 1) := by decide +kernel
theorem dX1_back_3 : decode cX1_back 3 = .ok (.istore_n 3, 1) := by decide +kernel
theorem dX1_back_4 : decode cX1_back 4 = .ok (.iload_n 3, 1) := by decide +kernel
theorem dX1_back_5 : decode cX1_back 5 = .ok (.iload_n 1, 1) := by decide +kernel
theorem dX1_back_6 : decode cX1_back 6 = .ok (.if_icmp .ge 14, 3) := by decide +kernel
theorem dX1_back_9 : decode cX1_back 9 = .ok (.iload_n 2, 1) := by decide +kernel
theorem dX1_back_10 : decode cX1_back 10 = .ok (.invokestatic 89, 3) := by decide +kernel
theorem dX1_back_13 : decode cX1_back 13 = .ok (.istore_n 2, 1) := by decide +kernel
theorem dX1_back_14 : decode cX1_back 14 = .ok (.iinc 3 1, 3) := by decide +kernel
theorem dX1_back_17 : decode cX1_back 17 = .ok (.goto (-13), 3) := by decide +kernel
theorem dX1_back_20 : decode cX1_back 20 = .ok (.iload_n 2, 1) := by decide +kernel
theorem dX1_back_21 : decode cX1_back 21 = .ok (.ireturn, 1) := by decide +kernel
theorem dX1_register_0 : decode cX1_register 0 = .ok (.iconst (-1), 1) := by decide +kernel
theorem dX1_register_1 : decode cX1_register 1 = .ok (.istore_n 3, 1) := by decide +kernel
theorem dX1_register_2 : decode cX1_register 2 = .ok (.iload_n 1, 1) := by decide +kernel
theorem dX1_register_3 : decode cX1_register 3 = .ok (.istore 4, 2) := by decide +kernel
theorem dX1_register_5 : decode cX1_register 5 = .ok (.iload 4, 2) := by decide +kernel
theorem dX1_register_7 : decode cX1_register 7 = .ok (.iload_n 2, 1) := by decide +kernel
theorem dX1_register_8 : decode cX1_register 8 = .ok (.if_icmp .ge 20, 3) := by decide +kernel
theorem dX1_register_11 : decode cX1_register 11 = .ok (.iload_n 3, 1) := by decide +kernel
theorem dX1_register_12 : decode cX1_register 12 = .ok (.aload_n 0, 1) := by decide +kernel
theorem dX1_register_13 : decode cX1_register 13 = .ok (.iload 4, 2) := by decide +kernel
theorem dX1_register_15 : decode cX1_register 15 = .ok (.invokevirtual 27, 3) := by decide +kernel
theorem dX1_register_18 : decode cX1_register 18 = .ok (.invokestatic 92, 3) := by decide +kernel
theorem dX1_register_21 : decode cX1_register 21 = .ok (.istore_n 3, 1) := by decide +kernel
theorem dX1_register_22 : decode cX1_register 22 = .ok (.iinc 4 1, 3) := by decide +kernel
theorem dX1_register_25 : decode cX1_register 25 = .ok (.goto (-20), 3) := by decide +kernel
theorem dX1_register_28 : decode cX1_register 28 = .ok (.iload_n 3, 1) := by decide +kernel
theorem dX1_register_29 : decode cX1_register 29 = .ok (.ireturn, 1) := by decide +kernel
theorem dX1_poly_0 : decode cX1_poly 0 = .ok (.aload_n 0, 1) := by decide +kernel
theorem dX1_poly_1 : decode cX1_poly 1 = .ok (.iconst 0, 1) := by decide +kernel
theorem dX1_poly_2 : decode cX1_poly 2 = .ok (.aload_n 0, 1) := by decide +kernel
theorem dX1_poly_3 : decode cX1_poly 3 = .ok (.getfield 14, 3) := by decide +kernel
theorem dX1_poly_6 : decode cX1_poly 6 = .ok (.invokevirtual 95, 3) := by decide +kernel
theorem dX1_poly_9 : decode cX1_poly 9 = .ok (.iconst (-1), 1) := by decide +kernel
theorem dX1_poly_10 : decode cX1_poly 10 = .ok (.ixor, 1) := by decide +kernel
theorem dX1_poly_11 : decode cX1_poly 11 = .ok (.ireturn, 1) := by decide +kernel
theorem dX1_polyOf_0 : decode cX1_polyOf 0 = .ok (.aload_n 0, 1) := by decide +kernel
theorem dX1_polyOf_1 : decode cX1_polyOf 1 = .ok (.iload_n 1, 1) := by decide +kernel
theorem dX1_polyOf_2 : decode cX1_polyOf 2 = .ok (.iload_n 2, 1) := by decide +kernel
theorem dX1_polyOf_3 : decode cX1_polyOf 3 = .ok (.invokevirtual 52, 3) := by decide +kernel
theorem dX1_polyOf_6 : decode cX1_polyOf 6 = .ok (.ifCond .eq 14, 3) := by decide +kernel
theorem dX1_polyOf_9 : decode cX1_polyOf 9 = .ok (.aload_n 0, 1) := by decide +kernel
theorem dX1_polyOf_10 : decode cX1_polyOf 10 = .ok (.iload_n 1, 1) := by decide +kernel
theorem dX1_polyOf_11 : decode cX1_polyOf 11 = .ok (.iload_n 2, 1) := by decide +kernel
theorem dX1_polyOf_12 : decode cX1_polyOf 12 = .ok (.invokevirtual 95, 3) := by decide +kernel
theorem dX1_polyOf_15 : decode cX1_polyOf 15 = .ok (.iconst (-1), 1) := by decide +kernel
theorem dX1_polyOf_16 : decode cX1_polyOf 16 = .ok (.ixor, 1) := by decide +kernel
theorem dX1_polyOf_17 : decode cX1_polyOf 17 = .ok (.goto 4, 3) := by decide +kernel
theorem dX1_polyOf_20 : decode cX1_polyOf 20 = .ok (.iconst 0, 1) := by decide +kernel
theorem dX1_polyOf_21 : decode cX1_polyOf 21 = .ok (.ireturn, 1) := by decide +kernel
theorem dX1_masked_0 : decode cX1_masked 0 = .ok (.iload_n 2, 1) := by decide +kernel
theorem dX1_masked_1 : decode cX1_masked 1 = .ok (.ifCond .eq 15, 3) := by decide +kernel
theorem dX1_masked_4 : decode cX1_masked 4 = .ok (.iload_n 1, 1) := by decide +kernel
theorem dX1_masked_5 : decode cX1_masked 5 = .ok (.ldc 98, 2) := by decide +kernel
theorem dX1_masked_7 : decode cX1_masked 7 = .ok (.isub, 1) := by decide +kernel
theorem dX1_masked_8 : decode cX1_masked 8 = .ok (.bipush 15, 2) := by decide +kernel
theorem dX1_masked_10 : decode cX1_masked 10 = .ok (.invokestatic 36, 3) := by decide +kernel
theorem dX1_masked_13 : decode cX1_masked 13 = .ok (.goto 12, 3) := by decide +kernel
theorem dX1_masked_16 : decode cX1_masked 16 = .ok (.iload_n 1, 1) := by decide +kernel
theorem dX1_masked_17 : decode cX1_masked 17 = .ok (.bipush 17, 2) := by decide +kernel
theorem dX1_masked_19 : decode cX1_masked 19 = .ok (.invokestatic 36, 3) := by decide +kernel
theorem dX1_masked_22 : decode cX1_masked 22 = .ok (.ldc 98, 2) := by decide +kernel
theorem dX1_masked_24 : decode cX1_masked 24 = .ok (.iadd, 1) := by decide +kernel
theorem dX1_masked_25 : decode cX1_masked 25 = .ok (.ireturn, 1) := by decide +kernel
theorem dX1_times_0 : decode cX1_times 0 = .ok (.iconst 0, 1) := by decide +kernel
theorem dX1_times_1 : decode cX1_times 1 = .ok (.istore_n 2, 1) := by decide +kernel
theorem dX1_times_2 : decode cX1_times 2 = .ok (.iload_n 0, 1) := by decide +kernel
theorem dX1_times_3 : decode cX1_times 3 = .ok (.istore_n 3, 1) := by decide +kernel
theorem dX1_times_4 : decode cX1_times 4 = .ok (.bipush 31, 2) := by decide +kernel
theorem dX1_times_6 : decode cX1_times 6 = .ok (.istore 4, 2) := by decide +kernel
theorem dX1_times_8 : decode cX1_times 8 = .ok (.iload 4, 2) := by decide +kernel
theorem dX1_times_10 : decode cX1_times 10 = .ok (.ifCond .lt 27, 3) := by decide +kernel
theorem dX1_times_13 : decode cX1_times 13 = .ok (.iload_n 1, 1) := by decide +kernel
theorem dX1_times_14 : decode cX1_times 14 = .ok (.iload 4, 2) := by decide +kernel
theorem dX1_times_16 : decode cX1_times 16 = .ok (.iushr, 1) := by decide +kernel
theorem dX1_times_17 : decode cX1_times 17 = .ok (.iconst 1, 1) := by decide +kernel
theorem dX1_times_18 : decode cX1_times 18 = .ok (.iand, 1) := by decide +kernel
theorem dX1_times_19 : decode cX1_times 19 = .ok (.ifCond .eq 7, 3) := by decide +kernel
theorem dX1_times_22 : decode cX1_times 22 = .ok (.iload_n 2, 1) := by decide +kernel
theorem dX1_times_23 : decode cX1_times 23 = .ok (.iload_n 3, 1) := by decide +kernel
theorem dX1_times_24 : decode cX1_times 24 = .ok (.ixor, 1) := by decide +kernel
theorem dX1_times_25 : decode cX1_times 25 = .ok (.istore_n 2, 1) := by decide +kernel
theorem dX1_times_26 : decode cX1_times 26 = .ok (.iload_n 3, 1) := by decide +kernel
theorem dX1_times_27 : decode cX1_times 27 = .ok (.invokestatic 86, 3) := by decide +kernel
theorem dX1_times_30 : decode cX1_times 30 = .ok (.istore_n 3, 1) := by decide +kernel
theorem dX1_times_31 : decode cX1_times 31 = .ok (.iinc 4 (-1), 3) := by decide +kernel
theorem dX1_times_34 : decode cX1_times 34 = .ok (.goto (-26), 3) := by decide +kernel
theorem dX1_times_37 : decode cX1_times 37 = .ok (.iload_n 2, 1) := by decide +kernel
theorem dX1_times_38 : decode cX1_times 38 = .ok (.ireturn, 1) := by decide +kernel
theorem dX1_power_0 : decode cX1_power 0 = .ok (.ldc 99, 2) := by decide +kernel
theorem dX1_power_2 : decode cX1_power 2 = .ok (.istore_n 3, 1) := by decide +kernel
theorem dX1_power_3 : decode cX1_power 3 = .ok (.bipush 63, 2) := by decide +kernel
theorem dX1_power_5 : decode cX1_power 5 = .ok (.istore 4, 2) := by decide +kernel
theorem dX1_power_7 : decode cX1_power 7 = .ok (.iload 4, 2) := by decide +kernel
theorem dX1_power_9 : decode cX1_power 9 = .ok (.ifCond .lt 32, 3) := by decide +kernel
theorem dX1_power_12 : decode cX1_power 12 = .ok (.iload_n 3, 1) := by decide +kernel
theorem dX1_power_13 : decode cX1_power 13 = .ok (.iload_n 3, 1) := by decide +kernel
theorem dX1_power_14 : decode cX1_power 14 = .ok (.invokestatic 100, 3) := by decide +kernel
theorem dX1_power_17 : decode cX1_power 17 = .ok (.istore_n 3, 1) := by decide +kernel
theorem dX1_power_18 : decode cX1_power 18 = .ok (.lload_n 1, 1) := by decide +kernel
theorem dX1_power_19 : decode cX1_power 19 = .ok (.iload 4, 2) := by decide +kernel
theorem dX1_power_21 : decode cX1_power 21 = .ok (.lushr, 1) := by decide +kernel
theorem dX1_power_22 : decode cX1_power 22 = .ok (.lconst 1, 1) := by decide +kernel
theorem dX1_power_23 : decode cX1_power 23 = .ok (.land, 1) := by decide +kernel
theorem dX1_power_24 : decode cX1_power 24 = .ok (.lconst 0, 1) := by decide +kernel
theorem dX1_power_25 : decode cX1_power 25 = .ok (.lcmp, 1) := by decide +kernel
theorem dX1_power_26 : decode cX1_power 26 = .ok (.ifCond .eq 9, 3) := by decide +kernel
theorem dX1_power_29 : decode cX1_power 29 = .ok (.iload_n 3, 1) := by decide +kernel
theorem dX1_power_30 : decode cX1_power 30 = .ok (.iload_n 0, 1) := by decide +kernel
theorem dX1_power_31 : decode cX1_power 31 = .ok (.invokestatic 100, 3) := by decide +kernel
theorem dX1_power_34 : decode cX1_power 34 = .ok (.istore_n 3, 1) := by decide +kernel
theorem dX1_power_35 : decode cX1_power 35 = .ok (.iinc 4 (-1), 3) := by decide +kernel
theorem dX1_power_38 : decode cX1_power 38 = .ok (.goto (-31), 3) := by decide +kernel
theorem dX1_power_41 : decode cX1_power 41 = .ok (.iload_n 3, 1) := by decide +kernel
theorem dX1_power_42 : decode cX1_power 42 = .ok (.ireturn, 1) := by decide +kernel
theorem dX1_joined_0 : decode cX1_joined 0 = .ok (.iload_n 1, 1) := by decide +kernel
theorem dX1_joined_1 : decode cX1_joined 1 = .ok (.ldc 99, 2) := by decide +kernel
theorem dX1_joined_3 : decode cX1_joined 3 = .ok (.iconst 0, 1) := by decide +kernel
theorem dX1_joined_4 : decode cX1_joined 4 = .ok (.invokestatic 92, 3) := by decide +kernel
theorem dX1_joined_7 : decode cX1_joined 7 = .ok (.lload_n 3, 1) := by decide +kernel
theorem dX1_joined_8 : decode cX1_joined 8 = .ok (.invokestatic 103, 3) := by decide +kernel
theorem dX1_joined_11 : decode cX1_joined 11 = .ok (.invokestatic 100, 3) := by decide +kernel
theorem dX1_joined_14 : decode cX1_joined 14 = .ok (.iload_n 2, 1) := by decide +kernel
theorem dX1_joined_15 : decode cX1_joined 15 = .ok (.ixor, 1) := by decide +kernel
theorem dX1_joined_16 : decode cX1_joined 16 = .ok (.ireturn, 1) := by decide +kernel
theorem dX1_cut_0 : decode cX1_cut 0 = .ok (.iload_n 1, 1) := by decide +kernel
theorem dX1_cut_1 : decode cX1_cut 1 = .ok (.iload_n 2, 1) := by decide +kernel
theorem dX1_cut_2 : decode cX1_cut 2 = .ok (.ixor, 1) := by decide +kernel
theorem dX1_cut_3 : decode cX1_cut 3 = .ok (.ldc 99, 2) := by decide +kernel
theorem dX1_cut_5 : decode cX1_cut 5 = .ok (.bipush 8, 2) := by decide +kernel
theorem dX1_cut_7 : decode cX1_cut 7 = .ok (.invokestatic 107, 3) := by decide +kernel
theorem dX1_cut_10 : decode cX1_cut 10 = .ok (.lload_n 3, 1) := by decide +kernel
theorem dX1_cut_11 : decode cX1_cut 11 = .ok (.invokestatic 103, 3) := by decide +kernel
theorem dX1_cut_14 : decode cX1_cut 14 = .ok (.invokestatic 100, 3) := by decide +kernel
theorem dX1_cut_17 : decode cX1_cut 17 = .ok (.ireturn, 1) := by decide +kernel
theorem dX1_between_0 : decode cX1_between 0 = .ok (.iload_n 0, 1) := by decide +kernel
theorem dX1_between_1 : decode cX1_between 1 = .ok (.iload_n 1, 1) := by decide +kernel
theorem dX1_between_2 : decode cX1_between 2 = .ok (.bipush 32, 2) := by decide +kernel
theorem dX1_between_4 : decode cX1_between 4 = .ok (.invokestatic 107, 3) := by decide +kernel
theorem dX1_between_7 : decode cX1_between 7 = .ok (.ixor, 1) := by decide +kernel
theorem dX1_between_8 : decode cX1_between 8 = .ok (.istore_n 2, 1) := by decide +kernel
theorem dX1_between_9 : decode cX1_between 9 = .ok (.iload_n 2, 1) := by decide +kernel
theorem dX1_between_10 : decode cX1_between 10 = .ok (.bipush 24, 2) := by decide +kernel
theorem dX1_between_12 : decode cX1_between 12 = .ok (.ishl, 1) := by decide +kernel
theorem dX1_between_13 : decode cX1_between 13 = .ok (.iload_n 2, 1) := by decide +kernel
theorem dX1_between_14 : decode cX1_between 14 = .ok (.bipush 8, 2) := by decide +kernel
theorem dX1_between_16 : decode cX1_between 16 = .ok (.ishr, 1) := by decide +kernel
theorem dX1_between_17 : decode cX1_between 17 = .ok (.sipush 255, 3) := by decide +kernel
theorem dX1_between_20 : decode cX1_between 20 = .ok (.iand, 1) := by decide +kernel
theorem dX1_between_21 : decode cX1_between 21 = .ok (.bipush 16, 2) := by decide +kernel
theorem dX1_between_23 : decode cX1_between 23 = .ok (.ishl, 1) := by decide +kernel
theorem dX1_between_24 : decode cX1_between 24 = .ok (.ior, 1) := by decide +kernel
theorem dX1_between_25 : decode cX1_between 25 = .ok (.iload_n 2, 1) := by decide +kernel
theorem dX1_between_26 : decode cX1_between 26 = .ok (.bipush 16, 2) := by decide +kernel
theorem dX1_between_28 : decode cX1_between 28 = .ok (.ishr, 1) := by decide +kernel
theorem dX1_between_29 : decode cX1_between 29 = .ok (.sipush 255, 3) := by decide +kernel
theorem dX1_between_32 : decode cX1_between 32 = .ok (.iand, 1) := by decide +kernel
theorem dX1_between_33 : decode cX1_between 33 = .ok (.bipush 8, 2) := by decide +kernel
theorem dX1_between_35 : decode cX1_between 35 = .ok (.ishl, 1) := by decide +kernel
theorem dX1_between_36 : decode cX1_between 36 = .ok (.ior, 1) := by decide +kernel
theorem dX1_between_37 : decode cX1_between 37 = .ok (.iload_n 2, 1) := by decide +kernel
theorem dX1_between_38 : decode cX1_between 38 = .ok (.bipush 24, 2) := by decide +kernel
theorem dX1_between_40 : decode cX1_between 40 = .ok (.iushr, 1) := by decide +kernel
theorem dX1_between_41 : decode cX1_between 41 = .ok (.ior, 1) := by decide +kernel
theorem dX1_between_42 : decode cX1_between 42 = .ok (.ireturn, 1) := by decide +kernel
theorem dX1_forged_0 : decode cX1_forged 0 = .ok (.aload_n 0, 1) := by decide +kernel
theorem dX1_forged_1 : decode cX1_forged 1 = .ok (.iconst 0, 1) := by decide +kernel
theorem dX1_forged_2 : decode cX1_forged 2 = .ok (.aload_n 0, 1) := by decide +kernel
theorem dX1_forged_3 : decode cX1_forged 3 = .ok (.getfield 14, 3) := by decide +kernel
theorem dX1_forged_6 : decode cX1_forged 6 = .ok (.invokevirtual 95, 3) := by decide +kernel
theorem dX1_forged_9 : decode cX1_forged 9 = .ok (.iload_n 1, 1) := by decide +kernel
theorem dX1_forged_10 : decode cX1_forged 10 = .ok (.iconst (-1), 1) := by decide +kernel
theorem dX1_forged_11 : decode cX1_forged 11 = .ok (.ixor, 1) := by decide +kernel
theorem dX1_forged_12 : decode cX1_forged 12 = .ok (.invokestatic 110, 3) := by decide +kernel
theorem dX1_forged_15 : decode cX1_forged 15 = .ok (.ireturn, 1) := by decide +kernel
theorem dX1_mended_0 : decode cX1_mended 0 = .ok (.iload_n 1, 1) := by decide +kernel
theorem dX1_mended_1 : decode cX1_mended 1 = .ok (.ifCond .lt 13, 3) := by decide +kernel
theorem dX1_mended_4 : decode cX1_mended 4 = .ok (.iload_n 1, 1) := by decide +kernel
theorem dX1_mended_5 : decode cX1_mended 5 = .ok (.aload_n 0, 1) := by decide +kernel
theorem dX1_mended_6 : decode cX1_mended 6 = .ok (.getfield 14, 3) := by decide +kernel
theorem dX1_mended_9 : decode cX1_mended 9 = .ok (.iconst 4, 1) := by decide +kernel
theorem dX1_mended_10 : decode cX1_mended 10 = .ok (.isub, 1) := by decide +kernel
theorem dX1_mended_11 : decode cX1_mended 11 = .ok (.if_icmp .le 5, 3) := by decide +kernel
theorem dX1_mended_14 : decode cX1_mended 14 = .ok (.iconst 0, 1) := by decide +kernel
theorem dX1_mended_15 : decode cX1_mended 15 = .ok (.ireturn, 1) := by decide +kernel
theorem dX1_mended_16 : decode cX1_mended 16 = .ok (.iload_n 2, 1) := by decide +kernel
theorem dX1_mended_17 : decode cX1_mended 17 = .ok (.iconst (-1), 1) := by decide +kernel
theorem dX1_mended_18 : decode cX1_mended 18 = .ok (.ixor, 1) := by decide +kernel
theorem dX1_mended_19 : decode cX1_mended 19 = .ok (.istore_n 3, 1) := by decide +kernel
theorem dX1_mended_20 : decode cX1_mended 20 = .ok (.aload_n 0, 1) := by decide +kernel
theorem dX1_mended_21 : decode cX1_mended 21 = .ok (.getfield 14, 3) := by decide +kernel
theorem dX1_mended_24 : decode cX1_mended 24 = .ok (.iconst 1, 1) := by decide +kernel
theorem dX1_mended_25 : decode cX1_mended 25 = .ok (.isub, 1) := by decide +kernel
theorem dX1_mended_26 : decode cX1_mended 26 = .ok (.istore 4, 2) := by decide +kernel
theorem dX1_mended_28 : decode cX1_mended 28 = .ok (.iload 4, 2) := by decide +kernel
theorem dX1_mended_30 : decode cX1_mended 30 = .ok (.iload_n 1, 1) := by decide +kernel
theorem dX1_mended_31 : decode cX1_mended 31 = .ok (.iconst 4, 1) := by decide +kernel
theorem dX1_mended_32 : decode cX1_mended 32 = .ok (.iadd, 1) := by decide +kernel
theorem dX1_mended_33 : decode cX1_mended 33 = .ok (.if_icmp .lt 23, 3) := by decide +kernel
theorem dX1_mended_36 : decode cX1_mended 36 = .ok (.iload_n 3, 1) := by decide +kernel
theorem dX1_mended_37 : decode cX1_mended 37 = .ok (.bipush 8, 2) := by decide +kernel
theorem dX1_mended_39 : decode cX1_mended 39 = .ok (.invokestatic 107, 3) := by decide +kernel
theorem dX1_mended_42 : decode cX1_mended 42 = .ok (.aload_n 0, 1) := by decide +kernel
theorem dX1_mended_43 : decode cX1_mended 43 = .ok (.iload 4, 2) := by decide +kernel
theorem dX1_mended_45 : decode cX1_mended 45 = .ok (.invokevirtual 27, 3) := by decide +kernel
theorem dX1_mended_48 : decode cX1_mended 48 = .ok (.ixor, 1) := by decide +kernel
theorem dX1_mended_49 : decode cX1_mended 49 = .ok (.istore_n 3, 1) := by decide +kernel
theorem dX1_mended_50 : decode cX1_mended 50 = .ok (.iinc 4 (-1), 3) := by decide +kernel
theorem dX1_mended_53 : decode cX1_mended 53 = .ok (.goto (-25), 3) := by decide +kernel
theorem dX1_mended_56 : decode cX1_mended 56 = .ok (.aload_n 0, 1) := by decide +kernel
theorem dX1_mended_57 : decode cX1_mended 57 = .ok (.iconst 0, 1) := by decide +kernel
theorem dX1_mended_58 : decode cX1_mended 58 = .ok (.iload_n 1, 1) := by decide +kernel
theorem dX1_mended_59 : decode cX1_mended 59 = .ok (.invokevirtual 95, 3) := by decide +kernel
theorem dX1_mended_62 : decode cX1_mended 62 = .ok (.iload_n 3, 1) := by decide +kernel
theorem dX1_mended_63 : decode cX1_mended 63 = .ok (.invokestatic 110, 3) := by decide +kernel
theorem dX1_mended_66 : decode cX1_mended 66 = .ok (.ireturn, 1) := by decide +kernel
