set_option maxHeartbeats 4000000 in
set_option maxRecDepth 100000 in
theorem c_X_rotated (l : Launch) (x : Int32) (k : Int32) : Met l yX0_rotated wsX0_rotated ({ frames := 0, cells := 0, slots := 0, locals := 0 } : Room) (va_Pc [.int x, .int k] (fun _ => True)) (k2_QcV (.int (na_rt x k))) 0 0 (fun _ => False) := by
  refine Met.ofW (cc := cX0_rotated) (maxL := 2) (ret := some .int) (by decide) rfl ?_
  intro p e s m args below meth c s₁ B hml hv
  obtain ⟨rfl, hv⟩ := hv
  have hx := B.exec
  have hb := B.bytes
  have hr := B.returns
  have hts := atoms_spec (ws := wsX0_rotated) B.pre
  have hown : s.vm.findClass RX0 = some m.cls := findClass_of_methodNamed B.named
  have hlocks := B.notSynchronized
  have hl := lv_entry ([.int x, .int k]) (n := 2) (Nat.le_of_ble_eq_true rfl)
  rw [lg_entry_eq]
  generalize (lg_sl ([.int x, .int k]) ++ List.replicate (2 - (lg_sl ([.int x, .int k])).length) Slot.unset).toArray = ls at hl ⊢
  have hl : lv_has ls 2 [(0, .int (x)), (1, .int (k))] := hl
  refine lv_iload_n hx hb dX0_rotated_0 rfl (lv_at hl 0 rfl) ?_
  refine lv_iload_n hx hb dX0_rotated_1 rfl (lv_at hl 1 rfl) ?_
  refine lv_ishl hx hb dX0_rotated_2 ?_
  refine q_ti (y := sh_l (x) (k)) rfl ?_
  refine lv_iload_n hx hb dX0_rotated_3 rfl (lv_at hl 0 rfl) ?_
  refine lv_bipush (v := 32) hx hb dX0_rotated_4 (by decide) ?_
  refine lv_iload_n hx hb dX0_rotated_6 rfl (lv_at hl 1 rfl) ?_
  refine lv_isub hx hb dX0_rotated_7 ?_
  refine lv_iushr (v := sh_u (x) ((32 - k))) hx hb dX0_rotated_8 rfl ?_
  refine lv_ior hx hb dX0_rotated_9 ?_
  exact W.iret (v := ((sh_l (x) (k)) ||| (sh_u (x) ((32 - k))))) hx hb hr (fun t ht _ => ⟨congrArg (fun z => Outcome.returned (some (Value.int z))) (rfl), ht⟩) (fun _ h => by cases h) dX0_rotated_10
set_option maxHeartbeats 4000000 in
set_option maxRecDepth 100000 in
theorem c_X_rotatedLong (l : Launch) (x : Int64) (k : Int32) : Met l yX0_rotatedLong wsX0_rotatedLong ({ frames := 0, cells := 0, slots := 0, locals := 0 } : Room) (va_Pc [.long x, .int k] (fun _ => True)) (k2_QcV (.long (wi_rt x k))) 0 0 (fun _ => False) := by
  refine Met.ofW (cc := cX0_rotatedLong) (maxL := 3) (ret := some .long) (by decide) rfl ?_
  intro p e s m args below meth c s₁ B hml hv
  obtain ⟨rfl, hv⟩ := hv
  have hx := B.exec
  have hb := B.bytes
  have hr := B.returns
  have hts := atoms_spec (ws := wsX0_rotatedLong) B.pre
  have hown : s.vm.findClass RX0 = some m.cls := findClass_of_methodNamed B.named
  have hlocks := B.notSynchronized
  have hl := lv_entry ([.long x, .int k]) (n := 3) (Nat.le_of_ble_eq_true rfl)
  rw [lg_entry_eq]
  generalize (lg_sl ([.long x, .int k]) ++ List.replicate (3 - (lg_sl ([.long x, .int k])).length) Slot.unset).toArray = ls at hl ⊢
  have hl : lv_has ls 3 [(0, .long (x)), (2, .int (k))] := hl
  refine lv_lload_n hx hb dX0_rotatedLong_0 rfl (lv_at hl 0 rfl) ?_
  refine lv_iload_n hx hb dX0_rotatedLong_1 rfl (lv_at hl 1 rfl) ?_
  refine lv_lshl (v := sh_L (x) (k)) hx hb dX0_rotatedLong_2 rfl ?_
  refine lv_lload_n hx hb dX0_rotatedLong_3 rfl (lv_at hl 0 rfl) ?_
  refine lv_bipush (v := 64) hx hb dX0_rotatedLong_4 (by decide) ?_
  refine lv_iload_n hx hb dX0_rotatedLong_6 rfl (lv_at hl 1 rfl) ?_
  refine lv_isub hx hb dX0_rotatedLong_7 ?_
  refine lv_lushr (v := sh_U (x) ((64 - k))) hx hb dX0_rotatedLong_8 rfl ?_
  refine lv_lor hx hb dX0_rotatedLong_9 ?_
  exact W.lret (v := ((sh_L (x) (k)) ||| (sh_U (x) ((64 - k))))) hx hb hr (fun t ht _ => ⟨congrArg (fun z => Outcome.returned (some (Value.long z))) (rfl), ht⟩) (fun _ h => by cases h) dX0_rotatedLong_10
set_option maxHeartbeats 4000000 in
set_option maxRecDepth 100000 in
theorem c_X_narrowLane (l : Launch) (x : Int32) (w : Int32) : Met l yX0_narrowLane wsX0_narrowLane ({ frames := 1, cells := 0, slots := 0, locals := 21 } : Room) (va_Pc [.int x, .int w] (fun _ => True)) (k2_QcV (.int (na_ln x w))) 0 0 (fun _ => False) := by
  refine Met.ofW (cc := cX0_narrowLane) (maxL := 2) (ret := some .int) (by decide) rfl ?_
  intro p e s m args below meth c s₁ B hml hv
  obtain ⟨rfl, hv⟩ := hv
  have hx := B.exec
  have hb := B.bytes
  have hr := B.returns
  have hts := atoms_spec (ws := wsX0_narrowLane) B.pre
  have hown : s.vm.findClass RX0 = some m.cls := findClass_of_methodNamed B.named
  have hlocks := B.notSynchronized
  have hl := lv_entry ([.int x, .int w]) (n := 2) (Nat.le_of_ble_eq_true rfl)
  rw [lg_entry_eq]
  generalize (lg_sl ([.int x, .int w]) ++ List.replicate (2 - (lg_sl ([.int x, .int w])).length) Slot.unset).toArray = ls at hl ⊢
  have hl : lv_has ls 2 [(0, .int (x)), (1, .int (w))] := hl
  refine lv_iload_n hx hb dX0_narrowLane_0 rfl (lv_at hl 0 rfl) ?_
  refine lv_iload_n hx hb dX0_narrowLane_1 rfl (lv_at hl 1 rfl) ?_
  refine lv_ldc (v := -2048144777) hx hb hown (hts (.constant RX0 102 (-2048144777)) (by decide +kernel)) dX0_narrowLane_2 ?_
  refine lv_imul hx hb dX0_narrowLane_4 ?_
  refine lv_iadd hx hb dX0_narrowLane_5 ?_
  refine lv_bipush (v := 13) hx hb dX0_narrowLane_6 (by decide) ?_
  refine q_S (As := [.int ((x + (w * (-2048144777)))), .int (13)]) (rest := []) ⟨hx, hb, hml, hown, hts⟩ (c_X_rotated l ((x + (w * (-2048144777)))) (13)) (va_cwS 2 hts gX0_narrowLane_X0_rotated rfl rfl rfl (by decide +kernel) ⟨Nat.le_of_ble_eq_true rfl, Nat.le_of_ble_eq_true rfl⟩) rfl hl.1 rfl (Nat.le_of_ble_eq_true rfl) dX0_narrowLane_8 ⟨Nat.zero_le _, Nat.zero_le _⟩ ?_
  refine lv_ldc (v := -1640531535) hx hb hown (hts (.constant RX0 98 (-1640531535)) (by decide +kernel)) dX0_narrowLane_11 ?_
  refine lv_imul hx hb dX0_narrowLane_13 ?_
  exact W.iret (v := ((na_rt ((x + (w * (-2048144777)))) 13) * (-1640531535))) hx hb hr (fun t ht _ => ⟨congrArg (fun z => Outcome.returned (some (Value.int z))) (rfl), ht⟩) (fun _ h => by cases h) dX0_narrowLane_14
set_option maxHeartbeats 4000000 in
set_option maxRecDepth 100000 in
theorem c_X_narrowStirred (l : Launch) (h : Int32) : Met l yX0_narrowStirred wsX0_narrowStirred ({ frames := 0, cells := 0, slots := 0, locals := 0 } : Room) (va_Pc [.int h] (fun _ => True)) (k2_QcV (.int (na_s3 (na_s2 (na_s1 h))))) 0 0 (fun _ => False) := by
  refine Met.ofW (cc := cX0_narrowStirred) (maxL := 1) (ret := some .int) (by decide) rfl ?_
  intro p e s m args below meth c s₁ B hml hv
  obtain ⟨rfl, hv⟩ := hv
  have hx := B.exec
  have hb := B.bytes
  have hr := B.returns
  have hts := atoms_spec (ws := wsX0_narrowStirred) B.pre
  have hown : s.vm.findClass RX0 = some m.cls := findClass_of_methodNamed B.named
  have hlocks := B.notSynchronized
  have hl := lv_entry ([.int h]) (n := 1) (Nat.le_of_ble_eq_true rfl)
  rw [lg_entry_eq]
  generalize (lg_sl ([.int h]) ++ List.replicate (1 - (lg_sl ([.int h])).length) Slot.unset).toArray = ls at hl ⊢
  have hl : lv_has ls 1 [(0, .int (h))] := hl
  refine lv_iload_n hx hb dX0_narrowStirred_0 rfl (lv_at hl 0 rfl) ?_
  refine lv_iload_n hx hb dX0_narrowStirred_1 rfl (lv_at hl 0 rfl) ?_
  refine lv_bipush (v := 15) hx hb dX0_narrowStirred_2 (by decide) ?_
  refine lv_iushr (v := sh_u (h) (15)) hx hb dX0_narrowStirred_4 rfl ?_
  refine lv_ixor hx hb dX0_narrowStirred_5 ?_
  refine lv_ldc (v := -2048144777) hx hb hown (hts (.constant RX0 102 (-2048144777)) (by decide +kernel)) dX0_narrowStirred_6 ?_
  refine lv_imul hx hb dX0_narrowStirred_8 ?_
  refine q_ti (y := na_s1 h) (rfl) ?_
  refine lv_istore_n (lv' := [(0, .int (na_s1 h))]) hx hb dX0_narrowStirred_9 rfl hl (by decide) rfl (fun ls hl => ?_)
  refine lv_iload_n hx hb dX0_narrowStirred_10 rfl (lv_at hl 0 rfl) ?_
  refine lv_iload_n hx hb dX0_narrowStirred_11 rfl (lv_at hl 0 rfl) ?_
  refine lv_bipush (v := 13) hx hb dX0_narrowStirred_12 (by decide) ?_
  refine lv_iushr (v := sh_u (na_s1 h) (13)) hx hb dX0_narrowStirred_14 rfl ?_
  refine lv_ixor hx hb dX0_narrowStirred_15 ?_
  refine lv_ldc (v := -1028477379) hx hb hown (hts (.constant RX0 96 (-1028477379)) (by decide +kernel)) dX0_narrowStirred_16 ?_
  refine lv_imul hx hb dX0_narrowStirred_18 ?_
  refine q_ti (y := na_s2 (na_s1 h)) (rfl) ?_
  refine lv_istore_n (lv' := [(0, .int (na_s2 (na_s1 h)))]) hx hb dX0_narrowStirred_19 rfl hl (by decide) rfl (fun ls hl => ?_)
  refine lv_iload_n hx hb dX0_narrowStirred_20 rfl (lv_at hl 0 rfl) ?_
  refine lv_iload_n hx hb dX0_narrowStirred_21 rfl (lv_at hl 0 rfl) ?_
  refine lv_bipush (v := 16) hx hb dX0_narrowStirred_22 (by decide) ?_
  refine lv_iushr (v := sh_u (na_s2 (na_s1 h)) (16)) hx hb dX0_narrowStirred_24 rfl ?_
  refine lv_ixor hx hb dX0_narrowStirred_25 ?_
  exact W.iret (v := (na_s2 (na_s1 h) ^^^ (sh_u (na_s2 (na_s1 h)) (16)))) hx hb hr (fun t ht _ => ⟨congrArg (fun z => Outcome.returned (some (Value.int z))) (rfl), ht⟩) (fun _ h => by cases h) dX0_narrowStirred_26
set_option maxHeartbeats 4000000 in
set_option maxRecDepth 100000 in
theorem c_X_wideLane (l : Launch) (x : Int64) (w : Int64) : Met l yX0_wideLane wsX0_wideLane ({ frames := 1, cells := 0, slots := 0, locals := 22 } : Room) (va_Pc [.long x, .long w] (fun _ => True)) (k2_QcV (.long (wi_ln x w))) 0 0 (fun _ => False) := by
  refine Met.ofW (cc := cX0_wideLane) (maxL := 4) (ret := some .long) (by decide) rfl ?_
  intro p e s m args below meth c s₁ B hml hv
  obtain ⟨rfl, hv⟩ := hv
  have hx := B.exec
  have hb := B.bytes
  have hr := B.returns
  have hts := atoms_spec (ws := wsX0_wideLane) B.pre
  have hown : s.vm.findClass RX0 = some m.cls := findClass_of_methodNamed B.named
  have hlocks := B.notSynchronized
  have hl := lv_entry ([.long x, .long w]) (n := 4) (Nat.le_of_ble_eq_true rfl)
  rw [lg_entry_eq]
  generalize (lg_sl ([.long x, .long w]) ++ List.replicate (4 - (lg_sl ([.long x, .long w])).length) Slot.unset).toArray = ls at hl ⊢
  have hl : lv_has ls 4 [(0, .long (x)), (2, .long (w))] := hl
  refine lv_lload_n hx hb dX0_wideLane_0 rfl (lv_at hl 0 rfl) ?_
  refine lv_lload_n hx hb dX0_wideLane_1 rfl (lv_at hl 1 rfl) ?_
  refine lv_ldc2 (v := -4417276706812531889) hx hb hown (hts (.constantLong RX0 126 (-4417276706812531889)) (by decide +kernel)) dX0_wideLane_2 ?_
  refine lv_lmul hx hb dX0_wideLane_5 ?_
  refine lv_ladd hx hb dX0_wideLane_6 ?_
  refine lv_bipush (v := 31) hx hb dX0_wideLane_7 (by decide) ?_
  refine q_S (As := [.long ((x + (w * (-4417276706812531889)))), .int (31)]) (rest := []) ⟨hx, hb, hml, hown, hts⟩ (c_X_rotatedLong l ((x + (w * (-4417276706812531889)))) (31)) (va_cwS 2 hts gX0_wideLane_X0_rotatedLong rfl rfl rfl (by decide +kernel) ⟨Nat.le_of_ble_eq_true rfl, Nat.le_of_ble_eq_true rfl⟩) rfl hl.1 rfl (Nat.le_of_ble_eq_true rfl) dX0_wideLane_9 ⟨Nat.zero_le _, Nat.zero_le _⟩ ?_
  refine lv_ldc2 (v := -7046029288634856825) hx hb hown (hts (.constantLong RX0 122 (-7046029288634856825)) (by decide +kernel)) dX0_wideLane_12 ?_
  refine lv_lmul hx hb dX0_wideLane_15 ?_
  exact W.lret (v := ((wi_rt ((x + (w * (-4417276706812531889)))) 31) * (-7046029288634856825))) hx hb hr (fun t ht _ => ⟨congrArg (fun z => Outcome.returned (some (Value.long z))) (rfl), ht⟩) (fun _ h => by cases h) dX0_wideLane_16
set_option maxHeartbeats 4000000 in
set_option maxRecDepth 100000 in
theorem c_X_withLane (l : Launch) (h : Int64) (x : Int64) : Met l yX0_withLane wsX0_withLane ({ frames := 2, cells := 0, slots := 0, locals := 45 } : Room) (va_Pc [.long h, .long x] (fun _ => True)) (k2_QcV (.long (wi_wl h x))) 0 0 (fun _ => False) := by
  refine Met.ofW (cc := cX0_withLane) (maxL := 4) (ret := some .long) (by decide) rfl ?_
  intro p e s m args below meth c s₁ B hml hv
  obtain ⟨rfl, hv⟩ := hv
  have hx := B.exec
  have hb := B.bytes
  have hr := B.returns
  have hts := atoms_spec (ws := wsX0_withLane) B.pre
  have hown : s.vm.findClass RX0 = some m.cls := findClass_of_methodNamed B.named
  have hlocks := B.notSynchronized
  have hl := lv_entry ([.long h, .long x]) (n := 4) (Nat.le_of_ble_eq_true rfl)
  rw [lg_entry_eq]
  generalize (lg_sl ([.long h, .long x]) ++ List.replicate (4 - (lg_sl ([.long h, .long x])).length) Slot.unset).toArray = ls at hl ⊢
  have hl : lv_has ls 4 [(0, .long (h)), (2, .long (x))] := hl
  refine lv_lload_n hx hb dX0_withLane_0 rfl (lv_at hl 0 rfl) ?_
  refine lv_lconst (v := 0) hx hb dX0_withLane_1 (by decide) ?_
  refine lv_lload_n hx hb dX0_withLane_2 rfl (lv_at hl 1 rfl) ?_
  refine q_S (As := [.long (0), .long (x)]) (rest := [.long (h)]) ⟨hx, hb, hml, hown, hts⟩ (c_X_wideLane l (0) (x)) (va_cwS 2 hts gX0_withLane_X0_wideLane rfl rfl rfl (by decide +kernel) ⟨Nat.le_of_ble_eq_true rfl, Nat.le_of_ble_eq_true rfl⟩) rfl hl.1 rfl (Nat.le_of_ble_eq_true rfl) dX0_withLane_3 ⟨Nat.zero_le _, Nat.zero_le _⟩ ?_
  refine lv_lxor hx hb dX0_withLane_6 ?_
  refine lv_ldc2 (v := -7046029288634856825) hx hb hown (hts (.constantLong RX0 122 (-7046029288634856825)) (by decide +kernel)) dX0_withLane_7 ?_
  refine lv_lmul hx hb dX0_withLane_10 ?_
  refine lv_ldc2 (v := -8796714831421723037) hx hb hown (hts (.constantLong RX0 124 (-8796714831421723037)) (by decide +kernel)) dX0_withLane_11 ?_
  refine lv_ladd hx hb dX0_withLane_14 ?_
  exact W.lret (v := (((h ^^^ (wi_ln 0 x)) * (-7046029288634856825)) + (-8796714831421723037))) hx hb hr (fun t ht _ => ⟨congrArg (fun z => Outcome.returned (some (Value.long z))) (rfl), ht⟩) (fun _ h => by cases h) dX0_withLane_15
set_option maxHeartbeats 4000000 in
set_option maxRecDepth 100000 in
theorem c_X_wideStirred (l : Launch) (h : Int64) : Met l yX0_wideStirred wsX0_wideStirred ({ frames := 0, cells := 0, slots := 0, locals := 0 } : Room) (va_Pc [.long h] (fun _ => True)) (k2_QcV (.long (wi_s3 (wi_s2 (wi_s1 h))))) 0 0 (fun _ => False) := by
  refine Met.ofW (cc := cX0_wideStirred) (maxL := 2) (ret := some .long) (by decide) rfl ?_
  intro p e s m args below meth c s₁ B hml hv
  obtain ⟨rfl, hv⟩ := hv
  have hx := B.exec
  have hb := B.bytes
  have hr := B.returns
  have hts := atoms_spec (ws := wsX0_wideStirred) B.pre
  have hown : s.vm.findClass RX0 = some m.cls := findClass_of_methodNamed B.named
  have hlocks := B.notSynchronized
  have hl := lv_entry ([.long h]) (n := 2) (Nat.le_of_ble_eq_true rfl)
  rw [lg_entry_eq]
  generalize (lg_sl ([.long h]) ++ List.replicate (2 - (lg_sl ([.long h])).length) Slot.unset).toArray = ls at hl ⊢
  have hl : lv_has ls 2 [(0, .long (h))] := hl
  refine lv_lload_n hx hb dX0_wideStirred_0 rfl (lv_at hl 0 rfl) ?_
  refine lv_lload_n hx hb dX0_wideStirred_1 rfl (lv_at hl 0 rfl) ?_
  refine lv_bipush (v := 33) hx hb dX0_wideStirred_2 (by decide) ?_
  refine lv_lushr (v := sh_U (h) (33)) hx hb dX0_wideStirred_4 rfl ?_
  refine lv_lxor hx hb dX0_wideStirred_5 ?_
  refine lv_ldc2 (v := -4417276706812531889) hx hb hown (hts (.constantLong RX0 126 (-4417276706812531889)) (by decide +kernel)) dX0_wideStirred_6 ?_
  refine lv_lmul hx hb dX0_wideStirred_9 ?_
  refine q_tl (y := wi_s1 h) (rfl) ?_
  refine lv_lstore_n (lv' := [(0, .long (wi_s1 h))]) hx hb dX0_wideStirred_10 rfl hl (by decide) rfl (fun ls hl => ?_)
  refine lv_lload_n hx hb dX0_wideStirred_11 rfl (lv_at hl 0 rfl) ?_
  refine lv_lload_n hx hb dX0_wideStirred_12 rfl (lv_at hl 0 rfl) ?_
  refine lv_bipush (v := 29) hx hb dX0_wideStirred_13 (by decide) ?_
  refine lv_lushr (v := sh_U (wi_s1 h) (29)) hx hb dX0_wideStirred_15 rfl ?_
  refine lv_lxor hx hb dX0_wideStirred_16 ?_
  refine lv_ldc2 (v := 1609587929392839161) hx hb hown (hts (.constantLong RX0 128 (1609587929392839161)) (by decide +kernel)) dX0_wideStirred_17 ?_
  refine lv_lmul hx hb dX0_wideStirred_20 ?_
  refine q_tl (y := wi_s2 (wi_s1 h)) (rfl) ?_
  refine lv_lstore_n (lv' := [(0, .long (wi_s2 (wi_s1 h)))]) hx hb dX0_wideStirred_21 rfl hl (by decide) rfl (fun ls hl => ?_)
  refine lv_lload_n hx hb dX0_wideStirred_22 rfl (lv_at hl 0 rfl) ?_
  refine lv_lload_n hx hb dX0_wideStirred_23 rfl (lv_at hl 0 rfl) ?_
  refine lv_bipush (v := 32) hx hb dX0_wideStirred_24 (by decide) ?_
  refine lv_lushr (v := sh_U (wi_s2 (wi_s1 h)) (32)) hx hb dX0_wideStirred_26 rfl ?_
  refine lv_lxor hx hb dX0_wideStirred_27 ?_
  exact W.lret (v := (wi_s2 (wi_s1 h) ^^^ (sh_U (wi_s2 (wi_s1 h)) (32)))) hx hb hr (fun t ht _ => ⟨congrArg (fun z => Outcome.returned (some (Value.long z))) (rfl), ht⟩) (fun _ h => by cases h) dX0_wideStirred_28
set_option maxHeartbeats 4000000 in
set_option maxRecDepth 100000 in
theorem c_X_movedOn (l : Launch) (r : Int32) (k : Nat) (hk : k < 2 ^ 31) : Met l yX0_movedOn wsX0_movedOn ({ frames := 0, cells := 0, slots := 0, locals := 0 } : Room) (va_Pc [.int r, .int (nI k)] (fun _ => True)) (k2_QcV (.int (cr_it cr_r k r))) 0 0 (fun _ => False) := by
  refine Met.ofW (cc := cX0_movedOn) (maxL := 3) (ret := some .int) (by decide) rfl ?_
  intro p e s m args below meth c s₁ B hml hv
  obtain ⟨rfl, hv⟩ := hv
  have hx := B.exec
  have hb := B.bytes
  have hr := B.returns
  have hts := atoms_spec (ws := wsX0_movedOn) B.pre
  have hown : s.vm.findClass RX0 = some m.cls := findClass_of_methodNamed B.named
  have hlocks := B.notSynchronized
  have hl := lv_entry ([.int r, .int (nI k)]) (n := 3) (Nat.le_of_ble_eq_true rfl)
  rw [lg_entry_eq]
  generalize (lg_sl ([.int r, .int (nI k)]) ++ List.replicate (3 - (lg_sl ([.int r, .int (nI k)])).length) Slot.unset).toArray = ls at hl ⊢
  have hl : lv_has ls 3 [(0, .int (r)), (1, .int (nI k))] := hl
  refine lv_iconst (v := 0) hx hb dX0_movedOn_0 (by decide) ?_
  refine lv_istore_n (lv' := [(2, .int (0)), (0, .int (r)), (1, .int (nI k))]) hx hb dX0_movedOn_1 rfl hl (by decide) rfl (fun ls hl => ?_)
  have L2 : ∀ (d j : Nat), j + d = k → ∀ ls : Array Slot, lv_has ls 3 [(0, .int (cr_it cr_r (j) r)), (1, .int (nI k)), (2, .int (nI (j)))] → W p l e (headSpec wsX0_movedOn ({ frames := 0, cells := 0, slots := 0, locals := 0 } : Room)).room s m [Value.int r, .int (nI k)].toArray below meth c s.heap [] 0 0 (MQ below (k2_QcV (.int (cr_it cr_r k r))) [Value.int r, .int (nI k)].toArray s 0 0 (fun _ => False)) (F0 m 2 ls []) := by
    intro d
    induction d with
    | zero =>
      intro j hj ls hl
      obtain rfl : k = j := by omega
      refine lv_iload_n hx hb dX0_movedOn_2 rfl (lv_at hl 2 rfl) ?_
      refine lv_iload_n hx hb dX0_movedOn_3 rfl (lv_at hl 1 rfl) ?_
      refine lv_icmp_ge (tgt := 32) hx hb dX0_movedOn_4 (by decide) (fun c_4 => ?_) (fun c_4 => ?_)
      · refine lv_iload_n hx hb dX0_movedOn_32 rfl (lv_at hl 0 rfl) ?_
        exact W.iret (v := cr_it cr_r (k) r) hx hb hr (fun t ht _ => ⟨congrArg (fun z => Outcome.returned (some (Value.int z))) (rfl), ht⟩) (fun _ h => by cases h) dX0_movedOn_33
      · exact absurd (nI_le (Nat.le_refl k) hk) c_4
    | succ d ih =>
      intro j hj ls hl
      have hjl : j < k := by omega
      refine lv_iload_n hx hb dX0_movedOn_2 rfl (lv_at hl 2 rfl) ?_
      refine lv_iload_n hx hb dX0_movedOn_3 rfl (lv_at hl 1 rfl) ?_
      refine lv_icmp_ge (tgt := 32) hx hb dX0_movedOn_4 (by decide) (fun c_4 => ?_) (fun c_4 => ?_)
      · exact absurd c_4 (nI_ge hjl hk)
      · refine lv_iload_n hx hb dX0_movedOn_7 rfl (lv_at hl 0 rfl) ?_
        refine lv_iconst (v := 1) hx hb dX0_movedOn_8 (by decide) ?_
        refine lv_iand hx hb dX0_movedOn_9 ?_
        refine lv_if_eq (tgt := 22) hx hb dX0_movedOn_10 (by decide) (fun c_10 => ?_) (fun c_10 => ?_)
        · refine lv_iload_n hx hb dX0_movedOn_22 rfl (lv_at hl 0 rfl) ?_
          refine lv_iconst (v := 1) hx hb dX0_movedOn_23 (by decide) ?_
          refine lv_iushr (v := sh_u (cr_it cr_r (j) r) (1)) hx hb dX0_movedOn_24 rfl ?_
          refine q_ti (y := cr_it cr_r (j + 1) r) (cr_r_t c_10) ?_
          refine lv_istore_n (lv' := [(0, .int (cr_it cr_r (j + 1) r)), (1, .int (nI k)), (2, .int (nI (j)))]) hx hb dX0_movedOn_25 rfl hl (by decide) rfl (fun ls hl => ?_)
          refine lv_iinc (v := nI (j + 1)) (lv' := [(2, .int (nI (j + 1))), (0, .int (cr_it cr_r (j + 1) r)), (1, .int (nI k))]) hx hb dX0_movedOn_26 hl (k := 2) rfl (nI_add j 1) (by decide) rfl (fun ls hl => ?_)
          refine lv_goto (tgt := 2) hx hb dX0_movedOn_29 (by decide) ?_
          exact ih (j + 1) (by omega) ls (lv_sub hl [1, 2, 0] rfl)
        · refine lv_iload_n hx hb dX0_movedOn_13 rfl (lv_at hl 0 rfl) ?_
          refine lv_iconst (v := 1) hx hb dX0_movedOn_14 (by decide) ?_
          refine lv_iushr (v := sh_u (cr_it cr_r (j) r) (1)) hx hb dX0_movedOn_15 rfl ?_
          refine lv_ldc (v := -2097792136) hx hb hown (hts (.constant RX0 137 (-2097792136)) (by decide +kernel)) dX0_movedOn_16 ?_
          refine lv_ixor hx hb dX0_movedOn_18 ?_
          refine q_ti (y := cr_it cr_r (j + 1) r) (cr_r_f c_10) ?_
          refine lv_goto (tgt := 25) hx hb dX0_movedOn_19 (by decide) ?_
          refine lv_istore_n (lv' := [(0, .int (cr_it cr_r (j + 1) r)), (1, .int (nI k)), (2, .int (nI (j)))]) hx hb dX0_movedOn_25 rfl hl (by decide) rfl (fun ls hl => ?_)
          refine lv_iinc (v := nI (j + 1)) (lv' := [(2, .int (nI (j + 1))), (0, .int (cr_it cr_r (j + 1) r)), (1, .int (nI k))]) hx hb dX0_movedOn_26 hl (k := 2) rfl (nI_add j 1) (by decide) rfl (fun ls hl => ?_)
          refine lv_goto (tgt := 2) hx hb dX0_movedOn_29 (by decide) ?_
          exact ih (j + 1) (by omega) ls (lv_sub hl [1, 2, 0] rfl)
  exact L2 (k) 0 (by omega) ls (lv_sub hl [1, 2, 0] rfl)
set_option maxHeartbeats 4000000 in
set_option maxRecDepth 100000 in
theorem c_X_movedBack (l : Launch) (r : Int32) (k : Nat) (hk : k < 2 ^ 31) : Met l yX0_movedBack wsX0_movedBack ({ frames := 0, cells := 0, slots := 0, locals := 0 } : Room) (va_Pc [.int r, .int (nI k)] (fun _ => True)) (k2_QcV (.int (cr_it cr_b k r))) 0 0 (fun _ => False) := by
  refine Met.ofW (cc := cX0_movedBack) (maxL := 3) (ret := some .int) (by decide) rfl ?_
  intro p e s m args below meth c s₁ B hml hv
  obtain ⟨rfl, hv⟩ := hv
  have hx := B.exec
  have hb := B.bytes
  have hr := B.returns
  have hts := atoms_spec (ws := wsX0_movedBack) B.pre
  have hown : s.vm.findClass RX0 = some m.cls := findClass_of_methodNamed B.named
  have hlocks := B.notSynchronized
  have hl := lv_entry ([.int r, .int (nI k)]) (n := 3) (Nat.le_of_ble_eq_true rfl)
  rw [lg_entry_eq]
  generalize (lg_sl ([.int r, .int (nI k)]) ++ List.replicate (3 - (lg_sl ([.int r, .int (nI k)])).length) Slot.unset).toArray = ls at hl ⊢
  have hl : lv_has ls 3 [(0, .int (r)), (1, .int (nI k))] := hl
  refine lv_iconst (v := 0) hx hb dX0_movedBack_0 (by decide) ?_
  refine lv_istore_n (lv' := [(2, .int (0)), (0, .int (r)), (1, .int (nI k))]) hx hb dX0_movedBack_1 rfl hl (by decide) rfl (fun ls hl => ?_)
  have L2 : ∀ (d j : Nat), j + d = k → ∀ ls : Array Slot, lv_has ls 3 [(0, .int (cr_it cr_b (j) r)), (1, .int (nI k)), (2, .int (nI (j)))] → W p l e (headSpec wsX0_movedBack ({ frames := 0, cells := 0, slots := 0, locals := 0 } : Room)).room s m [Value.int r, .int (nI k)].toArray below meth c s.heap [] 0 0 (MQ below (k2_QcV (.int (cr_it cr_b k r))) [Value.int r, .int (nI k)].toArray s 0 0 (fun _ => False)) (F0 m 2 ls []) := by
    intro d
    induction d with
    | zero =>
      intro j hj ls hl
      obtain rfl : k = j := by omega
      refine lv_iload_n hx hb dX0_movedBack_2 rfl (lv_at hl 2 rfl) ?_
      refine lv_iload_n hx hb dX0_movedBack_3 rfl (lv_at hl 1 rfl) ?_
      refine lv_icmp_ge (tgt := 32) hx hb dX0_movedBack_4 (by decide) (fun c_4 => ?_) (fun c_4 => ?_)
      · refine lv_iload_n hx hb dX0_movedBack_32 rfl (lv_at hl 0 rfl) ?_
        exact W.iret (v := cr_it cr_b (k) r) hx hb hr (fun t ht _ => ⟨congrArg (fun z => Outcome.returned (some (Value.int z))) (rfl), ht⟩) (fun _ h => by cases h) dX0_movedBack_33
      · exact absurd (nI_le (Nat.le_refl k) hk) c_4
    | succ d ih =>
      intro j hj ls hl
      have hjl : j < k := by omega
      refine lv_iload_n hx hb dX0_movedBack_2 rfl (lv_at hl 2 rfl) ?_
      refine lv_iload_n hx hb dX0_movedBack_3 rfl (lv_at hl 1 rfl) ?_
      refine lv_icmp_ge (tgt := 32) hx hb dX0_movedBack_4 (by decide) (fun c_4 => ?_) (fun c_4 => ?_)
      · exact absurd c_4 (nI_ge hjl hk)
      · refine lv_iload_n hx hb dX0_movedBack_7 rfl (lv_at hl 0 rfl) ?_
        refine lv_if_ge (tgt := 22) hx hb dX0_movedBack_8 (by decide) (fun c_8 => ?_) (fun c_8 => ?_)
        · refine lv_iload_n hx hb dX0_movedBack_22 rfl (lv_at hl 0 rfl) ?_
          refine lv_iconst (v := 1) hx hb dX0_movedBack_23 (by decide) ?_
          refine lv_ishl hx hb dX0_movedBack_24 ?_
          refine q_ti (y := sh_l (cr_it cr_b (j) r) (1)) rfl ?_
          refine q_ti (y := cr_it cr_b (j + 1) r) (cr_b_f c_8) ?_
          refine lv_istore_n (lv' := [(0, .int (cr_it cr_b (j + 1) r)), (1, .int (nI k)), (2, .int (nI (j)))]) hx hb dX0_movedBack_25 rfl hl (by decide) rfl (fun ls hl => ?_)
          refine lv_iinc (v := nI (j + 1)) (lv' := [(2, .int (nI (j + 1))), (0, .int (cr_it cr_b (j + 1) r)), (1, .int (nI k))]) hx hb dX0_movedBack_26 hl (k := 2) rfl (nI_add j 1) (by decide) rfl (fun ls hl => ?_)
          refine lv_goto (tgt := 2) hx hb dX0_movedBack_29 (by decide) ?_
          exact ih (j + 1) (by omega) ls (lv_sub hl [1, 2, 0] rfl)
        · refine lv_iload_n hx hb dX0_movedBack_11 rfl (lv_at hl 0 rfl) ?_
          refine lv_ldc (v := -2097792136) hx hb hown (hts (.constant RX0 137 (-2097792136)) (by decide +kernel)) dX0_movedBack_12 ?_
          refine lv_ixor hx hb dX0_movedBack_14 ?_
          refine lv_iconst (v := 1) hx hb dX0_movedBack_15 (by decide) ?_
          refine lv_ishl hx hb dX0_movedBack_16 ?_
          refine q_ti (y := sh_l ((cr_it cr_b (j) r ^^^ (-2097792136))) (1)) rfl ?_
          refine lv_iconst (v := 1) hx hb dX0_movedBack_17 (by decide) ?_
          refine lv_ior hx hb dX0_movedBack_18 ?_
          refine q_ti (y := cr_it cr_b (j + 1) r) (cr_b_t c_8) ?_
          refine lv_goto (tgt := 25) hx hb dX0_movedBack_19 (by decide) ?_
          refine lv_istore_n (lv' := [(0, .int (cr_it cr_b (j + 1) r)), (1, .int (nI k)), (2, .int (nI (j)))]) hx hb dX0_movedBack_25 rfl hl (by decide) rfl (fun ls hl => ?_)
          refine lv_iinc (v := nI (j + 1)) (lv' := [(2, .int (nI (j + 1))), (0, .int (cr_it cr_b (j + 1) r)), (1, .int (nI k))]) hx hb dX0_movedBack_26 hl (k := 2) rfl (nI_add j 1) (by decide) rfl (fun ls hl => ?_)
          refine lv_goto (tgt := 2) hx hb dX0_movedBack_29 (by decide) ?_
          exact ih (j + 1) (by omega) ls (lv_sub hl [1, 2, 0] rfl)
  exact L2 (k) 0 (by omega) ls (lv_sub hl [1, 2, 0] rfl)
set_option maxHeartbeats 4000000 in
set_option maxRecDepth 100000 in
theorem c_X_product (l : Launch) (a : Int32) (b : Int32) : Met l yX0_product wsX0_product ({ frames := 1, cells := 0, slots := 0, locals := 22 } : Room) (va_Pc [.int a, .int b] (fun _ => True)) (k2_QcV (.int (cr_mul b a))) 0 0 (fun _ => False) := by
  refine Met.ofW (cc := cX0_product) (maxL := 4) (ret := some .int) (by decide) rfl ?_
  intro p e s m args below meth c s₁ B hml hv
  obtain ⟨rfl, hv⟩ := hv
  have hx := B.exec
  have hb := B.bytes
  have hr := B.returns
  have hts := atoms_spec (ws := wsX0_product) B.pre
  have hown : s.vm.findClass RX0 = some m.cls := findClass_of_methodNamed B.named
  have hlocks := B.notSynchronized
  have hl := lv_entry ([.int a, .int b]) (n := 4) (Nat.le_of_ble_eq_true rfl)
  rw [lg_entry_eq]
  generalize (lg_sl ([.int a, .int b]) ++ List.replicate (4 - (lg_sl ([.int a, .int b])).length) Slot.unset).toArray = ls at hl ⊢
  have hl : lv_has ls 4 [(0, .int (a)), (1, .int (b))] := hl
  refine lv_iconst (v := 0) hx hb dX0_product_0 (by decide) ?_
  refine lv_istore_n (lv' := [(2, .int (0)), (0, .int (a)), (1, .int (b))]) hx hb dX0_product_1 rfl hl (by decide) rfl (fun ls hl => ?_)
  refine lv_bipush (v := 31) hx hb dX0_product_2 (by decide) ?_
  refine lv_istore_n (lv' := [(3, .int (31)), (2, .int (0)), (0, .int (a)), (1, .int (b))]) hx hb dX0_product_4 rfl hl (by decide) rfl (fun ls hl => ?_)
  have L5 : ∀ (d j : Nat), j + d = 32 → ∀ ls : Array Slot, lv_has ls 4 [(0, .int (a)), (1, .int (cr_it cr_r (j) b)), (2, .int (cr_ms b a (j))), (3, .int (nI d + (-1)))] → W p l e (headSpec wsX0_product ({ frames := 1, cells := 0, slots := 0, locals := 22 } : Room)).room s m [Value.int a, .int b].toArray below meth c s.heap [] 0 0 (MQ below (k2_QcV (.int (cr_mul b a))) [Value.int a, .int b].toArray s 0 0 (fun _ => False)) (F0 m 5 ls []) := by
    intro d
    induction d with
    | zero =>
      intro j hj ls hl
      obtain rfl : 32 = j := by omega
      refine lv_iload_n hx hb dX0_product_5 rfl (lv_at hl 3 rfl) ?_
      refine lv_if_lt (tgt := 33) hx hb dX0_product_6 (by decide) (fun c_6 => ?_) (fun c_6 => ?_)
      · refine lv_iload_n hx hb dX0_product_33 rfl (lv_at hl 2 rfl) ?_
        exact W.iret (v := cr_ms b a (32)) hx hb hr (fun t ht _ => ⟨congrArg (fun z => Outcome.returned (some (Value.int z))) (rfl), ht⟩) (fun _ h => by cases h) dX0_product_34
      · exact absurd (by decide) c_6
    | succ d ih =>
      intro j hj ls hl
      have hjl : j < 32 := by omega
      have hl : lv_has ls 4 [(0, .int (a)), (1, .int (cr_it cr_r (j) b)), (2, .int (cr_ms b a (j))), (3, .int (nI d))] := q_lv hl (congrArg (fun z => ([(0, .int (a)), (1, .int (cr_it cr_r (j) b)), (2, .int (cr_ms b a (j))), (3, Value.int z)] : List (Nat × Value))) (show (nI (d + 1) + (-1) : Int32) = nI d from pk_m1 d))
      refine lv_iload_n hx hb dX0_product_5 rfl (lv_at hl 3 rfl) ?_
      refine lv_if_lt (tgt := 33) hx hb dX0_product_6 (by decide) (fun c_6 => ?_) (fun c_6 => ?_)
      · exact absurd c_6 (nI_pos (by omega))
      · refine lv_iload_n hx hb dX0_product_9 rfl (lv_at hl 0 rfl) ?_
        refine lv_iload_n hx hb dX0_product_10 rfl (lv_at hl 3 rfl) ?_
        refine lv_iushr (v := sh_u (a) (nI d)) hx hb dX0_product_11 rfl ?_
        refine lv_iconst (v := 1) hx hb dX0_product_12 (by decide) ?_
        refine lv_iand hx hb dX0_product_13 ?_
        refine lv_if_eq (tgt := 21) hx hb dX0_product_14 (by decide) (fun c_14 => ?_) (fun c_14 => ?_)
        · refine lv_iload_n hx hb dX0_product_21 rfl (lv_at hl 1 rfl) ?_
          refine lv_iconst (v := 1) hx hb dX0_product_22 (by decide) ?_
          refine q_S (As := [.int (cr_it cr_r (j) b), .int (1)]) (rest := []) ⟨hx, hb, hml, hown, hts⟩ (c_X_movedOn l (cr_it cr_r (j) b) (1) (by omega)) (va_cwS 2 hts gX0_product_X0_movedOn rfl rfl rfl (by decide +kernel) ⟨Nat.le_of_ble_eq_true rfl, Nat.le_of_ble_eq_true rfl⟩) rfl hl.1 rfl (Nat.le_of_ble_eq_true rfl) dX0_product_23 ⟨Nat.zero_le _, Nat.zero_le _⟩ ?_
          refine q_ti (y := cr_it cr_r (j + 1) b) (rfl) ?_
          refine lv_istore_n (lv' := [(1, .int (cr_it cr_r (j + 1) b)), (0, .int (a)), (2, .int (cr_ms b a (j))), (3, .int (nI d))]) hx hb dX0_product_26 rfl hl (by decide) rfl (fun ls hl => ?_)
          refine lv_iinc (v := nI d + (-1)) (lv' := [(3, .int (nI d + (-1))), (1, .int (cr_it cr_r (j + 1) b)), (0, .int (a)), (2, .int (cr_ms b a (j)))]) hx hb dX0_product_27 hl (k := 3) rfl (congrArg (nI d + ·) (show Int32.ofInt (-1) = -1 by decide)) (by decide) rfl (fun ls hl => ?_)
          refine lv_goto (tgt := 5) hx hb dX0_product_30 (by decide) ?_
          have hl : lv_has ls 4 [(3, .int (nI d + (-1))), (1, .int (cr_it cr_r (j + 1) b)), (0, .int (a)), (2, .int (cr_ms b a (j + 1)))] := q_lv hl (congrArg (fun z => ([(3, .int (nI d + (-1))), (1, .int (cr_it cr_r (j + 1) b)), (0, .int (a)), (2, Value.int z)] : List (Nat × Value))) (show (cr_ms b a (j) : Int32) = cr_ms b a (j + 1) from cr_ms_nobit hj c_14))
          exact ih (j + 1) (by omega) ls (lv_sub hl [2, 1, 3, 0] rfl)
        · refine lv_iload_n hx hb dX0_product_17 rfl (lv_at hl 2 rfl) ?_
          refine lv_iload_n hx hb dX0_product_18 rfl (lv_at hl 1 rfl) ?_
          refine lv_ixor hx hb dX0_product_19 ?_
          refine q_ti (y := cr_ms b a (j + 1)) (cr_ms_bit hj c_14) ?_
          refine lv_istore_n (lv' := [(2, .int (cr_ms b a (j + 1))), (0, .int (a)), (1, .int (cr_it cr_r (j) b)), (3, .int (nI d))]) hx hb dX0_product_20 rfl hl (by decide) rfl (fun ls hl => ?_)
          refine lv_iload_n hx hb dX0_product_21 rfl (lv_at hl 2 rfl) ?_
          refine lv_iconst (v := 1) hx hb dX0_product_22 (by decide) ?_
          refine q_S (As := [.int (cr_it cr_r (j) b), .int (1)]) (rest := []) ⟨hx, hb, hml, hown, hts⟩ (c_X_movedOn l (cr_it cr_r (j) b) (1) (by omega)) (va_cwS 2 hts gX0_product_X0_movedOn rfl rfl rfl (by decide +kernel) ⟨Nat.le_of_ble_eq_true rfl, Nat.le_of_ble_eq_true rfl⟩) rfl hl.1 rfl (Nat.le_of_ble_eq_true rfl) dX0_product_23 ⟨Nat.zero_le _, Nat.zero_le _⟩ ?_
          refine q_ti (y := cr_it cr_r (j + 1) b) (rfl) ?_
          refine lv_istore_n (lv' := [(1, .int (cr_it cr_r (j + 1) b)), (2, .int (cr_ms b a (j + 1))), (0, .int (a)), (3, .int (nI d))]) hx hb dX0_product_26 rfl hl (by decide) rfl (fun ls hl => ?_)
          refine lv_iinc (v := nI d + (-1)) (lv' := [(3, .int (nI d + (-1))), (1, .int (cr_it cr_r (j + 1) b)), (2, .int (cr_ms b a (j + 1))), (0, .int (a))]) hx hb dX0_product_27 hl (k := 3) rfl (congrArg (nI d + ·) (show Int32.ofInt (-1) = -1 by decide)) (by decide) rfl (fun ls hl => ?_)
          refine lv_goto (tgt := 5) hx hb dX0_product_30 (by decide) ?_
          exact ih (j + 1) (by omega) ls (lv_sub hl [3, 1, 2, 0] rfl)
  have hl : lv_has ls 4 [(3, .int (nI 32 + (-1))), (2, .int (0)), (0, .int (a)), (1, .int (b))] := q_lv hl (congrArg (fun z => ([(3, Value.int z), (2, .int (0)), (0, .int (a)), (1, .int (b))] : List (Nat × Value))) (show (31 : Int32) = nI 32 + (-1) from by decide))
  exact L5 (32) 0 (by omega) ls (lv_sub hl [2, 3, 1, 0] rfl)
set_option maxHeartbeats 4000000 in
set_option maxRecDepth 100000 in
theorem c_X_power (l : Launch) (b : Int32) (ex : Int64) : Met l yX0_power wsX0_power ({ frames := 2, cells := 0, slots := 0, locals := 45 } : Room) (va_Pc [.int b, .long ex] (fun _ => True)) (k2_QcV (.int (cr_pw b (ex.toBitVec.toNat)))) 0 0 (fun _ => False) := by
  refine Met.ofW (cc := cX0_power) (maxL := 5) (ret := some .int) (by decide) rfl ?_
  intro p e s m args below meth c s₁ B hml hv
  obtain ⟨rfl, hv⟩ := hv
  have hx := B.exec
  have hb := B.bytes
  have hr := B.returns
  have hts := atoms_spec (ws := wsX0_power) B.pre
  have hown : s.vm.findClass RX0 = some m.cls := findClass_of_methodNamed B.named
  have hlocks := B.notSynchronized
  have hl := lv_entry ([.int b, .long ex]) (n := 5) (Nat.le_of_ble_eq_true rfl)
  rw [lg_entry_eq]
  generalize (lg_sl ([.int b, .long ex]) ++ List.replicate (5 - (lg_sl ([.int b, .long ex])).length) Slot.unset).toArray = ls at hl ⊢
  have hl : lv_has ls 5 [(0, .int (b)), (1, .long (ex))] := hl
  refine lv_ldc (v := -2147483648) hx hb hown (hts (.constant RX0 60 (-2147483648)) (by decide +kernel)) dX0_power_0 ?_
  refine lv_istore_n (lv' := [(3, .int ((-2147483648))), (0, .int (b)), (1, .long (ex))]) hx hb dX0_power_2 rfl hl (by decide) rfl (fun ls hl => ?_)
  refine lv_iconst (v := 0) hx hb dX0_power_3 (by decide) ?_
  refine lv_istore (lv' := [(4, .int (0)), (3, .int ((-2147483648))), (0, .int (b)), (1, .long (ex))]) hx hb dX0_power_4 hl (by decide) rfl (fun ls hl => ?_)
  have L6 : ∀ (d j : Nat), j + d = 64 → ∀ ls : Array Slot, lv_has ls 5 [(0, .int (cr_pw b (2 ^ (j)))), (1, .long (ex)), (3, .int (cr_pw b (ex.toBitVec.toNat % 2 ^ (j)))), (4, .int (nI (j)))] → W p l e (headSpec wsX0_power ({ frames := 2, cells := 0, slots := 0, locals := 45 } : Room)).room s m [Value.int b, .long ex].toArray below meth c s.heap [] 0 0 (MQ below (k2_QcV (.int (cr_pw b (ex.toBitVec.toNat)))) [Value.int b, .long ex].toArray s 0 0 (fun _ => False)) (F0 m 6 ls []) := by
    intro d
    induction d with
    | zero =>
      intro j hj ls hl
      obtain rfl : 64 = j := by omega
      refine lv_iload hx hb dX0_power_6 (lv_at hl 3 rfl) ?_
      refine lv_bipush (v := 64) hx hb dX0_power_8 (by decide) ?_
      refine lv_icmp_ge (tgt := 42) hx hb dX0_power_10 (by decide) (fun c_10 => ?_) (fun c_10 => ?_)
      · refine lv_iload_n hx hb dX0_power_42 rfl (lv_at hl 2 rfl) ?_
        exact W.iret (v := cr_pw b (ex.toBitVec.toNat % 2 ^ (64))) hx hb hr (fun t ht _ => ⟨congrArg (fun z => Outcome.returned (some (Value.int z))) (by rw [Nat.mod_eq_of_lt ex.toBitVec.isLt]), ht⟩) (fun _ h => by cases h) dX0_power_43
      · exact absurd (nI_le (a := 64) (b := 64) (Nat.le_refl _) (by omega)) c_10
    | succ d ih =>
      intro j hj ls hl
      have hjl : j < 64 := by omega
      refine lv_iload hx hb dX0_power_6 (lv_at hl 3 rfl) ?_
      refine lv_bipush (v := 64) hx hb dX0_power_8 (by decide) ?_
      refine lv_icmp_ge (tgt := 42) hx hb dX0_power_10 (by decide) (fun c_10 => ?_) (fun c_10 => ?_)
      · exact absurd c_10 (nI_ge (b := 64) hjl (by omega))
      · refine lv_lload_n hx hb dX0_power_13 rfl (lv_at hl 1 rfl) ?_
        refine lv_iload hx hb dX0_power_14 (lv_at hl 3 rfl) ?_
        refine lv_lushr (v := sh_U (ex) (nI (j))) hx hb dX0_power_16 rfl ?_
        refine lv_lconst (v := 1) hx hb dX0_power_17 (by decide) ?_
        refine lv_land hx hb dX0_power_18 ?_
        refine lv_lconst (v := 0) hx hb dX0_power_19 (by decide) ?_
        refine W.lcmp hx hb dX0_power_20 ?_
        refine lv_if_eq (tgt := 30) hx hb dX0_power_21 (by decide) (fun c_21 => ?_) (fun c_21 => ?_)
        · refine lv_iload_n hx hb dX0_power_30 rfl (lv_at hl 0 rfl) ?_
          refine lv_iload_n hx hb dX0_power_31 rfl (lv_at hl 0 rfl) ?_
          refine q_S (As := [.int (cr_pw b (2 ^ (j))), .int (cr_pw b (2 ^ (j)))]) (rest := []) ⟨hx, hb, hml, hown, hts⟩ (c_X_product l (cr_pw b (2 ^ (j))) (cr_pw b (2 ^ (j)))) (va_cwS 2 hts gX0_power_X0_product rfl rfl rfl (by decide +kernel) ⟨Nat.le_of_ble_eq_true rfl, Nat.le_of_ble_eq_true rfl⟩) rfl hl.1 rfl (Nat.le_of_ble_eq_true rfl) dX0_power_32 ⟨Nat.zero_le _, Nat.zero_le _⟩ ?_
          refine q_ti (y := cr_pw b (2 ^ (j + 1))) (pw_sq b j) ?_
          refine lv_istore_n (lv' := [(0, .int (cr_pw b (2 ^ (j + 1)))), (1, .long (ex)), (3, .int (cr_pw b (ex.toBitVec.toNat % 2 ^ (j)))), (4, .int (nI (j)))]) hx hb dX0_power_35 rfl hl (by decide) rfl (fun ls hl => ?_)
          refine lv_iinc (v := nI (j + 1)) (lv' := [(4, .int (nI (j + 1))), (0, .int (cr_pw b (2 ^ (j + 1)))), (1, .long (ex)), (3, .int (cr_pw b (ex.toBitVec.toNat % 2 ^ (j))))]) hx hb dX0_power_36 hl (k := 3) rfl (nI_add j 1) (by decide) rfl (fun ls hl => ?_)
          refine lv_goto (tgt := 6) hx hb dX0_power_39 (by decide) ?_
          have hl : lv_has ls 5 [(4, .int (nI (j + 1))), (0, .int (cr_pw b (2 ^ (j + 1)))), (1, .long (ex)), (3, .int (cr_pw b (ex.toBitVec.toNat % 2 ^ (j + 1))))] := q_lv hl (congrArg (fun z => ([(4, .int (nI (j + 1))), (0, .int (cr_pw b (2 ^ (j + 1)))), (1, .long (ex)), (3, Value.int z)] : List (Nat × Value))) (show (cr_pw b (ex.toBitVec.toNat % 2 ^ (j)) : Int32) = cr_pw b (ex.toBitVec.toNat % 2 ^ (j + 1)) from pw_nobit hjl c_21))
          exact ih (j + 1) (by omega) ls (lv_sub hl [1, 2, 3, 0] rfl)
        · refine lv_iload_n hx hb dX0_power_24 rfl (lv_at hl 2 rfl) ?_
          refine lv_iload_n hx hb dX0_power_25 rfl (lv_at hl 0 rfl) ?_
          refine q_S (As := [.int (cr_pw b (ex.toBitVec.toNat % 2 ^ (j))), .int (cr_pw b (2 ^ (j)))]) (rest := []) ⟨hx, hb, hml, hown, hts⟩ (c_X_product l (cr_pw b (ex.toBitVec.toNat % 2 ^ (j))) (cr_pw b (2 ^ (j)))) (va_cwS 2 hts gX0_power_X0_product rfl rfl rfl (by decide +kernel) ⟨Nat.le_of_ble_eq_true rfl, Nat.le_of_ble_eq_true rfl⟩) rfl hl.1 rfl (Nat.le_of_ble_eq_true rfl) dX0_power_26 ⟨Nat.zero_le _, Nat.zero_le _⟩ ?_
          refine q_ti (y := cr_pw b (ex.toBitVec.toNat % 2 ^ (j + 1))) (pw_bit hjl c_21) ?_
          refine lv_istore_n (lv' := [(3, .int (cr_pw b (ex.toBitVec.toNat % 2 ^ (j + 1)))), (0, .int (cr_pw b (2 ^ (j)))), (1, .long (ex)), (4, .int (nI (j)))]) hx hb dX0_power_29 rfl hl (by decide) rfl (fun ls hl => ?_)
          refine lv_iload_n hx hb dX0_power_30 rfl (lv_at hl 1 rfl) ?_
          refine lv_iload_n hx hb dX0_power_31 rfl (lv_at hl 1 rfl) ?_
          refine q_S (As := [.int (cr_pw b (2 ^ (j))), .int (cr_pw b (2 ^ (j)))]) (rest := []) ⟨hx, hb, hml, hown, hts⟩ (c_X_product l (cr_pw b (2 ^ (j))) (cr_pw b (2 ^ (j)))) (va_cwS 2 hts gX0_power_X0_product rfl rfl rfl (by decide +kernel) ⟨Nat.le_of_ble_eq_true rfl, Nat.le_of_ble_eq_true rfl⟩) rfl hl.1 rfl (Nat.le_of_ble_eq_true rfl) dX0_power_32 ⟨Nat.zero_le _, Nat.zero_le _⟩ ?_
          refine q_ti (y := cr_pw b (2 ^ (j + 1))) (pw_sq b j) ?_
          refine lv_istore_n (lv' := [(0, .int (cr_pw b (2 ^ (j + 1)))), (3, .int (cr_pw b (ex.toBitVec.toNat % 2 ^ (j + 1)))), (1, .long (ex)), (4, .int (nI (j)))]) hx hb dX0_power_35 rfl hl (by decide) rfl (fun ls hl => ?_)
          refine lv_iinc (v := nI (j + 1)) (lv' := [(4, .int (nI (j + 1))), (0, .int (cr_pw b (2 ^ (j + 1)))), (3, .int (cr_pw b (ex.toBitVec.toNat % 2 ^ (j + 1)))), (1, .long (ex))]) hx hb dX0_power_36 hl (k := 3) rfl (nI_add j 1) (by decide) rfl (fun ls hl => ?_)
          refine lv_goto (tgt := 6) hx hb dX0_power_39 (by decide) ?_
          exact ih (j + 1) (by omega) ls (lv_sub hl [1, 3, 2, 0] rfl)
  have hl : lv_has ls 5 [(4, .int (0)), (3, .int ((-2147483648))), (0, .int (cr_pw b (2 ^ 0))), (1, .long (ex))] := q_lv hl (congrArg (fun z => ([(4, .int (0)), (3, .int ((-2147483648))), (0, Value.int z), (1, .long (ex))] : List (Nat × Value))) (show (b : Int32) = cr_pw b (2 ^ 0) from (cr_pw_1 b).symm))
  have hl : lv_has ls 5 [(4, .int (0)), (3, .int (cr_pw b (ex.toBitVec.toNat % 2 ^ 0))), (0, .int (cr_pw b (2 ^ 0))), (1, .long (ex))] := q_lv hl (congrArg (fun z => ([(4, .int (0)), (3, Value.int z), (0, .int (cr_pw b (2 ^ 0))), (1, .long (ex))] : List (Nat × Value))) (show ((-2147483648) : Int32) = cr_pw b (ex.toBitVec.toNat % 2 ^ 0) from (show cr_pw b (ex.toBitVec.toNat % 1) = _ by rw [Nat.mod_one]; rfl).symm))
  exact L6 (64) 0 (by omega) ls (lv_sub hl [2, 3, 1, 0] rfl)
set_option maxHeartbeats 4000000 in
set_option maxRecDepth 100000 in
theorem c_X_turnedRound (l : Launch) (w : Int32) : Met l yX0_turnedRound wsX0_turnedRound ({ frames := 0, cells := 0, slots := 0, locals := 0 } : Room) (va_Pc [.int w] (fun _ => True)) (k2_QcV (.int (tu_x w))) 0 0 (fun _ => False) := by
  refine Met.ofW (cc := cX0_turnedRound) (maxL := 1) (ret := some .int) (by decide) rfl ?_
  intro p e s m args below meth c s₁ B hml hv
  obtain ⟨rfl, hv⟩ := hv
  have hx := B.exec
  have hb := B.bytes
  have hr := B.returns
  have hts := atoms_spec (ws := wsX0_turnedRound) B.pre
  have hown : s.vm.findClass RX0 = some m.cls := findClass_of_methodNamed B.named
  have hlocks := B.notSynchronized
  have hl := lv_entry ([.int w]) (n := 1) (Nat.le_of_ble_eq_true rfl)
  rw [lg_entry_eq]
  generalize (lg_sl ([.int w]) ++ List.replicate (1 - (lg_sl ([.int w])).length) Slot.unset).toArray = ls at hl ⊢
  have hl : lv_has ls 1 [(0, .int (w))] := hl
  refine lv_iload_n hx hb dX0_turnedRound_0 rfl (lv_at hl 0 rfl) ?_
  refine lv_bipush (v := 24) hx hb dX0_turnedRound_1 (by decide) ?_
  refine lv_ishl hx hb dX0_turnedRound_3 ?_
  refine q_ti (y := sh_l (w) (24)) rfl ?_
  refine lv_iload_n hx hb dX0_turnedRound_4 rfl (lv_at hl 0 rfl) ?_
  refine lv_ldc (v := 65280) hx hb hown (hts (.constant RX0 141 (65280)) (by decide +kernel)) dX0_turnedRound_5 ?_
  refine lv_iand hx hb dX0_turnedRound_7 ?_
  refine lv_bipush (v := 8) hx hb dX0_turnedRound_8 (by decide) ?_
  refine lv_ishl hx hb dX0_turnedRound_10 ?_
  refine q_ti (y := sh_l ((w &&& 65280)) (8)) rfl ?_
  refine lv_ior hx hb dX0_turnedRound_11 ?_
  refine lv_iload_n hx hb dX0_turnedRound_12 rfl (lv_at hl 0 rfl) ?_
  refine lv_bipush (v := 8) hx hb dX0_turnedRound_13 (by decide) ?_
  refine lv_iushr (v := sh_u (w) (8)) hx hb dX0_turnedRound_15 rfl ?_
  refine lv_ldc (v := 65280) hx hb hown (hts (.constant RX0 141 (65280)) (by decide +kernel)) dX0_turnedRound_16 ?_
  refine lv_iand hx hb dX0_turnedRound_18 ?_
  refine lv_ior hx hb dX0_turnedRound_19 ?_
  refine lv_iload_n hx hb dX0_turnedRound_20 rfl (lv_at hl 0 rfl) ?_
  refine lv_bipush (v := 24) hx hb dX0_turnedRound_21 (by decide) ?_
  refine lv_iushr (v := sh_u (w) (24)) hx hb dX0_turnedRound_23 rfl ?_
  refine lv_ior hx hb dX0_turnedRound_24 ?_
  exact W.iret (v := ((((sh_l (w) (24)) ||| (sh_l ((w &&& 65280)) (8))) ||| ((sh_u (w) (8)) &&& 65280)) ||| (sh_u (w) (24)))) hx hb hr (fun t ht _ => ⟨congrArg (fun z => Outcome.returned (some (Value.int z))) (rfl), ht⟩) (fun _ h => by cases h) dX0_turnedRound_25
set_option maxHeartbeats 4000000 in
set_option maxRecDepth 100000 in
theorem c_X_fourBetween (l : Launch) (x : Int32) (y : Int32) : Met l yX0_fourBetween wsX0_fourBetween ({ frames := 1, cells := 0, slots := 0, locals := 22 } : Room) (va_Pc [.int x, .int y] (fun _ => True)) (k2_QcV (.int (tu_x ((x ^^^ (-1)) ^^^ cr_it cr_b 32 (y ^^^ (-1)))))) 0 0 (fun _ => False) := by
  refine Met.ofW (cc := cX0_fourBetween) (maxL := 2) (ret := some .int) (by decide) rfl ?_
  intro p e s m args below meth c s₁ B hml hv
  obtain ⟨rfl, hv⟩ := hv
  have hx := B.exec
  have hb := B.bytes
  have hr := B.returns
  have hts := atoms_spec (ws := wsX0_fourBetween) B.pre
  have hown : s.vm.findClass RX0 = some m.cls := findClass_of_methodNamed B.named
  have hlocks := B.notSynchronized
  have hl := lv_entry ([.int x, .int y]) (n := 2) (Nat.le_of_ble_eq_true rfl)
  rw [lg_entry_eq]
  generalize (lg_sl ([.int x, .int y]) ++ List.replicate (2 - (lg_sl ([.int x, .int y])).length) Slot.unset).toArray = ls at hl ⊢
  have hl : lv_has ls 2 [(0, .int (x)), (1, .int (y))] := hl
  refine lv_iload_n hx hb dX0_fourBetween_0 rfl (lv_at hl 0 rfl) ?_
  refine lv_iconst (v := -1) hx hb dX0_fourBetween_1 (by decide) ?_
  refine lv_ixor hx hb dX0_fourBetween_2 ?_
  refine lv_iload_n hx hb dX0_fourBetween_3 rfl (lv_at hl 1 rfl) ?_
  refine lv_iconst (v := -1) hx hb dX0_fourBetween_4 (by decide) ?_
  refine lv_ixor hx hb dX0_fourBetween_5 ?_
  refine lv_bipush (v := 32) hx hb dX0_fourBetween_6 (by decide) ?_
  refine q_S (As := [.int ((y ^^^ (-1))), .int (32)]) (rest := [.int ((x ^^^ (-1)))]) ⟨hx, hb, hml, hown, hts⟩ (c_X_movedBack l ((y ^^^ (-1))) (32) (by omega)) (va_cwS 2 hts gX0_fourBetween_X0_movedBack rfl rfl rfl (by decide +kernel) ⟨Nat.le_of_ble_eq_true rfl, Nat.le_of_ble_eq_true rfl⟩) rfl hl.1 rfl (Nat.le_of_ble_eq_true rfl) dX0_fourBetween_8 ⟨Nat.zero_le _, Nat.zero_le _⟩ ?_
  refine lv_ixor hx hb dX0_fourBetween_11 ?_
  refine q_S (As := [.int (((x ^^^ (-1)) ^^^ (cr_it cr_b 32 ((y ^^^ (-1))))))]) (rest := []) ⟨hx, hb, hml, hown, hts⟩ (c_X_turnedRound l (((x ^^^ (-1)) ^^^ (cr_it cr_b 32 ((y ^^^ (-1))))))) (va_cwS 1 hts gX0_fourBetween_X0_turnedRound rfl rfl rfl (by decide +kernel) ⟨Nat.le_of_ble_eq_true rfl, Nat.le_of_ble_eq_true rfl⟩) rfl hl.1 rfl (Nat.le_of_ble_eq_true rfl) dX0_fourBetween_12 ⟨Nat.zero_le _, Nat.zero_le _⟩ ?_
  exact W.iret (v := (tu_x (((x ^^^ (-1)) ^^^ (cr_it cr_b 32 ((y ^^^ (-1)))))))) hx hb hr (fun t ht _ => ⟨congrArg (fun z => Outcome.returned (some (Value.int z))) (rfl), ht⟩) (fun _ h => by cases h) dX0_fourBetween_15
