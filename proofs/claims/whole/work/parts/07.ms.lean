set_option maxHeartbeats 4000000 in
set_option maxRecDepth 100000 in
theorem c_M_rotated (l : Launch) (x : Int32) (k : Int32) : Met l yX1_rotated wsM_rotated ({ frames := 0, cells := 0, slots := 0, locals := 0 } : Room) (va_Pc [.int x, .int k] (fun _ => True)) (k2_QcV (.int (na_rt x k))) 0 0 (fun _ => False) := by
  refine Met.ofW (cc := cX1_rotated) (maxL := 2) (ret := some .int) (by decide) rfl ?_
  intro p e s m args below meth c s₁ B hml hv
  obtain ⟨rfl, hv⟩ := hv
  have hx := B.exec
  have hb := B.bytes
  have hr := B.returns
  have hts := atoms_spec (ws := wsM_rotated) B.pre
  have hown : s.vm.findClass RX1 = some m.cls := findClass_of_methodNamed B.named
  have hlocks := B.notSynchronized
  have hl := lv_entry ([.int x, .int k]) (n := 2) (Nat.le_of_ble_eq_true rfl)
  rw [lg_entry_eq]
  generalize (lg_sl ([.int x, .int k]) ++ List.replicate (2 - (lg_sl ([.int x, .int k])).length) Slot.unset).toArray = ls at hl ⊢
  have hl : lv_has ls 2 [(0, .int (x)), (1, .int (k))] := hl
  refine lv_iload_n hx hb dX1_rotated_0 rfl (lv_at hl 0 rfl) ?_
  refine lv_iload_n hx hb dX1_rotated_1 rfl (lv_at hl 1 rfl) ?_
  refine lv_ishl hx hb dX1_rotated_2 ?_
  refine q_ti (y := sh_l (x) (k)) rfl ?_
  refine lv_iload_n hx hb dX1_rotated_3 rfl (lv_at hl 0 rfl) ?_
  refine lv_bipush (v := 32) hx hb dX1_rotated_4 (by decide) ?_
  refine lv_iload_n hx hb dX1_rotated_6 rfl (lv_at hl 1 rfl) ?_
  refine lv_isub hx hb dX1_rotated_7 ?_
  refine lv_iushr (v := sh_u (x) ((32 - k))) hx hb dX1_rotated_8 rfl ?_
  refine lv_ior hx hb dX1_rotated_9 ?_
  exact W.iret (v := ((sh_l (x) (k)) ||| (sh_u (x) ((32 - k))))) hx hb hr (fun t ht _ => ⟨congrArg (fun z => Outcome.returned (some (Value.int z))) (rfl), ht⟩) (fun _ h => by cases h) dX1_rotated_10
set_option maxHeartbeats 4000000 in
set_option maxRecDepth 100000 in
theorem c_M_turned (l : Launch) (x : Int64) (k : Int32) : Met l yX1_turned wsM_turned ({ frames := 0, cells := 0, slots := 0, locals := 0 } : Room) (va_Pc [.long x, .int k] (fun _ => True)) (k2_QcV (.long (wi_rt x k))) 0 0 (fun _ => False) := by
  refine Met.ofW (cc := cX1_turned) (maxL := 3) (ret := some .long) (by decide) rfl ?_
  intro p e s m args below meth c s₁ B hml hv
  obtain ⟨rfl, hv⟩ := hv
  have hx := B.exec
  have hb := B.bytes
  have hr := B.returns
  have hts := atoms_spec (ws := wsM_turned) B.pre
  have hown : s.vm.findClass RX1 = some m.cls := findClass_of_methodNamed B.named
  have hlocks := B.notSynchronized
  have hl := lv_entry ([.long x, .int k]) (n := 3) (Nat.le_of_ble_eq_true rfl)
  rw [lg_entry_eq]
  generalize (lg_sl ([.long x, .int k]) ++ List.replicate (3 - (lg_sl ([.long x, .int k])).length) Slot.unset).toArray = ls at hl ⊢
  have hl : lv_has ls 3 [(0, .long (x)), (2, .int (k))] := hl
  refine lv_lload_n hx hb dX1_turned_0 rfl (lv_at hl 0 rfl) ?_
  refine lv_iload_n hx hb dX1_turned_1 rfl (lv_at hl 1 rfl) ?_
  refine lv_lshl (v := sh_L (x) (k)) hx hb dX1_turned_2 rfl ?_
  refine lv_lload_n hx hb dX1_turned_3 rfl (lv_at hl 0 rfl) ?_
  refine lv_bipush (v := 64) hx hb dX1_turned_4 (by decide) ?_
  refine lv_iload_n hx hb dX1_turned_6 rfl (lv_at hl 1 rfl) ?_
  refine lv_isub hx hb dX1_turned_7 ?_
  refine lv_lushr (v := sh_U (x) ((64 - k))) hx hb dX1_turned_8 rfl ?_
  refine lv_lor hx hb dX1_turned_9 ?_
  exact W.lret (v := ((sh_L (x) (k)) ||| (sh_U (x) ((64 - k))))) hx hb hr (fun t ht _ => ⟨congrArg (fun z => Outcome.returned (some (Value.long z))) (rfl), ht⟩) (fun _ h => by cases h) dX1_turned_10
set_option maxHeartbeats 4000000 in
set_option maxRecDepth 100000 in
theorem c_M_join (l : Launch) (h : Int64) (x : Int64) : Met l yX1_join wsM_join ({ frames := 1, cells := 0, slots := 0, locals := 22 } : Room) (va_Pc [.long h, .long x] (fun _ => True)) (k2_QcV (.long (wi_wl h x))) 0 0 (fun _ => False) := by
  refine Met.ofW (cc := cX1_join) (maxL := 4) (ret := some .long) (by decide) rfl ?_
  intro p e s m args below meth c s₁ B hml hv
  obtain ⟨rfl, hv⟩ := hv
  have hx := B.exec
  have hb := B.bytes
  have hr := B.returns
  have hts := atoms_spec (ws := wsM_join) B.pre
  have hown : s.vm.findClass RX1 = some m.cls := findClass_of_methodNamed B.named
  have hlocks := B.notSynchronized
  have hl := lv_entry ([.long h, .long x]) (n := 4) (Nat.le_of_ble_eq_true rfl)
  rw [lg_entry_eq]
  generalize (lg_sl ([.long h, .long x]) ++ List.replicate (4 - (lg_sl ([.long h, .long x])).length) Slot.unset).toArray = ls at hl ⊢
  have hl : lv_has ls 4 [(0, .long (h)), (2, .long (x))] := hl
  refine lv_lload_n hx hb dX1_join_0 rfl (lv_at hl 0 rfl) ?_
  refine lv_lload_n hx hb dX1_join_1 rfl (lv_at hl 1 rfl) ?_
  refine lv_ldc2 (v := -4417276706812531889) hx hb hown (hts (.constantLong RX1 56 (-4417276706812531889)) (wsM_self _ (wsM_nin (by decide +kernel)))) dX1_join_2 ?_
  refine lv_lmul hx hb dX1_join_5 ?_
  refine lv_bipush (v := 31) hx hb dX1_join_6 (by decide) ?_
  refine q_S (As := [.long ((x * (-4417276706812531889))), .int (31)]) (rest := [.long (h)]) ⟨hx, hb, hml, hown, hts⟩ (c_M_turned l ((x * (-4417276706812531889))) (31)) (va_cwS 2 hts gX1_join_X1_turned rfl rfl rfl (by decide +kernel) ⟨Nat.le_of_ble_eq_true rfl, Nat.le_of_ble_eq_true rfl⟩) rfl hl.1 rfl (Nat.le_of_ble_eq_true rfl) dX1_join_8 ⟨Nat.zero_le _, Nat.zero_le _⟩ ?_
  refine lv_ldc2 (v := -7046029288634856825) hx hb hown (hts (.constantLong RX1 62 (-7046029288634856825)) (wsM_self _ (wsM_nin (by decide +kernel)))) dX1_join_11 ?_
  refine lv_lmul hx hb dX1_join_14 ?_
  refine lv_lxor hx hb dX1_join_15 ?_
  refine lv_ldc2 (v := -7046029288634856825) hx hb hown (hts (.constantLong RX1 62 (-7046029288634856825)) (wsM_self _ (wsM_nin (by decide +kernel)))) dX1_join_16 ?_
  refine lv_lmul hx hb dX1_join_19 ?_
  refine lv_ldc2 (v := -8796714831421723037) hx hb hown (hts (.constantLong RX1 64 (-8796714831421723037)) (wsM_self _ (wsM_nin (by decide +kernel)))) dX1_join_20 ?_
  refine lv_ladd hx hb dX1_join_23 ?_
  exact W.lret (v := (((h ^^^ ((wi_rt ((x * (-4417276706812531889))) 31) * (-7046029288634856825))) * (-7046029288634856825)) + (-8796714831421723037))) hx hb hr (fun t ht _ => ⟨congrArg (fun z => Outcome.returned (some (Value.long z))) (by unfold wi_wl; rw [wi_ln0]), ht⟩) (fun _ h => by cases h) dX1_join_24
set_option maxHeartbeats 4000000 in
set_option maxRecDepth 100000 in
theorem c_M_right (l : Launch) (r : Int32) : Met l yX1_right wsM_right ({ frames := 0, cells := 0, slots := 0, locals := 0 } : Room) (va_Pc [.int r] (fun _ => True)) (k2_QcV (.int (cr_r r))) 0 0 (fun _ => False) := by
  refine Met.ofW (cc := cX1_right) (maxL := 1) (ret := some .int) (by decide) rfl ?_
  intro p e s m args below meth c s₁ B hml hv
  obtain ⟨rfl, hv⟩ := hv
  have hx := B.exec
  have hb := B.bytes
  have hr := B.returns
  have hts := atoms_spec (ws := wsM_right) B.pre
  have hown : s.vm.findClass RX1 = some m.cls := findClass_of_methodNamed B.named
  have hlocks := B.notSynchronized
  have hl := lv_entry ([.int r]) (n := 1) (Nat.le_of_ble_eq_true rfl)
  rw [lg_entry_eq]
  generalize (lg_sl ([.int r]) ++ List.replicate (1 - (lg_sl ([.int r])).length) Slot.unset).toArray = ls at hl ⊢
  have hl : lv_has ls 1 [(0, .int (r))] := hl
  refine lv_iload_n hx hb dX1_right_0 rfl (lv_at hl 0 rfl) ?_
  refine lv_iconst (v := 1) hx hb dX1_right_1 (by decide) ?_
  refine lv_iand hx hb dX1_right_2 ?_
  refine lv_if_ne (tgt := 12) hx hb dX1_right_3 (by decide) (fun c_3 => ?_) (fun c_3 => ?_)
  · refine lv_iload_n hx hb dX1_right_12 rfl (lv_at hl 0 rfl) ?_
    refine lv_iconst (v := 1) hx hb dX1_right_13 (by decide) ?_
    refine lv_iushr (v := sh_u (r) (1)) hx hb dX1_right_14 rfl ?_
    refine lv_ldc (v := -2097792136) hx hb hown (hts (.constant RX1 85 (-2097792136)) (wsM_self _ (wsM_nin (by decide +kernel)))) dX1_right_15 ?_
    refine lv_ixor hx hb dX1_right_17 ?_
    exact W.iret (v := ((sh_u (r) (1)) ^^^ (-2097792136))) hx hb hr (fun t ht _ => ⟨congrArg (fun z => Outcome.returned (some (Value.int z))) (cr_r_f c_3), ht⟩) (fun _ h => by cases h) dX1_right_18
  · refine lv_iload_n hx hb dX1_right_6 rfl (lv_at hl 0 rfl) ?_
    refine lv_iconst (v := 1) hx hb dX1_right_7 (by decide) ?_
    refine lv_iushr (v := sh_u (r) (1)) hx hb dX1_right_8 rfl ?_
    refine lv_goto (tgt := 18) hx hb dX1_right_9 (by decide) ?_
    exact W.iret (v := (sh_u (r) (1))) hx hb hr (fun t ht _ => ⟨congrArg (fun z => Outcome.returned (some (Value.int z))) (cr_r_t c_3), ht⟩) (fun _ h => by cases h) dX1_right_18
set_option maxHeartbeats 4000000 in
set_option maxRecDepth 100000 in
theorem c_M_before (l : Launch) (r : Int32) : Met l yX1_before wsM_before ({ frames := 0, cells := 0, slots := 0, locals := 0 } : Room) (va_Pc [.int r] (fun _ => True)) (k2_QcV (.int (cr_b r))) 0 0 (fun _ => False) := by
  refine Met.ofW (cc := cX1_before) (maxL := 1) (ret := some .int) (by decide) rfl ?_
  intro p e s m args below meth c s₁ B hml hv
  obtain ⟨rfl, hv⟩ := hv
  have hx := B.exec
  have hb := B.bytes
  have hr := B.returns
  have hts := atoms_spec (ws := wsM_before) B.pre
  have hown : s.vm.findClass RX1 = some m.cls := findClass_of_methodNamed B.named
  have hlocks := B.notSynchronized
  have hl := lv_entry ([.int r]) (n := 1) (Nat.le_of_ble_eq_true rfl)
  rw [lg_entry_eq]
  generalize (lg_sl ([.int r]) ++ List.replicate (1 - (lg_sl ([.int r])).length) Slot.unset).toArray = ls at hl ⊢
  have hl : lv_has ls 1 [(0, .int (r))] := hl
  refine lv_iload_n hx hb dX1_before_0 rfl (lv_at hl 0 rfl) ?_
  refine lv_if_ge (tgt := 15) hx hb dX1_before_1 (by decide) (fun c_1 => ?_) (fun c_1 => ?_)
  · refine lv_iload_n hx hb dX1_before_15 rfl (lv_at hl 0 rfl) ?_
    refine lv_iconst (v := 1) hx hb dX1_before_16 (by decide) ?_
    refine lv_ishl hx hb dX1_before_17 ?_
    refine q_ti (y := sh_l (r) (1)) rfl ?_
    exact W.iret (v := (sh_l (r) (1))) hx hb hr (fun t ht _ => ⟨congrArg (fun z => Outcome.returned (some (Value.int z))) (cr_b_f c_1), ht⟩) (fun _ h => by cases h) dX1_before_18
  · refine lv_iload_n hx hb dX1_before_4 rfl (lv_at hl 0 rfl) ?_
    refine lv_ldc (v := -2097792136) hx hb hown (hts (.constant RX1 85 (-2097792136)) (wsM_self _ (wsM_nin (by decide +kernel)))) dX1_before_5 ?_
    refine lv_ixor hx hb dX1_before_7 ?_
    refine lv_iconst (v := 1) hx hb dX1_before_8 (by decide) ?_
    refine lv_ishl hx hb dX1_before_9 ?_
    refine q_ti (y := sh_l ((r ^^^ (-2097792136))) (1)) rfl ?_
    refine lv_iconst (v := 1) hx hb dX1_before_10 (by decide) ?_
    refine lv_ior hx hb dX1_before_11 ?_
    refine lv_goto (tgt := 18) hx hb dX1_before_12 (by decide) ?_
    exact W.iret (v := ((sh_l ((r ^^^ (-2097792136))) (1)) ||| 1)) hx hb hr (fun t ht _ => ⟨congrArg (fun z => Outcome.returned (some (Value.int z))) (cr_b_t c_1), ht⟩) (fun _ h => by cases h) dX1_before_18
set_option maxHeartbeats 4000000 in
set_option maxRecDepth 100000 in
theorem c_M_withByte (l : Launch) (r : Int32) (b : Int32) : Met l yX1_withByte wsM_withByte ({ frames := 1, cells := 0, slots := 0, locals := 20 } : Room) (va_Pc [.int r, .int b] (fun _ => True)) (k2_QcV (.int (cr_wb r b 8))) 0 0 (fun _ => False) := by
  refine Met.ofW (cc := cX1_withByte) (maxL := 4) (ret := some .int) (by decide) rfl ?_
  intro p e s m args below meth c s₁ B hml hv
  obtain ⟨rfl, hv⟩ := hv
  have hx := B.exec
  have hb := B.bytes
  have hr := B.returns
  have hts := atoms_spec (ws := wsM_withByte) B.pre
  have hown : s.vm.findClass RX1 = some m.cls := findClass_of_methodNamed B.named
  have hlocks := B.notSynchronized
  have hl := lv_entry ([.int r, .int b]) (n := 4) (Nat.le_of_ble_eq_true rfl)
  rw [lg_entry_eq]
  generalize (lg_sl ([.int r, .int b]) ++ List.replicate (4 - (lg_sl ([.int r, .int b])).length) Slot.unset).toArray = ls at hl ⊢
  have hl : lv_has ls 4 [(0, .int (r)), (1, .int (b))] := hl
  refine lv_iload_n hx hb dX1_withByte_0 rfl (lv_at hl 0 rfl) ?_
  refine lv_istore_n (lv' := [(2, .int (r)), (0, .int (r)), (1, .int (b))]) hx hb dX1_withByte_1 rfl hl (by decide) rfl (fun ls hl => ?_)
  refine lv_iconst (v := 0) hx hb dX1_withByte_2 (by decide) ?_
  refine lv_istore_n (lv' := [(3, .int (0)), (2, .int (r)), (0, .int (r)), (1, .int (b))]) hx hb dX1_withByte_3 rfl hl (by decide) rfl (fun ls hl => ?_)
  have L4 : ∀ (d j : Nat), j + d = 8 → ∀ ls : Array Slot, lv_has ls 4 [(0, .int (r)), (1, .int (b)), (2, .int (cr_wb r b (j))), (3, .int (nI (j)))] → W p l e (headSpec wsM_withByte ({ frames := 1, cells := 0, slots := 0, locals := 20 } : Room)).room s m [Value.int r, .int b].toArray below meth c s.heap [] 0 0 (MQ below (k2_QcV (.int (cr_wb r b 8))) [Value.int r, .int b].toArray s 0 0 (fun _ => False)) (F0 m 4 ls []) := by
    intro d
    induction d with
    | zero =>
      intro j hj ls hl
      obtain rfl : 8 = j := by omega
      refine lv_iload_n hx hb dX1_withByte_4 rfl (lv_at hl 3 rfl) ?_
      refine lv_bipush (v := 8) hx hb dX1_withByte_5 (by decide) ?_
      refine lv_icmp_ge (tgt := 27) hx hb dX1_withByte_7 (by decide) (fun c_7 => ?_) (fun c_7 => ?_)
      · refine lv_iload_n hx hb dX1_withByte_27 rfl (lv_at hl 2 rfl) ?_
        exact W.iret (v := cr_wb r b (8)) hx hb hr (fun t ht _ => ⟨congrArg (fun z => Outcome.returned (some (Value.int z))) (rfl), ht⟩) (fun _ h => by cases h) dX1_withByte_28
      · exact absurd (nI_le (a := 8) (b := 8) (Nat.le_refl _) (by omega)) c_7
    | succ d ih =>
      intro j hj ls hl
      have hjl : j < 8 := by omega
      refine lv_iload_n hx hb dX1_withByte_4 rfl (lv_at hl 3 rfl) ?_
      refine lv_bipush (v := 8) hx hb dX1_withByte_5 (by decide) ?_
      refine lv_icmp_ge (tgt := 27) hx hb dX1_withByte_7 (by decide) (fun c_7 => ?_) (fun c_7 => ?_)
      · exact absurd c_7 (nI_ge (b := 8) hjl (by omega))
      · refine lv_iload_n hx hb dX1_withByte_10 rfl (lv_at hl 2 rfl) ?_
        refine lv_iload_n hx hb dX1_withByte_11 rfl (lv_at hl 1 rfl) ?_
        refine lv_iload_n hx hb dX1_withByte_12 rfl (lv_at hl 3 rfl) ?_
        refine lv_ishr hx hb dX1_withByte_13 ?_
        refine q_ti (y := sh_s (b) (nI (j))) rfl ?_
        refine lv_iconst (v := 1) hx hb dX1_withByte_14 (by decide) ?_
        refine lv_iand hx hb dX1_withByte_15 ?_
        refine lv_ixor hx hb dX1_withByte_16 ?_
        refine q_S (As := [.int ((cr_wb r b (j) ^^^ ((sh_s (b) (nI (j))) &&& 1)))]) (rest := []) ⟨hx, hb, hml, hown, hts⟩ (c_M_right l ((cr_wb r b (j) ^^^ ((sh_s (b) (nI (j))) &&& 1)))) (va_cwS 1 hts gX1_withByte_X1_right rfl rfl rfl (by decide +kernel) ⟨Nat.le_of_ble_eq_true rfl, Nat.le_of_ble_eq_true rfl⟩) rfl hl.1 rfl (Nat.le_of_ble_eq_true rfl) dX1_withByte_17 ⟨Nat.zero_le _, Nat.zero_le _⟩ ?_
        refine q_ti (y := cr_wb r b (j + 1)) (rfl) ?_
        refine lv_istore_n (lv' := [(2, .int (cr_wb r b (j + 1))), (0, .int (r)), (1, .int (b)), (3, .int (nI (j)))]) hx hb dX1_withByte_20 rfl hl (by decide) rfl (fun ls hl => ?_)
        refine lv_iinc (v := nI (j + 1)) (lv' := [(3, .int (nI (j + 1))), (2, .int (cr_wb r b (j + 1))), (0, .int (r)), (1, .int (b))]) hx hb dX1_withByte_21 hl (k := 3) rfl (nI_add j 1) (by decide) rfl (fun ls hl => ?_)
        refine lv_goto (tgt := 4) hx hb dX1_withByte_24 (by decide) ?_
        exact ih (j + 1) (by omega) ls (lv_sub hl [2, 3, 1, 0] rfl)
  exact L4 (8) 0 (by omega) ls (lv_sub hl [2, 3, 1, 0] rfl)
set_option maxHeartbeats 4000000 in
set_option maxRecDepth 100000 in
theorem c_M_back (l : Launch) (r : Int32) (k : Nat) (hk : k < 2 ^ 31) : Met l yX1_back wsM_back ({ frames := 1, cells := 0, slots := 0, locals := 20 } : Room) (va_Pc [.int r, .int (nI k)] (fun _ => True)) (k2_QcV (.int (cr_it cr_b k r))) 0 0 (fun _ => False) := by
  refine Met.ofW (cc := cX1_back) (maxL := 4) (ret := some .int) (by decide) rfl ?_
  intro p e s m args below meth c s₁ B hml hv
  obtain ⟨rfl, hv⟩ := hv
  have hx := B.exec
  have hb := B.bytes
  have hr := B.returns
  have hts := atoms_spec (ws := wsM_back) B.pre
  have hown : s.vm.findClass RX1 = some m.cls := findClass_of_methodNamed B.named
  have hlocks := B.notSynchronized
  have hl := lv_entry ([.int r, .int (nI k)]) (n := 4) (Nat.le_of_ble_eq_true rfl)
  rw [lg_entry_eq]
  generalize (lg_sl ([.int r, .int (nI k)]) ++ List.replicate (4 - (lg_sl ([.int r, .int (nI k)])).length) Slot.unset).toArray = ls at hl ⊢
  have hl : lv_has ls 4 [(0, .int (r)), (1, .int (nI k))] := hl
  refine lv_iload_n hx hb dX1_back_0 rfl (lv_at hl 0 rfl) ?_
  refine lv_istore_n (lv' := [(2, .int (r)), (0, .int (r)), (1, .int (nI k))]) hx hb dX1_back_1 rfl hl (by decide) rfl (fun ls hl => ?_)
  refine lv_iconst (v := 0) hx hb dX1_back_2 (by decide) ?_
  refine lv_istore_n (lv' := [(3, .int (0)), (2, .int (r)), (0, .int (r)), (1, .int (nI k))]) hx hb dX1_back_3 rfl hl (by decide) rfl (fun ls hl => ?_)
  have L4 : ∀ (d j : Nat), j + d = k → ∀ ls : Array Slot, lv_has ls 4 [(0, .int (r)), (1, .int (nI k)), (2, .int (cr_it cr_b (j) r)), (3, .int (nI (j)))] → W p l e (headSpec wsM_back ({ frames := 1, cells := 0, slots := 0, locals := 20 } : Room)).room s m [Value.int r, .int (nI k)].toArray below meth c s.heap [] 0 0 (MQ below (k2_QcV (.int (cr_it cr_b k r))) [Value.int r, .int (nI k)].toArray s 0 0 (fun _ => False)) (F0 m 4 ls []) := by
    intro d
    induction d with
    | zero =>
      intro j hj ls hl
      obtain rfl : k = j := by omega
      refine lv_iload_n hx hb dX1_back_4 rfl (lv_at hl 3 rfl) ?_
      refine lv_iload_n hx hb dX1_back_5 rfl (lv_at hl 1 rfl) ?_
      refine lv_icmp_ge (tgt := 20) hx hb dX1_back_6 (by decide) (fun c_6 => ?_) (fun c_6 => ?_)
      · refine lv_iload_n hx hb dX1_back_20 rfl (lv_at hl 2 rfl) ?_
        exact W.iret (v := cr_it cr_b (k) r) hx hb hr (fun t ht _ => ⟨congrArg (fun z => Outcome.returned (some (Value.int z))) (rfl), ht⟩) (fun _ h => by cases h) dX1_back_21
      · exact absurd (nI_le (Nat.le_refl k) hk) c_6
    | succ d ih =>
      intro j hj ls hl
      have hjl : j < k := by omega
      refine lv_iload_n hx hb dX1_back_4 rfl (lv_at hl 3 rfl) ?_
      refine lv_iload_n hx hb dX1_back_5 rfl (lv_at hl 1 rfl) ?_
      refine lv_icmp_ge (tgt := 20) hx hb dX1_back_6 (by decide) (fun c_6 => ?_) (fun c_6 => ?_)
      · exact absurd c_6 (nI_ge hjl hk)
      · refine lv_iload_n hx hb dX1_back_9 rfl (lv_at hl 2 rfl) ?_
        refine q_S (As := [.int (cr_it cr_b (j) r)]) (rest := []) ⟨hx, hb, hml, hown, hts⟩ (c_M_before l (cr_it cr_b (j) r)) (va_cwS 1 hts gX1_back_X1_before rfl rfl rfl (by decide +kernel) ⟨Nat.le_of_ble_eq_true rfl, Nat.le_of_ble_eq_true rfl⟩) rfl hl.1 rfl (Nat.le_of_ble_eq_true rfl) dX1_back_10 ⟨Nat.zero_le _, Nat.zero_le _⟩ ?_
        refine q_ti (y := cr_it cr_b (j + 1) r) (rfl) ?_
        refine lv_istore_n (lv' := [(2, .int (cr_it cr_b (j + 1) r)), (0, .int (r)), (1, .int (nI k)), (3, .int (nI (j)))]) hx hb dX1_back_13 rfl hl (by decide) rfl (fun ls hl => ?_)
        refine lv_iinc (v := nI (j + 1)) (lv' := [(3, .int (nI (j + 1))), (2, .int (cr_it cr_b (j + 1) r)), (0, .int (r)), (1, .int (nI k))]) hx hb dX1_back_14 hl (k := 3) rfl (nI_add j 1) (by decide) rfl (fun ls hl => ?_)
        refine lv_goto (tgt := 4) hx hb dX1_back_17 (by decide) ?_
        exact ih (j + 1) (by omega) ls (lv_sub hl [2, 3, 1, 0] rfl)
  exact L4 (k) 0 (by omega) ls (lv_sub hl [2, 3, 1, 0] rfl)
set_option maxHeartbeats 4000000 in
set_option maxRecDepth 100000 in
theorem c_M_times (l : Launch) (a : Int32) (b : Int32) : Met l yX1_times wsM_times ({ frames := 1, cells := 0, slots := 0, locals := 20 } : Room) (va_Pc [.int a, .int b] (fun _ => True)) (k2_QcV (.int (cr_mul a b))) 0 0 (fun _ => False) := by
  refine Met.ofW (cc := cX1_times) (maxL := 5) (ret := some .int) (by decide) rfl ?_
  intro p e s m args below meth c s₁ B hml hv
  obtain ⟨rfl, hv⟩ := hv
  have hx := B.exec
  have hb := B.bytes
  have hr := B.returns
  have hts := atoms_spec (ws := wsM_times) B.pre
  have hown : s.vm.findClass RX1 = some m.cls := findClass_of_methodNamed B.named
  have hlocks := B.notSynchronized
  have hl := lv_entry ([.int a, .int b]) (n := 5) (Nat.le_of_ble_eq_true rfl)
  rw [lg_entry_eq]
  generalize (lg_sl ([.int a, .int b]) ++ List.replicate (5 - (lg_sl ([.int a, .int b])).length) Slot.unset).toArray = ls at hl ⊢
  have hl : lv_has ls 5 [(0, .int (a)), (1, .int (b))] := hl
  refine lv_iconst (v := 0) hx hb dX1_times_0 (by decide) ?_
  refine lv_istore_n (lv' := [(2, .int (0)), (0, .int (a)), (1, .int (b))]) hx hb dX1_times_1 rfl hl (by decide) rfl (fun ls hl => ?_)
  refine lv_iload_n hx hb dX1_times_2 rfl (lv_at hl 1 rfl) ?_
  refine lv_istore_n (lv' := [(3, .int (a)), (2, .int (0)), (0, .int (a)), (1, .int (b))]) hx hb dX1_times_3 rfl hl (by decide) rfl (fun ls hl => ?_)
  refine lv_bipush (v := 31) hx hb dX1_times_4 (by decide) ?_
  refine lv_istore (lv' := [(4, .int (31)), (3, .int (a)), (2, .int (0)), (0, .int (a)), (1, .int (b))]) hx hb dX1_times_6 hl (by decide) rfl (fun ls hl => ?_)
  have L8 : ∀ (d j : Nat), j + d = 32 → ∀ ls : Array Slot, lv_has ls 5 [(0, .int (a)), (1, .int (b)), (2, .int (cr_ms a b (j))), (3, .int (cr_it cr_r (j) a)), (4, .int (nI d + (-1)))] → W p l e (headSpec wsM_times ({ frames := 1, cells := 0, slots := 0, locals := 20 } : Room)).room s m [Value.int a, .int b].toArray below meth c s.heap [] 0 0 (MQ below (k2_QcV (.int (cr_mul a b))) [Value.int a, .int b].toArray s 0 0 (fun _ => False)) (F0 m 8 ls []) := by
    intro d
    induction d with
    | zero =>
      intro j hj ls hl
      obtain rfl : 32 = j := by omega
      refine lv_iload hx hb dX1_times_8 (lv_at hl 4 rfl) ?_
      refine lv_if_lt (tgt := 37) hx hb dX1_times_10 (by decide) (fun c_10 => ?_) (fun c_10 => ?_)
      · refine lv_iload_n hx hb dX1_times_37 rfl (lv_at hl 2 rfl) ?_
        exact W.iret (v := cr_ms a b (32)) hx hb hr (fun t ht _ => ⟨congrArg (fun z => Outcome.returned (some (Value.int z))) (rfl), ht⟩) (fun _ h => by cases h) dX1_times_38
      · exact absurd (by decide) c_10
    | succ d ih =>
      intro j hj ls hl
      have hjl : j < 32 := by omega
      have hl : lv_has ls 5 [(0, .int (a)), (1, .int (b)), (2, .int (cr_ms a b (j))), (3, .int (cr_it cr_r (j) a)), (4, .int (nI d))] := q_lv hl (congrArg (fun z => ([(0, .int (a)), (1, .int (b)), (2, .int (cr_ms a b (j))), (3, .int (cr_it cr_r (j) a)), (4, Value.int z)] : List (Nat × Value))) (show (nI (d + 1) + (-1) : Int32) = nI d from pk_m1 d))
      refine lv_iload hx hb dX1_times_8 (lv_at hl 4 rfl) ?_
      refine lv_if_lt (tgt := 37) hx hb dX1_times_10 (by decide) (fun c_10 => ?_) (fun c_10 => ?_)
      · exact absurd c_10 (nI_pos (by omega))
      · refine lv_iload_n hx hb dX1_times_13 rfl (lv_at hl 1 rfl) ?_
        refine lv_iload hx hb dX1_times_14 (lv_at hl 4 rfl) ?_
        refine lv_iushr (v := sh_u (b) (nI d)) hx hb dX1_times_16 rfl ?_
        refine lv_iconst (v := 1) hx hb dX1_times_17 (by decide) ?_
        refine lv_iand hx hb dX1_times_18 ?_
        refine lv_if_eq (tgt := 26) hx hb dX1_times_19 (by decide) (fun c_19 => ?_) (fun c_19 => ?_)
        · refine lv_iload_n hx hb dX1_times_26 rfl (lv_at hl 3 rfl) ?_
          refine q_S (As := [.int (cr_it cr_r (j) a)]) (rest := []) ⟨hx, hb, hml, hown, hts⟩ (c_M_right l (cr_it cr_r (j) a)) (va_cwS 1 hts gX1_times_X1_right rfl rfl rfl (by decide +kernel) ⟨Nat.le_of_ble_eq_true rfl, Nat.le_of_ble_eq_true rfl⟩) rfl hl.1 rfl (Nat.le_of_ble_eq_true rfl) dX1_times_27 ⟨Nat.zero_le _, Nat.zero_le _⟩ ?_
          refine q_ti (y := cr_it cr_r (j + 1) a) (rfl) ?_
          refine lv_istore_n (lv' := [(3, .int (cr_it cr_r (j + 1) a)), (0, .int (a)), (1, .int (b)), (2, .int (cr_ms a b (j))), (4, .int (nI d))]) hx hb dX1_times_30 rfl hl (by decide) rfl (fun ls hl => ?_)
          refine lv_iinc (v := nI d + (-1)) (lv' := [(4, .int (nI d + (-1))), (3, .int (cr_it cr_r (j + 1) a)), (0, .int (a)), (1, .int (b)), (2, .int (cr_ms a b (j)))]) hx hb dX1_times_31 hl (k := 4) rfl (congrArg (nI d + ·) (show Int32.ofInt (-1) = -1 by decide)) (by decide) rfl (fun ls hl => ?_)
          refine lv_goto (tgt := 8) hx hb dX1_times_34 (by decide) ?_
          have hl : lv_has ls 5 [(4, .int (nI d + (-1))), (3, .int (cr_it cr_r (j + 1) a)), (0, .int (a)), (1, .int (b)), (2, .int (cr_ms a b (j + 1)))] := q_lv hl (congrArg (fun z => ([(4, .int (nI d + (-1))), (3, .int (cr_it cr_r (j + 1) a)), (0, .int (a)), (1, .int (b)), (2, Value.int z)] : List (Nat × Value))) (show (cr_ms a b (j) : Int32) = cr_ms a b (j + 1) from cr_ms_nobit hj c_19))
          exact ih (j + 1) (by omega) ls (lv_sub hl [2, 3, 4, 1, 0] rfl)
        · refine lv_iload_n hx hb dX1_times_22 rfl (lv_at hl 2 rfl) ?_
          refine lv_iload_n hx hb dX1_times_23 rfl (lv_at hl 3 rfl) ?_
          refine lv_ixor hx hb dX1_times_24 ?_
          refine q_ti (y := cr_ms a b (j + 1)) (cr_ms_bit hj c_19) ?_
          refine lv_istore_n (lv' := [(2, .int (cr_ms a b (j + 1))), (0, .int (a)), (1, .int (b)), (3, .int (cr_it cr_r (j) a)), (4, .int (nI d))]) hx hb dX1_times_25 rfl hl (by decide) rfl (fun ls hl => ?_)
          refine lv_iload_n hx hb dX1_times_26 rfl (lv_at hl 3 rfl) ?_
          refine q_S (As := [.int (cr_it cr_r (j) a)]) (rest := []) ⟨hx, hb, hml, hown, hts⟩ (c_M_right l (cr_it cr_r (j) a)) (va_cwS 1 hts gX1_times_X1_right rfl rfl rfl (by decide +kernel) ⟨Nat.le_of_ble_eq_true rfl, Nat.le_of_ble_eq_true rfl⟩) rfl hl.1 rfl (Nat.le_of_ble_eq_true rfl) dX1_times_27 ⟨Nat.zero_le _, Nat.zero_le _⟩ ?_
          refine q_ti (y := cr_it cr_r (j + 1) a) (rfl) ?_
          refine lv_istore_n (lv' := [(3, .int (cr_it cr_r (j + 1) a)), (2, .int (cr_ms a b (j + 1))), (0, .int (a)), (1, .int (b)), (4, .int (nI d))]) hx hb dX1_times_30 rfl hl (by decide) rfl (fun ls hl => ?_)
          refine lv_iinc (v := nI d + (-1)) (lv' := [(4, .int (nI d + (-1))), (3, .int (cr_it cr_r (j + 1) a)), (2, .int (cr_ms a b (j + 1))), (0, .int (a)), (1, .int (b))]) hx hb dX1_times_31 hl (k := 4) rfl (congrArg (nI d + ·) (show Int32.ofInt (-1) = -1 by decide)) (by decide) rfl (fun ls hl => ?_)
          refine lv_goto (tgt := 8) hx hb dX1_times_34 (by decide) ?_
          exact ih (j + 1) (by omega) ls (lv_sub hl [3, 4, 2, 1, 0] rfl)
  have hl : lv_has ls 5 [(4, .int (nI 32 + (-1))), (3, .int (a)), (2, .int (0)), (0, .int (a)), (1, .int (b))] := q_lv hl (congrArg (fun z => ([(4, Value.int z), (3, .int (a)), (2, .int (0)), (0, .int (a)), (1, .int (b))] : List (Nat × Value))) (show (31 : Int32) = nI 32 + (-1) from by decide))
  exact L8 (32) 0 (by omega) ls (lv_sub hl [3, 4, 2, 1, 0] rfl)
set_option maxHeartbeats 4000000 in
set_option maxRecDepth 100000 in
theorem c_M_power (l : Launch) (b : Int32) (ex : Int64) : Met l yX1_power wsM_power ({ frames := 2, cells := 0, slots := 0, locals := 44 } : Room) (va_Pc [.int b, .long ex] (fun _ => True)) (k2_QcV (.int (cr_pw b (ex.toBitVec.toNat)))) 0 0 (fun _ => False) := by
  refine Met.ofW (cc := cX1_power) (maxL := 5) (ret := some .int) (by decide) rfl ?_
  intro p e s m args below meth c s₁ B hml hv
  obtain ⟨rfl, hv⟩ := hv
  have hx := B.exec
  have hb := B.bytes
  have hr := B.returns
  have hts := atoms_spec (ws := wsM_power) B.pre
  have hown : s.vm.findClass RX1 = some m.cls := findClass_of_methodNamed B.named
  have hlocks := B.notSynchronized
  have hl := lv_entry ([.int b, .long ex]) (n := 5) (Nat.le_of_ble_eq_true rfl)
  rw [lg_entry_eq]
  generalize (lg_sl ([.int b, .long ex]) ++ List.replicate (5 - (lg_sl ([.int b, .long ex])).length) Slot.unset).toArray = ls at hl ⊢
  have hl : lv_has ls 5 [(0, .int (b)), (1, .long (ex))] := hl
  refine lv_ldc (v := -2147483648) hx hb hown (hts (.constant RX1 99 (-2147483648)) (wsM_self _ (wsM_nin (by decide +kernel)))) dX1_power_0 ?_
  refine lv_istore_n (lv' := [(3, .int ((-2147483648))), (0, .int (b)), (1, .long (ex))]) hx hb dX1_power_2 rfl hl (by decide) rfl (fun ls hl => ?_)
  refine lv_bipush (v := 63) hx hb dX1_power_3 (by decide) ?_
  refine lv_istore (lv' := [(4, .int (63)), (3, .int ((-2147483648))), (0, .int (b)), (1, .long (ex))]) hx hb dX1_power_5 hl (by decide) rfl (fun ls hl => ?_)
  have L7 : ∀ (d j : Nat), j + d = 64 → ∀ ls : Array Slot, lv_has ls 5 [(0, .int (b)), (1, .long (ex)), (3, .int (cr_pw b (ex.toBitVec.toNat / 2 ^ d))), (4, .int (nI d + (-1)))] → W p l e (headSpec wsM_power ({ frames := 2, cells := 0, slots := 0, locals := 44 } : Room)).room s m [Value.int b, .long ex].toArray below meth c s.heap [] 0 0 (MQ below (k2_QcV (.int (cr_pw b (ex.toBitVec.toNat)))) [Value.int b, .long ex].toArray s 0 0 (fun _ => False)) (F0 m 7 ls []) := by
    intro d
    induction d with
    | zero =>
      intro j hj ls hl
      obtain rfl : 64 = j := by omega
      refine lv_iload hx hb dX1_power_7 (lv_at hl 3 rfl) ?_
      refine lv_if_lt (tgt := 41) hx hb dX1_power_9 (by decide) (fun c_9 => ?_) (fun c_9 => ?_)
      · refine lv_iload_n hx hb dX1_power_41 rfl (lv_at hl 2 rfl) ?_
        exact W.iret (v := cr_pw b (ex.toBitVec.toNat / 2 ^ 0)) hx hb hr (fun t ht _ => ⟨congrArg (fun z => Outcome.returned (some (Value.int z))) (by rw [Nat.pow_zero, Nat.div_one]), ht⟩) (fun _ h => by cases h) dX1_power_42
      · exact absurd (by decide) c_9
    | succ d ih =>
      intro j hj ls hl
      have hjl : j < 64 := by omega
      have hl : lv_has ls 5 [(0, .int (b)), (1, .long (ex)), (3, .int (cr_pw b (ex.toBitVec.toNat / 2 ^ (d + 1)))), (4, .int (nI d))] := q_lv hl (congrArg (fun z => ([(0, .int (b)), (1, .long (ex)), (3, .int (cr_pw b (ex.toBitVec.toNat / 2 ^ (d + 1)))), (4, Value.int z)] : List (Nat × Value))) (show (nI (d + 1) + (-1) : Int32) = nI d from pk_m1 d))
      refine lv_iload hx hb dX1_power_7 (lv_at hl 3 rfl) ?_
      refine lv_if_lt (tgt := 41) hx hb dX1_power_9 (by decide) (fun c_9 => ?_) (fun c_9 => ?_)
      · exact absurd c_9 (nI_pos (by omega))
      · refine lv_iload_n hx hb dX1_power_12 rfl (lv_at hl 2 rfl) ?_
        refine lv_iload_n hx hb dX1_power_13 rfl (lv_at hl 2 rfl) ?_
        refine q_S (As := [.int (cr_pw b (ex.toBitVec.toNat / 2 ^ (d + 1))), .int (cr_pw b (ex.toBitVec.toNat / 2 ^ (d + 1)))]) (rest := []) ⟨hx, hb, hml, hown, hts⟩ (c_M_times l (cr_pw b (ex.toBitVec.toNat / 2 ^ (d + 1))) (cr_pw b (ex.toBitVec.toNat / 2 ^ (d + 1)))) (va_cwS 2 hts gX1_power_X1_times rfl rfl rfl (by decide +kernel) ⟨Nat.le_of_ble_eq_true rfl, Nat.le_of_ble_eq_true rfl⟩) rfl hl.1 rfl (Nat.le_of_ble_eq_true rfl) dX1_power_14 ⟨Nat.zero_le _, Nat.zero_le _⟩ ?_
        refine q_ti (y := cr_pw b (2 * (ex.toBitVec.toNat / 2 ^ (d + 1)))) (pw_dbl _ _) ?_
        refine lv_istore_n (lv' := [(3, .int (cr_pw b (2 * (ex.toBitVec.toNat / 2 ^ (d + 1))))), (0, .int (b)), (1, .long (ex)), (4, .int (nI d))]) hx hb dX1_power_17 rfl hl (by decide) rfl (fun ls hl => ?_)
        refine lv_lload_n hx hb dX1_power_18 rfl (lv_at hl 2 rfl) ?_
        refine lv_iload hx hb dX1_power_19 (lv_at hl 3 rfl) ?_
        refine lv_lushr (v := sh_U (ex) (nI d)) hx hb dX1_power_21 rfl ?_
        refine lv_lconst (v := 1) hx hb dX1_power_22 (by decide) ?_
        refine lv_land hx hb dX1_power_23 ?_
        refine lv_lconst (v := 0) hx hb dX1_power_24 (by decide) ?_
        refine W.lcmp hx hb dX1_power_25 ?_
        refine lv_if_eq (tgt := 35) hx hb dX1_power_26 (by decide) (fun c_26 => ?_) (fun c_26 => ?_)
        · refine lv_iinc (v := nI d + (-1)) (lv' := [(4, .int (nI d + (-1))), (3, .int (cr_pw b (2 * (ex.toBitVec.toNat / 2 ^ (d + 1))))), (0, .int (b)), (1, .long (ex))]) hx hb dX1_power_35 hl (k := 3) rfl (congrArg (nI d + ·) (show Int32.ofInt (-1) = -1 by decide)) (by decide) rfl (fun ls hl => ?_)
          refine lv_goto (tgt := 7) hx hb dX1_power_38 (by decide) ?_
          have hl : lv_has ls 5 [(4, .int (nI d + (-1))), (3, .int (cr_pw b (ex.toBitVec.toNat / 2 ^ d))), (0, .int (b)), (1, .long (ex))] := q_lv hl (congrArg (fun z => ([(4, .int (nI d + (-1))), (3, Value.int z), (0, .int (b)), (1, .long (ex))] : List (Nat × Value))) (show (cr_pw b (2 * (ex.toBitVec.toNat / 2 ^ (d + 1))) : Int32) = cr_pw b (ex.toBitVec.toNat / 2 ^ d) from pw_dnobit (by omega) c_26))
          exact ih (j + 1) (by omega) ls (lv_sub hl [2, 3, 1, 0] rfl)
        · refine lv_iload_n hx hb dX1_power_29 rfl (lv_at hl 0 rfl) ?_
          refine lv_iload_n hx hb dX1_power_30 rfl (lv_at hl 1 rfl) ?_
          refine q_S (As := [.int (cr_pw b (2 * (ex.toBitVec.toNat / 2 ^ (d + 1)))), .int (b)]) (rest := []) ⟨hx, hb, hml, hown, hts⟩ (c_M_times l (cr_pw b (2 * (ex.toBitVec.toNat / 2 ^ (d + 1)))) (b)) (va_cwS 2 hts gX1_power_X1_times rfl rfl rfl (by decide +kernel) ⟨Nat.le_of_ble_eq_true rfl, Nat.le_of_ble_eq_true rfl⟩) rfl hl.1 rfl (Nat.le_of_ble_eq_true rfl) dX1_power_31 ⟨Nat.zero_le _, Nat.zero_le _⟩ ?_
          refine q_ti (y := cr_pw b (ex.toBitVec.toNat / 2 ^ d)) (pw_dbit (by omega) c_26) ?_
          refine lv_istore_n (lv' := [(3, .int (cr_pw b (ex.toBitVec.toNat / 2 ^ d))), (0, .int (b)), (1, .long (ex)), (4, .int (nI d))]) hx hb dX1_power_34 rfl hl (by decide) rfl (fun ls hl => ?_)
          refine lv_iinc (v := nI d + (-1)) (lv' := [(4, .int (nI d + (-1))), (3, .int (cr_pw b (ex.toBitVec.toNat / 2 ^ d))), (0, .int (b)), (1, .long (ex))]) hx hb dX1_power_35 hl (k := 3) rfl (congrArg (nI d + ·) (show Int32.ofInt (-1) = -1 by decide)) (by decide) rfl (fun ls hl => ?_)
          refine lv_goto (tgt := 7) hx hb dX1_power_38 (by decide) ?_
          exact ih (j + 1) (by omega) ls (lv_sub hl [2, 3, 1, 0] rfl)
  have hl : lv_has ls 5 [(4, .int (63)), (3, .int (cr_pw b (ex.toBitVec.toNat / 2 ^ 64))), (0, .int (b)), (1, .long (ex))] := q_lv hl (congrArg (fun z => ([(4, .int (63)), (3, Value.int z), (0, .int (b)), (1, .long (ex))] : List (Nat × Value))) (show ((-2147483648) : Int32) = cr_pw b (ex.toBitVec.toNat / 2 ^ 64) from (show cr_pw b _ = _ by rw [Nat.div_eq_of_lt ex.toBitVec.isLt]; rfl).symm))
  have hl : lv_has ls 5 [(4, .int (nI 64 + (-1))), (3, .int (cr_pw b (ex.toBitVec.toNat / 2 ^ 64))), (0, .int (b)), (1, .long (ex))] := q_lv hl (congrArg (fun z => ([(4, Value.int z), (3, .int (cr_pw b (ex.toBitVec.toNat / 2 ^ 64))), (0, .int (b)), (1, .long (ex))] : List (Nat × Value))) (show (63 : Int32) = nI 64 + (-1) from by decide))
  exact L7 (64) 0 (by omega) ls (lv_sub hl [2, 3, 1, 0] rfl)
set_option maxHeartbeats 4000000 in
set_option maxRecDepth 100000 in
theorem c_M_between (l : Launch) (x : Int32) (w : Int32) : Met l yX1_between wsM_between ({ frames := 2, cells := 0, slots := 0, locals := 43 } : Room) (va_Pc [.int x, .int w] (fun _ => True)) (k2_QcV (.int (tu_m (x ^^^ cr_it cr_b 32 w)))) 0 0 (fun _ => False) := by
  refine Met.ofW (cc := cX1_between) (maxL := 3) (ret := some .int) (by decide) rfl ?_
  intro p e s m args below meth c s₁ B hml hv
  obtain ⟨rfl, hv⟩ := hv
  have hx := B.exec
  have hb := B.bytes
  have hr := B.returns
  have hts := atoms_spec (ws := wsM_between) B.pre
  have hown : s.vm.findClass RX1 = some m.cls := findClass_of_methodNamed B.named
  have hlocks := B.notSynchronized
  have hl := lv_entry ([.int x, .int w]) (n := 3) (Nat.le_of_ble_eq_true rfl)
  rw [lg_entry_eq]
  generalize (lg_sl ([.int x, .int w]) ++ List.replicate (3 - (lg_sl ([.int x, .int w])).length) Slot.unset).toArray = ls at hl ⊢
  have hl : lv_has ls 3 [(0, .int (x)), (1, .int (w))] := hl
  refine lv_iload_n hx hb dX1_between_0 rfl (lv_at hl 0 rfl) ?_
  refine lv_iload_n hx hb dX1_between_1 rfl (lv_at hl 1 rfl) ?_
  refine lv_bipush (v := 32) hx hb dX1_between_2 (by decide) ?_
  refine q_S (As := [.int (w), .int (32)]) (rest := [.int (x)]) ⟨hx, hb, hml, hown, hts⟩ (c_M_back l (w) (32) (by omega)) (va_cwS 2 hts gX1_between_X1_back rfl rfl rfl (by decide +kernel) ⟨Nat.le_of_ble_eq_true rfl, Nat.le_of_ble_eq_true rfl⟩) rfl hl.1 rfl (Nat.le_of_ble_eq_true rfl) dX1_between_4 ⟨Nat.zero_le _, Nat.zero_le _⟩ ?_
  refine lv_ixor hx hb dX1_between_7 ?_
  refine lv_istore_n (lv' := [(2, .int ((x ^^^ (cr_it cr_b 32 w)))), (0, .int (x)), (1, .int (w))]) hx hb dX1_between_8 rfl hl (by decide) rfl (fun ls hl => ?_)
  refine lv_iload_n hx hb dX1_between_9 rfl (lv_at hl 0 rfl) ?_
  refine lv_bipush (v := 24) hx hb dX1_between_10 (by decide) ?_
  refine lv_ishl hx hb dX1_between_12 ?_
  refine q_ti (y := sh_l ((x ^^^ (cr_it cr_b 32 w))) (24)) rfl ?_
  refine lv_iload_n hx hb dX1_between_13 rfl (lv_at hl 0 rfl) ?_
  refine lv_bipush (v := 8) hx hb dX1_between_14 (by decide) ?_
  refine lv_ishr hx hb dX1_between_16 ?_
  refine q_ti (y := sh_s ((x ^^^ (cr_it cr_b 32 w))) (8)) rfl ?_
  refine lv_sipush (v := 255) hx hb dX1_between_17 (by decide) ?_
  refine lv_iand hx hb dX1_between_20 ?_
  refine lv_bipush (v := 16) hx hb dX1_between_21 (by decide) ?_
  refine lv_ishl hx hb dX1_between_23 ?_
  refine q_ti (y := sh_l (((sh_s ((x ^^^ (cr_it cr_b 32 w))) (8)) &&& 255)) (16)) rfl ?_
  refine lv_ior hx hb dX1_between_24 ?_
  refine lv_iload_n hx hb dX1_between_25 rfl (lv_at hl 0 rfl) ?_
  refine lv_bipush (v := 16) hx hb dX1_between_26 (by decide) ?_
  refine lv_ishr hx hb dX1_between_28 ?_
  refine q_ti (y := sh_s ((x ^^^ (cr_it cr_b 32 w))) (16)) rfl ?_
  refine lv_sipush (v := 255) hx hb dX1_between_29 (by decide) ?_
  refine lv_iand hx hb dX1_between_32 ?_
  refine lv_bipush (v := 8) hx hb dX1_between_33 (by decide) ?_
  refine lv_ishl hx hb dX1_between_35 ?_
  refine q_ti (y := sh_l (((sh_s ((x ^^^ (cr_it cr_b 32 w))) (16)) &&& 255)) (8)) rfl ?_
  refine lv_ior hx hb dX1_between_36 ?_
  refine lv_iload_n hx hb dX1_between_37 rfl (lv_at hl 0 rfl) ?_
  refine lv_bipush (v := 24) hx hb dX1_between_38 (by decide) ?_
  refine lv_iushr (v := sh_u ((x ^^^ (cr_it cr_b 32 w))) (24)) hx hb dX1_between_40 rfl ?_
  refine lv_ior hx hb dX1_between_41 ?_
  exact W.iret (v := ((((sh_l ((x ^^^ (cr_it cr_b 32 w))) (24)) ||| (sh_l (((sh_s ((x ^^^ (cr_it cr_b 32 w))) (8)) &&& 255)) (16))) ||| (sh_l (((sh_s ((x ^^^ (cr_it cr_b 32 w))) (16)) &&& 255)) (8))) ||| (sh_u ((x ^^^ (cr_it cr_b 32 w))) (24)))) hx hb hr (fun t ht _ => ⟨congrArg (fun z => Outcome.returned (some (Value.int z))) (rfl), ht⟩) (fun _ h => by cases h) dX1_between_42
