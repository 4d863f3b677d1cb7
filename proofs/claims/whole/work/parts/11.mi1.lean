set_option maxHeartbeats 4000000 in
set_option maxRecDepth 100000 in
theorem c_M_size (l : Launch) (dC : Nat → ClassId) (dI : Nat → Nat → Nat) (h0 a0 : Nat) (cB : ClassId) (n : Nat) (ns : Int32) (wd : Int64) (f : Nat → Int32) : Met l yX1_size wsM_size ({ frames := 0, cells := 0, slots := 0, locals := 0 } : Room) (va_Pc [.ref h0] (mW dC dI h0 a0 cB n ns wd f)) (k2_QcV (.int (nI n))) 0 0 (fun _ => False) := by
  refine Met.ofW (cc := cX1_size) (maxL := 1) (ret := some .int) (by decide) rfl ?_
  intro p e s m args below meth c s₁ B hml hv
  obtain ⟨rfl, hP, hK⟩ := hv
  have hx := B.exec
  have hb := B.bytes
  have hr := B.returns
  have hts := atoms_spec (ws := wsM_size) B.pre
  have hown : s.vm.findClass RX1 = some m.cls := findClass_of_methodNamed B.named
  have hlocks := B.notSynchronized
  have hin : ∀ w ∈ u_ws RX1 TX1 4, w ∈ wsM_size := fun w h => wsM_self w (wsM_fin w h)
  have hl := lv_entry ([.ref h0]) (n := 1) (Nat.le_of_ble_eq_true rfl)
  rw [lg_entry_eq]
  generalize (lg_sl ([.ref h0]) ++ List.replicate (1 - (lg_sl ([.ref h0])).length) Slot.unset).toArray = ls at hl ⊢
  have hl : lv_has ls 1 [(0, .ref h0)] := hl
  refine lv_aload_n hx hb dX1_size_0 rfl (lv_at hl 0 rfl) ?_
  refine va_get (D := (dC, dI)) (ci := 1) (v := .int (nI n)) (C := RX1) (T := TX1) (N := 4) hx hb hts hin hown hK hP 0 rfl rfl 1 (by decide) (hts (.fieldLink RX1 14 "StreamSumsModel" "length" "I") (wsM_self _ (wsM_nin (by decide +kernel)))) (fun _ h9 => h9) rfl dX1_size_1 ?_
  exact W.iret (v := nI n) hx hb hr (fun t ht _ => ⟨congrArg (fun z => Outcome.returned (some (Value.int z))) (rfl), ht⟩) (fun _ h => by cases h) dX1_size_4
set_option maxHeartbeats 4000000 in
set_option maxRecDepth 100000 in
theorem c_M_at (l : Launch) (dC : Nat → ClassId) (dI : Nat → Nat → Nat) (h0 a0 : Nat) (cB : ClassId) (n : Nat) (ns : Int32) (wd : Int64) (f : Nat → Int32) (j : Nat) (hj : j < 65536) : Met l yX1_at wsM_at ({ frames := 0, cells := 0, slots := 0, locals := 0 } : Room) (va_Pc [.ref h0, .int (nI j)] (mW dC dI h0 a0 cB n ns wd f)) (k2_QcV (.int (f j &&& 255))) 0 0 (fun _ => False) := by
  refine Met.ofW (cc := cX1_at) (maxL := 2) (ret := some .int) (by decide) rfl ?_
  intro p e s m args below meth c s₁ B hml hv
  obtain ⟨rfl, hP, hK⟩ := hv
  have hx := B.exec
  have hb := B.bytes
  have hr := B.returns
  have hts := atoms_spec (ws := wsM_at) B.pre
  have hown : s.vm.findClass RX1 = some m.cls := findClass_of_methodNamed B.named
  have hlocks := B.notSynchronized
  have hin : ∀ w ∈ u_ws RX1 TX1 4, w ∈ wsM_at := fun w h => wsM_self w (wsM_fin w h)
  have hl := lv_entry ([.ref h0, .int (nI j)]) (n := 2) (Nat.le_of_ble_eq_true rfl)
  rw [lg_entry_eq]
  generalize (lg_sl ([.ref h0, .int (nI j)]) ++ List.replicate (2 - (lg_sl ([.ref h0, .int (nI j)])).length) Slot.unset).toArray = ls at hl ⊢
  have hl : lv_has ls 2 [(0, .ref h0), (1, .int (nI j))] := hl
  refine lv_aload_n hx hb dX1_at_0 rfl (lv_at hl 0 rfl) ?_
  refine va_get (D := (dC, dI)) (ci := 1) (v := .ref a0) (C := RX1) (T := TX1) (N := 4) hx hb hts hin hown hK hP 0 rfl rfl 0 (by decide) (hts (.fieldLink RX1 8 "StreamSumsModel" "row" "[B") (wsM_self _ (wsM_nin (by decide +kernel)))) (fun _ h9 => h9) rfl dX1_at_1 ?_
  refine lv_iload_n hx hb dX1_at_4 rfl (lv_at hl 1 rfl) ?_
  refine q_bald (j := j) hx hb hK hP 1 0 rfl rfl rfl hj (by omega) dX1_at_5 ?_
  refine lv_sipush (v := 255) hx hb dX1_at_6 (by decide) ?_
  refine lv_iand hx hb dX1_at_9 ?_
  exact W.iret (v := ((f (j)) &&& 255)) hx hb hr (fun t ht _ => ⟨congrArg (fun z => Outcome.returned (some (Value.int z))) (rfl), ht⟩) (fun _ h => by cases h) dX1_at_10
set_option maxHeartbeats 4000000 in
set_option maxRecDepth 100000 in
theorem c_M_byteAt (l : Launch) (dC : Nat → ClassId) (dI : Nat → Nat → Nat) (h0 a0 : Nat) (cB : ClassId) (n : Nat) (ns : Int32) (wd : Int64) (f : Nat → Int32) (k : Int32) (hn : n ≤ 65536) : Met l yX1_byteAt wsM_byteAt ({ frames := 1, cells := 0, slots := 0, locals := 21 } : Room) (va_Pc [.ref h0, .int k] (mW dC dI h0 a0 cB n ns wd f)) (k2_QcV (.int (by_at n f k))) 0 0 (fun _ => False) := by
  refine Met.ofW (cc := cX1_byteAt) (maxL := 2) (ret := some .int) (by decide) rfl ?_
  intro p e s m args below meth c s₁ B hml hv
  obtain ⟨rfl, hP, hK⟩ := hv
  have hx := B.exec
  have hb := B.bytes
  have hr := B.returns
  have hts := atoms_spec (ws := wsM_byteAt) B.pre
  have hown : s.vm.findClass RX1 = some m.cls := findClass_of_methodNamed B.named
  have hlocks := B.notSynchronized
  have hin : ∀ w ∈ u_ws RX1 TX1 4, w ∈ wsM_byteAt := fun w h => wsM_self w (wsM_fin w h)
  have hl := lv_entry ([.ref h0, .int k]) (n := 2) (Nat.le_of_ble_eq_true rfl)
  rw [lg_entry_eq]
  generalize (lg_sl ([.ref h0, .int k]) ++ List.replicate (2 - (lg_sl ([.ref h0, .int k])).length) Slot.unset).toArray = ls at hl ⊢
  have hl : lv_has ls 2 [(0, .ref h0), (1, .int (k))] := hl
  refine lv_iload_n hx hb dX1_byteAt_0 rfl (lv_at hl 1 rfl) ?_
  refine lv_if_lt (tgt := 12) hx hb dX1_byteAt_1 (by decide) (fun c_1 => ?_) (fun c_1 => ?_)
  · refine lv_iconst (v := -1) hx hb dX1_byteAt_12 (by decide) ?_
    refine lv_goto (tgt := 21) hx hb dX1_byteAt_13 (by decide) ?_
    exact W.iret (v := (-1)) hx hb hr (fun t ht _ => ⟨congrArg (fun z => Outcome.returned (some (Value.int z))) (by unfold by_at; rw [if_pos c_1]), ht⟩) (fun _ h => by cases h) dX1_byteAt_21
  · obtain ⟨j, hj, hkj⟩ := nI_of c_1
    refine lv_iload_n hx hb dX1_byteAt_4 rfl (lv_at hl 1 rfl) ?_
    refine lv_aload_n hx hb dX1_byteAt_5 rfl (lv_at hl 0 rfl) ?_
    refine va_get (D := (dC, dI)) (ci := 1) (v := .int (nI n)) (C := RX1) (T := TX1) (N := 4) hx hb hts hin hown hK hP 0 rfl rfl 1 (by decide) (hts (.fieldLink RX1 14 "StreamSumsModel" "length" "I") (wsM_self _ (wsM_nin (by decide +kernel)))) (fun _ h9 => h9) rfl dX1_byteAt_6 ?_
    refine lv_icmp_lt (tgt := 16) hx hb dX1_byteAt_9 (by decide) (fun c_9 => ?_) (fun c_9 => ?_)
    · have hjn : j < n := by
        rw [hkj, nI_ltI hj (by omega)] at c_9
        exact c_9
      refine lv_aload_n hx hb dX1_byteAt_16 rfl (lv_at hl 0 rfl) ?_
      refine lv_iload_n hx hb dX1_byteAt_17 rfl (lv_at hl 1 rfl) ?_
      refine q_ti (y := nI j) (hkj) ?_
      refine q_V (As := [.int (nI j)]) (rest := []) ⟨hx, hb, hml, hown, hts⟩ (c_M_at l dC dI h0 a0 cB n ns wd f (j) (by omega)) (cwV 1 hts gX1_byteAt_X1_at rfl rfl rfl (by decide +kernel) ⟨Nat.le_of_ble_eq_true rfl, Nat.le_of_ble_eq_true rfl⟩) (mw_pre hP hK _) rfl hl.1 rfl (Nat.le_of_ble_eq_true rfl) dX1_byteAt_18 ⟨Nat.zero_le _, Nat.zero_le _⟩ ?_
      exact W.iret (v := (f j &&& 255)) hx hb hr (fun t ht _ => ⟨congrArg (fun z => Outcome.returned (some (Value.int z))) (by unfold by_at; rw [if_neg c_1, if_neg (by rw [hkj]; exact nI_ge hjn (by omega)), hkj, nI_clamp hj]), ht⟩) (fun _ h => by cases h) dX1_byteAt_21
    · refine lv_iconst (v := -1) hx hb dX1_byteAt_12 (by decide) ?_
      refine lv_goto (tgt := 21) hx hb dX1_byteAt_13 (by decide) ?_
      exact W.iret (v := (-1)) hx hb hr (fun t ht _ => ⟨congrArg (fun z => Outcome.returned (some (Value.int z))) (by unfold by_at; rw [if_neg c_1, if_pos (Int32.not_lt.mp c_9)]), ht⟩) (fun _ h => by cases h) dX1_byteAt_21
set_option maxHeartbeats 4000000 in
set_option maxRecDepth 100000 in
theorem c_M_isPart (l : Launch) (dC : Nat → ClassId) (dI : Nat → Nat → Nat) (h0 a0 : Nat) (cB : ClassId) (n : Nat) (ns : Int32) (wd : Int64) (f : Nat → Int32) (x : Int32) (y : Int32) : Met l yX1_isPart wsM_isPart ({ frames := 0, cells := 0, slots := 0, locals := 0 } : Room) (va_Pc [.ref h0, .int x, .int y] (mW dC dI h0 a0 cB n ns wd f)) (k2_QcV (.int (pt_n n x y))) 0 0 (fun _ => False) := by
  refine Met.ofW (cc := cX1_isPart) (maxL := 3) (ret := some .boolean) (by decide) rfl ?_
  intro p e s m args below meth c s₁ B hml hv
  obtain ⟨rfl, hP, hK⟩ := hv
  have hx := B.exec
  have hb := B.bytes
  have hr := B.returns
  have hts := atoms_spec (ws := wsM_isPart) B.pre
  have hown : s.vm.findClass RX1 = some m.cls := findClass_of_methodNamed B.named
  have hlocks := B.notSynchronized
  have hin : ∀ w ∈ u_ws RX1 TX1 4, w ∈ wsM_isPart := fun w h => wsM_self w (wsM_fin w h)
  have hl := lv_entry ([.ref h0, .int x, .int y]) (n := 3) (Nat.le_of_ble_eq_true rfl)
  rw [lg_entry_eq]
  generalize (lg_sl ([.ref h0, .int x, .int y]) ++ List.replicate (3 - (lg_sl ([.ref h0, .int x, .int y])).length) Slot.unset).toArray = ls at hl ⊢
  have hl : lv_has ls 3 [(0, .ref h0), (1, .int (x)), (2, .int (y))] := hl
  refine lv_iload_n hx hb dX1_isPart_0 rfl (lv_at hl 1 rfl) ?_
  refine lv_if_lt (tgt := 21) hx hb dX1_isPart_1 (by decide) (fun c_1 => ?_) (fun c_1 => ?_)
  · refine lv_iconst (v := 0) hx hb dX1_isPart_21 (by decide) ?_
    exact W.zret (v := 0) hx hb hr (by decide) (fun t ht _ => ⟨congrArg (fun z => Outcome.returned (some (Value.int z))) (by unfold pt_n; rw [if_pos c_1]), ht⟩) (fun _ h => by cases h) dX1_isPart_22
  · refine lv_iload_n hx hb dX1_isPart_4 rfl (lv_at hl 1 rfl) ?_
    refine lv_iload_n hx hb dX1_isPart_5 rfl (lv_at hl 2 rfl) ?_
    refine lv_icmp_gt (tgt := 21) hx hb dX1_isPart_6 (by decide) (fun c_6 => ?_) (fun c_6 => ?_)
    · refine lv_iconst (v := 0) hx hb dX1_isPart_21 (by decide) ?_
      exact W.zret (v := 0) hx hb hr (by decide) (fun t ht _ => ⟨congrArg (fun z => Outcome.returned (some (Value.int z))) (by unfold pt_n; rw [if_neg c_1, if_pos c_6]), ht⟩) (fun _ h => by cases h) dX1_isPart_22
    · refine lv_iload_n hx hb dX1_isPart_9 rfl (lv_at hl 2 rfl) ?_
      refine lv_aload_n hx hb dX1_isPart_10 rfl (lv_at hl 0 rfl) ?_
      refine va_get (D := (dC, dI)) (ci := 1) (v := .int (nI n)) (C := RX1) (T := TX1) (N := 4) hx hb hts hin hown hK hP 0 rfl rfl 1 (by decide) (hts (.fieldLink RX1 14 "StreamSumsModel" "length" "I") (wsM_self _ (wsM_nin (by decide +kernel)))) (fun _ h9 => h9) rfl dX1_isPart_11 ?_
      refine lv_icmp_gt (tgt := 21) hx hb dX1_isPart_14 (by decide) (fun c_14 => ?_) (fun c_14 => ?_)
      · refine lv_iconst (v := 0) hx hb dX1_isPart_21 (by decide) ?_
        exact W.zret (v := 0) hx hb hr (by decide) (fun t ht _ => ⟨congrArg (fun z => Outcome.returned (some (Value.int z))) (by unfold pt_n; rw [if_neg c_1, if_neg c_6, if_pos c_14]), ht⟩) (fun _ h => by cases h) dX1_isPart_22
      · refine lv_iconst (v := 1) hx hb dX1_isPart_17 (by decide) ?_
        refine lv_goto (tgt := 22) hx hb dX1_isPart_18 (by decide) ?_
        exact W.zret (v := 1) hx hb hr (by decide) (fun t ht _ => ⟨congrArg (fun z => Outcome.returned (some (Value.int z))) (by unfold pt_n; rw [if_neg c_1, if_neg c_6, if_neg c_14]), ht⟩) (fun _ h => by cases h) dX1_isPart_22
set_option maxHeartbeats 4000000 in
set_option maxRecDepth 100000 in
theorem c_M_number (l : Launch) (dC : Nat → ClassId) (dI : Nat → Nat → Nat) (h0 a0 : Nat) (cB : ClassId) (n : Nat) (ns : Int32) (wd : Int64) (f : Nat → Int32) (q : Nat) (k : Nat) (hq : q + k ≤ 65536) : Met l yX1_number wsM_number ({ frames := 1, cells := 0, slots := 0, locals := 21 } : Room) (va_Pc [.ref h0, .int (nI q), .int (nI k)] (mW dC dI h0 a0 cB n ns wd f)) (k2_QcV (.long (wo_n f q k))) 0 0 (fun _ => False) := by
  refine Met.ofW (cc := cX1_number) (maxL := 6) (ret := some .long) (by decide) rfl ?_
  intro p e s m args below meth c s₁ B hml hv
  obtain ⟨rfl, hP, hK⟩ := hv
  have hx := B.exec
  have hb := B.bytes
  have hr := B.returns
  have hts := atoms_spec (ws := wsM_number) B.pre
  have hown : s.vm.findClass RX1 = some m.cls := findClass_of_methodNamed B.named
  have hlocks := B.notSynchronized
  have hl := lv_entry ([.ref h0, .int (nI q), .int (nI k)]) (n := 6) (Nat.le_of_ble_eq_true rfl)
  rw [lg_entry_eq]
  generalize (lg_sl ([.ref h0, .int (nI q), .int (nI k)]) ++ List.replicate (6 - (lg_sl ([.ref h0, .int (nI q), .int (nI k)])).length) Slot.unset).toArray = ls at hl ⊢
  have hl : lv_has ls 6 [(0, .ref h0), (1, .int (nI q)), (2, .int (nI k))] := hl
  refine lv_lconst (v := 0) hx hb dX1_number_0 (by decide) ?_
  refine lv_lstore_n (lv' := [(3, .long (0)), (0, .ref h0), (1, .int (nI q)), (2, .int (nI k))]) hx hb dX1_number_1 rfl hl (by decide) rfl (fun ls hl => ?_)
  refine lv_iconst (v := 0) hx hb dX1_number_2 (by decide) ?_
  refine lv_istore (lv' := [(5, .int (0)), (3, .long (0)), (0, .ref h0), (1, .int (nI q)), (2, .int (nI k))]) hx hb dX1_number_3 hl (by decide) rfl (fun ls hl => ?_)
  have L5 : ∀ (d j : Nat), j + d = k → ∀ ls : Array Slot, lv_has ls 6 [(0, .ref h0), (1, .int (nI q)), (2, .int (nI k)), (3, .long (wo_n f q (j))), (5, .int (nI (j)))] → W p l e (headSpec wsM_number ({ frames := 1, cells := 0, slots := 0, locals := 21 } : Room)).room s m [Value.ref h0, .int (nI q), .int (nI k)].toArray below meth c s.heap [] 0 0 (MQ below (k2_QcV (.long (wo_n f q k))) [Value.ref h0, .int (nI q), .int (nI k)].toArray s 0 0 (fun _ => False)) (F0 m 5 ls []) := by
    intro d
    induction d with
    | zero =>
      intro j hj ls hl
      obtain rfl : k = j := by omega
      refine lv_iload hx hb dX1_number_5 (lv_at hl 4 rfl) ?_
      refine lv_iload_n hx hb dX1_number_7 rfl (lv_at hl 2 rfl) ?_
      refine lv_icmp_ge (tgt := 35) hx hb dX1_number_8 (by decide) (fun c_8 => ?_) (fun c_8 => ?_)
      · refine lv_lload_n hx hb dX1_number_35 rfl (lv_at hl 3 rfl) ?_
        exact W.lret (v := wo_n f q (k)) hx hb hr (fun t ht _ => ⟨congrArg (fun z => Outcome.returned (some (Value.long z))) (rfl), ht⟩) (fun _ h => by cases h) dX1_number_36
      · exact absurd (nI_le (Nat.le_refl k) (by omega)) c_8
    | succ d ih =>
      intro j hj ls hl
      have hjl : j < k := by omega
      refine lv_iload hx hb dX1_number_5 (lv_at hl 4 rfl) ?_
      refine lv_iload_n hx hb dX1_number_7 rfl (lv_at hl 2 rfl) ?_
      refine lv_icmp_ge (tgt := 35) hx hb dX1_number_8 (by decide) (fun c_8 => ?_) (fun c_8 => ?_)
      · exact absurd c_8 (nI_ge hjl (by omega))
      · refine lv_lload_n hx hb dX1_number_11 rfl (lv_at hl 3 rfl) ?_
        refine lv_aload_n hx hb dX1_number_12 rfl (lv_at hl 0 rfl) ?_
        refine lv_iload_n hx hb dX1_number_13 rfl (lv_at hl 1 rfl) ?_
        refine lv_iload hx hb dX1_number_14 (lv_at hl 4 rfl) ?_
        refine lv_iadd hx hb dX1_number_16 ?_
        refine q_ti (y := nI (q + j)) (nI_add q j) ?_
        refine q_V (As := [.int (nI (q + j))]) (rest := [.long (wo_n f q (j))]) ⟨hx, hb, hml, hown, hts⟩ (c_M_at l dC dI h0 a0 cB n ns wd f (q + j) (by omega)) (cwV 1 hts gX1_number_X1_at rfl rfl rfl (by decide +kernel) ⟨Nat.le_of_ble_eq_true rfl, Nat.le_of_ble_eq_true rfl⟩) (mw_pre hP hK _) rfl hl.1 rfl (Nat.le_of_ble_eq_true rfl) dX1_number_17 ⟨Nat.zero_le _, Nat.zero_le _⟩ ?_
        refine lv_i2l (v := ((f (q + j) &&& 255)).toInt64) hx hb dX1_number_20 rfl ?_
        refine lv_bipush (v := 8) hx hb dX1_number_21 (by decide) ?_
        refine lv_iload hx hb dX1_number_23 (lv_at hl 4 rfl) ?_
        refine lv_imul hx hb dX1_number_25 ?_
        refine lv_lshl (v := sh_L (((f (q + j) &&& 255)).toInt64) ((8 * nI (j)))) hx hb dX1_number_26 rfl ?_
        refine lv_lor hx hb dX1_number_27 ?_
        refine q_tl (y := wo_n f q (j + 1)) (rfl) ?_
        refine lv_lstore_n (lv' := [(3, .long (wo_n f q (j + 1))), (0, .ref h0), (1, .int (nI q)), (2, .int (nI k)), (5, .int (nI (j)))]) hx hb dX1_number_28 rfl hl (by decide) rfl (fun ls hl => ?_)
        refine lv_iinc (v := nI (j + 1)) (lv' := [(5, .int (nI (j + 1))), (3, .long (wo_n f q (j + 1))), (0, .ref h0), (1, .int (nI q)), (2, .int (nI k))]) hx hb dX1_number_29 hl (k := 4) rfl (nI_add j 1) (by decide) rfl (fun ls hl => ?_)
        refine lv_goto (tgt := 5) hx hb dX1_number_32 (by decide) ?_
        exact ih (j + 1) (by omega) ls (lv_sub hl [2, 3, 4, 1, 0] rfl)
  exact L5 (k) 0 (by omega) ls (lv_sub hl [2, 3, 4, 1, 0] rfl)
set_option maxHeartbeats 4000000 in
set_option maxRecDepth 100000 in
theorem c_M_register (l : Launch) (dC : Nat → ClassId) (dI : Nat → Nat → Nat) (h0 a0 : Nat) (cB : ClassId) (n : Nat) (ns : Int32) (wd : Int64) (f : Nat → Int32) (a : Nat) (b : Nat) (hab : a ≤ b) (hb6 : b ≤ 65536) : Met l yX1_register wsM_register ({ frames := 2, cells := 0, slots := 0, locals := 43 } : Room) (va_Pc [.ref h0, .int (nI a), .int (nI b)] (mW dC dI h0 a0 cB n ns wd f)) (k2_QcV (.int (cr_rg f a (-1) (b - a)))) 0 0 (fun _ => False) := by
  refine Met.ofW (cc := cX1_register) (maxL := 5) (ret := some .int) (by decide) rfl ?_
  intro p e s m args below meth c s₁ B hml hv
  obtain ⟨rfl, hP, hK⟩ := hv
  have hx := B.exec
  have hb := B.bytes
  have hr := B.returns
  have hts := atoms_spec (ws := wsM_register) B.pre
  have hown : s.vm.findClass RX1 = some m.cls := findClass_of_methodNamed B.named
  have hlocks := B.notSynchronized
  have hl := lv_entry ([.ref h0, .int (nI a), .int (nI b)]) (n := 5) (Nat.le_of_ble_eq_true rfl)
  rw [lg_entry_eq]
  generalize (lg_sl ([.ref h0, .int (nI a), .int (nI b)]) ++ List.replicate (5 - (lg_sl ([.ref h0, .int (nI a), .int (nI b)])).length) Slot.unset).toArray = ls at hl ⊢
  have hl : lv_has ls 5 [(0, .ref h0), (1, .int (nI a)), (2, .int (nI b))] := hl
  refine lv_iconst (v := -1) hx hb dX1_register_0 (by decide) ?_
  refine lv_istore_n (lv' := [(3, .int ((-1))), (0, .ref h0), (1, .int (nI a)), (2, .int (nI b))]) hx hb dX1_register_1 rfl hl (by decide) rfl (fun ls hl => ?_)
  refine lv_iload_n hx hb dX1_register_2 rfl (lv_at hl 2 rfl) ?_
  refine lv_istore (lv' := [(4, .int (nI a)), (3, .int ((-1))), (0, .ref h0), (1, .int (nI a)), (2, .int (nI b))]) hx hb dX1_register_3 hl (by decide) rfl (fun ls hl => ?_)
  have L5 : ∀ (d j : Nat), j + d = b - a → ∀ ls : Array Slot, lv_has ls 5 [(0, .ref h0), (1, .int (nI a)), (2, .int (nI b)), (3, .int (cr_rg f a (-1) (j))), (4, .int (nI (a + (j))))] → W p l e (headSpec wsM_register ({ frames := 2, cells := 0, slots := 0, locals := 43 } : Room)).room s m [Value.ref h0, .int (nI a), .int (nI b)].toArray below meth c s.heap [] 0 0 (MQ below (k2_QcV (.int (cr_rg f a (-1) (b - a)))) [Value.ref h0, .int (nI a), .int (nI b)].toArray s 0 0 (fun _ => False)) (F0 m 5 ls []) := by
    intro d
    induction d with
    | zero =>
      intro j hj ls hl
      obtain rfl : b - a = j := by omega
      refine lv_iload hx hb dX1_register_5 (lv_at hl 4 rfl) ?_
      refine lv_iload_n hx hb dX1_register_7 rfl (lv_at hl 2 rfl) ?_
      refine lv_icmp_ge (tgt := 28) hx hb dX1_register_8 (by decide) (fun c_8 => ?_) (fun c_8 => ?_)
      · refine lv_iload_n hx hb dX1_register_28 rfl (lv_at hl 3 rfl) ?_
        exact W.iret (v := cr_rg f a (-1) ((b - a))) hx hb hr (fun t ht _ => ⟨congrArg (fun z => Outcome.returned (some (Value.int z))) (rfl), ht⟩) (fun _ h => by cases h) dX1_register_29
      · exact absurd (nI_le (by omega) (by omega)) c_8
    | succ d ih =>
      intro j hj ls hl
      have hjl : j < b - a := by omega
      refine lv_iload hx hb dX1_register_5 (lv_at hl 4 rfl) ?_
      refine lv_iload_n hx hb dX1_register_7 rfl (lv_at hl 2 rfl) ?_
      refine lv_icmp_ge (tgt := 28) hx hb dX1_register_8 (by decide) (fun c_8 => ?_) (fun c_8 => ?_)
      · exact absurd c_8 (nI_ge (by omega) (by omega))
      · refine lv_iload_n hx hb dX1_register_11 rfl (lv_at hl 3 rfl) ?_
        refine lv_aload_n hx hb dX1_register_12 rfl (lv_at hl 0 rfl) ?_
        refine lv_iload hx hb dX1_register_13 (lv_at hl 4 rfl) ?_
        refine q_V (As := [.int (nI (a + (j)))]) (rest := [.int (cr_rg f a (-1) (j))]) ⟨hx, hb, hml, hown, hts⟩ (c_M_at l dC dI h0 a0 cB n ns wd f (a + j) (by omega)) (cwV 1 hts gX1_register_X1_at rfl rfl rfl (by decide +kernel) ⟨Nat.le_of_ble_eq_true rfl, Nat.le_of_ble_eq_true rfl⟩) (mw_pre hP hK _) rfl hl.1 rfl (Nat.le_of_ble_eq_true rfl) dX1_register_15 ⟨Nat.zero_le _, Nat.zero_le _⟩ ?_
        refine q_S (As := [.int (cr_rg f a (-1) (j)), .int ((f (a + j) &&& 255))]) (rest := []) ⟨hx, hb, hml, hown, hts⟩ (c_M_withByte l (cr_rg f a (-1) (j)) ((f (a + j) &&& 255))) (va_cwS 2 hts gX1_register_X1_withByte rfl rfl rfl (by decide +kernel) ⟨Nat.le_of_ble_eq_true rfl, Nat.le_of_ble_eq_true rfl⟩) rfl hl.1 rfl (Nat.le_of_ble_eq_true rfl) dX1_register_18 ⟨Nat.zero_le _, Nat.zero_le _⟩ ?_
        refine q_ti (y := cr_rg f a (-1) (j + 1)) (cr_wb8 _ _) ?_
        refine lv_istore_n (lv' := [(3, .int (cr_rg f a (-1) (j + 1))), (0, .ref h0), (1, .int (nI a)), (2, .int (nI b)), (4, .int (nI (a + (j))))]) hx hb dX1_register_21 rfl hl (by decide) rfl (fun ls hl => ?_)
        refine lv_iinc (v := nI (a + (j + 1))) (lv' := [(4, .int (nI (a + (j + 1)))), (3, .int (cr_rg f a (-1) (j + 1))), (0, .ref h0), (1, .int (nI a)), (2, .int (nI b))]) hx hb dX1_register_22 hl (k := 4) rfl (nI_add _ 1) (by decide) rfl (fun ls hl => ?_)
        refine lv_goto (tgt := 5) hx hb dX1_register_25 (by decide) ?_
        exact ih (j + 1) (by omega) ls (lv_sub hl [2, 3, 4, 1, 0] rfl)
  exact L5 (b - a) 0 (by omega) ls (lv_sub hl [2, 3, 4, 1, 0] rfl)
set_option maxHeartbeats 4000000 in
set_option maxRecDepth 100000 in
theorem c_M_poly (l : Launch) (dC : Nat → ClassId) (dI : Nat → Nat → Nat) (h0 a0 : Nat) (cB : ClassId) (n : Nat) (ns : Int32) (wd : Int64) (f : Nat → Int32) (hn : n ≤ 65536) : Met l yX1_poly wsM_poly ({ frames := 3, cells := 0, slots := 0, locals := 67 } : Room) (va_Pc [.ref h0] (mW dC dI h0 a0 cB n ns wd f)) (k2_QcV (.int (cr_rg f 0 (-1) n ^^^ (-1)))) 0 0 (fun _ => False) := by
  refine Met.ofW (cc := cX1_poly) (maxL := 1) (ret := some .int) (by decide) rfl ?_
  intro p e s m args below meth c s₁ B hml hv
  obtain ⟨rfl, hP, hK⟩ := hv
  have hx := B.exec
  have hb := B.bytes
  have hr := B.returns
  have hts := atoms_spec (ws := wsM_poly) B.pre
  have hown : s.vm.findClass RX1 = some m.cls := findClass_of_methodNamed B.named
  have hlocks := B.notSynchronized
  have hin : ∀ w ∈ u_ws RX1 TX1 4, w ∈ wsM_poly := fun w h => wsM_self w (wsM_fin w h)
  have hl := lv_entry ([.ref h0]) (n := 1) (Nat.le_of_ble_eq_true rfl)
  rw [lg_entry_eq]
  generalize (lg_sl ([.ref h0]) ++ List.replicate (1 - (lg_sl ([.ref h0])).length) Slot.unset).toArray = ls at hl ⊢
  have hl : lv_has ls 1 [(0, .ref h0)] := hl
  refine lv_aload_n hx hb dX1_poly_0 rfl (lv_at hl 0 rfl) ?_
  refine lv_iconst (v := 0) hx hb dX1_poly_1 (by decide) ?_
  refine lv_aload_n hx hb dX1_poly_2 rfl (lv_at hl 0 rfl) ?_
  refine va_get (D := (dC, dI)) (ci := 1) (v := .int (nI n)) (C := RX1) (T := TX1) (N := 4) hx hb hts hin hown hK hP 0 rfl rfl 1 (by decide) (hts (.fieldLink RX1 14 "StreamSumsModel" "length" "I") (wsM_self _ (wsM_nin (by decide +kernel)))) (fun _ h9 => h9) rfl dX1_poly_3 ?_
  refine q_V (As := [.int (0), .int (nI n)]) (rest := []) ⟨hx, hb, hml, hown, hts⟩ (c_M_register l dC dI h0 a0 cB n ns wd f (0) (n) (by omega) (by omega)) (cwV 2 hts gX1_poly_X1_register rfl rfl rfl (by decide +kernel) ⟨Nat.le_of_ble_eq_true rfl, Nat.le_of_ble_eq_true rfl⟩) (mw_pre hP hK _) rfl hl.1 rfl (Nat.le_of_ble_eq_true rfl) dX1_poly_6 ⟨Nat.zero_le _, Nat.zero_le _⟩ ?_
  refine lv_iconst (v := -1) hx hb dX1_poly_9 (by decide) ?_
  refine lv_ixor hx hb dX1_poly_10 ?_
  exact W.iret (v := ((cr_rg f 0 (-1) (n - 0)) ^^^ (-1))) hx hb hr (fun t ht _ => ⟨congrArg (fun z => Outcome.returned (some (Value.int z))) (rfl), ht⟩) (fun _ h => by cases h) dX1_poly_11
set_option maxHeartbeats 4000000 in
set_option maxRecDepth 100000 in
theorem c_M_polyOf (l : Launch) (dC : Nat → ClassId) (dI : Nat → Nat → Nat) (h0 a0 : Nat) (cB : ClassId) (n : Nat) (ns : Int32) (wd : Int64) (f : Nat → Int32) (x : Int32) (y : Int32) (hn : n ≤ 65536) : Met l yX1_polyOf wsM_polyOf ({ frames := 3, cells := 0, slots := 0, locals := 67 } : Room) (va_Pc [.ref h0, .int x, .int y] (mW dC dI h0 a0 cB n ns wd f)) (k2_QcV (.int (an_po n f x y))) 0 0 (fun _ => False) := by
  refine Met.ofW (cc := cX1_polyOf) (maxL := 3) (ret := some .int) (by decide) rfl ?_
  intro p e s m args below meth c s₁ B hml hv
  obtain ⟨rfl, hP, hK⟩ := hv
  have hx := B.exec
  have hb := B.bytes
  have hr := B.returns
  have hts := atoms_spec (ws := wsM_polyOf) B.pre
  have hown : s.vm.findClass RX1 = some m.cls := findClass_of_methodNamed B.named
  have hlocks := B.notSynchronized
  have hl := lv_entry ([.ref h0, .int x, .int y]) (n := 3) (Nat.le_of_ble_eq_true rfl)
  rw [lg_entry_eq]
  generalize (lg_sl ([.ref h0, .int x, .int y]) ++ List.replicate (3 - (lg_sl ([.ref h0, .int x, .int y])).length) Slot.unset).toArray = ls at hl ⊢
  have hl : lv_has ls 3 [(0, .ref h0), (1, .int (x)), (2, .int (y))] := hl
  refine lv_aload_n hx hb dX1_polyOf_0 rfl (lv_at hl 0 rfl) ?_
  refine lv_iload_n hx hb dX1_polyOf_1 rfl (lv_at hl 1 rfl) ?_
  refine lv_iload_n hx hb dX1_polyOf_2 rfl (lv_at hl 2 rfl) ?_
  refine q_V (As := [.int (x), .int (y)]) (rest := []) ⟨hx, hb, hml, hown, hts⟩ (c_M_isPart l dC dI h0 a0 cB n ns wd f (x) (y)) (cwV 2 hts gX1_polyOf_X1_isPart rfl rfl rfl (by decide +kernel) ⟨Nat.le_of_ble_eq_true rfl, Nat.le_of_ble_eq_true rfl⟩) (mw_pre hP hK _) rfl hl.1 rfl (Nat.le_of_ble_eq_true rfl) dX1_polyOf_3 ⟨Nat.zero_le _, Nat.zero_le _⟩ ?_
  refine lv_if_eq (tgt := 20) hx hb dX1_polyOf_6 (by decide) (fun c_6 => ?_) (fun c_6 => ?_)
  · refine lv_iconst (v := 0) hx hb dX1_polyOf_20 (by decide) ?_
    exact W.iret (v := 0) hx hb hr (fun t ht _ => ⟨congrArg (fun z => Outcome.returned (some (Value.int z))) (by unfold an_po; rw [if_pos c_6]), ht⟩) (fun _ h => by cases h) dX1_polyOf_21
  · obtain ⟨a, b, hxa, hyb, hab, hbn⟩ := pt_some hn c_6
    refine lv_aload_n hx hb dX1_polyOf_9 rfl (lv_at hl 0 rfl) ?_
    refine lv_iload_n hx hb dX1_polyOf_10 rfl (lv_at hl 1 rfl) ?_
    refine q_ti (y := nI a) (hxa) ?_
    refine lv_iload_n hx hb dX1_polyOf_11 rfl (lv_at hl 2 rfl) ?_
    refine q_ti (y := nI b) (hyb) ?_
    refine q_V (As := [.int (nI a), .int (nI b)]) (rest := []) ⟨hx, hb, hml, hown, hts⟩ (c_M_register l dC dI h0 a0 cB n ns wd f (a) (b) (by omega) (by omega)) (cwV 2 hts gX1_polyOf_X1_register rfl rfl rfl (by decide +kernel) ⟨Nat.le_of_ble_eq_true rfl, Nat.le_of_ble_eq_true rfl⟩) (mw_pre hP hK _) rfl hl.1 rfl (Nat.le_of_ble_eq_true rfl) dX1_polyOf_12 ⟨Nat.zero_le _, Nat.zero_le _⟩ ?_
    refine lv_iconst (v := -1) hx hb dX1_polyOf_15 (by decide) ?_
    refine lv_ixor hx hb dX1_polyOf_16 ?_
    refine lv_goto (tgt := 21) hx hb dX1_polyOf_17 (by decide) ?_
    exact W.iret (v := ((cr_rg f a (-1) (b - a)) ^^^ (-1))) hx hb hr (fun t ht _ => ⟨congrArg (fun z => Outcome.returned (some (Value.int z))) (by unfold an_po; rw [if_neg c_6, hxa, hyb, nI_clamp (by omega), nI_clamp (by omega)]), ht⟩) (fun _ h => by cases h) dX1_polyOf_21
set_option maxHeartbeats 4000000 in
set_option maxRecDepth 100000 in
theorem c_M_masked (l : Launch) (dC : Nat → ClassId) (dI : Nat → Nat → Nat) (h0 a0 : Nat) (cB : ClassId) (n : Nat) (ns : Int32) (wd : Int64) (f : Nat → Int32) (x : Int32) (b : Int32) : Met l yX1_masked wsM_masked ({ frames := 1, cells := 0, slots := 0, locals := 21 } : Room) (va_Pc [.ref h0, .int x, .int b] (mW dC dI h0 a0 cB n ns wd f)) (k2_QcV (.int (an_ma x b))) 0 0 (fun _ => False) := by
  refine Met.ofW (cc := cX1_masked) (maxL := 3) (ret := some .int) (by decide) rfl ?_
  intro p e s m args below meth c s₁ B hml hv
  obtain ⟨rfl, hP, hK⟩ := hv
  have hx := B.exec
  have hb := B.bytes
  have hr := B.returns
  have hts := atoms_spec (ws := wsM_masked) B.pre
  have hown : s.vm.findClass RX1 = some m.cls := findClass_of_methodNamed B.named
  have hlocks := B.notSynchronized
  have hl := lv_entry ([.ref h0, .int x, .int b]) (n := 3) (Nat.le_of_ble_eq_true rfl)
  rw [lg_entry_eq]
  generalize (lg_sl ([.ref h0, .int x, .int b]) ++ List.replicate (3 - (lg_sl ([.ref h0, .int x, .int b])).length) Slot.unset).toArray = ls at hl ⊢
  have hl : lv_has ls 3 [(0, .ref h0), (1, .int (x)), (2, .int (b))] := hl
  refine lv_iload_n hx hb dX1_masked_0 rfl (lv_at hl 2 rfl) ?_
  refine lv_if_eq (tgt := 16) hx hb dX1_masked_1 (by decide) (fun c_1 => ?_) (fun c_1 => ?_)
  · refine lv_iload_n hx hb dX1_masked_16 rfl (lv_at hl 1 rfl) ?_
    refine lv_bipush (v := 17) hx hb dX1_masked_17 (by decide) ?_
    refine q_S (As := [.int (x), .int (17)]) (rest := []) ⟨hx, hb, hml, hown, hts⟩ (c_M_rotated l (x) (17)) (va_cwS 2 hts gX1_masked_X1_rotated rfl rfl rfl (by decide +kernel) ⟨Nat.le_of_ble_eq_true rfl, Nat.le_of_ble_eq_true rfl⟩) rfl hl.1 rfl (Nat.le_of_ble_eq_true rfl) dX1_masked_19 ⟨Nat.zero_le _, Nat.zero_le _⟩ ?_
    refine lv_ldc (v := -1568478504) hx hb hown (hts (.constant RX1 98 (-1568478504)) (wsM_self _ (wsM_nin (by decide +kernel)))) dX1_masked_22 ?_
    refine lv_iadd hx hb dX1_masked_24 ?_
    exact W.iret (v := ((na_rt x 17) + (-1568478504))) hx hb hr (fun t ht _ => ⟨congrArg (fun z => Outcome.returned (some (Value.int z))) (by unfold an_ma; rw [if_pos c_1]), ht⟩) (fun _ h => by cases h) dX1_masked_25
  · refine lv_iload_n hx hb dX1_masked_4 rfl (lv_at hl 1 rfl) ?_
    refine lv_ldc (v := -1568478504) hx hb hown (hts (.constant RX1 98 (-1568478504)) (wsM_self _ (wsM_nin (by decide +kernel)))) dX1_masked_5 ?_
    refine lv_isub hx hb dX1_masked_7 ?_
    refine lv_bipush (v := 15) hx hb dX1_masked_8 (by decide) ?_
    refine q_S (As := [.int ((x - (-1568478504))), .int (15)]) (rest := []) ⟨hx, hb, hml, hown, hts⟩ (c_M_rotated l ((x - (-1568478504))) (15)) (va_cwS 2 hts gX1_masked_X1_rotated rfl rfl rfl (by decide +kernel) ⟨Nat.le_of_ble_eq_true rfl, Nat.le_of_ble_eq_true rfl⟩) rfl hl.1 rfl (Nat.le_of_ble_eq_true rfl) dX1_masked_10 ⟨Nat.zero_le _, Nat.zero_le _⟩ ?_
    refine lv_goto (tgt := 25) hx hb dX1_masked_13 (by decide) ?_
    exact W.iret (v := (na_rt ((x - (-1568478504))) 15)) hx hb hr (fun t ht _ => ⟨congrArg (fun z => Outcome.returned (some (Value.int z))) (by unfold an_ma; rw [if_neg c_1]), ht⟩) (fun _ h => by cases h) dX1_masked_25
set_option maxHeartbeats 4000000 in
set_option maxRecDepth 100000 in
theorem c_M_joined (l : Launch) (dC : Nat → ClassId) (dI : Nat → Nat → Nat) (h0 a0 : Nat) (cB : ClassId) (n : Nat) (ns : Int32) (wd : Int64) (f : Nat → Int32) (a : Int32) (b : Int32) (ex : Int64) : Met l yX1_joined wsM_joined ({ frames := 3, cells := 0, slots := 0, locals := 68 } : Room) (va_Pc [.ref h0, .int a, .int b, .long ex] (mW dC dI h0 a0 cB n ns wd f)) (k2_QcV (.int (an_jo a b ex))) 0 0 (fun _ => False) := by
  refine Met.ofW (cc := cX1_joined) (maxL := 5) (ret := some .int) (by decide) rfl ?_
  intro p e s m args below meth c s₁ B hml hv
  obtain ⟨rfl, hP, hK⟩ := hv
  have hx := B.exec
  have hb := B.bytes
  have hr := B.returns
  have hts := atoms_spec (ws := wsM_joined) B.pre
  have hown : s.vm.findClass RX1 = some m.cls := findClass_of_methodNamed B.named
  have hlocks := B.notSynchronized
  have hl := lv_entry ([.ref h0, .int a, .int b, .long ex]) (n := 5) (Nat.le_of_ble_eq_true rfl)
  rw [lg_entry_eq]
  generalize (lg_sl ([.ref h0, .int a, .int b, .long ex]) ++ List.replicate (5 - (lg_sl ([.ref h0, .int a, .int b, .long ex])).length) Slot.unset).toArray = ls at hl ⊢
  have hl : lv_has ls 5 [(0, .ref h0), (1, .int (a)), (2, .int (b)), (3, .long (ex))] := hl
  refine lv_iload_n hx hb dX1_joined_0 rfl (lv_at hl 1 rfl) ?_
  refine lv_ldc (v := -2147483648) hx hb hown (hts (.constant RX1 99 (-2147483648)) (wsM_self _ (wsM_nin (by decide +kernel)))) dX1_joined_1 ?_
  refine lv_iconst (v := 0) hx hb dX1_joined_3 (by decide) ?_
  refine q_S (As := [.int ((-2147483648)), .int (0)]) (rest := [.int (a)]) ⟨hx, hb, hml, hown, hts⟩ (c_M_withByte l ((-2147483648)) (0)) (va_cwS 2 hts gX1_joined_X1_withByte rfl rfl rfl (by decide +kernel) ⟨Nat.le_of_ble_eq_true rfl, Nat.le_of_ble_eq_true rfl⟩) rfl hl.1 rfl (Nat.le_of_ble_eq_true rfl) dX1_joined_4 ⟨Nat.zero_le _, Nat.zero_le _⟩ ?_
  refine lv_lload_n hx hb dX1_joined_7 rfl (lv_at hl 3 rfl) ?_
  refine q_S (As := [.int ((cr_wb ((-2147483648)) 0 8)), .long (ex)]) (rest := [.int (a)]) ⟨hx, hb, hml, hown, hts⟩ (c_M_power l ((cr_wb ((-2147483648)) 0 8)) (ex)) (va_cwS 2 hts gX1_joined_X1_power rfl rfl rfl (by decide +kernel) ⟨Nat.le_of_ble_eq_true rfl, Nat.le_of_ble_eq_true rfl⟩) rfl hl.1 rfl (Nat.le_of_ble_eq_true rfl) dX1_joined_8 ⟨Nat.zero_le _, Nat.zero_le _⟩ ?_
  refine q_S (As := [.int (a), .int ((cr_pw ((cr_wb ((-2147483648)) 0 8)) (ex.toBitVec.toNat)))]) (rest := []) ⟨hx, hb, hml, hown, hts⟩ (c_M_times l (a) ((cr_pw ((cr_wb ((-2147483648)) 0 8)) (ex.toBitVec.toNat)))) (va_cwS 2 hts gX1_joined_X1_times rfl rfl rfl (by decide +kernel) ⟨Nat.le_of_ble_eq_true rfl, Nat.le_of_ble_eq_true rfl⟩) rfl hl.1 rfl (Nat.le_of_ble_eq_true rfl) dX1_joined_11 ⟨Nat.zero_le _, Nat.zero_le _⟩ ?_
  refine lv_iload_n hx hb dX1_joined_14 rfl (lv_at hl 2 rfl) ?_
  refine lv_ixor hx hb dX1_joined_15 ?_
  exact W.iret (v := ((cr_mul a ((cr_pw ((cr_wb ((-2147483648)) 0 8)) (ex.toBitVec.toNat)))) ^^^ b)) hx hb hr (fun t ht _ => ⟨congrArg (fun z => Outcome.returned (some (Value.int z))) (by unfold an_jo; rw [cr_wb0, cr_comm]), ht⟩) (fun _ h => by cases h) dX1_joined_16
set_option maxHeartbeats 4000000 in
set_option maxRecDepth 100000 in
theorem c_M_cut (l : Launch) (dC : Nat → ClassId) (dI : Nat → Nat → Nat) (h0 a0 : Nat) (cB : ClassId) (n : Nat) (ns : Int32) (wd : Int64) (f : Nat → Int32) (a : Int32) (b : Int32) (ex : Int64) : Met l yX1_cut wsM_cut ({ frames := 3, cells := 0, slots := 0, locals := 68 } : Room) (va_Pc [.ref h0, .int a, .int b, .long ex] (mW dC dI h0 a0 cB n ns wd f)) (k2_QcV (.int (an_cu a b ex))) 0 0 (fun _ => False) := by
  refine Met.ofW (cc := cX1_cut) (maxL := 5) (ret := some .int) (by decide) rfl ?_
  intro p e s m args below meth c s₁ B hml hv
  obtain ⟨rfl, hP, hK⟩ := hv
  have hx := B.exec
  have hb := B.bytes
  have hr := B.returns
  have hts := atoms_spec (ws := wsM_cut) B.pre
  have hown : s.vm.findClass RX1 = some m.cls := findClass_of_methodNamed B.named
  have hlocks := B.notSynchronized
  have hl := lv_entry ([.ref h0, .int a, .int b, .long ex]) (n := 5) (Nat.le_of_ble_eq_true rfl)
  rw [lg_entry_eq]
  generalize (lg_sl ([.ref h0, .int a, .int b, .long ex]) ++ List.replicate (5 - (lg_sl ([.ref h0, .int a, .int b, .long ex])).length) Slot.unset).toArray = ls at hl ⊢
  have hl : lv_has ls 5 [(0, .ref h0), (1, .int (a)), (2, .int (b)), (3, .long (ex))] := hl
  refine lv_iload_n hx hb dX1_cut_0 rfl (lv_at hl 1 rfl) ?_
  refine lv_iload_n hx hb dX1_cut_1 rfl (lv_at hl 2 rfl) ?_
  refine lv_ixor hx hb dX1_cut_2 ?_
  refine lv_ldc (v := -2147483648) hx hb hown (hts (.constant RX1 99 (-2147483648)) (wsM_self _ (wsM_nin (by decide +kernel)))) dX1_cut_3 ?_
  refine lv_bipush (v := 8) hx hb dX1_cut_5 (by decide) ?_
  refine q_S (As := [.int ((-2147483648)), .int (8)]) (rest := [.int ((a ^^^ b))]) ⟨hx, hb, hml, hown, hts⟩ (c_M_back l (-2147483648) (8) (by omega)) (va_cwS 2 hts gX1_cut_X1_back rfl rfl rfl (by decide +kernel) ⟨Nat.le_of_ble_eq_true rfl, Nat.le_of_ble_eq_true rfl⟩) rfl hl.1 rfl (Nat.le_of_ble_eq_true rfl) dX1_cut_7 ⟨Nat.zero_le _, Nat.zero_le _⟩ ?_
  refine lv_lload_n hx hb dX1_cut_10 rfl (lv_at hl 3 rfl) ?_
  refine q_S (As := [.int ((cr_it cr_b 8 (-2147483648))), .long (ex)]) (rest := [.int ((a ^^^ b))]) ⟨hx, hb, hml, hown, hts⟩ (c_M_power l ((cr_it cr_b 8 (-2147483648))) (ex)) (va_cwS 2 hts gX1_cut_X1_power rfl rfl rfl (by decide +kernel) ⟨Nat.le_of_ble_eq_true rfl, Nat.le_of_ble_eq_true rfl⟩) rfl hl.1 rfl (Nat.le_of_ble_eq_true rfl) dX1_cut_11 ⟨Nat.zero_le _, Nat.zero_le _⟩ ?_
  refine q_S (As := [.int ((a ^^^ b)), .int ((cr_pw ((cr_it cr_b 8 (-2147483648))) (ex.toBitVec.toNat)))]) (rest := []) ⟨hx, hb, hml, hown, hts⟩ (c_M_times l ((a ^^^ b)) ((cr_pw ((cr_it cr_b 8 (-2147483648))) (ex.toBitVec.toNat)))) (va_cwS 2 hts gX1_cut_X1_times rfl rfl rfl (by decide +kernel) ⟨Nat.le_of_ble_eq_true rfl, Nat.le_of_ble_eq_true rfl⟩) rfl hl.1 rfl (Nat.le_of_ble_eq_true rfl) dX1_cut_14 ⟨Nat.zero_le _, Nat.zero_le _⟩ ?_
  exact W.iret (v := (cr_mul ((a ^^^ b)) ((cr_pw ((cr_it cr_b 8 (-2147483648))) (ex.toBitVec.toNat))))) hx hb hr (fun t ht _ => ⟨congrArg (fun z => Outcome.returned (some (Value.int z))) (by unfold an_cu; rw [cr_comm]), ht⟩) (fun _ h => by cases h) dX1_cut_17
set_option maxHeartbeats 4000000 in
set_option maxRecDepth 100000 in
theorem c_M_forged (l : Launch) (dC : Nat → ClassId) (dI : Nat → Nat → Nat) (h0 a0 : Nat) (cB : ClassId) (n : Nat) (ns : Int32) (wd : Int64) (f : Nat → Int32) (sum : Int32) (hn : n ≤ 65536) : Met l yX1_forged wsM_forged ({ frames := 3, cells := 0, slots := 0, locals := 67 } : Room) (va_Pc [.ref h0, .int sum] (mW dC dI h0 a0 cB n ns wd f)) (k2_QcV (.int (an_fo n f sum))) 0 0 (fun _ => False) := by
  refine Met.ofW (cc := cX1_forged) (maxL := 2) (ret := some .int) (by decide) rfl ?_
  intro p e s m args below meth c s₁ B hml hv
  obtain ⟨rfl, hP, hK⟩ := hv
  have hx := B.exec
  have hb := B.bytes
  have hr := B.returns
  have hts := atoms_spec (ws := wsM_forged) B.pre
  have hown : s.vm.findClass RX1 = some m.cls := findClass_of_methodNamed B.named
  have hlocks := B.notSynchronized
  have hin : ∀ w ∈ u_ws RX1 TX1 4, w ∈ wsM_forged := fun w h => wsM_self w (wsM_fin w h)
  have hl := lv_entry ([.ref h0, .int sum]) (n := 2) (Nat.le_of_ble_eq_true rfl)
  rw [lg_entry_eq]
  generalize (lg_sl ([.ref h0, .int sum]) ++ List.replicate (2 - (lg_sl ([.ref h0, .int sum])).length) Slot.unset).toArray = ls at hl ⊢
  have hl : lv_has ls 2 [(0, .ref h0), (1, .int (sum))] := hl
  refine lv_aload_n hx hb dX1_forged_0 rfl (lv_at hl 0 rfl) ?_
  refine lv_iconst (v := 0) hx hb dX1_forged_1 (by decide) ?_
  refine lv_aload_n hx hb dX1_forged_2 rfl (lv_at hl 0 rfl) ?_
  refine va_get (D := (dC, dI)) (ci := 1) (v := .int (nI n)) (C := RX1) (T := TX1) (N := 4) hx hb hts hin hown hK hP 0 rfl rfl 1 (by decide) (hts (.fieldLink RX1 14 "StreamSumsModel" "length" "I") (wsM_self _ (wsM_nin (by decide +kernel)))) (fun _ h9 => h9) rfl dX1_forged_3 ?_
  refine q_V (As := [.int (0), .int (nI n)]) (rest := []) ⟨hx, hb, hml, hown, hts⟩ (c_M_register l dC dI h0 a0 cB n ns wd f (0) (n) (by omega) (by omega)) (cwV 2 hts gX1_forged_X1_register rfl rfl rfl (by decide +kernel) ⟨Nat.le_of_ble_eq_true rfl, Nat.le_of_ble_eq_true rfl⟩) (mw_pre hP hK _) rfl hl.1 rfl (Nat.le_of_ble_eq_true rfl) dX1_forged_6 ⟨Nat.zero_le _, Nat.zero_le _⟩ ?_
  refine lv_iload_n hx hb dX1_forged_9 rfl (lv_at hl 1 rfl) ?_
  refine lv_iconst (v := -1) hx hb dX1_forged_10 (by decide) ?_
  refine lv_ixor hx hb dX1_forged_11 ?_
  refine q_S (As := [.int ((cr_rg f 0 (-1) (n - 0))), .int ((sum ^^^ (-1)))]) (rest := []) ⟨hx, hb, hml, hown, hts⟩ (c_M_between l ((cr_rg f 0 (-1) (n - 0))) ((sum ^^^ (-1)))) (va_cwS 2 hts gX1_forged_X1_between rfl rfl rfl (by decide +kernel) ⟨Nat.le_of_ble_eq_true rfl, Nat.le_of_ble_eq_true rfl⟩) rfl hl.1 rfl (Nat.le_of_ble_eq_true rfl) dX1_forged_12 ⟨Nat.zero_le _, Nat.zero_le _⟩ ?_
  exact W.iret (v := (tu_m (((cr_rg f 0 (-1) (n - 0))) ^^^ cr_it cr_b 32 ((sum ^^^ (-1)))))) hx hb hr (fun t ht _ => ⟨congrArg (fun z => Outcome.returned (some (Value.int z))) (rfl), ht⟩) (fun _ h => by cases h) dX1_forged_15
set_option maxHeartbeats 4000000 in
set_option maxRecDepth 100000 in
theorem c_M_mended (l : Launch) (dC : Nat → ClassId) (dI : Nat → Nat → Nat) (h0 a0 : Nat) (cB : ClassId) (n : Nat) (ns : Int32) (wd : Int64) (f : Nat → Int32) (x : Int32) (sum : Int32) (hn : n ≤ 65536) : Met l yX1_mended wsM_mended ({ frames := 3, cells := 0, slots := 0, locals := 67 } : Room) (va_Pc [.ref h0, .int x, .int sum] (mW dC dI h0 a0 cB n ns wd f)) (k2_QcV (.int (an_me n f x sum))) 0 0 (fun _ => False) := by
  refine Met.ofW (cc := cX1_mended) (maxL := 5) (ret := some .int) (by decide) rfl ?_
  intro p e s m args below meth c s₁ B hml hv
  obtain ⟨rfl, hP, hK⟩ := hv
  have hx := B.exec
  have hb := B.bytes
  have hr := B.returns
  have hts := atoms_spec (ws := wsM_mended) B.pre
  have hown : s.vm.findClass RX1 = some m.cls := findClass_of_methodNamed B.named
  have hlocks := B.notSynchronized
  have hin : ∀ w ∈ u_ws RX1 TX1 4, w ∈ wsM_mended := fun w h => wsM_self w (wsM_fin w h)
  have hl := lv_entry ([.ref h0, .int x, .int sum]) (n := 5) (Nat.le_of_ble_eq_true rfl)
  rw [lg_entry_eq]
  generalize (lg_sl ([.ref h0, .int x, .int sum]) ++ List.replicate (5 - (lg_sl ([.ref h0, .int x, .int sum])).length) Slot.unset).toArray = ls at hl ⊢
  have hl : lv_has ls 5 [(0, .ref h0), (1, .int (x)), (2, .int (sum))] := hl
  refine lv_iload_n hx hb dX1_mended_0 rfl (lv_at hl 1 rfl) ?_
  refine lv_if_lt (tgt := 14) hx hb dX1_mended_1 (by decide) (fun c_1 => ?_) (fun c_1 => ?_)
  · refine lv_iconst (v := 0) hx hb dX1_mended_14 (by decide) ?_
    exact W.iret (v := 0) hx hb hr (fun t ht _ => ⟨congrArg (fun z => Outcome.returned (some (Value.int z))) (by unfold an_me; rw [if_pos c_1]), ht⟩) (fun _ h => by cases h) dX1_mended_15
  · refine lv_iload_n hx hb dX1_mended_4 rfl (lv_at hl 1 rfl) ?_
    refine lv_aload_n hx hb dX1_mended_5 rfl (lv_at hl 0 rfl) ?_
    refine va_get (D := (dC, dI)) (ci := 1) (v := .int (nI n)) (C := RX1) (T := TX1) (N := 4) hx hb hts hin hown hK hP 0 rfl rfl 1 (by decide) (hts (.fieldLink RX1 14 "StreamSumsModel" "length" "I") (wsM_self _ (wsM_nin (by decide +kernel)))) (fun _ h9 => h9) rfl dX1_mended_6 ?_
    refine lv_iconst (v := 4) hx hb dX1_mended_9 (by decide) ?_
    refine lv_isub hx hb dX1_mended_10 ?_
    refine lv_icmp_le (tgt := 16) hx hb dX1_mended_11 (by decide) (fun c_11 => ?_) (fun c_11 => ?_)
    · obtain ⟨k, hxk, hk⟩ := me_some hn c_1 c_11
      refine lv_iload_n hx hb dX1_mended_16 rfl (lv_at hl 2 rfl) ?_
      refine lv_iconst (v := -1) hx hb dX1_mended_17 (by decide) ?_
      refine lv_ixor hx hb dX1_mended_18 ?_
      refine lv_istore_n (lv' := [(3, .int ((sum ^^^ (-1)))), (0, .ref h0), (1, .int (x)), (2, .int (sum))]) hx hb dX1_mended_19 rfl hl (by decide) rfl (fun ls hl => ?_)
      refine lv_aload_n hx hb dX1_mended_20 rfl (lv_at hl 1 rfl) ?_
      refine va_get (D := (dC, dI)) (ci := 1) (v := .int (nI n)) (C := RX1) (T := TX1) (N := 4) hx hb hts hin hown hK hP 0 rfl rfl 1 (by decide) (hts (.fieldLink RX1 14 "StreamSumsModel" "length" "I") (wsM_self _ (wsM_nin (by decide +kernel)))) (fun _ h9 => h9) rfl dX1_mended_21 ?_
      refine lv_iconst (v := 1) hx hb dX1_mended_24 (by decide) ?_
      refine lv_isub hx hb dX1_mended_25 ?_
      refine q_ti (y := nI (n - 0 - 1)) (pk_sub (a := n) (b := 1) (by omega)) ?_
      refine lv_istore (lv' := [(4, .int (nI (n - 0 - 1))), (3, .int ((sum ^^^ (-1)))), (0, .ref h0), (1, .int (x)), (2, .int (sum))]) hx hb dX1_mended_26 hl (by decide) rfl (fun ls hl => ?_)
      have L28 : ∀ (d j : Nat), j + d = n - (k + 4) → ∀ ls : Array Slot, lv_has ls 5 [(0, .ref h0), (1, .int (x)), (2, .int (sum)), (3, .int (cr_bk f n (sum ^^^ (-1)) (j))), (4, .int (nI (n - (j) - 1)))] → W p l e (headSpec wsM_mended ({ frames := 3, cells := 0, slots := 0, locals := 67 } : Room)).room s m [Value.ref h0, .int x, .int sum].toArray below meth c s.heap [] 0 0 (MQ below (k2_QcV (.int (an_me n f x sum))) [Value.ref h0, .int x, .int sum].toArray s 0 0 (fun _ => False)) (F0 m 28 ls []) := by
        intro d
        induction d with
        | zero =>
          intro j hj ls hl
          obtain rfl : n - (k + 4) = j := by omega
          refine lv_iload hx hb dX1_mended_28 (lv_at hl 4 rfl) ?_
          refine lv_iload_n hx hb dX1_mended_30 rfl (lv_at hl 1 rfl) ?_
          refine q_ti (y := nI k) (hxk) ?_
          refine lv_iconst (v := 4) hx hb dX1_mended_31 (by decide) ?_
          refine lv_iadd hx hb dX1_mended_32 ?_
          refine q_ti (y := nI (k + 4)) (nI_add k 4) ?_
          refine lv_icmp_lt (tgt := 56) hx hb dX1_mended_33 (by decide) (fun c_33 => ?_) (fun c_33 => ?_)
          · refine lv_aload_n hx hb dX1_mended_56 rfl (lv_at hl 0 rfl) ?_
            refine lv_iconst (v := 0) hx hb dX1_mended_57 (by decide) ?_
            refine lv_iload_n hx hb dX1_mended_58 rfl (lv_at hl 1 rfl) ?_
            refine q_ti (y := nI k) (hxk) ?_
            refine q_V (As := [.int (0), .int (nI k)]) (rest := []) ⟨hx, hb, hml, hown, hts⟩ (c_M_register l dC dI h0 a0 cB n ns wd f (0) (k) (by omega) (by omega)) (cwV 2 hts gX1_mended_X1_register rfl rfl rfl (by decide +kernel) ⟨Nat.le_of_ble_eq_true rfl, Nat.le_of_ble_eq_true rfl⟩) (mw_pre hP hK _) rfl hl.1 rfl (Nat.le_of_ble_eq_true rfl) dX1_mended_59 ⟨Nat.zero_le _, Nat.zero_le _⟩ ?_
            refine lv_iload_n hx hb dX1_mended_62 rfl (lv_at hl 3 rfl) ?_
            refine q_S (As := [.int ((cr_rg f 0 (-1) (k - 0))), .int (cr_bk f n (sum ^^^ (-1)) ((n - (k + 4))))]) (rest := []) ⟨hx, hb, hml, hown, hts⟩ (c_M_between l ((cr_rg f 0 (-1) (k - 0))) (cr_bk f n (sum ^^^ (-1)) ((n - (k + 4))))) (va_cwS 2 hts gX1_mended_X1_between rfl rfl rfl (by decide +kernel) ⟨Nat.le_of_ble_eq_true rfl, Nat.le_of_ble_eq_true rfl⟩) rfl hl.1 rfl (Nat.le_of_ble_eq_true rfl) dX1_mended_63 ⟨Nat.zero_le _, Nat.zero_le _⟩ ?_
            exact W.iret (v := (tu_m (((cr_rg f 0 (-1) (k - 0))) ^^^ cr_it cr_b 32 (cr_bk f n (sum ^^^ (-1)) ((n - (k + 4))))))) hx hb hr (fun t ht _ => ⟨congrArg (fun z => Outcome.returned (some (Value.int z))) (by unfold an_me; rw [if_neg c_1, if_pos c_11, hxk, nI_clamp (by omega)]; rfl), ht⟩) (fun _ h => by cases h) dX1_mended_66
          · exact absurd (nI_lt (by omega) (by omega)) c_33
        | succ d ih =>
          intro j hj ls hl
          have hjl : j < n - (k + 4) := by omega
          refine lv_iload hx hb dX1_mended_28 (lv_at hl 4 rfl) ?_
          refine lv_iload_n hx hb dX1_mended_30 rfl (lv_at hl 1 rfl) ?_
          refine q_ti (y := nI k) (hxk) ?_
          refine lv_iconst (v := 4) hx hb dX1_mended_31 (by decide) ?_
          refine lv_iadd hx hb dX1_mended_32 ?_
          refine q_ti (y := nI (k + 4)) (nI_add k 4) ?_
          refine lv_icmp_lt (tgt := 56) hx hb dX1_mended_33 (by decide) (fun c_33 => ?_) (fun c_33 => ?_)
          · exact absurd c_33 (nI_nlt (by omega) (by omega))
          · refine lv_iload_n hx hb dX1_mended_36 rfl (lv_at hl 3 rfl) ?_
            refine lv_bipush (v := 8) hx hb dX1_mended_37 (by decide) ?_
            refine q_S (As := [.int (cr_bk f n (sum ^^^ (-1)) (j)), .int (8)]) (rest := []) ⟨hx, hb, hml, hown, hts⟩ (c_M_back l (cr_bk f n (sum ^^^ (-1)) (j)) (8) (by omega)) (va_cwS 2 hts gX1_mended_X1_back rfl rfl rfl (by decide +kernel) ⟨Nat.le_of_ble_eq_true rfl, Nat.le_of_ble_eq_true rfl⟩) rfl hl.1 rfl (Nat.le_of_ble_eq_true rfl) dX1_mended_39 ⟨Nat.zero_le _, Nat.zero_le _⟩ ?_
            refine lv_aload_n hx hb dX1_mended_42 rfl (lv_at hl 0 rfl) ?_
            refine lv_iload hx hb dX1_mended_43 (lv_at hl 4 rfl) ?_
            refine q_V (As := [.int (nI (n - (j) - 1))]) (rest := [.int ((cr_it cr_b 8 (cr_bk f n (sum ^^^ (-1)) (j))))]) ⟨hx, hb, hml, hown, hts⟩ (c_M_at l dC dI h0 a0 cB n ns wd f (n - j - 1) (by omega)) (cwV 1 hts gX1_mended_X1_at rfl rfl rfl (by decide +kernel) ⟨Nat.le_of_ble_eq_true rfl, Nat.le_of_ble_eq_true rfl⟩) (mw_pre hP hK _) rfl hl.1 rfl (Nat.le_of_ble_eq_true rfl) dX1_mended_45 ⟨Nat.zero_le _, Nat.zero_le _⟩ ?_
            refine lv_ixor hx hb dX1_mended_48 ?_
            refine q_ti (y := cr_bk f n (sum ^^^ (-1)) (j + 1)) (by show _ = _ ^^^ cr_by f (n - 1 - j); rw [show n - 1 - j = n - j - 1 by omega]; rfl) ?_
            refine lv_istore_n (lv' := [(3, .int (cr_bk f n (sum ^^^ (-1)) (j + 1))), (0, .ref h0), (1, .int (x)), (2, .int (sum)), (4, .int (nI (n - (j) - 1)))]) hx hb dX1_mended_49 rfl hl (by decide) rfl (fun ls hl => ?_)
            refine lv_iinc (v := nI (n - (j + 1) - 1)) (lv' := [(4, .int (nI (n - (j + 1) - 1))), (3, .int (cr_bk f n (sum ^^^ (-1)) (j + 1))), (0, .ref h0), (1, .int (x)), (2, .int (sum))]) hx hb dX1_mended_50 hl (k := 4) rfl (by rw [show n - (j + 1) - 1 = n - j - 1 - 1 by omega]; exact sb_m1 (by omega)) (by decide) rfl (fun ls hl => ?_)
            refine lv_goto (tgt := 28) hx hb dX1_mended_53 (by decide) ?_
            exact ih (j + 1) (by omega) ls (lv_sub hl [2, 3, 4, 1, 0] rfl)
      exact L28 (n - (k + 4)) 0 (by omega) ls (lv_sub hl [2, 3, 4, 1, 0] rfl)
    · refine lv_iconst (v := 0) hx hb dX1_mended_14 (by decide) ?_
      exact W.iret (v := 0) hx hb hr (fun t ht _ => ⟨congrArg (fun z => Outcome.returned (some (Value.int z))) (by unfold an_me; rw [if_neg c_1, if_neg c_11]), ht⟩) (fun _ h => by cases h) dX1_mended_15
