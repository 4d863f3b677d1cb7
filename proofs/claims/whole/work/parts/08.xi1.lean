set_option maxHeartbeats 4000000 in
set_option maxRecDepth 100000 in
theorem c_X_size (l : Launch) (dC : Nat → ClassId) (dI : Nat → Nat → Nat) (h0 a0 a1 : Nat) (cB cI : ClassId) (n : Nat) (ns : Int32) (wd : Int64) (f g : Nat → Int32) : Met l yX0_size wsX0_size ({ frames := 0, cells := 0, slots := 0, locals := 0 } : Room) (va_Pc [.ref h0] (xW dC dI h0 a0 a1 cB cI n ns wd f g)) (k2_QcV (.int (nI n))) 0 0 (fun _ => False) := by
  refine Met.ofW (cc := cX0_size) (maxL := 1) (ret := some .int) (by decide) rfl ?_
  intro p e s m args below meth c s₁ B hml hv
  obtain ⟨rfl, hP, hK⟩ := hv
  have hx := B.exec
  have hb := B.bytes
  have hr := B.returns
  have hts := atoms_spec (ws := wsX0_size) B.pre
  have hown : s.vm.findClass RX0 = some m.cls := findClass_of_methodNamed B.named
  have hlocks := B.notSynchronized
  have hin : ∀ w ∈ u_ws RX0 TX0 5, w ∈ wsX0_size := by decide +kernel
  have hl := lv_entry ([.ref h0]) (n := 1) (Nat.le_of_ble_eq_true rfl)
  rw [lg_entry_eq]
  generalize (lg_sl ([.ref h0]) ++ List.replicate (1 - (lg_sl ([.ref h0])).length) Slot.unset).toArray = ls at hl ⊢
  have hl : lv_has ls 1 [(0, .ref h0)] := hl
  refine lv_aload_n hx hb dX0_size_0 rfl (lv_at hl 0 rfl) ?_
  refine va_get (D := (dC, dI)) (ci := 0) (v := .int (nI n)) (C := RX0) (T := TX0) (N := 5) hx hb hts hin hown hK hP 0 rfl rfl 2 (by decide) (hts (.fieldLink RX0 22 "StreamSums" "count" "I") (by decide +kernel)) (fun _ h9 => h9) rfl dX0_size_1 ?_
  exact W.iret (v := nI n) hx hb hr (fun t ht _ => ⟨congrArg (fun z => Outcome.returned (some (Value.int z))) (rfl), ht⟩) (fun _ h => by cases h) dX0_size_4
set_option maxHeartbeats 4000000 in
set_option maxRecDepth 100000 in
theorem c_X_byteAt (l : Launch) (dC : Nat → ClassId) (dI : Nat → Nat → Nat) (h0 a0 a1 : Nat) (cB cI : ClassId) (n : Nat) (ns : Int32) (wd : Int64) (f g : Nat → Int32) (k : Int32) (hn : n ≤ 65536) : Met l yX0_byteAt wsX0_byteAt ({ frames := 0, cells := 0, slots := 0, locals := 0 } : Room) (va_Pc [.ref h0, .int k] (xW dC dI h0 a0 a1 cB cI n ns wd f g)) (k2_QcV (.int (by_at n f k))) 0 0 (fun _ => False) := by
  refine Met.ofW (cc := cX0_byteAt) (maxL := 2) (ret := some .int) (by decide) rfl ?_
  intro p e s m args below meth c s₁ B hml hv
  obtain ⟨rfl, hP, hK⟩ := hv
  have hx := B.exec
  have hb := B.bytes
  have hr := B.returns
  have hts := atoms_spec (ws := wsX0_byteAt) B.pre
  have hown : s.vm.findClass RX0 = some m.cls := findClass_of_methodNamed B.named
  have hlocks := B.notSynchronized
  have hin : ∀ w ∈ u_ws RX0 TX0 5, w ∈ wsX0_byteAt := by decide +kernel
  have hl := lv_entry ([.ref h0, .int k]) (n := 2) (Nat.le_of_ble_eq_true rfl)
  rw [lg_entry_eq]
  generalize (lg_sl ([.ref h0, .int k]) ++ List.replicate (2 - (lg_sl ([.ref h0, .int k])).length) Slot.unset).toArray = ls at hl ⊢
  have hl : lv_has ls 2 [(0, .ref h0), (1, .int (k))] := hl
  refine lv_iload_n hx hb dX0_byteAt_0 rfl (lv_at hl 1 rfl) ?_
  refine lv_if_lt (tgt := 25) hx hb dX0_byteAt_1 (by decide) (fun c_1 => ?_) (fun c_1 => ?_)
  · refine lv_iconst (v := -1) hx hb dX0_byteAt_25 (by decide) ?_
    exact W.iret (v := (-1)) hx hb hr (fun t ht _ => ⟨congrArg (fun z => Outcome.returned (some (Value.int z))) (by unfold by_at; rw [if_pos c_1]), ht⟩) (fun _ h => by cases h) dX0_byteAt_26
  · obtain ⟨j, hj, hkj⟩ := nI_of c_1
    refine lv_iload_n hx hb dX0_byteAt_4 rfl (lv_at hl 1 rfl) ?_
    refine lv_aload_n hx hb dX0_byteAt_5 rfl (lv_at hl 0 rfl) ?_
    refine va_get (D := (dC, dI)) (ci := 0) (v := .int (nI n)) (C := RX0) (T := TX0) (N := 5) hx hb hts hin hown hK hP 0 rfl rfl 2 (by decide) (hts (.fieldLink RX0 22 "StreamSums" "count" "I") (by decide +kernel)) (fun _ h9 => h9) rfl dX0_byteAt_6 ?_
    refine lv_icmp_ge (tgt := 25) hx hb dX0_byteAt_9 (by decide) (fun c_9 => ?_) (fun c_9 => ?_)
    · refine lv_iconst (v := -1) hx hb dX0_byteAt_25 (by decide) ?_
      exact W.iret (v := (-1)) hx hb hr (fun t ht _ => ⟨congrArg (fun z => Outcome.returned (some (Value.int z))) (by unfold by_at; rw [if_neg c_1, if_pos c_9]), ht⟩) (fun _ h => by cases h) dX0_byteAt_26
    · have hjn : j < n := by
        rw [hkj, nI_leI (by omega) hj] at c_9
        omega
      refine lv_aload_n hx hb dX0_byteAt_12 rfl (lv_at hl 0 rfl) ?_
      refine va_get (D := (dC, dI)) (ci := 0) (v := .ref a0) (C := RX0) (T := TX0) (N := 5) hx hb hts hin hown hK hP 0 rfl rfl 0 (by decide) (hts (.fieldLink RX0 10 "StreamSums" "bytes" "[B") (by decide +kernel)) (fun _ h9 => h9) rfl dX0_byteAt_13 ?_
      refine lv_iload_n hx hb dX0_byteAt_16 rfl (lv_at hl 1 rfl) ?_
      refine q_bald (j := j) hx hb hK hP 1 0 rfl rfl hkj (by omega) (by omega) dX0_byteAt_17 ?_
      refine lv_sipush (v := 255) hx hb dX0_byteAt_18 (by decide) ?_
      refine lv_iand hx hb dX0_byteAt_21 ?_
      refine lv_goto (tgt := 26) hx hb dX0_byteAt_22 (by decide) ?_
      exact W.iret (v := ((f (j)) &&& 255)) hx hb hr (fun t ht _ => ⟨congrArg (fun z => Outcome.returned (some (Value.int z))) (by unfold by_at; rw [if_neg c_1, if_neg (by rw [hkj]; exact nI_ge hjn (by omega)), hkj, nI_clamp hj]), ht⟩) (fun _ h => by cases h) dX0_byteAt_26
set_option maxHeartbeats 4000000 in
set_option maxRecDepth 100000 in
theorem c_X_byteIn (l : Launch) (dC : Nat → ClassId) (dI : Nat → Nat → Nat) (h0 a0 a1 : Nat) (cB cI : ClassId) (n : Nat) (ns : Int32) (wd : Int64) (f g : Nat → Int32) (j : Nat) (hj : j < n) (hn : n ≤ 65536) : Met l yX0_byteAt wsX0_byteAt ({ frames := 0, cells := 0, slots := 0, locals := 0 } : Room) (va_Pc [.ref h0, .int (nI j)] (xW dC dI h0 a0 a1 cB cI n ns wd f g)) (k2_QcV (.int (f j &&& 255))) 0 0 (fun _ => False) := by
  have h := c_X_byteAt l dC dI h0 a0 a1 cB cI n ns wd f g (nI j) hn
  rw [by_in hj (by omega)] at h
  exact h
set_option maxHeartbeats 4000000 in
set_option maxRecDepth 100000 in
theorem c_X_isPart (l : Launch) (dC : Nat → ClassId) (dI : Nat → Nat → Nat) (h0 a0 a1 : Nat) (cB cI : ClassId) (n : Nat) (ns : Int32) (wd : Int64) (f g : Nat → Int32) (x : Int32) (y : Int32) : Met l yX0_isPart wsX0_isPart ({ frames := 0, cells := 0, slots := 0, locals := 0 } : Room) (va_Pc [.ref h0, .int x, .int y] (xW dC dI h0 a0 a1 cB cI n ns wd f g)) (k2_QcV (.int (pt_n n x y))) 0 0 (fun _ => False) := by
  refine Met.ofW (cc := cX0_isPart) (maxL := 3) (ret := some .boolean) (by decide) rfl ?_
  intro p e s m args below meth c s₁ B hml hv
  obtain ⟨rfl, hP, hK⟩ := hv
  have hx := B.exec
  have hb := B.bytes
  have hr := B.returns
  have hts := atoms_spec (ws := wsX0_isPart) B.pre
  have hown : s.vm.findClass RX0 = some m.cls := findClass_of_methodNamed B.named
  have hlocks := B.notSynchronized
  have hin : ∀ w ∈ u_ws RX0 TX0 5, w ∈ wsX0_isPart := by decide +kernel
  have hl := lv_entry ([.ref h0, .int x, .int y]) (n := 3) (Nat.le_of_ble_eq_true rfl)
  rw [lg_entry_eq]
  generalize (lg_sl ([.ref h0, .int x, .int y]) ++ List.replicate (3 - (lg_sl ([.ref h0, .int x, .int y])).length) Slot.unset).toArray = ls at hl ⊢
  have hl : lv_has ls 3 [(0, .ref h0), (1, .int (x)), (2, .int (y))] := hl
  refine lv_iconst (v := 0) hx hb dX0_isPart_0 (by decide) ?_
  refine lv_iload_n hx hb dX0_isPart_1 rfl (lv_at hl 1 rfl) ?_
  refine lv_icmp_gt (tgt := 22) hx hb dX0_isPart_2 (by decide) (fun c_2 => ?_) (fun c_2 => ?_)
  · refine lv_iconst (v := 0) hx hb dX0_isPart_22 (by decide) ?_
    exact W.zret (v := 0) hx hb hr (by decide) (fun t ht _ => ⟨congrArg (fun z => Outcome.returned (some (Value.int z))) (by unfold pt_n; rw [if_pos c_2]), ht⟩) (fun _ h => by cases h) dX0_isPart_23
  · refine lv_iload_n hx hb dX0_isPart_5 rfl (lv_at hl 1 rfl) ?_
    refine lv_iload_n hx hb dX0_isPart_6 rfl (lv_at hl 2 rfl) ?_
    refine lv_icmp_gt (tgt := 22) hx hb dX0_isPart_7 (by decide) (fun c_7 => ?_) (fun c_7 => ?_)
    · refine lv_iconst (v := 0) hx hb dX0_isPart_22 (by decide) ?_
      exact W.zret (v := 0) hx hb hr (by decide) (fun t ht _ => ⟨congrArg (fun z => Outcome.returned (some (Value.int z))) (by unfold pt_n; rw [if_neg c_2, if_pos c_7]), ht⟩) (fun _ h => by cases h) dX0_isPart_23
    · refine lv_iload_n hx hb dX0_isPart_10 rfl (lv_at hl 2 rfl) ?_
      refine lv_aload_n hx hb dX0_isPart_11 rfl (lv_at hl 0 rfl) ?_
      refine va_get (D := (dC, dI)) (ci := 0) (v := .int (nI n)) (C := RX0) (T := TX0) (N := 5) hx hb hts hin hown hK hP 0 rfl rfl 2 (by decide) (hts (.fieldLink RX0 22 "StreamSums" "count" "I") (by decide +kernel)) (fun _ h9 => h9) rfl dX0_isPart_12 ?_
      refine lv_icmp_gt (tgt := 22) hx hb dX0_isPart_15 (by decide) (fun c_15 => ?_) (fun c_15 => ?_)
      · refine lv_iconst (v := 0) hx hb dX0_isPart_22 (by decide) ?_
        exact W.zret (v := 0) hx hb hr (by decide) (fun t ht _ => ⟨congrArg (fun z => Outcome.returned (some (Value.int z))) (by unfold pt_n; rw [if_neg c_2, if_neg c_7, if_pos c_15]), ht⟩) (fun _ h => by cases h) dX0_isPart_23
      · refine lv_iconst (v := 1) hx hb dX0_isPart_18 (by decide) ?_
        refine lv_goto (tgt := 23) hx hb dX0_isPart_19 (by decide) ?_
        exact W.zret (v := 1) hx hb hr (by decide) (fun t ht _ => ⟨congrArg (fun z => Outcome.returned (some (Value.int z))) (by unfold pt_n; rw [if_neg c_2, if_neg c_7, if_neg c_15]), ht⟩) (fun _ h => by cases h) dX0_isPart_23
set_option maxHeartbeats 4000000 in
set_option maxRecDepth 100000 in
theorem c_X_word (l : Launch) (dC : Nat → ClassId) (dI : Nat → Nat → Nat) (h0 a0 a1 : Nat) (cB cI : ClassId) (n : Nat) (ns : Int32) (wd : Int64) (f g : Nat → Int32) (j : Nat) (hj : j ≤ 65532) : Met l yX0_word wsX0_word ({ frames := 0, cells := 0, slots := 0, locals := 0 } : Room) (va_Pc [.ref h0, .int (nI j)] (xW dC dI h0 a0 a1 cB cI n ns wd f g)) (k2_QcV (.int (wo_4 f j))) 0 0 (fun _ => False) := by
  refine Met.ofW (cc := cX0_word) (maxL := 2) (ret := some .int) (by decide) rfl ?_
  intro p e s m args below meth c s₁ B hml hv
  obtain ⟨rfl, hP, hK⟩ := hv
  have hx := B.exec
  have hb := B.bytes
  have hr := B.returns
  have hts := atoms_spec (ws := wsX0_word) B.pre
  have hown : s.vm.findClass RX0 = some m.cls := findClass_of_methodNamed B.named
  have hlocks := B.notSynchronized
  have hin : ∀ w ∈ u_ws RX0 TX0 5, w ∈ wsX0_word := by decide +kernel
  have hl := lv_entry ([.ref h0, .int (nI j)]) (n := 2) (Nat.le_of_ble_eq_true rfl)
  rw [lg_entry_eq]
  generalize (lg_sl ([.ref h0, .int (nI j)]) ++ List.replicate (2 - (lg_sl ([.ref h0, .int (nI j)])).length) Slot.unset).toArray = ls at hl ⊢
  have hl : lv_has ls 2 [(0, .ref h0), (1, .int (nI j))] := hl
  refine lv_iload_n hx hb dX0_word_0 rfl (lv_at hl 1 rfl) ?_
  refine lv_if_lt (tgt := 10) hx hb dX0_word_1 (by decide) (fun c_1 => ?_) (fun c_1 => ?_)
  · exact absurd c_1 (nI_pos (by omega))
  · refine lv_iload_n hx hb dX0_word_4 rfl (lv_at hl 1 rfl) ?_
    refine lv_ldc (v := 65532) hx hb hown (hts (.constant RX0 82 (65532)) (by decide +kernel)) dX0_word_5 ?_
    refine lv_icmp_le (tgt := 12) hx hb dX0_word_7 (by decide) (fun c_7 => ?_) (fun c_7 => ?_)
    · refine lv_aload_n hx hb dX0_word_12 rfl (lv_at hl 0 rfl) ?_
      refine va_get (D := (dC, dI)) (ci := 0) (v := .ref a0) (C := RX0) (T := TX0) (N := 5) hx hb hts hin hown hK hP 0 rfl rfl 0 (by decide) (hts (.fieldLink RX0 10 "StreamSums" "bytes" "[B") (by decide +kernel)) (fun _ h9 => h9) rfl dX0_word_13 ?_
      refine lv_iload_n hx hb dX0_word_16 rfl (lv_at hl 1 rfl) ?_
      refine q_bald (j := j) hx hb hK hP 1 0 rfl rfl rfl (by omega) (by omega) dX0_word_17 ?_
      refine lv_sipush (v := 255) hx hb dX0_word_18 (by decide) ?_
      refine lv_iand hx hb dX0_word_21 ?_
      refine lv_aload_n hx hb dX0_word_22 rfl (lv_at hl 0 rfl) ?_
      refine va_get (D := (dC, dI)) (ci := 0) (v := .ref a0) (C := RX0) (T := TX0) (N := 5) hx hb hts hin hown hK hP 0 rfl rfl 0 (by decide) (hts (.fieldLink RX0 10 "StreamSums" "bytes" "[B") (by decide +kernel)) (fun _ h9 => h9) rfl dX0_word_23 ?_
      refine lv_iload_n hx hb dX0_word_26 rfl (lv_at hl 1 rfl) ?_
      refine lv_iconst (v := 1) hx hb dX0_word_27 (by decide) ?_
      refine lv_iadd hx hb dX0_word_28 ?_
      refine q_ti (y := nI (j + 1)) (nI_add j 1) ?_
      refine q_bald (j := j + 1) hx hb hK hP 1 0 rfl rfl rfl (by omega) (by omega) dX0_word_29 ?_
      refine lv_sipush (v := 255) hx hb dX0_word_30 (by decide) ?_
      refine lv_iand hx hb dX0_word_33 ?_
      refine lv_bipush (v := 8) hx hb dX0_word_34 (by decide) ?_
      refine lv_ishl hx hb dX0_word_36 ?_
      refine q_ti (y := sh_l (((f (j + 1)) &&& 255)) (8)) rfl ?_
      refine lv_ior hx hb dX0_word_37 ?_
      refine lv_aload_n hx hb dX0_word_38 rfl (lv_at hl 0 rfl) ?_
      refine va_get (D := (dC, dI)) (ci := 0) (v := .ref a0) (C := RX0) (T := TX0) (N := 5) hx hb hts hin hown hK hP 0 rfl rfl 0 (by decide) (hts (.fieldLink RX0 10 "StreamSums" "bytes" "[B") (by decide +kernel)) (fun _ h9 => h9) rfl dX0_word_39 ?_
      refine lv_iload_n hx hb dX0_word_42 rfl (lv_at hl 1 rfl) ?_
      refine lv_iconst (v := 2) hx hb dX0_word_43 (by decide) ?_
      refine lv_iadd hx hb dX0_word_44 ?_
      refine q_ti (y := nI (j + 2)) (nI_add j 2) ?_
      refine q_bald (j := j + 2) hx hb hK hP 1 0 rfl rfl rfl (by omega) (by omega) dX0_word_45 ?_
      refine lv_sipush (v := 255) hx hb dX0_word_46 (by decide) ?_
      refine lv_iand hx hb dX0_word_49 ?_
      refine lv_bipush (v := 16) hx hb dX0_word_50 (by decide) ?_
      refine lv_ishl hx hb dX0_word_52 ?_
      refine q_ti (y := sh_l (((f (j + 2)) &&& 255)) (16)) rfl ?_
      refine lv_ior hx hb dX0_word_53 ?_
      refine lv_aload_n hx hb dX0_word_54 rfl (lv_at hl 0 rfl) ?_
      refine va_get (D := (dC, dI)) (ci := 0) (v := .ref a0) (C := RX0) (T := TX0) (N := 5) hx hb hts hin hown hK hP 0 rfl rfl 0 (by decide) (hts (.fieldLink RX0 10 "StreamSums" "bytes" "[B") (by decide +kernel)) (fun _ h9 => h9) rfl dX0_word_55 ?_
      refine lv_iload_n hx hb dX0_word_58 rfl (lv_at hl 1 rfl) ?_
      refine lv_iconst (v := 3) hx hb dX0_word_59 (by decide) ?_
      refine lv_iadd hx hb dX0_word_60 ?_
      refine q_ti (y := nI (j + 3)) (nI_add j 3) ?_
      refine q_bald (j := j + 3) hx hb hK hP 1 0 rfl rfl rfl (by omega) (by omega) dX0_word_61 ?_
      refine lv_sipush (v := 255) hx hb dX0_word_62 (by decide) ?_
      refine lv_iand hx hb dX0_word_65 ?_
      refine lv_bipush (v := 24) hx hb dX0_word_66 (by decide) ?_
      refine lv_ishl hx hb dX0_word_68 ?_
      refine q_ti (y := sh_l (((f (j + 3)) &&& 255)) (24)) rfl ?_
      refine lv_ior hx hb dX0_word_69 ?_
      exact W.iret (v := (((((f (j)) &&& 255) ||| (sh_l (((f (j + 1)) &&& 255)) (8))) ||| (sh_l (((f (j + 2)) &&& 255)) (16))) ||| (sh_l (((f (j + 3)) &&& 255)) (24)))) hx hb hr (fun t ht _ => ⟨congrArg (fun z => Outcome.returned (some (Value.int z))) (rfl), ht⟩) (fun _ h => by cases h) dX0_word_70
    · exact absurd (nI_le (b := 65532) hj (by omega)) c_7
set_option maxHeartbeats 4000000 in
set_option maxRecDepth 100000 in
theorem c_X_unsignedWord (l : Launch) (dC : Nat → ClassId) (dI : Nat → Nat → Nat) (h0 a0 a1 : Nat) (cB cI : ClassId) (n : Nat) (ns : Int32) (wd : Int64) (f g : Nat → Int32) (j : Nat) (hj : j ≤ 65532) : Met l yX0_unsignedWord wsX0_unsignedWord ({ frames := 1, cells := 0, slots := 0, locals := 21 } : Room) (va_Pc [.ref h0, .int (nI j)] (xW dC dI h0 a0 a1 cB cI n ns wd f g)) (k2_QcV (.long (wo_u f j))) 0 0 (fun _ => False) := by
  refine Met.ofW (cc := cX0_unsignedWord) (maxL := 2) (ret := some .long) (by decide) rfl ?_
  intro p e s m args below meth c s₁ B hml hv
  obtain ⟨rfl, hP, hK⟩ := hv
  have hx := B.exec
  have hb := B.bytes
  have hr := B.returns
  have hts := atoms_spec (ws := wsX0_unsignedWord) B.pre
  have hown : s.vm.findClass RX0 = some m.cls := findClass_of_methodNamed B.named
  have hlocks := B.notSynchronized
  have hl := lv_entry ([.ref h0, .int (nI j)]) (n := 2) (Nat.le_of_ble_eq_true rfl)
  rw [lg_entry_eq]
  generalize (lg_sl ([.ref h0, .int (nI j)]) ++ List.replicate (2 - (lg_sl ([.ref h0, .int (nI j)])).length) Slot.unset).toArray = ls at hl ⊢
  have hl : lv_has ls 2 [(0, .ref h0), (1, .int (nI j))] := hl
  refine lv_aload_n hx hb dX0_unsignedWord_0 rfl (lv_at hl 0 rfl) ?_
  refine lv_iload_n hx hb dX0_unsignedWord_1 rfl (lv_at hl 1 rfl) ?_
  refine q_V (As := [.int (nI j)]) (rest := []) ⟨hx, hb, hml, hown, hts⟩ (c_X_word l dC dI h0 a0 a1 cB cI n ns wd f g (j) (by omega)) (cwV 1 hts gX0_unsignedWord_X0_word rfl rfl rfl (by decide +kernel) ⟨Nat.le_of_ble_eq_true rfl, Nat.le_of_ble_eq_true rfl⟩) (xw_pre hP hK _) rfl hl.1 rfl (Nat.le_of_ble_eq_true rfl) dX0_unsignedWord_2 ⟨Nat.zero_le _, Nat.zero_le _⟩ ?_
  refine lv_i2l (v := ((wo_4 f j)).toInt64) hx hb dX0_unsignedWord_5 rfl ?_
  refine lv_ldc2 (v := 4294967295) hx hb hown (hts (.constantLong RX0 86 (4294967295)) (by decide +kernel)) dX0_unsignedWord_6 ?_
  refine lv_land hx hb dX0_unsignedWord_9 ?_
  exact W.lret (v := (((wo_4 f j)).toInt64 &&& 4294967295)) hx hb hr (fun t ht _ => ⟨congrArg (fun z => Outcome.returned (some (Value.long z))) (rfl), ht⟩) (fun _ h => by cases h) dX0_unsignedWord_10
set_option maxHeartbeats 4000000 in
set_option maxRecDepth 100000 in
theorem c_X_longWord (l : Launch) (dC : Nat → ClassId) (dI : Nat → Nat → Nat) (h0 a0 a1 : Nat) (cB cI : ClassId) (n : Nat) (ns : Int32) (wd : Int64) (f g : Nat → Int32) (j : Nat) (hj : j ≤ 65528) : Met l yX0_longWord wsX0_longWord ({ frames := 2, cells := 0, slots := 0, locals := 42 } : Room) (va_Pc [.ref h0, .int (nI j)] (xW dC dI h0 a0 a1 cB cI n ns wd f g)) (k2_QcV (.long (wo_8 f j))) 0 0 (fun _ => False) := by
  refine Met.ofW (cc := cX0_longWord) (maxL := 2) (ret := some .long) (by decide) rfl ?_
  intro p e s m args below meth c s₁ B hml hv
  obtain ⟨rfl, hP, hK⟩ := hv
  have hx := B.exec
  have hb := B.bytes
  have hr := B.returns
  have hts := atoms_spec (ws := wsX0_longWord) B.pre
  have hown : s.vm.findClass RX0 = some m.cls := findClass_of_methodNamed B.named
  have hlocks := B.notSynchronized
  have hl := lv_entry ([.ref h0, .int (nI j)]) (n := 2) (Nat.le_of_ble_eq_true rfl)
  rw [lg_entry_eq]
  generalize (lg_sl ([.ref h0, .int (nI j)]) ++ List.replicate (2 - (lg_sl ([.ref h0, .int (nI j)])).length) Slot.unset).toArray = ls at hl ⊢
  have hl : lv_has ls 2 [(0, .ref h0), (1, .int (nI j))] := hl
  refine lv_aload_n hx hb dX0_longWord_0 rfl (lv_at hl 0 rfl) ?_
  refine lv_iload_n hx hb dX0_longWord_1 rfl (lv_at hl 1 rfl) ?_
  refine q_V (As := [.int (nI j)]) (rest := []) ⟨hx, hb, hml, hown, hts⟩ (c_X_unsignedWord l dC dI h0 a0 a1 cB cI n ns wd f g (j) (by omega)) (cwV 1 hts gX0_longWord_X0_unsignedWord rfl rfl rfl (by decide +kernel) ⟨Nat.le_of_ble_eq_true rfl, Nat.le_of_ble_eq_true rfl⟩) (xw_pre hP hK _) rfl hl.1 rfl (Nat.le_of_ble_eq_true rfl) dX0_longWord_2 ⟨Nat.zero_le _, Nat.zero_le _⟩ ?_
  refine lv_aload_n hx hb dX0_longWord_5 rfl (lv_at hl 0 rfl) ?_
  refine lv_iload_n hx hb dX0_longWord_6 rfl (lv_at hl 1 rfl) ?_
  refine lv_iconst (v := 4) hx hb dX0_longWord_7 (by decide) ?_
  refine lv_iadd hx hb dX0_longWord_8 ?_
  refine q_ti (y := nI (j + 4)) (nI_add j 4) ?_
  refine q_V (As := [.int (nI (j + 4))]) (rest := [.long ((wo_u f j))]) ⟨hx, hb, hml, hown, hts⟩ (c_X_unsignedWord l dC dI h0 a0 a1 cB cI n ns wd f g (j + 4) (by omega)) (cwV 1 hts gX0_longWord_X0_unsignedWord rfl rfl rfl (by decide +kernel) ⟨Nat.le_of_ble_eq_true rfl, Nat.le_of_ble_eq_true rfl⟩) (xw_pre hP hK _) rfl hl.1 rfl (Nat.le_of_ble_eq_true rfl) dX0_longWord_9 ⟨Nat.zero_le _, Nat.zero_le _⟩ ?_
  refine lv_bipush (v := 32) hx hb dX0_longWord_12 (by decide) ?_
  refine lv_lshl (v := sh_L ((wo_u f (j + 4))) (32)) hx hb dX0_longWord_14 rfl ?_
  refine lv_lor hx hb dX0_longWord_15 ?_
  exact W.lret (v := ((wo_u f j) ||| (sh_L ((wo_u f (j + 4))) (32)))) hx hb hr (fun t ht _ => ⟨congrArg (fun z => Outcome.returned (some (Value.long z))) (rfl), ht⟩) (fun _ h => by cases h) dX0_longWord_16
set_option maxHeartbeats 4000000 in
set_option maxRecDepth 100000 in
theorem c_X_polySum (l : Launch) (dC : Nat → ClassId) (dI : Nat → Nat → Nat) (h0 a0 a1 : Nat) (cB cI : ClassId) (n : Nat) (ns : Int32) (wd : Int64) (f g : Nat → Int32) (a : Nat) (b : Nat) (hab : a ≤ b) (hbn : b ≤ n) (hn : n ≤ 65536) (hg : ∀ i, i < 256 → g i = cr_it cr_r 8 (nI i)) : Met l yX0_polySum wsX0_polySum ({ frames := 1, cells := 0, slots := 0, locals := 21 } : Room) (va_Pc [.ref h0, .int (nI a), .int (nI b)] (xW dC dI h0 a0 a1 cB cI n ns wd f g)) (k2_QcV (.int (cr_rg f a (-1) (b - a) ^^^ (-1)))) 0 0 (fun _ => False) := by
  refine Met.ofW (cc := cX0_polySum) (maxL := 5) (ret := some .int) (by decide) rfl ?_
  intro p e s m args below meth c s₁ B hml hv
  obtain ⟨rfl, hP, hK⟩ := hv
  have hx := B.exec
  have hb := B.bytes
  have hr := B.returns
  have hts := atoms_spec (ws := wsX0_polySum) B.pre
  have hown : s.vm.findClass RX0 = some m.cls := findClass_of_methodNamed B.named
  have hlocks := B.notSynchronized
  have hin : ∀ w ∈ u_ws RX0 TX0 5, w ∈ wsX0_polySum := by decide +kernel
  have hl := lv_entry ([.ref h0, .int (nI a), .int (nI b)]) (n := 5) (Nat.le_of_ble_eq_true rfl)
  rw [lg_entry_eq]
  generalize (lg_sl ([.ref h0, .int (nI a), .int (nI b)]) ++ List.replicate (5 - (lg_sl ([.ref h0, .int (nI a), .int (nI b)])).length) Slot.unset).toArray = ls at hl ⊢
  have hl : lv_has ls 5 [(0, .ref h0), (1, .int (nI a)), (2, .int (nI b))] := hl
  refine lv_iconst (v := -1) hx hb dX0_polySum_0 (by decide) ?_
  refine lv_istore_n (lv' := [(3, .int ((-1))), (0, .ref h0), (1, .int (nI a)), (2, .int (nI b))]) hx hb dX0_polySum_1 rfl hl (by decide) rfl (fun ls hl => ?_)
  refine lv_iload_n hx hb dX0_polySum_2 rfl (lv_at hl 2 rfl) ?_
  refine lv_istore (lv' := [(4, .int (nI a)), (3, .int ((-1))), (0, .ref h0), (1, .int (nI a)), (2, .int (nI b))]) hx hb dX0_polySum_3 hl (by decide) rfl (fun ls hl => ?_)
  have L5 : ∀ (d j : Nat), j + d = b - a → ∀ ls : Array Slot, lv_has ls 5 [(0, .ref h0), (1, .int (nI a)), (2, .int (nI b)), (3, .int (cr_rg f a (-1) (j))), (4, .int (nI (a + (j))))] → W p l e (headSpec wsX0_polySum ({ frames := 1, cells := 0, slots := 0, locals := 21 } : Room)).room s m [Value.ref h0, .int (nI a), .int (nI b)].toArray below meth c s.heap [] 0 0 (MQ below (k2_QcV (.int (cr_rg f a (-1) (b - a) ^^^ (-1)))) [Value.ref h0, .int (nI a), .int (nI b)].toArray s 0 0 (fun _ => False)) (F0 m 5 ls []) := by
    intro d
    induction d with
    | zero =>
      intro j hj ls hl
      obtain rfl : b - a = j := by omega
      refine lv_iload hx hb dX0_polySum_5 (lv_at hl 4 rfl) ?_
      refine lv_iload_n hx hb dX0_polySum_7 rfl (lv_at hl 2 rfl) ?_
      refine lv_icmp_ge (tgt := 40) hx hb dX0_polySum_8 (by decide) (fun c_8 => ?_) (fun c_8 => ?_)
      · refine lv_iload_n hx hb dX0_polySum_40 rfl (lv_at hl 3 rfl) ?_
        refine lv_iconst (v := -1) hx hb dX0_polySum_41 (by decide) ?_
        refine lv_ixor hx hb dX0_polySum_42 ?_
        exact W.iret (v := (cr_rg f a (-1) ((b - a)) ^^^ (-1))) hx hb hr (fun t ht _ => ⟨congrArg (fun z => Outcome.returned (some (Value.int z))) (rfl), ht⟩) (fun _ h => by cases h) dX0_polySum_43
      · exact absurd (nI_le (by omega) (by omega)) c_8
    | succ d ih =>
      intro j hj ls hl
      have hjl : j < b - a := by omega
      refine lv_iload hx hb dX0_polySum_5 (lv_at hl 4 rfl) ?_
      refine lv_iload_n hx hb dX0_polySum_7 rfl (lv_at hl 2 rfl) ?_
      refine lv_icmp_ge (tgt := 40) hx hb dX0_polySum_8 (by decide) (fun c_8 => ?_) (fun c_8 => ?_)
      · exact absurd c_8 (nI_ge (by omega) (by omega))
      · refine lv_iload_n hx hb dX0_polySum_11 rfl (lv_at hl 3 rfl) ?_
        refine lv_bipush (v := 8) hx hb dX0_polySum_12 (by decide) ?_
        refine lv_iushr (v := sh_u (cr_rg f a (-1) (j)) (8)) hx hb dX0_polySum_14 rfl ?_
        refine lv_aload_n hx hb dX0_polySum_15 rfl (lv_at hl 0 rfl) ?_
        refine va_get (D := (dC, dI)) (ci := 0) (v := .ref a1) (C := RX0) (T := TX0) (N := 5) hx hb hts hin hown hK hP 0 rfl rfl 1 (by decide) (hts (.fieldLink RX0 14 "StreamSums" "eightSteps" "[I") (by decide +kernel)) (fun _ h9 => h9) rfl dX0_polySum_16 ?_
        refine lv_iload_n hx hb dX0_polySum_19 rfl (lv_at hl 3 rfl) ?_
        refine lv_aload_n hx hb dX0_polySum_20 rfl (lv_at hl 0 rfl) ?_
        refine lv_iload hx hb dX0_polySum_21 (lv_at hl 4 rfl) ?_
        refine q_V (As := [.int (nI (a + (j)))]) (rest := [.int (cr_rg f a (-1) (j)), .ref a1, .int ((sh_u (cr_rg f a (-1) (j)) (8)))]) ⟨hx, hb, hml, hown, hts⟩ (c_X_byteIn l dC dI h0 a0 a1 cB cI n ns wd f g (a + j) (by omega) (hn)) (cwV 1 hts gX0_polySum_X0_byteAt rfl rfl rfl (by decide +kernel) ⟨Nat.le_of_ble_eq_true rfl, Nat.le_of_ble_eq_true rfl⟩) (xw_pre hP hK _) rfl hl.1 rfl (Nat.le_of_ble_eq_true rfl) dX0_polySum_23 ⟨Nat.zero_le _, Nat.zero_le _⟩ ?_
        refine lv_ixor hx hb dX0_polySum_26 ?_
        refine lv_sipush (v := 255) hx hb dX0_polySum_27 (by decide) ?_
        refine lv_iand hx hb dX0_polySum_30 ?_
        refine q_iald (j := (((cr_rg f a (-1) j) ^^^ (f (a + j) &&& 255)).toBitVec.toNat % 2 ^ 8)) hx hb hK hP 2 1 rfl rfl (pk_and _ 8 (by decide)) (by omega) (by omega) dX0_polySum_31 ?_
        refine q_ti (y := cr_it cr_r 8 (((cr_rg f a (-1) j) ^^^ (f (a + j) &&& 255)) &&& 255)) (by rw [hg _ (by omega), ← pk_and (m := 255) _ 8 (by decide)]) ?_
        refine lv_ixor hx hb dX0_polySum_32 ?_
        refine q_ti (y := cr_rg f a (-1) (j + 1)) (cr_tab _ _) ?_
        refine lv_istore_n (lv' := [(3, .int (cr_rg f a (-1) (j + 1))), (0, .ref h0), (1, .int (nI a)), (2, .int (nI b)), (4, .int (nI (a + (j))))]) hx hb dX0_polySum_33 rfl hl (by decide) rfl (fun ls hl => ?_)
        refine lv_iinc (v := nI (a + (j + 1))) (lv' := [(4, .int (nI (a + (j + 1)))), (3, .int (cr_rg f a (-1) (j + 1))), (0, .ref h0), (1, .int (nI a)), (2, .int (nI b))]) hx hb dX0_polySum_34 hl (k := 4) rfl (nI_add _ 1) (by decide) rfl (fun ls hl => ?_)
        refine lv_goto (tgt := 5) hx hb dX0_polySum_37 (by decide) ?_
        exact ih (j + 1) (by omega) ls (lv_sub hl [2, 3, 4, 1, 0] rfl)
  exact L5 (b - a) 0 (by omega) ls (lv_sub hl [2, 3, 4, 1, 0] rfl)
set_option maxHeartbeats 4000000 in
set_option maxRecDepth 100000 in
theorem c_X_poly (l : Launch) (dC : Nat → ClassId) (dI : Nat → Nat → Nat) (h0 a0 a1 : Nat) (cB cI : ClassId) (n : Nat) (ns : Int32) (wd : Int64) (f g : Nat → Int32) (hn : n ≤ 65536) (hg : ∀ i, i < 256 → g i = cr_it cr_r 8 (nI i)) : Met l yX0_poly wsX0_poly ({ frames := 2, cells := 0, slots := 0, locals := 45 } : Room) (va_Pc [.ref h0] (xW dC dI h0 a0 a1 cB cI n ns wd f g)) (k2_QcV (.int (cr_rg f 0 (-1) n ^^^ (-1)))) 0 0 (fun _ => False) := by
  refine Met.ofW (cc := cX0_poly) (maxL := 1) (ret := some .int) (by decide) rfl ?_
  intro p e s m args below meth c s₁ B hml hv
  obtain ⟨rfl, hP, hK⟩ := hv
  have hx := B.exec
  have hb := B.bytes
  have hr := B.returns
  have hts := atoms_spec (ws := wsX0_poly) B.pre
  have hown : s.vm.findClass RX0 = some m.cls := findClass_of_methodNamed B.named
  have hlocks := B.notSynchronized
  have hin : ∀ w ∈ u_ws RX0 TX0 5, w ∈ wsX0_poly := by decide +kernel
  have hl := lv_entry ([.ref h0]) (n := 1) (Nat.le_of_ble_eq_true rfl)
  rw [lg_entry_eq]
  generalize (lg_sl ([.ref h0]) ++ List.replicate (1 - (lg_sl ([.ref h0])).length) Slot.unset).toArray = ls at hl ⊢
  have hl : lv_has ls 1 [(0, .ref h0)] := hl
  refine lv_aload_n hx hb dX0_poly_0 rfl (lv_at hl 0 rfl) ?_
  refine lv_iconst (v := 0) hx hb dX0_poly_1 (by decide) ?_
  refine lv_aload_n hx hb dX0_poly_2 rfl (lv_at hl 0 rfl) ?_
  refine va_get (D := (dC, dI)) (ci := 0) (v := .int (nI n)) (C := RX0) (T := TX0) (N := 5) hx hb hts hin hown hK hP 0 rfl rfl 2 (by decide) (hts (.fieldLink RX0 22 "StreamSums" "count" "I") (by decide +kernel)) (fun _ h9 => h9) rfl dX0_poly_3 ?_
  refine q_V (As := [.int (0), .int (nI n)]) (rest := []) ⟨hx, hb, hml, hown, hts⟩ (c_X_polySum l dC dI h0 a0 a1 cB cI n ns wd f g (0) (n) (by omega) (by omega) (hn) (hg)) (cwV 2 hts gX0_poly_X0_polySum rfl rfl rfl (by decide +kernel) ⟨Nat.le_of_ble_eq_true rfl, Nat.le_of_ble_eq_true rfl⟩) (xw_pre hP hK _) rfl hl.1 rfl (Nat.le_of_ble_eq_true rfl) dX0_poly_6 ⟨Nat.zero_le _, Nat.zero_le _⟩ ?_
  exact W.iret (v := (cr_rg f 0 (-1) (n - 0) ^^^ (-1))) hx hb hr (fun t ht _ => ⟨congrArg (fun z => Outcome.returned (some (Value.int z))) (rfl), ht⟩) (fun _ h => by cases h) dX0_poly_9
set_option maxHeartbeats 4000000 in
set_option maxRecDepth 100000 in
theorem c_X_polyOf (l : Launch) (dC : Nat → ClassId) (dI : Nat → Nat → Nat) (h0 a0 a1 : Nat) (cB cI : ClassId) (n : Nat) (ns : Int32) (wd : Int64) (f g : Nat → Int32) (x : Int32) (y : Int32) (hn : n ≤ 65536) (hg : ∀ i, i < 256 → g i = cr_it cr_r 8 (nI i)) : Met l yX0_polyOf wsX0_polyOf ({ frames := 2, cells := 0, slots := 0, locals := 45 } : Room) (va_Pc [.ref h0, .int x, .int y] (xW dC dI h0 a0 a1 cB cI n ns wd f g)) (k2_QcV (.int (an_po n f x y))) 0 0 (fun _ => False) := by
  refine Met.ofW (cc := cX0_polyOf) (maxL := 3) (ret := some .int) (by decide) rfl ?_
  intro p e s m args below meth c s₁ B hml hv
  obtain ⟨rfl, hP, hK⟩ := hv
  have hx := B.exec
  have hb := B.bytes
  have hr := B.returns
  have hts := atoms_spec (ws := wsX0_polyOf) B.pre
  have hown : s.vm.findClass RX0 = some m.cls := findClass_of_methodNamed B.named
  have hlocks := B.notSynchronized
  have hl := lv_entry ([.ref h0, .int x, .int y]) (n := 3) (Nat.le_of_ble_eq_true rfl)
  rw [lg_entry_eq]
  generalize (lg_sl ([.ref h0, .int x, .int y]) ++ List.replicate (3 - (lg_sl ([.ref h0, .int x, .int y])).length) Slot.unset).toArray = ls at hl ⊢
  have hl : lv_has ls 3 [(0, .ref h0), (1, .int (x)), (2, .int (y))] := hl
  refine lv_aload_n hx hb dX0_polyOf_0 rfl (lv_at hl 0 rfl) ?_
  refine lv_iload_n hx hb dX0_polyOf_1 rfl (lv_at hl 1 rfl) ?_
  refine lv_iload_n hx hb dX0_polyOf_2 rfl (lv_at hl 2 rfl) ?_
  refine q_V (As := [.int (x), .int (y)]) (rest := []) ⟨hx, hb, hml, hown, hts⟩ (c_X_isPart l dC dI h0 a0 a1 cB cI n ns wd f g (x) (y)) (cwV 2 hts gX0_polyOf_X0_isPart rfl rfl rfl (by decide +kernel) ⟨Nat.le_of_ble_eq_true rfl, Nat.le_of_ble_eq_true rfl⟩) (xw_pre hP hK _) rfl hl.1 rfl (Nat.le_of_ble_eq_true rfl) dX0_polyOf_3 ⟨Nat.zero_le _, Nat.zero_le _⟩ ?_
  refine lv_if_eq (tgt := 18) hx hb dX0_polyOf_6 (by decide) (fun c_6 => ?_) (fun c_6 => ?_)
  · refine lv_aload_n hx hb dX0_polyOf_18 rfl (lv_at hl 0 rfl) ?_
    refine lv_iconst (v := 0) hx hb dX0_polyOf_19 (by decide) ?_
    refine lv_iconst (v := 0) hx hb dX0_polyOf_20 (by decide) ?_
    refine q_V (As := [.int (0), .int (0)]) (rest := []) ⟨hx, hb, hml, hown, hts⟩ (c_X_polySum l dC dI h0 a0 a1 cB cI n ns wd f g (0) (0) (by omega) (by omega) (hn) (hg)) (cwV 2 hts gX0_polyOf_X0_polySum rfl rfl rfl (by decide +kernel) ⟨Nat.le_of_ble_eq_true rfl, Nat.le_of_ble_eq_true rfl⟩) (xw_pre hP hK _) rfl hl.1 rfl (Nat.le_of_ble_eq_true rfl) dX0_polyOf_21 ⟨Nat.zero_le _, Nat.zero_le _⟩ ?_
    exact W.iret (v := (cr_rg f 0 (-1) (0 - 0) ^^^ (-1))) hx hb hr (fun t ht _ => ⟨congrArg (fun z => Outcome.returned (some (Value.int z))) (by unfold an_po; rw [if_pos c_6]; exact Int32.xor_self), ht⟩) (fun _ h => by cases h) dX0_polyOf_24
  · obtain ⟨a, b, hxa, hyb, hab, hbn⟩ := pt_some hn c_6
    refine lv_aload_n hx hb dX0_polyOf_9 rfl (lv_at hl 0 rfl) ?_
    refine lv_iload_n hx hb dX0_polyOf_10 rfl (lv_at hl 1 rfl) ?_
    refine q_ti (y := nI a) (hxa) ?_
    refine lv_iload_n hx hb dX0_polyOf_11 rfl (lv_at hl 2 rfl) ?_
    refine q_ti (y := nI b) (hyb) ?_
    refine q_V (As := [.int (nI a), .int (nI b)]) (rest := []) ⟨hx, hb, hml, hown, hts⟩ (c_X_polySum l dC dI h0 a0 a1 cB cI n ns wd f g (a) (b) (by omega) (by omega) (hn) (hg)) (cwV 2 hts gX0_polyOf_X0_polySum rfl rfl rfl (by decide +kernel) ⟨Nat.le_of_ble_eq_true rfl, Nat.le_of_ble_eq_true rfl⟩) (xw_pre hP hK _) rfl hl.1 rfl (Nat.le_of_ble_eq_true rfl) dX0_polyOf_12 ⟨Nat.zero_le _, Nat.zero_le _⟩ ?_
    refine lv_goto (tgt := 24) hx hb dX0_polyOf_15 (by decide) ?_
    exact W.iret (v := (cr_rg f a (-1) (b - a) ^^^ (-1))) hx hb hr (fun t ht _ => ⟨congrArg (fun z => Outcome.returned (some (Value.int z))) (by unfold an_po; rw [if_neg c_6, hxa, hyb, nI_clamp (by omega), nI_clamp (by omega)]), ht⟩) (fun _ h => by cases h) dX0_polyOf_24
set_option maxHeartbeats 4000000 in
set_option maxRecDepth 100000 in
theorem c_X_masked (l : Launch) (dC : Nat → ClassId) (dI : Nat → Nat → Nat) (h0 a0 a1 : Nat) (cB cI : ClassId) (n : Nat) (ns : Int32) (wd : Int64) (f g : Nat → Int32) (x : Int32) (b : Int32) : Met l yX0_masked wsX0_masked ({ frames := 1, cells := 0, slots := 0, locals := 21 } : Room) (va_Pc [.ref h0, .int x, .int b] (xW dC dI h0 a0 a1 cB cI n ns wd f g)) (k2_QcV (.int (an_ma x b))) 0 0 (fun _ => False) := by
  refine Met.ofW (cc := cX0_masked) (maxL := 3) (ret := some .int) (by decide) rfl ?_
  intro p e s m args below meth c s₁ B hml hv
  obtain ⟨rfl, hP, hK⟩ := hv
  have hx := B.exec
  have hb := B.bytes
  have hr := B.returns
  have hts := atoms_spec (ws := wsX0_masked) B.pre
  have hown : s.vm.findClass RX0 = some m.cls := findClass_of_methodNamed B.named
  have hlocks := B.notSynchronized
  have hl := lv_entry ([.ref h0, .int x, .int b]) (n := 3) (Nat.le_of_ble_eq_true rfl)
  rw [lg_entry_eq]
  generalize (lg_sl ([.ref h0, .int x, .int b]) ++ List.replicate (3 - (lg_sl ([.ref h0, .int x, .int b])).length) Slot.unset).toArray = ls at hl ⊢
  have hl : lv_has ls 3 [(0, .ref h0), (1, .int (x)), (2, .int (b))] := hl
  refine lv_iload_n hx hb dX0_masked_0 rfl (lv_at hl 2 rfl) ?_
  refine lv_if_eq (tgt := 16) hx hb dX0_masked_1 (by decide) (fun c_1 => ?_) (fun c_1 => ?_)
  · refine lv_iload_n hx hb dX0_masked_16 rfl (lv_at hl 1 rfl) ?_
    refine lv_bipush (v := 17) hx hb dX0_masked_17 (by decide) ?_
    refine q_S (As := [.int (x), .int (17)]) (rest := []) ⟨hx, hb, hml, hown, hts⟩ (c_X_rotated l (x) (17)) (va_cwS 2 hts gX0_masked_X0_rotated rfl rfl rfl (by decide +kernel) ⟨Nat.le_of_ble_eq_true rfl, Nat.le_of_ble_eq_true rfl⟩) rfl hl.1 rfl (Nat.le_of_ble_eq_true rfl) dX0_masked_19 ⟨Nat.zero_le _, Nat.zero_le _⟩ ?_
    refine lv_ldc (v := -1568478504) hx hb hown (hts (.constant RX0 56 (-1568478504)) (by decide +kernel)) dX0_masked_22 ?_
    refine lv_iadd hx hb dX0_masked_24 ?_
    exact W.iret (v := ((na_rt x 17) + (-1568478504))) hx hb hr (fun t ht _ => ⟨congrArg (fun z => Outcome.returned (some (Value.int z))) (by unfold an_ma; rw [if_pos c_1]), ht⟩) (fun _ h => by cases h) dX0_masked_25
  · refine lv_iload_n hx hb dX0_masked_4 rfl (lv_at hl 1 rfl) ?_
    refine lv_ldc (v := -1568478504) hx hb hown (hts (.constant RX0 56 (-1568478504)) (by decide +kernel)) dX0_masked_5 ?_
    refine lv_isub hx hb dX0_masked_7 ?_
    refine lv_bipush (v := 15) hx hb dX0_masked_8 (by decide) ?_
    refine q_S (As := [.int ((x - (-1568478504))), .int (15)]) (rest := []) ⟨hx, hb, hml, hown, hts⟩ (c_X_rotated l ((x - (-1568478504))) (15)) (va_cwS 2 hts gX0_masked_X0_rotated rfl rfl rfl (by decide +kernel) ⟨Nat.le_of_ble_eq_true rfl, Nat.le_of_ble_eq_true rfl⟩) rfl hl.1 rfl (Nat.le_of_ble_eq_true rfl) dX0_masked_10 ⟨Nat.zero_le _, Nat.zero_le _⟩ ?_
    refine lv_goto (tgt := 25) hx hb dX0_masked_13 (by decide) ?_
    exact W.iret (v := (na_rt ((x - (-1568478504))) 15)) hx hb hr (fun t ht _ => ⟨congrArg (fun z => Outcome.returned (some (Value.int z))) (by unfold an_ma; rw [if_neg c_1]), ht⟩) (fun _ h => by cases h) dX0_masked_25
set_option maxHeartbeats 4000000 in
set_option maxRecDepth 100000 in
theorem c_X_joined (l : Launch) (dC : Nat → ClassId) (dI : Nat → Nat → Nat) (h0 a0 a1 : Nat) (cB cI : ClassId) (n : Nat) (ns : Int32) (wd : Int64) (f g : Nat → Int32) (a : Int32) (b : Int32) (ex : Int64) : Met l yX0_joined wsX0_joined ({ frames := 3, cells := 0, slots := 0, locals := 69 } : Room) (va_Pc [.ref h0, .int a, .int b, .long ex] (xW dC dI h0 a0 a1 cB cI n ns wd f g)) (k2_QcV (.int (an_jo a b ex))) 0 0 (fun _ => False) := by
  refine Met.ofW (cc := cX0_joined) (maxL := 5) (ret := some .int) (by decide) rfl ?_
  intro p e s m args below meth c s₁ B hml hv
  obtain ⟨rfl, hP, hK⟩ := hv
  have hx := B.exec
  have hb := B.bytes
  have hr := B.returns
  have hts := atoms_spec (ws := wsX0_joined) B.pre
  have hown : s.vm.findClass RX0 = some m.cls := findClass_of_methodNamed B.named
  have hlocks := B.notSynchronized
  have hl := lv_entry ([.ref h0, .int a, .int b, .long ex]) (n := 5) (Nat.le_of_ble_eq_true rfl)
  rw [lg_entry_eq]
  generalize (lg_sl ([.ref h0, .int a, .int b, .long ex]) ++ List.replicate (5 - (lg_sl ([.ref h0, .int a, .int b, .long ex])).length) Slot.unset).toArray = ls at hl ⊢
  have hl : lv_has ls 5 [(0, .ref h0), (1, .int (a)), (2, .int (b)), (3, .long (ex))] := hl
  refine lv_iload_n hx hb dX0_joined_0 rfl (lv_at hl 1 rfl) ?_
  refine lv_ldc (v := -2147483648) hx hb hown (hts (.constant RX0 60 (-2147483648)) (by decide +kernel)) dX0_joined_1 ?_
  refine lv_bipush (v := 8) hx hb dX0_joined_3 (by decide) ?_
  refine q_S (As := [.int ((-2147483648)), .int (8)]) (rest := [.int (a)]) ⟨hx, hb, hml, hown, hts⟩ (c_X_movedOn l (-2147483648) (8) (by omega)) (va_cwS 2 hts gX0_joined_X0_movedOn rfl rfl rfl (by decide +kernel) ⟨Nat.le_of_ble_eq_true rfl, Nat.le_of_ble_eq_true rfl⟩) rfl hl.1 rfl (Nat.le_of_ble_eq_true rfl) dX0_joined_5 ⟨Nat.zero_le _, Nat.zero_le _⟩ ?_
  refine lv_lload_n hx hb dX0_joined_8 rfl (lv_at hl 3 rfl) ?_
  refine q_S (As := [.int ((cr_it cr_r 8 (-2147483648))), .long (ex)]) (rest := [.int (a)]) ⟨hx, hb, hml, hown, hts⟩ (c_X_power l ((cr_it cr_r 8 (-2147483648))) (ex)) (va_cwS 2 hts gX0_joined_X0_power rfl rfl rfl (by decide +kernel) ⟨Nat.le_of_ble_eq_true rfl, Nat.le_of_ble_eq_true rfl⟩) rfl hl.1 rfl (Nat.le_of_ble_eq_true rfl) dX0_joined_9 ⟨Nat.zero_le _, Nat.zero_le _⟩ ?_
  refine q_S (As := [.int (a), .int ((cr_pw ((cr_it cr_r 8 (-2147483648))) (ex.toBitVec.toNat)))]) (rest := []) ⟨hx, hb, hml, hown, hts⟩ (c_X_product l (a) ((cr_pw ((cr_it cr_r 8 (-2147483648))) (ex.toBitVec.toNat)))) (va_cwS 2 hts gX0_joined_X0_product rfl rfl rfl (by decide +kernel) ⟨Nat.le_of_ble_eq_true rfl, Nat.le_of_ble_eq_true rfl⟩) rfl hl.1 rfl (Nat.le_of_ble_eq_true rfl) dX0_joined_12 ⟨Nat.zero_le _, Nat.zero_le _⟩ ?_
  refine lv_iload_n hx hb dX0_joined_15 rfl (lv_at hl 2 rfl) ?_
  refine lv_ixor hx hb dX0_joined_16 ?_
  exact W.iret (v := ((cr_mul ((cr_pw ((cr_it cr_r 8 (-2147483648))) (ex.toBitVec.toNat))) a) ^^^ b)) hx hb hr (fun t ht _ => ⟨congrArg (fun z => Outcome.returned (some (Value.int z))) (rfl), ht⟩) (fun _ h => by cases h) dX0_joined_17
set_option maxHeartbeats 4000000 in
set_option maxRecDepth 100000 in
theorem c_X_cut (l : Launch) (dC : Nat → ClassId) (dI : Nat → Nat → Nat) (h0 a0 a1 : Nat) (cB cI : ClassId) (n : Nat) (ns : Int32) (wd : Int64) (f g : Nat → Int32) (a : Int32) (b : Int32) (ex : Int64) : Met l yX0_cut wsX0_cut ({ frames := 3, cells := 0, slots := 0, locals := 69 } : Room) (va_Pc [.ref h0, .int a, .int b, .long ex] (xW dC dI h0 a0 a1 cB cI n ns wd f g)) (k2_QcV (.int (an_cu a b ex))) 0 0 (fun _ => False) := by
  refine Met.ofW (cc := cX0_cut) (maxL := 5) (ret := some .int) (by decide) rfl ?_
  intro p e s m args below meth c s₁ B hml hv
  obtain ⟨rfl, hP, hK⟩ := hv
  have hx := B.exec
  have hb := B.bytes
  have hr := B.returns
  have hts := atoms_spec (ws := wsX0_cut) B.pre
  have hown : s.vm.findClass RX0 = some m.cls := findClass_of_methodNamed B.named
  have hlocks := B.notSynchronized
  have hl := lv_entry ([.ref h0, .int a, .int b, .long ex]) (n := 5) (Nat.le_of_ble_eq_true rfl)
  rw [lg_entry_eq]
  generalize (lg_sl ([.ref h0, .int a, .int b, .long ex]) ++ List.replicate (5 - (lg_sl ([.ref h0, .int a, .int b, .long ex])).length) Slot.unset).toArray = ls at hl ⊢
  have hl : lv_has ls 5 [(0, .ref h0), (1, .int (a)), (2, .int (b)), (3, .long (ex))] := hl
  refine lv_iload_n hx hb dX0_cut_0 rfl (lv_at hl 1 rfl) ?_
  refine lv_iload_n hx hb dX0_cut_1 rfl (lv_at hl 2 rfl) ?_
  refine lv_ixor hx hb dX0_cut_2 ?_
  refine lv_ldc (v := -2147483648) hx hb hown (hts (.constant RX0 60 (-2147483648)) (by decide +kernel)) dX0_cut_3 ?_
  refine lv_bipush (v := 8) hx hb dX0_cut_5 (by decide) ?_
  refine q_S (As := [.int ((-2147483648)), .int (8)]) (rest := [.int ((a ^^^ b))]) ⟨hx, hb, hml, hown, hts⟩ (c_X_movedBack l (-2147483648) (8) (by omega)) (va_cwS 2 hts gX0_cut_X0_movedBack rfl rfl rfl (by decide +kernel) ⟨Nat.le_of_ble_eq_true rfl, Nat.le_of_ble_eq_true rfl⟩) rfl hl.1 rfl (Nat.le_of_ble_eq_true rfl) dX0_cut_7 ⟨Nat.zero_le _, Nat.zero_le _⟩ ?_
  refine lv_lload_n hx hb dX0_cut_10 rfl (lv_at hl 3 rfl) ?_
  refine q_S (As := [.int ((cr_it cr_b 8 (-2147483648))), .long (ex)]) (rest := [.int ((a ^^^ b))]) ⟨hx, hb, hml, hown, hts⟩ (c_X_power l ((cr_it cr_b 8 (-2147483648))) (ex)) (va_cwS 2 hts gX0_cut_X0_power rfl rfl rfl (by decide +kernel) ⟨Nat.le_of_ble_eq_true rfl, Nat.le_of_ble_eq_true rfl⟩) rfl hl.1 rfl (Nat.le_of_ble_eq_true rfl) dX0_cut_11 ⟨Nat.zero_le _, Nat.zero_le _⟩ ?_
  refine q_S (As := [.int ((a ^^^ b)), .int ((cr_pw ((cr_it cr_b 8 (-2147483648))) (ex.toBitVec.toNat)))]) (rest := []) ⟨hx, hb, hml, hown, hts⟩ (c_X_product l ((a ^^^ b)) ((cr_pw ((cr_it cr_b 8 (-2147483648))) (ex.toBitVec.toNat)))) (va_cwS 2 hts gX0_cut_X0_product rfl rfl rfl (by decide +kernel) ⟨Nat.le_of_ble_eq_true rfl, Nat.le_of_ble_eq_true rfl⟩) rfl hl.1 rfl (Nat.le_of_ble_eq_true rfl) dX0_cut_14 ⟨Nat.zero_le _, Nat.zero_le _⟩ ?_
  exact W.iret (v := (cr_mul ((cr_pw ((cr_it cr_b 8 (-2147483648))) (ex.toBitVec.toNat))) ((a ^^^ b)))) hx hb hr (fun t ht _ => ⟨congrArg (fun z => Outcome.returned (some (Value.int z))) (rfl), ht⟩) (fun _ h => by cases h) dX0_cut_17
set_option maxHeartbeats 4000000 in
set_option maxRecDepth 100000 in
theorem c_X_forged (l : Launch) (dC : Nat → ClassId) (dI : Nat → Nat → Nat) (h0 a0 a1 : Nat) (cB cI : ClassId) (n : Nat) (ns : Int32) (wd : Int64) (f g : Nat → Int32) (sum : Int32) (hn : n ≤ 65536) (hg : ∀ i, i < 256 → g i = cr_it cr_r 8 (nI i)) : Met l yX0_forged wsX0_forged ({ frames := 3, cells := 0, slots := 0, locals := 65 } : Room) (va_Pc [.ref h0, .int sum] (xW dC dI h0 a0 a1 cB cI n ns wd f g)) (k2_QcV (.int (an_fo n f sum))) 0 0 (fun _ => False) := by
  refine Met.ofW (cc := cX0_forged) (maxL := 2) (ret := some .int) (by decide) rfl ?_
  intro p e s m args below meth c s₁ B hml hv
  obtain ⟨rfl, hP, hK⟩ := hv
  have hx := B.exec
  have hb := B.bytes
  have hr := B.returns
  have hts := atoms_spec (ws := wsX0_forged) B.pre
  have hown : s.vm.findClass RX0 = some m.cls := findClass_of_methodNamed B.named
  have hlocks := B.notSynchronized
  have hl := lv_entry ([.ref h0, .int sum]) (n := 2) (Nat.le_of_ble_eq_true rfl)
  rw [lg_entry_eq]
  generalize (lg_sl ([.ref h0, .int sum]) ++ List.replicate (2 - (lg_sl ([.ref h0, .int sum])).length) Slot.unset).toArray = ls at hl ⊢
  have hl : lv_has ls 2 [(0, .ref h0), (1, .int (sum))] := hl
  refine lv_aload_n hx hb dX0_forged_0 rfl (lv_at hl 0 rfl) ?_
  refine q_V (As := []) (rest := []) ⟨hx, hb, hml, hown, hts⟩ (c_X_poly l dC dI h0 a0 a1 cB cI n ns wd f g (hn) (hg)) (cwV 0 hts gX0_forged_X0_poly rfl rfl rfl (by decide +kernel) ⟨Nat.le_of_ble_eq_true rfl, Nat.le_of_ble_eq_true rfl⟩) (xw_pre hP hK _) rfl hl.1 rfl (Nat.le_of_ble_eq_true rfl) dX0_forged_1 ⟨Nat.zero_le _, Nat.zero_le _⟩ ?_
  refine lv_iload_n hx hb dX0_forged_4 rfl (lv_at hl 1 rfl) ?_
  refine q_S (As := [.int ((cr_rg f 0 (-1) n ^^^ (-1))), .int (sum)]) (rest := []) ⟨hx, hb, hml, hown, hts⟩ (c_X_fourBetween l ((cr_rg f 0 (-1) n ^^^ (-1))) (sum)) (va_cwS 2 hts gX0_forged_X0_fourBetween rfl rfl rfl (by decide +kernel) ⟨Nat.le_of_ble_eq_true rfl, Nat.le_of_ble_eq_true rfl⟩) rfl hl.1 rfl (Nat.le_of_ble_eq_true rfl) dX0_forged_5 ⟨Nat.zero_le _, Nat.zero_le _⟩ ?_
  exact W.iret (v := (tu_x ((((cr_rg f 0 (-1) n ^^^ (-1))) ^^^ (-1)) ^^^ cr_it cr_b 32 (sum ^^^ (-1))))) hx hb hr (fun t ht _ => ⟨congrArg (fun z => Outcome.returned (some (Value.int z))) (by unfold an_fo; rw [tu_eq, xx_1]), ht⟩) (fun _ h => by cases h) dX0_forged_8
set_option maxHeartbeats 4000000 in
set_option maxRecDepth 100000 in
theorem c_X_mended (l : Launch) (dC : Nat → ClassId) (dI : Nat → Nat → Nat) (h0 a0 a1 : Nat) (cB cI : ClassId) (n : Nat) (ns : Int32) (wd : Int64) (f g : Nat → Int32) (x : Int32) (sum : Int32) (hn : n ≤ 65536) (hg : ∀ i, i < 256 → g i = cr_it cr_r 8 (nI i)) : Met l yX0_mended wsX0_mended ({ frames := 4, cells := 0, slots := 0, locals := 93 } : Room) (va_Pc [.ref h0, .int x, .int sum] (xW dC dI h0 a0 a1 cB cI n ns wd f g)) (k2_QcV (.int (an_me n f x sum))) 0 0 (fun _ => False) := by
  refine Met.ofW (cc := cX0_mended) (maxL := 5) (ret := some .int) (by decide) rfl ?_
  intro p e s m args below meth c s₁ B hml hv
  obtain ⟨rfl, hP, hK⟩ := hv
  have hx := B.exec
  have hb := B.bytes
  have hr := B.returns
  have hts := atoms_spec (ws := wsX0_mended) B.pre
  have hown : s.vm.findClass RX0 = some m.cls := findClass_of_methodNamed B.named
  have hlocks := B.notSynchronized
  have hin : ∀ w ∈ u_ws RX0 TX0 5, w ∈ wsX0_mended := by decide +kernel
  have hl := lv_entry ([.ref h0, .int x, .int sum]) (n := 5) (Nat.le_of_ble_eq_true rfl)
  rw [lg_entry_eq]
  generalize (lg_sl ([.ref h0, .int x, .int sum]) ++ List.replicate (5 - (lg_sl ([.ref h0, .int x, .int sum])).length) Slot.unset).toArray = ls at hl ⊢
  have hl : lv_has ls 5 [(0, .ref h0), (1, .int (x)), (2, .int (sum))] := hl
  refine lv_iload_n hx hb dX0_mended_0 rfl (lv_at hl 1 rfl) ?_
  refine lv_if_lt (tgt := 14) hx hb dX0_mended_1 (by decide) (fun c_1 => ?_) (fun c_1 => ?_)
  · refine lv_iconst (v := 0) hx hb dX0_mended_14 (by decide) ?_
    exact W.iret (v := 0) hx hb hr (fun t ht _ => ⟨congrArg (fun z => Outcome.returned (some (Value.int z))) (by unfold an_me; rw [if_pos c_1]), ht⟩) (fun _ h => by cases h) dX0_mended_15
  · refine lv_iload_n hx hb dX0_mended_4 rfl (lv_at hl 1 rfl) ?_
    refine lv_aload_n hx hb dX0_mended_5 rfl (lv_at hl 0 rfl) ?_
    refine va_get (D := (dC, dI)) (ci := 0) (v := .int (nI n)) (C := RX0) (T := TX0) (N := 5) hx hb hts hin hown hK hP 0 rfl rfl 2 (by decide) (hts (.fieldLink RX0 22 "StreamSums" "count" "I") (by decide +kernel)) (fun _ h9 => h9) rfl dX0_mended_6 ?_
    refine lv_iconst (v := 4) hx hb dX0_mended_9 (by decide) ?_
    refine lv_isub hx hb dX0_mended_10 ?_
    refine lv_icmp_le (tgt := 16) hx hb dX0_mended_11 (by decide) (fun c_11 => ?_) (fun c_11 => ?_)
    · obtain ⟨k, hxk, hk⟩ := me_some hn c_1 c_11
      refine lv_iload_n hx hb dX0_mended_16 rfl (lv_at hl 1 rfl) ?_
      refine q_ti (y := nI k) (hxk) ?_
      refine lv_iconst (v := 4) hx hb dX0_mended_17 (by decide) ?_
      refine lv_iadd hx hb dX0_mended_18 ?_
      refine q_ti (y := nI (k + 4)) (nI_add k 4) ?_
      refine lv_istore_n (lv' := [(3, .int (nI (k + 4))), (0, .ref h0), (1, .int (x)), (2, .int (sum))]) hx hb dX0_mended_19 rfl hl (by decide) rfl (fun ls hl => ?_)
      refine lv_aload_n hx hb dX0_mended_20 rfl (lv_at hl 1 rfl) ?_
      refine lv_iload_n hx hb dX0_mended_21 rfl (lv_at hl 3 rfl) ?_
      refine lv_aload_n hx hb dX0_mended_22 rfl (lv_at hl 1 rfl) ?_
      refine lv_iload_n hx hb dX0_mended_23 rfl (lv_at hl 0 rfl) ?_
      refine lv_aload_n hx hb dX0_mended_24 rfl (lv_at hl 1 rfl) ?_
      refine va_get (D := (dC, dI)) (ci := 0) (v := .int (nI n)) (C := RX0) (T := TX0) (N := 5) hx hb hts hin hown hK hP 0 rfl rfl 2 (by decide) (hts (.fieldLink RX0 22 "StreamSums" "count" "I") (by decide +kernel)) (fun _ h9 => h9) rfl dX0_mended_25 ?_
      refine q_V (As := [.int (nI (k + 4)), .int (nI n)]) (rest := [.int (sum), .ref h0]) ⟨hx, hb, hml, hown, hts⟩ (c_X_polySum l dC dI h0 a0 a1 cB cI n ns wd f g (k + 4) (n) (by omega) (by omega) (hn) (hg)) (cwV 2 hts gX0_mended_X0_polySum rfl rfl rfl (by decide +kernel) ⟨Nat.le_of_ble_eq_true rfl, Nat.le_of_ble_eq_true rfl⟩) (xw_pre hP hK _) rfl hl.1 rfl (Nat.le_of_ble_eq_true rfl) dX0_mended_28 ⟨Nat.zero_le _, Nat.zero_le _⟩ ?_
      refine lv_aload_n hx hb dX0_mended_31 rfl (lv_at hl 1 rfl) ?_
      refine va_get (D := (dC, dI)) (ci := 0) (v := .int (nI n)) (C := RX0) (T := TX0) (N := 5) hx hb hts hin hown hK hP 0 rfl rfl 2 (by decide) (hts (.fieldLink RX0 22 "StreamSums" "count" "I") (by decide +kernel)) (fun _ h9 => h9) rfl dX0_mended_32 ?_
      refine lv_iload_n hx hb dX0_mended_35 rfl (lv_at hl 0 rfl) ?_
      refine lv_isub hx hb dX0_mended_36 ?_
      refine q_ti (y := nI (n - (k + 4))) (pk_sub hk) ?_
      refine lv_i2l (v := (nI (n - (k + 4))).toInt64) hx hb dX0_mended_37 rfl ?_
      refine q_tl (y := lN (n - (k + 4))) (nI_l (by omega)) ?_
      refine q_V (As := [.int (sum), .int ((cr_rg f (k + 4) (-1) (n - (k + 4)) ^^^ (-1))), .long (lN (n - (k + 4)))]) (rest := []) ⟨hx, hb, hml, hown, hts⟩ (c_X_cut l dC dI h0 a0 a1 cB cI n ns wd f g (sum) ((cr_rg f (k + 4) (-1) (n - (k + 4)) ^^^ (-1))) (lN (n - (k + 4)))) (cwV 3 hts gX0_mended_X0_cut rfl rfl rfl (by decide +kernel) ⟨Nat.le_of_ble_eq_true rfl, Nat.le_of_ble_eq_true rfl⟩) (xw_pre hP hK _) rfl hl.1 rfl (Nat.le_of_ble_eq_true rfl) dX0_mended_38 ⟨Nat.zero_le _, Nat.zero_le _⟩ ?_
      refine lv_istore (lv' := [(4, .int ((an_cu sum ((cr_rg f (k + 4) (-1) (n - (k + 4)) ^^^ (-1))) (lN (n - (k + 4)))))), (3, .int (nI (k + 4))), (0, .ref h0), (1, .int (x)), (2, .int (sum))]) hx hb dX0_mended_41 hl (by decide) rfl (fun ls hl => ?_)
      refine lv_aload_n hx hb dX0_mended_43 rfl (lv_at hl 2 rfl) ?_
      refine lv_iconst (v := 0) hx hb dX0_mended_44 (by decide) ?_
      refine lv_iload_n hx hb dX0_mended_45 rfl (lv_at hl 3 rfl) ?_
      refine q_ti (y := nI k) (hxk) ?_
      refine q_V (As := [.int (0), .int (nI k)]) (rest := []) ⟨hx, hb, hml, hown, hts⟩ (c_X_polySum l dC dI h0 a0 a1 cB cI n ns wd f g (0) (k) (by omega) (by omega) (hn) (hg)) (cwV 2 hts gX0_mended_X0_polySum rfl rfl rfl (by decide +kernel) ⟨Nat.le_of_ble_eq_true rfl, Nat.le_of_ble_eq_true rfl⟩) (xw_pre hP hK _) rfl hl.1 rfl (Nat.le_of_ble_eq_true rfl) dX0_mended_46 ⟨Nat.zero_le _, Nat.zero_le _⟩ ?_
      refine lv_iload hx hb dX0_mended_49 (lv_at hl 0 rfl) ?_
      refine q_S (As := [.int ((cr_rg f 0 (-1) (k - 0) ^^^ (-1))), .int ((an_cu sum ((cr_rg f (k + 4) (-1) (n - (k + 4)) ^^^ (-1))) (lN (n - (k + 4)))))]) (rest := []) ⟨hx, hb, hml, hown, hts⟩ (c_X_fourBetween l ((cr_rg f 0 (-1) (k - 0) ^^^ (-1))) ((an_cu sum ((cr_rg f (k + 4) (-1) (n - (k + 4)) ^^^ (-1))) (lN (n - (k + 4)))))) (va_cwS 2 hts gX0_mended_X0_fourBetween rfl rfl rfl (by decide +kernel) ⟨Nat.le_of_ble_eq_true rfl, Nat.le_of_ble_eq_true rfl⟩) rfl hl.1 rfl (Nat.le_of_ble_eq_true rfl) dX0_mended_51 ⟨Nat.zero_le _, Nat.zero_le _⟩ ?_
      exact W.iret (v := (tu_x ((((cr_rg f 0 (-1) (k - 0) ^^^ (-1))) ^^^ (-1)) ^^^ cr_it cr_b 32 (((an_cu sum ((cr_rg f (k + 4) (-1) (n - (k + 4)) ^^^ (-1))) (lN (n - (k + 4))))) ^^^ (-1))))) hx hb hr (fun t ht _ => ⟨congrArg (fun z => Outcome.returned (some (Value.int z))) (by unfold an_me; rw [if_neg c_1, if_pos c_11, hxk, nI_clamp (by omega)]; exact me_x hk hn), ht⟩) (fun _ h => by cases h) dX0_mended_54
    · refine lv_iconst (v := 0) hx hb dX0_mended_14 (by decide) ?_
      exact W.iret (v := 0) hx hb hr (fun t ht _ => ⟨congrArg (fun z => Outcome.returned (some (Value.int z))) (by unfold an_me; rw [if_neg c_1, if_neg c_11]), ht⟩) (fun _ h => by cases h) dX0_mended_15
