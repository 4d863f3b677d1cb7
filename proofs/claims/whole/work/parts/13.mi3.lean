set_option maxHeartbeats 4000000 in
set_option maxRecDepth 100000 in
theorem c_M_wideLane (l : Launch) (dC : Nat → ClassId) (dI : Nat → Nat → Nat) (h0 a0 : Nat) (cB : ClassId) (n : Nat) (ns : Int32) (wd : Int64) (f : Nat → Int32) (sd : Int64) (a : Nat) (b : Nat) (q : Nat) (hab : a ≤ b) (hb6 : b ≤ 65536) (hq : q ≤ 3) : Met l yX1_wideLane wsM_wideLane ({ frames := 2, cells := 0, slots := 0, locals := 46 } : Room) (va_Pc [.ref h0, .long sd, .int (nI a), .int (nI b), .int (nI q)] (mW dC dI h0 a0 cB n ns wd f)) (k2_QcV (.long (wi_fo f a q sd ((b - a) / 32)))) 0 0 (fun _ => False) := by
  refine Met.ofW (cc := cX1_wideLane) (maxL := 9) (ret := some .long) (by decide) rfl ?_
  intro p e s m args below meth c s₁ B hml hv
  obtain ⟨rfl, hP, hK⟩ := hv
  have hx := B.exec
  have hb := B.bytes
  have hr := B.returns
  have hts := atoms_spec (ws := wsM_wideLane) B.pre
  have hown : s.vm.findClass RX1 = some m.cls := findClass_of_methodNamed B.named
  have hlocks := B.notSynchronized
  have hl := lv_entry ([.ref h0, .long sd, .int (nI a), .int (nI b), .int (nI q)]) (n := 9) (Nat.le_of_ble_eq_true rfl)
  rw [lg_entry_eq]
  generalize (lg_sl ([.ref h0, .long sd, .int (nI a), .int (nI b), .int (nI q)]) ++ List.replicate (9 - (lg_sl ([.ref h0, .long sd, .int (nI a), .int (nI b), .int (nI q)])).length) Slot.unset).toArray = ls at hl ⊢
  have hl : lv_has ls 9 [(0, .ref h0), (1, .long (sd)), (3, .int (nI a)), (4, .int (nI b)), (5, .int (nI q))] := hl
  refine lv_lload_n hx hb dX1_wideLane_0 rfl (lv_at hl 1 rfl) ?_
  refine lv_lstore (lv' := [(6, .long (sd)), (0, .ref h0), (1, .long (sd)), (3, .int (nI a)), (4, .int (nI b)), (5, .int (nI q))]) hx hb dX1_wideLane_1 hl (by decide) rfl (fun ls hl => ?_)
  refine lv_iload_n hx hb dX1_wideLane_3 rfl (lv_at hl 3 rfl) ?_
  refine lv_istore (lv' := [(8, .int (nI a)), (6, .long (sd)), (0, .ref h0), (1, .long (sd)), (3, .int (nI a)), (4, .int (nI b)), (5, .int (nI q))]) hx hb dX1_wideLane_4 hl (by decide) rfl (fun ls hl => ?_)
  have L6 : ∀ (d j : Nat), j + d = (b - a) / 32 → ∀ ls : Array Slot, lv_has ls 9 [(0, .ref h0), (1, .long (sd)), (3, .int (nI a)), (4, .int (nI b)), (5, .int (nI q)), (6, .long (wi_fo f a q sd (j))), (8, .int (nI (a + 32 * (j))))] → W p l e (headSpec wsM_wideLane ({ frames := 2, cells := 0, slots := 0, locals := 46 } : Room)).room s m [Value.ref h0, .long sd, .int (nI a), .int (nI b), .int (nI q)].toArray below meth c s.heap [] 0 0 (MQ below (k2_QcV (.long (wi_fo f a q sd ((b - a) / 32)))) [Value.ref h0, .long sd, .int (nI a), .int (nI b), .int (nI q)].toArray s 0 0 (fun _ => False)) (F0 m 6 ls []) := by
    intro d
    induction d with
    | zero =>
      intro j hj ls hl
      obtain rfl : (b - a) / 32 = j := by omega
      refine lv_iload hx hb dX1_wideLane_6 (lv_at hl 3 rfl) ?_
      refine lv_iload hx hb dX1_wideLane_8 (lv_at hl 6 rfl) ?_
      refine lv_isub hx hb dX1_wideLane_10 ?_
      refine q_ti (y := nI (b - (a + 32 * ((b - a) / 32)))) (pk_sub (by omega)) ?_
      refine lv_bipush (v := 32) hx hb dX1_wideLane_11 (by decide) ?_
      refine lv_icmp_lt (tgt := 54) hx hb dX1_wideLane_13 (by decide) (fun c_13 => ?_) (fun c_13 => ?_)
      · refine lv_lload hx hb dX1_wideLane_54 (lv_at hl 5 rfl) ?_
        exact W.lret (v := wi_fo f a q sd (((b - a) / 32))) hx hb hr (fun t ht _ => ⟨congrArg (fun z => Outcome.returned (some (Value.long z))) (rfl), ht⟩) (fun _ h => by cases h) dX1_wideLane_56
      · exact absurd (nI_lt (b := 32) (by omega) (by omega)) c_13
    | succ d ih =>
      intro j hj ls hl
      have hjl : j < (b - a) / 32 := by omega
      refine lv_iload hx hb dX1_wideLane_6 (lv_at hl 3 rfl) ?_
      refine lv_iload hx hb dX1_wideLane_8 (lv_at hl 6 rfl) ?_
      refine lv_isub hx hb dX1_wideLane_10 ?_
      refine q_ti (y := nI (b - (a + 32 * j))) (pk_sub (by omega)) ?_
      refine lv_bipush (v := 32) hx hb dX1_wideLane_11 (by decide) ?_
      refine lv_icmp_lt (tgt := 54) hx hb dX1_wideLane_13 (by decide) (fun c_13 => ?_) (fun c_13 => ?_)
      · exact absurd c_13 (nI_nlt (b := 32) (by omega) (by omega))
      · refine lv_lload hx hb dX1_wideLane_16 (lv_at hl 5 rfl) ?_
        refine lv_aload_n hx hb dX1_wideLane_18 rfl (lv_at hl 0 rfl) ?_
        refine lv_iload hx hb dX1_wideLane_19 (lv_at hl 6 rfl) ?_
        refine lv_bipush (v := 8) hx hb dX1_wideLane_21 (by decide) ?_
        refine lv_iload hx hb dX1_wideLane_23 (lv_at hl 4 rfl) ?_
        refine lv_imul hx hb dX1_wideLane_25 ?_
        refine q_ti (y := nI (8 * q)) (pk_mul 8 q) ?_
        refine lv_iadd hx hb dX1_wideLane_26 ?_
        refine q_ti (y := nI (a + 32 * j + 8 * q)) (nI_add _ _) ?_
        refine lv_bipush (v := 8) hx hb dX1_wideLane_27 (by decide) ?_
        refine q_V (As := [.int (nI (a + 32 * j + 8 * q)), .int (8)]) (rest := [.long (wi_fo f a q sd (j))]) ⟨hx, hb, hml, hown, hts⟩ (c_M_number l dC dI h0 a0 cB n ns wd f (a + 32 * j + 8 * q) (8) (by omega)) (cwV 2 hts gX1_wideLane_X1_number rfl rfl rfl (by decide +kernel) ⟨Nat.le_of_ble_eq_true rfl, Nat.le_of_ble_eq_true rfl⟩) (mw_pre hP hK _) rfl hl.1 rfl (Nat.le_of_ble_eq_true rfl) dX1_wideLane_29 ⟨Nat.zero_le _, Nat.zero_le _⟩ ?_
        refine q_tl (y := wo_8 f (a + 32 * j + 8 * q)) (wo_n8 _ _) ?_
        refine lv_ldc2 (v := -4417276706812531889) hx hb hown (hts (.constantLong RX1 56 (-4417276706812531889)) (wsM_self _ (wsM_nin (by decide +kernel)))) dX1_wideLane_32 ?_
        refine lv_lmul hx hb dX1_wideLane_35 ?_
        refine lv_ladd hx hb dX1_wideLane_36 ?_
        refine lv_bipush (v := 31) hx hb dX1_wideLane_37 (by decide) ?_
        refine q_S (As := [.long ((wi_fo f a q sd (j) + (wo_8 f (a + 32 * j + 8 * q) * (-4417276706812531889)))), .int (31)]) (rest := []) ⟨hx, hb, hml, hown, hts⟩ (c_M_turned l ((wi_fo f a q sd (j) + (wo_8 f (a + 32 * j + 8 * q) * (-4417276706812531889)))) (31)) (va_cwS 2 hts gX1_wideLane_X1_turned rfl rfl rfl (by decide +kernel) ⟨Nat.le_of_ble_eq_true rfl, Nat.le_of_ble_eq_true rfl⟩) rfl hl.1 rfl (Nat.le_of_ble_eq_true rfl) dX1_wideLane_39 ⟨Nat.zero_le _, Nat.zero_le _⟩ ?_
        refine lv_ldc2 (v := -7046029288634856825) hx hb hown (hts (.constantLong RX1 62 (-7046029288634856825)) (wsM_self _ (wsM_nin (by decide +kernel)))) dX1_wideLane_42 ?_
        refine lv_lmul hx hb dX1_wideLane_45 ?_
        refine q_tl (y := wi_fo f a q sd (j + 1)) (rfl) ?_
        refine lv_lstore (lv' := [(6, .long (wi_fo f a q sd (j + 1))), (0, .ref h0), (1, .long (sd)), (3, .int (nI a)), (4, .int (nI b)), (5, .int (nI q)), (8, .int (nI (a + 32 * (j))))]) hx hb dX1_wideLane_46 hl (by decide) rfl (fun ls hl => ?_)
        refine lv_iinc (v := nI (a + 32 * (j + 1))) (lv' := [(8, .int (nI (a + 32 * (j + 1)))), (6, .long (wi_fo f a q sd (j + 1))), (0, .ref h0), (1, .long (sd)), (3, .int (nI a)), (4, .int (nI b)), (5, .int (nI q))]) hx hb dX1_wideLane_48 hl (k := 6) rfl (by rw [show a + 32 * (j + 1) = a + 32 * j + 32 by omega]; exact nI_add _ 32) (by decide) rfl (fun ls hl => ?_)
        refine lv_goto (tgt := 6) hx hb dX1_wideLane_51 (by decide) ?_
        exact ih (j + 1) (by omega) ls (lv_sub hl [2, 3, 4, 5, 6, 1, 0] rfl)
  exact L6 ((b - a) / 32) 0 (by omega) ls (lv_sub hl [2, 3, 4, 5, 6, 1, 0] rfl)
set_option maxHeartbeats 4000000 in
set_option maxRecDepth 100000 in
theorem c_M_ofLanes (l : Launch) (dC : Nat → ClassId) (dI : Nat → Nat → Nat) (h0 a0 : Nat) (cB : ClassId) (n : Nat) (ns : Int32) (wd : Int64) (f : Nat → Int32) (a : Nat) (b : Nat) (sd : Int64) (hab : a ≤ b) (hb6 : b ≤ 65536) : Met l yX1_ofLanes wsM_ofLanes ({ frames := 3, cells := 0, slots := 0, locals := 74 } : Room) (va_Pc [.ref h0, .int (nI a), .int (nI b), .long sd] (mW dC dI h0 a0 cB n ns wd f)) (k2_QcV (.long (wi_la f a b sd))) 0 0 (fun _ => False) := by
  refine Met.ofW (cc := cX1_ofLanes) (maxL := 15) (ret := some .long) (by decide) rfl ?_
  intro p e s m args below meth c s₁ B hml hv
  obtain ⟨rfl, hP, hK⟩ := hv
  have hx := B.exec
  have hb := B.bytes
  have hr := B.returns
  have hts := atoms_spec (ws := wsM_ofLanes) B.pre
  have hown : s.vm.findClass RX1 = some m.cls := findClass_of_methodNamed B.named
  have hlocks := B.notSynchronized
  have hl := lv_entry ([.ref h0, .int (nI a), .int (nI b), .long sd]) (n := 15) (Nat.le_of_ble_eq_true rfl)
  rw [lg_entry_eq]
  generalize (lg_sl ([.ref h0, .int (nI a), .int (nI b), .long sd]) ++ List.replicate (15 - (lg_sl ([.ref h0, .int (nI a), .int (nI b), .long sd])).length) Slot.unset).toArray = ls at hl ⊢
  have hl : lv_has ls 15 [(0, .ref h0), (1, .int (nI a)), (2, .int (nI b)), (3, .long (sd))] := hl
  refine lv_aload_n hx hb dX1_ofLanes_0 rfl (lv_at hl 0 rfl) ?_
  refine lv_lload_n hx hb dX1_ofLanes_1 rfl (lv_at hl 3 rfl) ?_
  refine lv_ldc2 (v := -7046029288634856825) hx hb hown (hts (.constantLong RX1 62 (-7046029288634856825)) (wsM_self _ (wsM_nin (by decide +kernel)))) dX1_ofLanes_2 ?_
  refine lv_ladd hx hb dX1_ofLanes_5 ?_
  refine lv_ldc2 (v := -4417276706812531889) hx hb hown (hts (.constantLong RX1 56 (-4417276706812531889)) (wsM_self _ (wsM_nin (by decide +kernel)))) dX1_ofLanes_6 ?_
  refine lv_ladd hx hb dX1_ofLanes_9 ?_
  refine lv_iload_n hx hb dX1_ofLanes_10 rfl (lv_at hl 1 rfl) ?_
  refine lv_iload_n hx hb dX1_ofLanes_11 rfl (lv_at hl 2 rfl) ?_
  refine lv_iconst (v := 0) hx hb dX1_ofLanes_12 (by decide) ?_
  refine q_V (As := [.long (((sd + (-7046029288634856825)) + (-4417276706812531889))), .int (nI a), .int (nI b), .int (0)]) (rest := []) ⟨hx, hb, hml, hown, hts⟩ (c_M_wideLane l dC dI h0 a0 cB n ns wd f (sd + (-7046029288634856825) + (-4417276706812531889)) (a) (b) (0) (by omega) (by omega) (by omega)) (cwV 4 hts gX1_ofLanes_X1_wideLane rfl rfl rfl (by decide +kernel) ⟨Nat.le_of_ble_eq_true rfl, Nat.le_of_ble_eq_true rfl⟩) (mw_pre hP hK _) rfl hl.1 rfl (Nat.le_of_ble_eq_true rfl) dX1_ofLanes_13 ⟨Nat.zero_le _, Nat.zero_le _⟩ ?_
  refine lv_lstore (lv' := [(5, .long ((wi_fo f a 0 (sd + (-7046029288634856825) + (-4417276706812531889)) ((b - a) / 32)))), (0, .ref h0), (1, .int (nI a)), (2, .int (nI b)), (3, .long (sd))]) hx hb dX1_ofLanes_16 hl (by decide) rfl (fun ls hl => ?_)
  refine lv_aload_n hx hb dX1_ofLanes_18 rfl (lv_at hl 1 rfl) ?_
  refine lv_lload_n hx hb dX1_ofLanes_19 rfl (lv_at hl 4 rfl) ?_
  refine lv_ldc2 (v := -4417276706812531889) hx hb hown (hts (.constantLong RX1 56 (-4417276706812531889)) (wsM_self _ (wsM_nin (by decide +kernel)))) dX1_ofLanes_20 ?_
  refine lv_ladd hx hb dX1_ofLanes_23 ?_
  refine lv_iload_n hx hb dX1_ofLanes_24 rfl (lv_at hl 2 rfl) ?_
  refine lv_iload_n hx hb dX1_ofLanes_25 rfl (lv_at hl 3 rfl) ?_
  refine lv_iconst (v := 1) hx hb dX1_ofLanes_26 (by decide) ?_
  refine q_V (As := [.long ((sd + (-4417276706812531889))), .int (nI a), .int (nI b), .int (1)]) (rest := []) ⟨hx, hb, hml, hown, hts⟩ (c_M_wideLane l dC dI h0 a0 cB n ns wd f (sd + (-4417276706812531889)) (a) (b) (1) (by omega) (by omega) (by omega)) (cwV 4 hts gX1_ofLanes_X1_wideLane rfl rfl rfl (by decide +kernel) ⟨Nat.le_of_ble_eq_true rfl, Nat.le_of_ble_eq_true rfl⟩) (mw_pre hP hK _) rfl hl.1 rfl (Nat.le_of_ble_eq_true rfl) dX1_ofLanes_27 ⟨Nat.zero_le _, Nat.zero_le _⟩ ?_
  refine lv_lstore (lv' := [(7, .long ((wi_fo f a 1 (sd + (-4417276706812531889)) ((b - a) / 32)))), (5, .long ((wi_fo f a 0 (sd + (-7046029288634856825) + (-4417276706812531889)) ((b - a) / 32)))), (0, .ref h0), (1, .int (nI a)), (2, .int (nI b)), (3, .long (sd))]) hx hb dX1_ofLanes_30 hl (by decide) rfl (fun ls hl => ?_)
  refine lv_aload_n hx hb dX1_ofLanes_32 rfl (lv_at hl 2 rfl) ?_
  refine lv_lload_n hx hb dX1_ofLanes_33 rfl (lv_at hl 5 rfl) ?_
  refine lv_iload_n hx hb dX1_ofLanes_34 rfl (lv_at hl 3 rfl) ?_
  refine lv_iload_n hx hb dX1_ofLanes_35 rfl (lv_at hl 4 rfl) ?_
  refine lv_iconst (v := 2) hx hb dX1_ofLanes_36 (by decide) ?_
  refine q_V (As := [.long (sd), .int (nI a), .int (nI b), .int (2)]) (rest := []) ⟨hx, hb, hml, hown, hts⟩ (c_M_wideLane l dC dI h0 a0 cB n ns wd f (sd) (a) (b) (2) (by omega) (by omega) (by omega)) (cwV 4 hts gX1_ofLanes_X1_wideLane rfl rfl rfl (by decide +kernel) ⟨Nat.le_of_ble_eq_true rfl, Nat.le_of_ble_eq_true rfl⟩) (mw_pre hP hK _) rfl hl.1 rfl (Nat.le_of_ble_eq_true rfl) dX1_ofLanes_37 ⟨Nat.zero_le _, Nat.zero_le _⟩ ?_
  refine lv_lstore (lv' := [(9, .long ((wi_fo f a 2 sd ((b - a) / 32)))), (7, .long ((wi_fo f a 1 (sd + (-4417276706812531889)) ((b - a) / 32)))), (5, .long ((wi_fo f a 0 (sd + (-7046029288634856825) + (-4417276706812531889)) ((b - a) / 32)))), (0, .ref h0), (1, .int (nI a)), (2, .int (nI b)), (3, .long (sd))]) hx hb dX1_ofLanes_40 hl (by decide) rfl (fun ls hl => ?_)
  refine lv_aload_n hx hb dX1_ofLanes_42 rfl (lv_at hl 3 rfl) ?_
  refine lv_lload_n hx hb dX1_ofLanes_43 rfl (lv_at hl 6 rfl) ?_
  refine lv_ldc2 (v := -7046029288634856825) hx hb hown (hts (.constantLong RX1 62 (-7046029288634856825)) (wsM_self _ (wsM_nin (by decide +kernel)))) dX1_ofLanes_44 ?_
  refine lv_lsub hx hb dX1_ofLanes_47 ?_
  refine lv_iload_n hx hb dX1_ofLanes_48 rfl (lv_at hl 4 rfl) ?_
  refine lv_iload_n hx hb dX1_ofLanes_49 rfl (lv_at hl 5 rfl) ?_
  refine lv_iconst (v := 3) hx hb dX1_ofLanes_50 (by decide) ?_
  refine q_V (As := [.long ((sd - (-7046029288634856825))), .int (nI a), .int (nI b), .int (3)]) (rest := []) ⟨hx, hb, hml, hown, hts⟩ (c_M_wideLane l dC dI h0 a0 cB n ns wd f (sd - (-7046029288634856825)) (a) (b) (3) (by omega) (by omega) (by omega)) (cwV 4 hts gX1_ofLanes_X1_wideLane rfl rfl rfl (by decide +kernel) ⟨Nat.le_of_ble_eq_true rfl, Nat.le_of_ble_eq_true rfl⟩) (mw_pre hP hK _) rfl hl.1 rfl (Nat.le_of_ble_eq_true rfl) dX1_ofLanes_51 ⟨Nat.zero_le _, Nat.zero_le _⟩ ?_
  refine lv_lstore (lv' := [(11, .long ((wi_fo f a 3 (sd - (-7046029288634856825)) ((b - a) / 32)))), (9, .long ((wi_fo f a 2 sd ((b - a) / 32)))), (7, .long ((wi_fo f a 1 (sd + (-4417276706812531889)) ((b - a) / 32)))), (5, .long ((wi_fo f a 0 (sd + (-7046029288634856825) + (-4417276706812531889)) ((b - a) / 32)))), (0, .ref h0), (1, .int (nI a)), (2, .int (nI b)), (3, .long (sd))]) hx hb dX1_ofLanes_54 hl (by decide) rfl (fun ls hl => ?_)
  refine lv_lload hx hb dX1_ofLanes_56 (lv_at hl 3 rfl) ?_
  refine lv_iconst (v := 1) hx hb dX1_ofLanes_58 (by decide) ?_
  refine q_S (As := [.long ((wi_fo f a 0 (sd + (-7046029288634856825) + (-4417276706812531889)) ((b - a) / 32))), .int (1)]) (rest := []) ⟨hx, hb, hml, hown, hts⟩ (c_M_turned l ((wi_fo f a 0 (sd + (-7046029288634856825) + (-4417276706812531889)) ((b - a) / 32))) (1)) (va_cwS 2 hts gX1_ofLanes_X1_turned rfl rfl rfl (by decide +kernel) ⟨Nat.le_of_ble_eq_true rfl, Nat.le_of_ble_eq_true rfl⟩) rfl hl.1 rfl (Nat.le_of_ble_eq_true rfl) dX1_ofLanes_59 ⟨Nat.zero_le _, Nat.zero_le _⟩ ?_
  refine lv_lload hx hb dX1_ofLanes_62 (lv_at hl 2 rfl) ?_
  refine lv_bipush (v := 7) hx hb dX1_ofLanes_64 (by decide) ?_
  refine q_S (As := [.long ((wi_fo f a 1 (sd + (-4417276706812531889)) ((b - a) / 32))), .int (7)]) (rest := [.long ((wi_rt ((wi_fo f a 0 (sd + (-7046029288634856825) + (-4417276706812531889)) ((b - a) / 32))) 1))]) ⟨hx, hb, hml, hown, hts⟩ (c_M_turned l ((wi_fo f a 1 (sd + (-4417276706812531889)) ((b - a) / 32))) (7)) (va_cwS 2 hts gX1_ofLanes_X1_turned rfl rfl rfl (by decide +kernel) ⟨Nat.le_of_ble_eq_true rfl, Nat.le_of_ble_eq_true rfl⟩) rfl hl.1 rfl (Nat.le_of_ble_eq_true rfl) dX1_ofLanes_66 ⟨Nat.zero_le _, Nat.zero_le _⟩ ?_
  refine lv_ladd hx hb dX1_ofLanes_69 ?_
  refine lv_lload hx hb dX1_ofLanes_70 (lv_at hl 1 rfl) ?_
  refine lv_bipush (v := 12) hx hb dX1_ofLanes_72 (by decide) ?_
  refine q_S (As := [.long ((wi_fo f a 2 sd ((b - a) / 32))), .int (12)]) (rest := [.long (((wi_rt ((wi_fo f a 0 (sd + (-7046029288634856825) + (-4417276706812531889)) ((b - a) / 32))) 1) + (wi_rt ((wi_fo f a 1 (sd + (-4417276706812531889)) ((b - a) / 32))) 7)))]) ⟨hx, hb, hml, hown, hts⟩ (c_M_turned l ((wi_fo f a 2 sd ((b - a) / 32))) (12)) (va_cwS 2 hts gX1_ofLanes_X1_turned rfl rfl rfl (by decide +kernel) ⟨Nat.le_of_ble_eq_true rfl, Nat.le_of_ble_eq_true rfl⟩) rfl hl.1 rfl (Nat.le_of_ble_eq_true rfl) dX1_ofLanes_74 ⟨Nat.zero_le _, Nat.zero_le _⟩ ?_
  refine lv_ladd hx hb dX1_ofLanes_77 ?_
  refine lv_lload hx hb dX1_ofLanes_78 (lv_at hl 0 rfl) ?_
  refine lv_bipush (v := 18) hx hb dX1_ofLanes_80 (by decide) ?_
  refine q_S (As := [.long ((wi_fo f a 3 (sd - (-7046029288634856825)) ((b - a) / 32))), .int (18)]) (rest := [.long ((((wi_rt ((wi_fo f a 0 (sd + (-7046029288634856825) + (-4417276706812531889)) ((b - a) / 32))) 1) + (wi_rt ((wi_fo f a 1 (sd + (-4417276706812531889)) ((b - a) / 32))) 7)) + (wi_rt ((wi_fo f a 2 sd ((b - a) / 32))) 12)))]) ⟨hx, hb, hml, hown, hts⟩ (c_M_turned l ((wi_fo f a 3 (sd - (-7046029288634856825)) ((b - a) / 32))) (18)) (va_cwS 2 hts gX1_ofLanes_X1_turned rfl rfl rfl (by decide +kernel) ⟨Nat.le_of_ble_eq_true rfl, Nat.le_of_ble_eq_true rfl⟩) rfl hl.1 rfl (Nat.le_of_ble_eq_true rfl) dX1_ofLanes_82 ⟨Nat.zero_le _, Nat.zero_le _⟩ ?_
  refine lv_ladd hx hb dX1_ofLanes_85 ?_
  refine lv_lstore (lv' := [(13, .long (((((wi_rt ((wi_fo f a 0 (sd + (-7046029288634856825) + (-4417276706812531889)) ((b - a) / 32))) 1) + (wi_rt ((wi_fo f a 1 (sd + (-4417276706812531889)) ((b - a) / 32))) 7)) + (wi_rt ((wi_fo f a 2 sd ((b - a) / 32))) 12)) + (wi_rt ((wi_fo f a 3 (sd - (-7046029288634856825)) ((b - a) / 32))) 18)))), (11, .long ((wi_fo f a 3 (sd - (-7046029288634856825)) ((b - a) / 32)))), (9, .long ((wi_fo f a 2 sd ((b - a) / 32)))), (7, .long ((wi_fo f a 1 (sd + (-4417276706812531889)) ((b - a) / 32)))), (5, .long ((wi_fo f a 0 (sd + (-7046029288634856825) + (-4417276706812531889)) ((b - a) / 32)))), (0, .ref h0), (1, .int (nI a)), (2, .int (nI b)), (3, .long (sd))]) hx hb dX1_ofLanes_86 hl (by decide) rfl (fun ls hl => ?_)
  refine lv_lload hx hb dX1_ofLanes_88 (lv_at hl 0 rfl) ?_
  refine lv_lload hx hb dX1_ofLanes_90 (lv_at hl 4 rfl) ?_
  refine q_S (As := [.long (((((wi_rt ((wi_fo f a 0 (sd + (-7046029288634856825) + (-4417276706812531889)) ((b - a) / 32))) 1) + (wi_rt ((wi_fo f a 1 (sd + (-4417276706812531889)) ((b - a) / 32))) 7)) + (wi_rt ((wi_fo f a 2 sd ((b - a) / 32))) 12)) + (wi_rt ((wi_fo f a 3 (sd - (-7046029288634856825)) ((b - a) / 32))) 18))), .long ((wi_fo f a 0 (sd + (-7046029288634856825) + (-4417276706812531889)) ((b - a) / 32)))]) (rest := []) ⟨hx, hb, hml, hown, hts⟩ (c_M_join l (((((wi_rt ((wi_fo f a 0 (sd + (-7046029288634856825) + (-4417276706812531889)) ((b - a) / 32))) 1) + (wi_rt ((wi_fo f a 1 (sd + (-4417276706812531889)) ((b - a) / 32))) 7)) + (wi_rt ((wi_fo f a 2 sd ((b - a) / 32))) 12)) + (wi_rt ((wi_fo f a 3 (sd - (-7046029288634856825)) ((b - a) / 32))) 18))) ((wi_fo f a 0 (sd + (-7046029288634856825) + (-4417276706812531889)) ((b - a) / 32)))) (va_cwS 2 hts gX1_ofLanes_X1_join rfl rfl rfl (by decide +kernel) ⟨Nat.le_of_ble_eq_true rfl, Nat.le_of_ble_eq_true rfl⟩) rfl hl.1 rfl (Nat.le_of_ble_eq_true rfl) dX1_ofLanes_92 ⟨Nat.zero_le _, Nat.zero_le _⟩ ?_
  refine lv_lstore (lv' := [(13, .long ((wi_wl (((((wi_rt ((wi_fo f a 0 (sd + (-7046029288634856825) + (-4417276706812531889)) ((b - a) / 32))) 1) + (wi_rt ((wi_fo f a 1 (sd + (-4417276706812531889)) ((b - a) / 32))) 7)) + (wi_rt ((wi_fo f a 2 sd ((b - a) / 32))) 12)) + (wi_rt ((wi_fo f a 3 (sd - (-7046029288634856825)) ((b - a) / 32))) 18))) ((wi_fo f a 0 (sd + (-7046029288634856825) + (-4417276706812531889)) ((b - a) / 32)))))), (11, .long ((wi_fo f a 3 (sd - (-7046029288634856825)) ((b - a) / 32)))), (9, .long ((wi_fo f a 2 sd ((b - a) / 32)))), (7, .long ((wi_fo f a 1 (sd + (-4417276706812531889)) ((b - a) / 32)))), (5, .long ((wi_fo f a 0 (sd + (-7046029288634856825) + (-4417276706812531889)) ((b - a) / 32)))), (0, .ref h0), (1, .int (nI a)), (2, .int (nI b)), (3, .long (sd))]) hx hb dX1_ofLanes_95 hl (by decide) rfl (fun ls hl => ?_)
  refine lv_lload hx hb dX1_ofLanes_97 (lv_at hl 0 rfl) ?_
  refine lv_lload hx hb dX1_ofLanes_99 (lv_at hl 3 rfl) ?_
  refine q_S (As := [.long ((wi_wl (((((wi_rt ((wi_fo f a 0 (sd + (-7046029288634856825) + (-4417276706812531889)) ((b - a) / 32))) 1) + (wi_rt ((wi_fo f a 1 (sd + (-4417276706812531889)) ((b - a) / 32))) 7)) + (wi_rt ((wi_fo f a 2 sd ((b - a) / 32))) 12)) + (wi_rt ((wi_fo f a 3 (sd - (-7046029288634856825)) ((b - a) / 32))) 18))) ((wi_fo f a 0 (sd + (-7046029288634856825) + (-4417276706812531889)) ((b - a) / 32))))), .long ((wi_fo f a 1 (sd + (-4417276706812531889)) ((b - a) / 32)))]) (rest := []) ⟨hx, hb, hml, hown, hts⟩ (c_M_join l ((wi_wl (((((wi_rt ((wi_fo f a 0 (sd + (-7046029288634856825) + (-4417276706812531889)) ((b - a) / 32))) 1) + (wi_rt ((wi_fo f a 1 (sd + (-4417276706812531889)) ((b - a) / 32))) 7)) + (wi_rt ((wi_fo f a 2 sd ((b - a) / 32))) 12)) + (wi_rt ((wi_fo f a 3 (sd - (-7046029288634856825)) ((b - a) / 32))) 18))) ((wi_fo f a 0 (sd + (-7046029288634856825) + (-4417276706812531889)) ((b - a) / 32))))) ((wi_fo f a 1 (sd + (-4417276706812531889)) ((b - a) / 32)))) (va_cwS 2 hts gX1_ofLanes_X1_join rfl rfl rfl (by decide +kernel) ⟨Nat.le_of_ble_eq_true rfl, Nat.le_of_ble_eq_true rfl⟩) rfl hl.1 rfl (Nat.le_of_ble_eq_true rfl) dX1_ofLanes_101 ⟨Nat.zero_le _, Nat.zero_le _⟩ ?_
  refine lv_lstore (lv' := [(13, .long ((wi_wl ((wi_wl (((((wi_rt ((wi_fo f a 0 (sd + (-7046029288634856825) + (-4417276706812531889)) ((b - a) / 32))) 1) + (wi_rt ((wi_fo f a 1 (sd + (-4417276706812531889)) ((b - a) / 32))) 7)) + (wi_rt ((wi_fo f a 2 sd ((b - a) / 32))) 12)) + (wi_rt ((wi_fo f a 3 (sd - (-7046029288634856825)) ((b - a) / 32))) 18))) ((wi_fo f a 0 (sd + (-7046029288634856825) + (-4417276706812531889)) ((b - a) / 32))))) ((wi_fo f a 1 (sd + (-4417276706812531889)) ((b - a) / 32)))))), (11, .long ((wi_fo f a 3 (sd - (-7046029288634856825)) ((b - a) / 32)))), (9, .long ((wi_fo f a 2 sd ((b - a) / 32)))), (7, .long ((wi_fo f a 1 (sd + (-4417276706812531889)) ((b - a) / 32)))), (5, .long ((wi_fo f a 0 (sd + (-7046029288634856825) + (-4417276706812531889)) ((b - a) / 32)))), (0, .ref h0), (1, .int (nI a)), (2, .int (nI b)), (3, .long (sd))]) hx hb dX1_ofLanes_104 hl (by decide) rfl (fun ls hl => ?_)
  refine lv_lload hx hb dX1_ofLanes_106 (lv_at hl 0 rfl) ?_
  refine lv_lload hx hb dX1_ofLanes_108 (lv_at hl 2 rfl) ?_
  refine q_S (As := [.long ((wi_wl ((wi_wl (((((wi_rt ((wi_fo f a 0 (sd + (-7046029288634856825) + (-4417276706812531889)) ((b - a) / 32))) 1) + (wi_rt ((wi_fo f a 1 (sd + (-4417276706812531889)) ((b - a) / 32))) 7)) + (wi_rt ((wi_fo f a 2 sd ((b - a) / 32))) 12)) + (wi_rt ((wi_fo f a 3 (sd - (-7046029288634856825)) ((b - a) / 32))) 18))) ((wi_fo f a 0 (sd + (-7046029288634856825) + (-4417276706812531889)) ((b - a) / 32))))) ((wi_fo f a 1 (sd + (-4417276706812531889)) ((b - a) / 32))))), .long ((wi_fo f a 2 sd ((b - a) / 32)))]) (rest := []) ⟨hx, hb, hml, hown, hts⟩ (c_M_join l ((wi_wl ((wi_wl (((((wi_rt ((wi_fo f a 0 (sd + (-7046029288634856825) + (-4417276706812531889)) ((b - a) / 32))) 1) + (wi_rt ((wi_fo f a 1 (sd + (-4417276706812531889)) ((b - a) / 32))) 7)) + (wi_rt ((wi_fo f a 2 sd ((b - a) / 32))) 12)) + (wi_rt ((wi_fo f a 3 (sd - (-7046029288634856825)) ((b - a) / 32))) 18))) ((wi_fo f a 0 (sd + (-7046029288634856825) + (-4417276706812531889)) ((b - a) / 32))))) ((wi_fo f a 1 (sd + (-4417276706812531889)) ((b - a) / 32))))) ((wi_fo f a 2 sd ((b - a) / 32)))) (va_cwS 2 hts gX1_ofLanes_X1_join rfl rfl rfl (by decide +kernel) ⟨Nat.le_of_ble_eq_true rfl, Nat.le_of_ble_eq_true rfl⟩) rfl hl.1 rfl (Nat.le_of_ble_eq_true rfl) dX1_ofLanes_110 ⟨Nat.zero_le _, Nat.zero_le _⟩ ?_
  refine lv_lstore (lv' := [(13, .long ((wi_wl ((wi_wl ((wi_wl (((((wi_rt ((wi_fo f a 0 (sd + (-7046029288634856825) + (-4417276706812531889)) ((b - a) / 32))) 1) + (wi_rt ((wi_fo f a 1 (sd + (-4417276706812531889)) ((b - a) / 32))) 7)) + (wi_rt ((wi_fo f a 2 sd ((b - a) / 32))) 12)) + (wi_rt ((wi_fo f a 3 (sd - (-7046029288634856825)) ((b - a) / 32))) 18))) ((wi_fo f a 0 (sd + (-7046029288634856825) + (-4417276706812531889)) ((b - a) / 32))))) ((wi_fo f a 1 (sd + (-4417276706812531889)) ((b - a) / 32))))) ((wi_fo f a 2 sd ((b - a) / 32)))))), (11, .long ((wi_fo f a 3 (sd - (-7046029288634856825)) ((b - a) / 32)))), (9, .long ((wi_fo f a 2 sd ((b - a) / 32)))), (7, .long ((wi_fo f a 1 (sd + (-4417276706812531889)) ((b - a) / 32)))), (5, .long ((wi_fo f a 0 (sd + (-7046029288634856825) + (-4417276706812531889)) ((b - a) / 32)))), (0, .ref h0), (1, .int (nI a)), (2, .int (nI b)), (3, .long (sd))]) hx hb dX1_ofLanes_113 hl (by decide) rfl (fun ls hl => ?_)
  refine lv_lload hx hb dX1_ofLanes_115 (lv_at hl 0 rfl) ?_
  refine lv_lload hx hb dX1_ofLanes_117 (lv_at hl 1 rfl) ?_
  refine q_S (As := [.long ((wi_wl ((wi_wl ((wi_wl (((((wi_rt ((wi_fo f a 0 (sd + (-7046029288634856825) + (-4417276706812531889)) ((b - a) / 32))) 1) + (wi_rt ((wi_fo f a 1 (sd + (-4417276706812531889)) ((b - a) / 32))) 7)) + (wi_rt ((wi_fo f a 2 sd ((b - a) / 32))) 12)) + (wi_rt ((wi_fo f a 3 (sd - (-7046029288634856825)) ((b - a) / 32))) 18))) ((wi_fo f a 0 (sd + (-7046029288634856825) + (-4417276706812531889)) ((b - a) / 32))))) ((wi_fo f a 1 (sd + (-4417276706812531889)) ((b - a) / 32))))) ((wi_fo f a 2 sd ((b - a) / 32))))), .long ((wi_fo f a 3 (sd - (-7046029288634856825)) ((b - a) / 32)))]) (rest := []) ⟨hx, hb, hml, hown, hts⟩ (c_M_join l ((wi_wl ((wi_wl ((wi_wl (((((wi_rt ((wi_fo f a 0 (sd + (-7046029288634856825) + (-4417276706812531889)) ((b - a) / 32))) 1) + (wi_rt ((wi_fo f a 1 (sd + (-4417276706812531889)) ((b - a) / 32))) 7)) + (wi_rt ((wi_fo f a 2 sd ((b - a) / 32))) 12)) + (wi_rt ((wi_fo f a 3 (sd - (-7046029288634856825)) ((b - a) / 32))) 18))) ((wi_fo f a 0 (sd + (-7046029288634856825) + (-4417276706812531889)) ((b - a) / 32))))) ((wi_fo f a 1 (sd + (-4417276706812531889)) ((b - a) / 32))))) ((wi_fo f a 2 sd ((b - a) / 32))))) ((wi_fo f a 3 (sd - (-7046029288634856825)) ((b - a) / 32)))) (va_cwS 2 hts gX1_ofLanes_X1_join rfl rfl rfl (by decide +kernel) ⟨Nat.le_of_ble_eq_true rfl, Nat.le_of_ble_eq_true rfl⟩) rfl hl.1 rfl (Nat.le_of_ble_eq_true rfl) dX1_ofLanes_119 ⟨Nat.zero_le _, Nat.zero_le _⟩ ?_
  exact W.lret (v := (wi_wl ((wi_wl ((wi_wl ((wi_wl (((((wi_rt ((wi_fo f a 0 (sd + (-7046029288634856825) + (-4417276706812531889)) ((b - a) / 32))) 1) + (wi_rt ((wi_fo f a 1 (sd + (-4417276706812531889)) ((b - a) / 32))) 7)) + (wi_rt ((wi_fo f a 2 sd ((b - a) / 32))) 12)) + (wi_rt ((wi_fo f a 3 (sd - (-7046029288634856825)) ((b - a) / 32))) 18))) ((wi_fo f a 0 (sd + (-7046029288634856825) + (-4417276706812531889)) ((b - a) / 32))))) ((wi_fo f a 1 (sd + (-4417276706812531889)) ((b - a) / 32))))) ((wi_fo f a 2 sd ((b - a) / 32))))) ((wi_fo f a 3 (sd - (-7046029288634856825)) ((b - a) / 32))))) hx hb hr (fun t ht _ => ⟨congrArg (fun z => Outcome.returned (some (Value.long z))) (rfl), ht⟩) (fun _ h => by cases h) dX1_ofLanes_122
set_option maxHeartbeats 4000000 in
set_option maxRecDepth 100000 in
theorem c_M_sumWide (l : Launch) (dC : Nat → ClassId) (dI : Nat → Nat → Nat) (h0 a0 : Nat) (cB : ClassId) (n : Nat) (ns : Int32) (wd : Int64) (f : Nat → Int32) (a : Nat) (b : Nat) (sd : Int64) (hab : a ≤ b) (hb6 : b ≤ 65536) : Met l yX1_sumWide wsM_sumWide ({ frames := 4, cells := 0, slots := 0, locals := 108 } : Room) (va_Pc [.ref h0, .int (nI a), .int (nI b), .long sd] (mW dC dI h0 a0 cB n ns wd f)) (k2_QcV (.long (wi_sum f a b sd))) 0 0 (fun _ => False) := by
  refine Met.ofW (cc := cX1_sumWide) (maxL := 10) (ret := some .long) (by decide) rfl ?_
  intro p e s m args below meth c s₁ B hml hv
  obtain ⟨rfl, hP, hK⟩ := hv
  have hx := B.exec
  have hb := B.bytes
  have hr := B.returns
  have hts := atoms_spec (ws := wsM_sumWide) B.pre
  have hown : s.vm.findClass RX1 = some m.cls := findClass_of_methodNamed B.named
  have hlocks := B.notSynchronized
  have hl := lv_entry ([.ref h0, .int (nI a), .int (nI b), .long sd]) (n := 10) (Nat.le_of_ble_eq_true rfl)
  rw [lg_entry_eq]
  generalize (lg_sl ([.ref h0, .int (nI a), .int (nI b), .long sd]) ++ List.replicate (10 - (lg_sl ([.ref h0, .int (nI a), .int (nI b), .long sd])).length) Slot.unset).toArray = ls at hl ⊢
  have hl : lv_has ls 10 [(0, .ref h0), (1, .int (nI a)), (2, .int (nI b)), (3, .long (sd))] := hl
  have hpc := wi_pc hab
  obtain ⟨hp1, hp2, hp3, hp4, hp5, hp6⟩ := hpc
  refine lv_iload_n hx hb dX1_sumWide_0 rfl (lv_at hl 2 rfl) ?_
  refine lv_iload_n hx hb dX1_sumWide_1 rfl (lv_at hl 1 rfl) ?_
  refine lv_isub hx hb dX1_sumWide_2 ?_
  refine q_ti (y := nI (b - a)) (pk_sub hab) ?_
  refine lv_istore (lv' := [(5, .int (nI (b - a))), (0, .ref h0), (1, .int (nI a)), (2, .int (nI b)), (3, .long (sd))]) hx hb dX1_sumWide_3 hl (by decide) rfl (fun ls hl => ?_)
  have J27 : ∀ ls : Array Slot, lv_has ls 10 [(5, .int (nI (b - a))), (0, .ref h0), (1, .int (nI a)), (2, .int (nI b)), (3, .long (sd))] → W p l e (headSpec wsM_sumWide ({ frames := 4, cells := 0, slots := 0, locals := 108 } : Room)).room s m [Value.ref h0, .int (nI a), .int (nI b), .long sd].toArray below meth c s.heap [] 0 0 (MQ below (k2_QcV (.long (wi_sum f a b sd))) [Value.ref h0, .int (nI a), .int (nI b), .long sd].toArray s 0 0 (fun _ => False)) (F0 m 27 ls [.long (wi_h0 f a b sd)]) := by
    intro ls hl
    refine lv_lstore (lv' := [(6, .long (wi_h0 f a b sd)), (5, .int (nI (b - a))), (0, .ref h0), (1, .int (nI a)), (2, .int (nI b)), (3, .long (sd))]) hx hb dX1_sumWide_27 hl (by decide) rfl (fun ls hl => ?_)
    have J47 : ∀ ls : Array Slot, lv_has ls 10 [(6, .long (wi_h0 f a b sd)), (5, .int (nI (b - a))), (0, .ref h0), (1, .int (nI a)), (2, .int (nI b)), (3, .long (sd))] → W p l e (headSpec wsM_sumWide ({ frames := 4, cells := 0, slots := 0, locals := 108 } : Room)).room s m [Value.ref h0, .int (nI a), .int (nI b), .long sd].toArray below meth c s.heap [] 0 0 (MQ below (k2_QcV (.long (wi_sum f a b sd))) [Value.ref h0, .int (nI a), .int (nI b), .long sd].toArray s 0 0 (fun _ => False)) (F0 m 47 ls [.int (nI (wi_p a b))]) := by
      intro ls hl
      refine lv_istore (lv' := [(8, .int (nI (wi_p a b))), (6, .long (wi_h0 f a b sd)), (5, .int (nI (b - a))), (0, .ref h0), (1, .int (nI a)), (2, .int (nI b)), (3, .long (sd))]) hx hb dX1_sumWide_47 hl (by decide) rfl (fun ls hl => ?_)
      refine lv_lload hx hb dX1_sumWide_49 (lv_at hl 1 rfl) ?_
      refine lv_iload hx hb dX1_sumWide_51 (lv_at hl 2 rfl) ?_
      refine lv_i2l (v := (nI (b - a)).toInt64) hx hb dX1_sumWide_53 rfl ?_
      refine q_tl (y := lN (b - a)) (nI_l (by omega)) ?_
      refine lv_ladd hx hb dX1_sumWide_54 ?_
      refine lv_lstore (lv' := [(6, .long ((wi_h0 f a b sd + lN (b - a)))), (8, .int (nI (wi_p a b))), (5, .int (nI (b - a))), (0, .ref h0), (1, .int (nI a)), (2, .int (nI b)), (3, .long (sd))]) hx hb dX1_sumWide_55 hl (by decide) rfl (fun ls hl => ?_)
      refine lv_iconst (v := 0) hx hb dX1_sumWide_57 (by decide) ?_
      refine lv_istore (lv' := [(9, .int (0)), (6, .long ((wi_h0 f a b sd + lN (b - a)))), (8, .int (nI (wi_p a b))), (5, .int (nI (b - a))), (0, .ref h0), (1, .int (nI a)), (2, .int (nI b)), (3, .long (sd))]) hx hb dX1_sumWide_58 hl (by decide) rfl (fun ls hl => ?_)
      have L60 : ∀ (d j : Nat), j + d = wi_c a b → ∀ ls : Array Slot, lv_has ls 10 [(0, .ref h0), (1, .int (nI a)), (2, .int (nI b)), (3, .long (sd)), (5, .int (nI (b - a))), (6, .long (wi_w8 f (wi_p a b) (wi_h0 f a b sd + lN (b - a)) (j))), (8, .int (nI (wi_p a b + 8 * (j)))), (9, .int (nI (j)))] → W p l e (headSpec wsM_sumWide ({ frames := 4, cells := 0, slots := 0, locals := 108 } : Room)).room s m [Value.ref h0, .int (nI a), .int (nI b), .long sd].toArray below meth c s.heap [] 0 0 (MQ below (k2_QcV (.long (wi_sum f a b sd))) [Value.ref h0, .int (nI a), .int (nI b), .long sd].toArray s 0 0 (fun _ => False)) (F0 m 60 ls []) := by
        intro d
        induction d with
        | zero =>
          intro j hj ls hl
          obtain rfl : wi_c a b = j := by omega
          have J123 : ∀ ls : Array Slot, lv_has ls 10 [(0, .ref h0), (1, .int (nI a)), (2, .int (nI b)), (3, .long (sd)), (5, .int (nI (b - a))), (6, .long (wi_w8 f (wi_p a b) (wi_h0 f a b sd + lN (b - a)) ((wi_c a b)))), (8, .int (nI (wi_p a b + 8 * ((wi_c a b))))), (9, .int (nI ((wi_c a b))))] → W p l e (headSpec wsM_sumWide ({ frames := 4, cells := 0, slots := 0, locals := 108 } : Room)).room s m [Value.ref h0, .int (nI a), .int (nI b), .long sd].toArray below meth c s.heap [] 0 0 (MQ below (k2_QcV (.long (wi_sum f a b sd))) [Value.ref h0, .int (nI a), .int (nI b), .long sd].toArray s 0 0 (fun _ => False)) (F0 m 123 ls []) := by
            intro ls hl
            have J163 : ∀ ls : Array Slot, lv_has ls 10 [(0, .ref h0), (1, .int (nI a)), (2, .int (nI b)), (3, .long (sd)), (5, .int (nI (b - a))), (6, .long ((wi_o f (wi_p a b + 8 * wi_c a b) (wi_w8 f (wi_p a b) (wi_h0 f a b sd + lN (b - a)) (wi_c a b)) (wi_d a b)))), (8, .int (nI (wi_p a b + 8 * wi_c a b + 4 * wi_d a b)))] → W p l e (headSpec wsM_sumWide ({ frames := 4, cells := 0, slots := 0, locals := 108 } : Room)).room s m [Value.ref h0, .int (nI a), .int (nI b), .long sd].toArray below meth c s.heap [] 0 0 (MQ below (k2_QcV (.long (wi_sum f a b sd))) [Value.ref h0, .int (nI a), .int (nI b), .long sd].toArray s 0 0 (fun _ => False)) (F0 m 163 ls []) := by
              intro ls hl
              refine lv_iload hx hb dX1_sumWide_163 (lv_at hl 6 rfl) ?_
              refine lv_istore (lv' := [(9, .int (nI (wi_p a b + 8 * wi_c a b + 4 * wi_d a b))), (0, .ref h0), (1, .int (nI a)), (2, .int (nI b)), (3, .long (sd)), (5, .int (nI (b - a))), (6, .long ((wi_o f (wi_p a b + 8 * wi_c a b) (wi_w8 f (wi_p a b) (wi_h0 f a b sd + lN (b - a)) (wi_c a b)) (wi_d a b)))), (8, .int (nI (wi_p a b + 8 * wi_c a b + 4 * wi_d a b)))]) hx hb dX1_sumWide_165 hl (by decide) rfl (fun ls hl => ?_)
              have L167 : ∀ (d j : Nat), j + d = b - (wi_p a b + 8 * wi_c a b + 4 * wi_d a b) → ∀ ls : Array Slot, lv_has ls 10 [(0, .ref h0), (1, .int (nI a)), (2, .int (nI b)), (3, .long (sd)), (5, .int (nI (b - a))), (6, .long (wi_w1 f (wi_p a b + 8 * wi_c a b + 4 * wi_d a b) (wi_o f (wi_p a b + 8 * wi_c a b) (wi_w8 f (wi_p a b) (wi_h0 f a b sd + lN (b - a)) (wi_c a b)) (wi_d a b)) (j))), (9, .int (nI ((wi_p a b + 8 * wi_c a b + 4 * wi_d a b) + (j))))] → W p l e (headSpec wsM_sumWide ({ frames := 4, cells := 0, slots := 0, locals := 108 } : Room)).room s m [Value.ref h0, .int (nI a), .int (nI b), .long sd].toArray below meth c s.heap [] 0 0 (MQ below (k2_QcV (.long (wi_sum f a b sd))) [Value.ref h0, .int (nI a), .int (nI b), .long sd].toArray s 0 0 (fun _ => False)) (F0 m 167 ls []) := by
                intro d
                induction d with
                | zero =>
                  intro j hj ls hl
                  obtain rfl : b - (wi_p a b + 8 * wi_c a b + 4 * wi_d a b) = j := by omega
                  refine lv_iload hx hb dX1_sumWide_167 (lv_at hl 6 rfl) ?_
                  refine lv_iload_n hx hb dX1_sumWide_169 rfl (lv_at hl 2 rfl) ?_
                  refine lv_icmp_ge (tgt := 204) hx hb dX1_sumWide_170 (by decide) (fun c_170 => ?_) (fun c_170 => ?_)
                  · refine lv_lload hx hb dX1_sumWide_204 (lv_at hl 5 rfl) ?_
                    refine lv_lload hx hb dX1_sumWide_206 (lv_at hl 5 rfl) ?_
                    refine lv_bipush (v := 33) hx hb dX1_sumWide_208 (by decide) ?_
                    refine lv_lushr (v := sh_U (wi_w1 f (wi_p a b + 8 * wi_c a b + 4 * wi_d a b) (wi_o f (wi_p a b + 8 * wi_c a b) (wi_w8 f (wi_p a b) (wi_h0 f a b sd + lN (b - a)) (wi_c a b)) (wi_d a b)) ((b - (wi_p a b + 8 * wi_c a b + 4 * wi_d a b)))) (33)) hx hb dX1_sumWide_210 rfl ?_
                    refine lv_lxor hx hb dX1_sumWide_211 ?_
                    refine lv_ldc2 (v := -4417276706812531889) hx hb hown (hts (.constantLong RX1 56 (-4417276706812531889)) (wsM_self _ (wsM_nin (by decide +kernel)))) dX1_sumWide_212 ?_
                    refine lv_lmul hx hb dX1_sumWide_215 ?_
                    refine q_tl (y := wi_s1 (wi_w1 f (wi_p a b + 8 * wi_c a b + 4 * wi_d a b) (wi_o f (wi_p a b + 8 * wi_c a b) (wi_w8 f (wi_p a b) (wi_h0 f a b sd + lN (b - a)) (wi_c a b)) (wi_d a b)) (b - (wi_p a b + 8 * wi_c a b + 4 * wi_d a b)))) (rfl) ?_
                    refine lv_lstore (lv' := [(6, .long (wi_s1 (wi_w1 f (wi_p a b + 8 * wi_c a b + 4 * wi_d a b) (wi_o f (wi_p a b + 8 * wi_c a b) (wi_w8 f (wi_p a b) (wi_h0 f a b sd + lN (b - a)) (wi_c a b)) (wi_d a b)) (b - (wi_p a b + 8 * wi_c a b + 4 * wi_d a b))))), (0, .ref h0), (1, .int (nI a)), (2, .int (nI b)), (3, .long (sd)), (5, .int (nI (b - a))), (9, .int (nI ((wi_p a b + 8 * wi_c a b + 4 * wi_d a b) + ((b - (wi_p a b + 8 * wi_c a b + 4 * wi_d a b))))))]) hx hb dX1_sumWide_216 hl (by decide) rfl (fun ls hl => ?_)
                    refine lv_lload hx hb dX1_sumWide_218 (lv_at hl 0 rfl) ?_
                    refine lv_lload hx hb dX1_sumWide_220 (lv_at hl 0 rfl) ?_
                    refine lv_bipush (v := 29) hx hb dX1_sumWide_222 (by decide) ?_
                    refine lv_lushr (v := sh_U (wi_s1 (wi_w1 f (wi_p a b + 8 * wi_c a b + 4 * wi_d a b) (wi_o f (wi_p a b + 8 * wi_c a b) (wi_w8 f (wi_p a b) (wi_h0 f a b sd + lN (b - a)) (wi_c a b)) (wi_d a b)) (b - (wi_p a b + 8 * wi_c a b + 4 * wi_d a b)))) (29)) hx hb dX1_sumWide_224 rfl ?_
                    refine lv_lxor hx hb dX1_sumWide_225 ?_
                    refine lv_ldc2 (v := 1609587929392839161) hx hb hown (hts (.constantLong RX1 80 (1609587929392839161)) (wsM_self _ (wsM_nin (by decide +kernel)))) dX1_sumWide_226 ?_
                    refine lv_lmul hx hb dX1_sumWide_229 ?_
                    refine q_tl (y := wi_s2 (wi_s1 (wi_w1 f (wi_p a b + 8 * wi_c a b + 4 * wi_d a b) (wi_o f (wi_p a b + 8 * wi_c a b) (wi_w8 f (wi_p a b) (wi_h0 f a b sd + lN (b - a)) (wi_c a b)) (wi_d a b)) (b - (wi_p a b + 8 * wi_c a b + 4 * wi_d a b))))) (rfl) ?_
                    refine lv_lstore (lv' := [(6, .long (wi_s2 (wi_s1 (wi_w1 f (wi_p a b + 8 * wi_c a b + 4 * wi_d a b) (wi_o f (wi_p a b + 8 * wi_c a b) (wi_w8 f (wi_p a b) (wi_h0 f a b sd + lN (b - a)) (wi_c a b)) (wi_d a b)) (b - (wi_p a b + 8 * wi_c a b + 4 * wi_d a b)))))), (0, .ref h0), (1, .int (nI a)), (2, .int (nI b)), (3, .long (sd)), (5, .int (nI (b - a))), (9, .int (nI ((wi_p a b + 8 * wi_c a b + 4 * wi_d a b) + ((b - (wi_p a b + 8 * wi_c a b + 4 * wi_d a b))))))]) hx hb dX1_sumWide_230 hl (by decide) rfl (fun ls hl => ?_)
                    refine lv_lload hx hb dX1_sumWide_232 (lv_at hl 0 rfl) ?_
                    refine lv_lload hx hb dX1_sumWide_234 (lv_at hl 0 rfl) ?_
                    refine lv_bipush (v := 32) hx hb dX1_sumWide_236 (by decide) ?_
                    refine lv_lushr (v := sh_U (wi_s2 (wi_s1 (wi_w1 f (wi_p a b + 8 * wi_c a b + 4 * wi_d a b) (wi_o f (wi_p a b + 8 * wi_c a b) (wi_w8 f (wi_p a b) (wi_h0 f a b sd + lN (b - a)) (wi_c a b)) (wi_d a b)) (b - (wi_p a b + 8 * wi_c a b + 4 * wi_d a b))))) (32)) hx hb dX1_sumWide_238 rfl ?_
                    refine lv_lxor hx hb dX1_sumWide_239 ?_
                    exact W.lret (v := (wi_s2 (wi_s1 (wi_w1 f (wi_p a b + 8 * wi_c a b + 4 * wi_d a b) (wi_o f (wi_p a b + 8 * wi_c a b) (wi_w8 f (wi_p a b) (wi_h0 f a b sd + lN (b - a)) (wi_c a b)) (wi_d a b)) (b - (wi_p a b + 8 * wi_c a b + 4 * wi_d a b)))) ^^^ (sh_U (wi_s2 (wi_s1 (wi_w1 f (wi_p a b + 8 * wi_c a b + 4 * wi_d a b) (wi_o f (wi_p a b + 8 * wi_c a b) (wi_w8 f (wi_p a b) (wi_h0 f a b sd + lN (b - a)) (wi_c a b)) (wi_d a b)) (b - (wi_p a b + 8 * wi_c a b + 4 * wi_d a b))))) (32)))) hx hb hr (fun t ht _ => ⟨congrArg (fun z => Outcome.returned (some (Value.long z))) (rfl), ht⟩) (fun _ h => by cases h) dX1_sumWide_240
                  · exact absurd (nI_le (by omega) (by omega)) c_170
                | succ d ih =>
                  intro j hj ls hl
                  have hjl : j < b - (wi_p a b + 8 * wi_c a b + 4 * wi_d a b) := by omega
                  refine lv_iload hx hb dX1_sumWide_167 (lv_at hl 6 rfl) ?_
                  refine lv_iload_n hx hb dX1_sumWide_169 rfl (lv_at hl 2 rfl) ?_
                  refine lv_icmp_ge (tgt := 204) hx hb dX1_sumWide_170 (by decide) (fun c_170 => ?_) (fun c_170 => ?_)
                  · exact absurd c_170 (nI_ge (by omega) (by omega))
                  · refine lv_lload hx hb dX1_sumWide_173 (lv_at hl 5 rfl) ?_
                    refine lv_aload_n hx hb dX1_sumWide_175 rfl (lv_at hl 0 rfl) ?_
                    refine lv_iload hx hb dX1_sumWide_176 (lv_at hl 6 rfl) ?_
                    refine q_V (As := [.int (nI ((wi_p a b + 8 * wi_c a b + 4 * wi_d a b) + (j)))]) (rest := [.long (wi_w1 f (wi_p a b + 8 * wi_c a b + 4 * wi_d a b) (wi_o f (wi_p a b + 8 * wi_c a b) (wi_w8 f (wi_p a b) (wi_h0 f a b sd + lN (b - a)) (wi_c a b)) (wi_d a b)) (j))]) ⟨hx, hb, hml, hown, hts⟩ (c_M_at l dC dI h0 a0 cB n ns wd f ((wi_p a b + 8 * wi_c a b + 4 * wi_d a b) + j) (by omega)) (cwV 1 hts gX1_sumWide_X1_at rfl rfl rfl (by decide +kernel) ⟨Nat.le_of_ble_eq_true rfl, Nat.le_of_ble_eq_true rfl⟩) (mw_pre hP hK _) rfl hl.1 rfl (Nat.le_of_ble_eq_true rfl) dX1_sumWide_178 ⟨Nat.zero_le _, Nat.zero_le _⟩ ?_
                    refine lv_i2l (v := ((f ((wi_p a b + 8 * wi_c a b + 4 * wi_d a b) + j) &&& 255)).toInt64) hx hb dX1_sumWide_181 rfl ?_
                    refine lv_ldc2 (v := 2870177450012600261) hx hb hown (hts (.constantLong RX1 78 (2870177450012600261)) (wsM_self _ (wsM_nin (by decide +kernel)))) dX1_sumWide_182 ?_
                    refine lv_lmul hx hb dX1_sumWide_185 ?_
                    refine lv_lxor hx hb dX1_sumWide_186 ?_
                    refine lv_bipush (v := 11) hx hb dX1_sumWide_187 (by decide) ?_
                    refine q_S (As := [.long ((wi_w1 f (wi_p a b + 8 * wi_c a b + 4 * wi_d a b) (wi_o f (wi_p a b + 8 * wi_c a b) (wi_w8 f (wi_p a b) (wi_h0 f a b sd + lN (b - a)) (wi_c a b)) (wi_d a b)) (j) ^^^ (((f ((wi_p a b + 8 * wi_c a b + 4 * wi_d a b) + j) &&& 255)).toInt64 * 2870177450012600261))), .int (11)]) (rest := []) ⟨hx, hb, hml, hown, hts⟩ (c_M_turned l ((wi_w1 f (wi_p a b + 8 * wi_c a b + 4 * wi_d a b) (wi_o f (wi_p a b + 8 * wi_c a b) (wi_w8 f (wi_p a b) (wi_h0 f a b sd + lN (b - a)) (wi_c a b)) (wi_d a b)) (j) ^^^ (((f ((wi_p a b + 8 * wi_c a b + 4 * wi_d a b) + j) &&& 255)).toInt64 * 2870177450012600261))) (11)) (va_cwS 2 hts gX1_sumWide_X1_turned rfl rfl rfl (by decide +kernel) ⟨Nat.le_of_ble_eq_true rfl, Nat.le_of_ble_eq_true rfl⟩) rfl hl.1 rfl (Nat.le_of_ble_eq_true rfl) dX1_sumWide_189 ⟨Nat.zero_le _, Nat.zero_le _⟩ ?_
                    refine lv_ldc2 (v := -7046029288634856825) hx hb hown (hts (.constantLong RX1 62 (-7046029288634856825)) (wsM_self _ (wsM_nin (by decide +kernel)))) dX1_sumWide_192 ?_
                    refine lv_lmul hx hb dX1_sumWide_195 ?_
                    refine q_tl (y := wi_w1 f (wi_p a b + 8 * wi_c a b + 4 * wi_d a b) (wi_o f (wi_p a b + 8 * wi_c a b) (wi_w8 f (wi_p a b) (wi_h0 f a b sd + lN (b - a)) (wi_c a b)) (wi_d a b)) (j + 1)) (rfl) ?_
                    refine lv_lstore (lv' := [(6, .long (wi_w1 f (wi_p a b + 8 * wi_c a b + 4 * wi_d a b) (wi_o f (wi_p a b + 8 * wi_c a b) (wi_w8 f (wi_p a b) (wi_h0 f a b sd + lN (b - a)) (wi_c a b)) (wi_d a b)) (j + 1))), (0, .ref h0), (1, .int (nI a)), (2, .int (nI b)), (3, .long (sd)), (5, .int (nI (b - a))), (9, .int (nI ((wi_p a b + 8 * wi_c a b + 4 * wi_d a b) + (j))))]) hx hb dX1_sumWide_196 hl (by decide) rfl (fun ls hl => ?_)
                    refine lv_iinc (v := nI ((wi_p a b + 8 * wi_c a b + 4 * wi_d a b) + (j + 1))) (lv' := [(9, .int (nI ((wi_p a b + 8 * wi_c a b + 4 * wi_d a b) + (j + 1)))), (6, .long (wi_w1 f (wi_p a b + 8 * wi_c a b + 4 * wi_d a b) (wi_o f (wi_p a b + 8 * wi_c a b) (wi_w8 f (wi_p a b) (wi_h0 f a b sd + lN (b - a)) (wi_c a b)) (wi_d a b)) (j + 1))), (0, .ref h0), (1, .int (nI a)), (2, .int (nI b)), (3, .long (sd)), (5, .int (nI (b - a)))]) hx hb dX1_sumWide_198 hl (k := 6) rfl (nI_add _ 1) (by decide) rfl (fun ls hl => ?_)
                    refine lv_goto (tgt := 167) hx hb dX1_sumWide_201 (by decide) ?_
                    exact ih (j + 1) (by omega) ls (lv_sub hl [2, 3, 4, 5, 6, 1, 0] rfl)
              exact L167 (b - (wi_p a b + 8 * wi_c a b + 4 * wi_d a b)) 0 (by omega) ls (lv_sub hl [1, 2, 3, 4, 5, 6, 0] rfl)
            refine lv_iload_n hx hb dX1_sumWide_123 rfl (lv_at hl 2 rfl) ?_
            refine lv_iload hx hb dX1_sumWide_124 (lv_at hl 6 rfl) ?_
            refine lv_isub hx hb dX1_sumWide_126 ?_
            refine q_ti (y := nI (b - (wi_p a b + 8 * wi_c a b))) (pk_sub (by omega)) ?_
            refine lv_iconst (v := 4) hx hb dX1_sumWide_127 (by decide) ?_
            refine lv_icmp_lt (tgt := 163) hx hb dX1_sumWide_128 (by decide) (fun c_128 => ?_) (fun c_128 => ?_)
            · have h4 : b - (wi_p a b + 8 * wi_c a b) < 4 := (nI_ltI (b := 4) (by omega) (by omega)).mp c_128
              have hd0 : wi_d a b = 0 := by omega
              have hl : lv_has ls 10 [(0, .ref h0), (1, .int (nI a)), (2, .int (nI b)), (3, .long (sd)), (5, .int (nI (b - a))), (6, .long ((wi_o f (wi_p a b + 8 * wi_c a b) (wi_w8 f (wi_p a b) (wi_h0 f a b sd + lN (b - a)) (wi_c a b)) (wi_d a b)))), (8, .int (nI (wi_p a b + 8 * ((wi_c a b))))), (9, .int (nI ((wi_c a b))))] := q_lv hl (congrArg (fun z => ([(0, .ref h0), (1, .int (nI a)), (2, .int (nI b)), (3, .long (sd)), (5, .int (nI (b - a))), (6, Value.long z), (8, .int (nI (wi_p a b + 8 * ((wi_c a b))))), (9, .int (nI ((wi_c a b))))] : List (Nat × Value))) (show (wi_w8 f (wi_p a b) (wi_h0 f a b sd + lN (b - a)) ((wi_c a b)) : Int64) = (wi_o f (wi_p a b + 8 * wi_c a b) (wi_w8 f (wi_p a b) (wi_h0 f a b sd + lN (b - a)) (wi_c a b)) (wi_d a b)) from by unfold wi_o; rw [if_pos hd0]))
              have hl : lv_has ls 10 [(0, .ref h0), (1, .int (nI a)), (2, .int (nI b)), (3, .long (sd)), (5, .int (nI (b - a))), (6, .long ((wi_o f (wi_p a b + 8 * wi_c a b) (wi_w8 f (wi_p a b) (wi_h0 f a b sd + lN (b - a)) (wi_c a b)) (wi_d a b)))), (8, .int (nI (wi_p a b + 8 * wi_c a b + 4 * wi_d a b))), (9, .int (nI ((wi_c a b))))] := q_lv hl (congrArg (fun z => ([(0, .ref h0), (1, .int (nI a)), (2, .int (nI b)), (3, .long (sd)), (5, .int (nI (b - a))), (6, .long ((wi_o f (wi_p a b + 8 * wi_c a b) (wi_w8 f (wi_p a b) (wi_h0 f a b sd + lN (b - a)) (wi_c a b)) (wi_d a b)))), (8, Value.int z), (9, .int (nI ((wi_c a b))))] : List (Nat × Value))) (show (nI (wi_p a b + 8 * ((wi_c a b))) : Int32) = nI (wi_p a b + 8 * wi_c a b + 4 * wi_d a b) from congrArg nI (by omega)))
              exact J163 ls (lv_sub hl [0, 1, 2, 3, 4, 5, 6] rfl)
            · have h4 : ¬ b - (wi_p a b + 8 * wi_c a b) < 4 := fun q => c_128 (nI_lt (b := 4) q (by omega))
              have hd1 : wi_d a b = 1 := by omega
              refine lv_lload hx hb dX1_sumWide_131 (lv_at hl 5 rfl) ?_
              refine lv_aload_n hx hb dX1_sumWide_133 rfl (lv_at hl 0 rfl) ?_
              refine lv_iload hx hb dX1_sumWide_134 (lv_at hl 6 rfl) ?_
              refine lv_iconst (v := 4) hx hb dX1_sumWide_136 (by decide) ?_
              refine q_V (As := [.int (nI (wi_p a b + 8 * ((wi_c a b)))), .int (4)]) (rest := [.long (wi_w8 f (wi_p a b) (wi_h0 f a b sd + lN (b - a)) ((wi_c a b)))]) ⟨hx, hb, hml, hown, hts⟩ (c_M_number l dC dI h0 a0 cB n ns wd f (wi_p a b + 8 * wi_c a b) (4) (by omega)) (cwV 2 hts gX1_sumWide_X1_number rfl rfl rfl (by decide +kernel) ⟨Nat.le_of_ble_eq_true rfl, Nat.le_of_ble_eq_true rfl⟩) (mw_pre hP hK _) rfl hl.1 rfl (Nat.le_of_ble_eq_true rfl) dX1_sumWide_137 ⟨Nat.zero_le _, Nat.zero_le _⟩ ?_
              refine q_tl (y := wo_u f (wi_p a b + 8 * wi_c a b)) (wo_n4 _ _) ?_
              refine lv_ldc2 (v := -7046029288634856825) hx hb hown (hts (.constantLong RX1 62 (-7046029288634856825)) (wsM_self _ (wsM_nin (by decide +kernel)))) dX1_sumWide_140 ?_
              refine lv_lmul hx hb dX1_sumWide_143 ?_
              refine lv_lxor hx hb dX1_sumWide_144 ?_
              refine lv_bipush (v := 23) hx hb dX1_sumWide_145 (by decide) ?_
              refine q_S (As := [.long ((wi_w8 f (wi_p a b) (wi_h0 f a b sd + lN (b - a)) ((wi_c a b)) ^^^ (wo_u f (wi_p a b + 8 * wi_c a b) * (-7046029288634856825)))), .int (23)]) (rest := []) ⟨hx, hb, hml, hown, hts⟩ (c_M_turned l ((wi_w8 f (wi_p a b) (wi_h0 f a b sd + lN (b - a)) ((wi_c a b)) ^^^ (wo_u f (wi_p a b + 8 * wi_c a b) * (-7046029288634856825)))) (23)) (va_cwS 2 hts gX1_sumWide_X1_turned rfl rfl rfl (by decide +kernel) ⟨Nat.le_of_ble_eq_true rfl, Nat.le_of_ble_eq_true rfl⟩) rfl hl.1 rfl (Nat.le_of_ble_eq_true rfl) dX1_sumWide_147 ⟨Nat.zero_le _, Nat.zero_le _⟩ ?_
              refine lv_ldc2 (v := -4417276706812531889) hx hb hown (hts (.constantLong RX1 56 (-4417276706812531889)) (wsM_self _ (wsM_nin (by decide +kernel)))) dX1_sumWide_150 ?_
              refine lv_lmul hx hb dX1_sumWide_153 ?_
              refine lv_ldc2 (v := 1609587929392839161) hx hb hown (hts (.constantLong RX1 80 (1609587929392839161)) (wsM_self _ (wsM_nin (by decide +kernel)))) dX1_sumWide_154 ?_
              refine lv_ladd hx hb dX1_sumWide_157 ?_
              refine q_tl (y := (wi_o f (wi_p a b + 8 * wi_c a b) (wi_w8 f (wi_p a b) (wi_h0 f a b sd + lN (b - a)) (wi_c a b)) (wi_d a b))) (by unfold wi_o; rw [if_neg (by omega)]; rfl) ?_
              refine lv_lstore (lv' := [(6, .long ((wi_o f (wi_p a b + 8 * wi_c a b) (wi_w8 f (wi_p a b) (wi_h0 f a b sd + lN (b - a)) (wi_c a b)) (wi_d a b)))), (0, .ref h0), (1, .int (nI a)), (2, .int (nI b)), (3, .long (sd)), (5, .int (nI (b - a))), (8, .int (nI (wi_p a b + 8 * ((wi_c a b))))), (9, .int (nI ((wi_c a b))))]) hx hb dX1_sumWide_158 hl (by decide) rfl (fun ls hl => ?_)
              refine lv_iinc (v := nI (wi_p a b + 8 * wi_c a b + 4 * wi_d a b)) (lv' := [(8, .int (nI (wi_p a b + 8 * wi_c a b + 4 * wi_d a b))), (6, .long ((wi_o f (wi_p a b + 8 * wi_c a b) (wi_w8 f (wi_p a b) (wi_h0 f a b sd + lN (b - a)) (wi_c a b)) (wi_d a b)))), (0, .ref h0), (1, .int (nI a)), (2, .int (nI b)), (3, .long (sd)), (5, .int (nI (b - a))), (9, .int (nI ((wi_c a b))))]) hx hb dX1_sumWide_160 hl (k := 6) rfl (by rw [hd1]; exact nI_add _ 4) (by decide) rfl (fun ls hl => ?_)
              exact J163 ls (lv_sub hl [2, 3, 4, 5, 6, 1, 0] rfl)
          refine lv_iload hx hb dX1_sumWide_60 (lv_at hl 7 rfl) ?_
          refine lv_iconst (v := 3) hx hb dX1_sumWide_62 (by decide) ?_
          refine lv_icmp_ge (tgt := 123) hx hb dX1_sumWide_63 (by decide) (fun c_63 => ?_) (fun c_63 => ?_)
          · exact J123 ls (lv_sub hl [0, 1, 2, 3, 4, 5, 6, 7] rfl)
          · refine lv_iload_n hx hb dX1_sumWide_66 rfl (lv_at hl 2 rfl) ?_
            refine lv_iload hx hb dX1_sumWide_67 (lv_at hl 6 rfl) ?_
            refine lv_isub hx hb dX1_sumWide_69 ?_
            refine q_ti (y := nI (b - (wi_p a b + 8 * wi_c a b))) (pk_sub (by omega)) ?_
            refine lv_bipush (v := 8) hx hb dX1_sumWide_70 (by decide) ?_
            refine lv_icmp_lt (tgt := 123) hx hb dX1_sumWide_72 (by decide) (fun c_72 => ?_) (fun c_72 => ?_)
            · exact J123 ls (lv_sub hl [0, 1, 2, 3, 4, 5, 6, 7] rfl)
            · exact absurd (nI_lt (b := 8) (by omega) (by omega)) c_72
        | succ d ih =>
          intro j hj ls hl
          have hjl : j < wi_c a b := by omega
          refine lv_iload hx hb dX1_sumWide_60 (lv_at hl 7 rfl) ?_
          refine lv_iconst (v := 3) hx hb dX1_sumWide_62 (by decide) ?_
          refine lv_icmp_ge (tgt := 123) hx hb dX1_sumWide_63 (by decide) (fun c_63 => ?_) (fun c_63 => ?_)
          · exact absurd c_63 (nI_ge (b := 3) (by omega) (by omega))
          · refine lv_iload_n hx hb dX1_sumWide_66 rfl (lv_at hl 2 rfl) ?_
            refine lv_iload hx hb dX1_sumWide_67 (lv_at hl 6 rfl) ?_
            refine lv_isub hx hb dX1_sumWide_69 ?_
            refine q_ti (y := nI (b - (wi_p a b + 8 * j))) (pk_sub (by omega)) ?_
            refine lv_bipush (v := 8) hx hb dX1_sumWide_70 (by decide) ?_
            refine lv_icmp_lt (tgt := 123) hx hb dX1_sumWide_72 (by decide) (fun c_72 => ?_) (fun c_72 => ?_)
            · exact absurd c_72 (nI_nlt (b := 8) (by omega) (by omega))
            · refine lv_lload hx hb dX1_sumWide_75 (lv_at hl 5 rfl) ?_
              refine lv_aload_n hx hb dX1_sumWide_77 rfl (lv_at hl 0 rfl) ?_
              refine lv_iload hx hb dX1_sumWide_78 (lv_at hl 6 rfl) ?_
              refine lv_bipush (v := 8) hx hb dX1_sumWide_80 (by decide) ?_
              refine q_V (As := [.int (nI (wi_p a b + 8 * (j))), .int (8)]) (rest := [.long (wi_w8 f (wi_p a b) (wi_h0 f a b sd + lN (b - a)) (j))]) ⟨hx, hb, hml, hown, hts⟩ (c_M_number l dC dI h0 a0 cB n ns wd f (wi_p a b + 8 * j) (8) (by omega)) (cwV 2 hts gX1_sumWide_X1_number rfl rfl rfl (by decide +kernel) ⟨Nat.le_of_ble_eq_true rfl, Nat.le_of_ble_eq_true rfl⟩) (mw_pre hP hK _) rfl hl.1 rfl (Nat.le_of_ble_eq_true rfl) dX1_sumWide_82 ⟨Nat.zero_le _, Nat.zero_le _⟩ ?_
              refine q_tl (y := wo_8 f (wi_p a b + 8 * j)) (wo_n8 _ _) ?_
              refine lv_ldc2 (v := -4417276706812531889) hx hb hown (hts (.constantLong RX1 56 (-4417276706812531889)) (wsM_self _ (wsM_nin (by decide +kernel)))) dX1_sumWide_85 ?_
              refine lv_lmul hx hb dX1_sumWide_88 ?_
              refine lv_bipush (v := 31) hx hb dX1_sumWide_89 (by decide) ?_
              refine q_S (As := [.long ((wo_8 f (wi_p a b + 8 * j) * (-4417276706812531889))), .int (31)]) (rest := [.long (wi_w8 f (wi_p a b) (wi_h0 f a b sd + lN (b - a)) (j))]) ⟨hx, hb, hml, hown, hts⟩ (c_M_turned l ((wo_8 f (wi_p a b + 8 * j) * (-4417276706812531889))) (31)) (va_cwS 2 hts gX1_sumWide_X1_turned rfl rfl rfl (by decide +kernel) ⟨Nat.le_of_ble_eq_true rfl, Nat.le_of_ble_eq_true rfl⟩) rfl hl.1 rfl (Nat.le_of_ble_eq_true rfl) dX1_sumWide_91 ⟨Nat.zero_le _, Nat.zero_le _⟩ ?_
              refine lv_ldc2 (v := -7046029288634856825) hx hb hown (hts (.constantLong RX1 62 (-7046029288634856825)) (wsM_self _ (wsM_nin (by decide +kernel)))) dX1_sumWide_94 ?_
              refine lv_lmul hx hb dX1_sumWide_97 ?_
              refine q_tl (y := wi_ln 0 (wo_8 f (wi_p a b + 8 * j))) ((wi_ln0 _).symm) ?_
              refine lv_lxor hx hb dX1_sumWide_98 ?_
              refine lv_bipush (v := 27) hx hb dX1_sumWide_99 (by decide) ?_
              refine q_S (As := [.long ((wi_w8 f (wi_p a b) (wi_h0 f a b sd + lN (b - a)) (j) ^^^ wi_ln 0 (wo_8 f (wi_p a b + 8 * j)))), .int (27)]) (rest := []) ⟨hx, hb, hml, hown, hts⟩ (c_M_turned l ((wi_w8 f (wi_p a b) (wi_h0 f a b sd + lN (b - a)) (j) ^^^ wi_ln 0 (wo_8 f (wi_p a b + 8 * j)))) (27)) (va_cwS 2 hts gX1_sumWide_X1_turned rfl rfl rfl (by decide +kernel) ⟨Nat.le_of_ble_eq_true rfl, Nat.le_of_ble_eq_true rfl⟩) rfl hl.1 rfl (Nat.le_of_ble_eq_true rfl) dX1_sumWide_101 ⟨Nat.zero_le _, Nat.zero_le _⟩ ?_
              refine lv_ldc2 (v := -7046029288634856825) hx hb hown (hts (.constantLong RX1 62 (-7046029288634856825)) (wsM_self _ (wsM_nin (by decide +kernel)))) dX1_sumWide_104 ?_
              refine lv_lmul hx hb dX1_sumWide_107 ?_
              refine lv_ldc2 (v := -8796714831421723037) hx hb hown (hts (.constantLong RX1 64 (-8796714831421723037)) (wsM_self _ (wsM_nin (by decide +kernel)))) dX1_sumWide_108 ?_
              refine lv_ladd hx hb dX1_sumWide_111 ?_
              refine q_tl (y := wi_w8 f (wi_p a b) (wi_h0 f a b sd + lN (b - a)) (j + 1)) (rfl) ?_
              refine lv_lstore (lv' := [(6, .long (wi_w8 f (wi_p a b) (wi_h0 f a b sd + lN (b - a)) (j + 1))), (0, .ref h0), (1, .int (nI a)), (2, .int (nI b)), (3, .long (sd)), (5, .int (nI (b - a))), (8, .int (nI (wi_p a b + 8 * (j)))), (9, .int (nI (j)))]) hx hb dX1_sumWide_112 hl (by decide) rfl (fun ls hl => ?_)
              refine lv_iinc (v := nI (wi_p a b + 8 * (j + 1))) (lv' := [(8, .int (nI (wi_p a b + 8 * (j + 1)))), (6, .long (wi_w8 f (wi_p a b) (wi_h0 f a b sd + lN (b - a)) (j + 1))), (0, .ref h0), (1, .int (nI a)), (2, .int (nI b)), (3, .long (sd)), (5, .int (nI (b - a))), (9, .int (nI (j)))]) hx hb dX1_sumWide_114 hl (k := 6) rfl (by rw [show wi_p a b + 8 * (j + 1) = wi_p a b + 8 * j + 8 by omega]; exact nI_add _ 8) (by decide) rfl (fun ls hl => ?_)
              refine lv_iinc (v := nI (j + 1)) (lv' := [(9, .int (nI (j + 1))), (8, .int (nI (wi_p a b + 8 * (j + 1)))), (6, .long (wi_w8 f (wi_p a b) (wi_h0 f a b sd + lN (b - a)) (j + 1))), (0, .ref h0), (1, .int (nI a)), (2, .int (nI b)), (3, .long (sd)), (5, .int (nI (b - a)))]) hx hb dX1_sumWide_117 hl (k := 7) rfl (nI_add j 1) (by decide) rfl (fun ls hl => ?_)
              refine lv_goto (tgt := 60) hx hb dX1_sumWide_120 (by decide) ?_
              exact ih (j + 1) (by omega) ls (lv_sub hl [3, 4, 5, 6, 7, 2, 1, 0] rfl)
      exact L60 (wi_c a b) 0 (by omega) ls (lv_sub hl [4, 5, 6, 7, 3, 1, 2, 0] rfl)
    refine lv_iload hx hb dX1_sumWide_29 (lv_at hl 1 rfl) ?_
    refine lv_bipush (v := 32) hx hb dX1_sumWide_31 (by decide) ?_
    refine lv_icmp_lt (tgt := 46) hx hb dX1_sumWide_33 (by decide) (fun c_33 => ?_) (fun c_33 => ?_)
    · have hsm : b - a < 32 := (nI_ltI (b := 32) (by omega) (by omega)).mp c_33
      refine lv_iload_n hx hb dX1_sumWide_46 rfl (lv_at hl 3 rfl) ?_
      refine q_ti (y := nI (wi_p a b)) (congrArg nI (by unfold wi_p; omega)) ?_
      exact J47 ls (lv_sub hl [0, 1, 2, 3, 4, 5] rfl)
    · refine lv_iload_n hx hb dX1_sumWide_36 rfl (lv_at hl 4 rfl) ?_
      refine lv_iload hx hb dX1_sumWide_37 (lv_at hl 1 rfl) ?_
      refine lv_bipush (v := 32) hx hb dX1_sumWide_39 (by decide) ?_
      refine lv_irem hx hb dX1_sumWide_41 (by decide) ?_
      refine q_ti (y := nI ((b - a) % 32)) (pk_rem (d := 32) (by omega) (by omega) (by omega)) ?_
      refine lv_isub hx hb dX1_sumWide_42 ?_
      refine q_ti (y := nI (wi_p a b)) (pk_sub (by omega)) ?_
      refine lv_goto (tgt := 47) hx hb dX1_sumWide_43 (by decide) ?_
      exact J47 ls (lv_sub hl [0, 1, 2, 3, 4, 5] rfl)
  refine lv_iload hx hb dX1_sumWide_5 (lv_at hl 0 rfl) ?_
  refine lv_bipush (v := 32) hx hb dX1_sumWide_7 (by decide) ?_
  refine lv_icmp_lt (tgt := 22) hx hb dX1_sumWide_9 (by decide) (fun c_9 => ?_) (fun c_9 => ?_)
  · refine lv_lload_n hx hb dX1_sumWide_22 rfl (lv_at hl 4 rfl) ?_
    refine lv_ldc2 (v := 2870177450012600261) hx hb hown (hts (.constantLong RX1 78 (2870177450012600261)) (wsM_self _ (wsM_nin (by decide +kernel)))) dX1_sumWide_23 ?_
    refine lv_ladd hx hb dX1_sumWide_26 ?_
    refine q_tl (y := wi_h0 f a b sd) (by unfold wi_h0; rw [if_neg (fun q => nI_nlt (a := b - a) (b := 32) q (by omega) c_9)]) ?_
    exact J27 ls (lv_sub hl [0, 1, 2, 3, 4] rfl)
  · refine lv_aload_n hx hb dX1_sumWide_12 rfl (lv_at hl 1 rfl) ?_
    refine lv_iload_n hx hb dX1_sumWide_13 rfl (lv_at hl 2 rfl) ?_
    refine lv_iload_n hx hb dX1_sumWide_14 rfl (lv_at hl 3 rfl) ?_
    refine lv_lload_n hx hb dX1_sumWide_15 rfl (lv_at hl 4 rfl) ?_
    refine q_V (As := [.int (nI a), .int (nI b), .long (sd)]) (rest := []) ⟨hx, hb, hml, hown, hts⟩ (c_M_ofLanes l dC dI h0 a0 cB n ns wd f (a) (b) (sd) (by omega) (by omega)) (cwV 3 hts gX1_sumWide_X1_ofLanes rfl rfl rfl (by decide +kernel) ⟨Nat.le_of_ble_eq_true rfl, Nat.le_of_ble_eq_true rfl⟩) (mw_pre hP hK _) rfl hl.1 rfl (Nat.le_of_ble_eq_true rfl) dX1_sumWide_16 ⟨Nat.zero_le _, Nat.zero_le _⟩ ?_
    refine q_tl (y := wi_h0 f a b sd) (by unfold wi_h0; rw [if_pos (Nat.not_lt.mp (fun q => c_9 (nI_lt (a := b - a) (b := 32) q (by omega))))]) ?_
    refine lv_goto (tgt := 27) hx hb dX1_sumWide_19 (by decide) ?_
    exact J27 ls (lv_sub hl [0, 1, 2, 3, 4] rfl)
set_option maxHeartbeats 4000000 in
set_option maxRecDepth 100000 in
theorem c_M_wide (l : Launch) (dC : Nat → ClassId) (dI : Nat → Nat → Nat) (h0 a0 : Nat) (cB : ClassId) (n : Nat) (ns : Int32) (wd : Int64) (f : Nat → Int32) (hn : n ≤ 65536) : Met l yX1_wide wsM_wide ({ frames := 5, cells := 0, slots := 0, locals := 137 } : Room) (va_Pc [.ref h0] (mW dC dI h0 a0 cB n ns wd f)) (k2_QcV (.long (wi_sum f 0 n wd))) 0 0 (fun _ => False) := by
  refine Met.ofW (cc := cX1_wide) (maxL := 1) (ret := some .long) (by decide) rfl ?_
  intro p e s m args below meth c s₁ B hml hv
  obtain ⟨rfl, hP, hK⟩ := hv
  have hx := B.exec
  have hb := B.bytes
  have hr := B.returns
  have hts := atoms_spec (ws := wsM_wide) B.pre
  have hown : s.vm.findClass RX1 = some m.cls := findClass_of_methodNamed B.named
  have hlocks := B.notSynchronized
  have hin : ∀ w ∈ u_ws RX1 TX1 4, w ∈ wsM_wide := fun w h => wsM_self w (wsM_fin w h)
  have hl := lv_entry ([.ref h0]) (n := 1) (Nat.le_of_ble_eq_true rfl)
  rw [lg_entry_eq]
  generalize (lg_sl ([.ref h0]) ++ List.replicate (1 - (lg_sl ([.ref h0])).length) Slot.unset).toArray = ls at hl ⊢
  have hl : lv_has ls 1 [(0, .ref h0)] := hl
  refine lv_aload_n hx hb dX1_wide_0 rfl (lv_at hl 0 rfl) ?_
  refine lv_iconst (v := 0) hx hb dX1_wide_1 (by decide) ?_
  refine lv_aload_n hx hb dX1_wide_2 rfl (lv_at hl 0 rfl) ?_
  refine va_get (D := (dC, dI)) (ci := 1) (v := .int (nI n)) (C := RX1) (T := TX1) (N := 4) hx hb hts hin hown hK hP 0 rfl rfl 1 (by decide) (hts (.fieldLink RX1 14 "StreamSumsModel" "length" "I") (wsM_self _ (wsM_nin (by decide +kernel)))) (fun _ h9 => h9) rfl dX1_wide_3 ?_
  refine lv_aload_n hx hb dX1_wide_6 rfl (lv_at hl 0 rfl) ?_
  refine va_get (D := (dC, dI)) (ci := 1) (v := .long (wd)) (C := RX1) (T := TX1) (N := 4) hx hb hts hin hown hK hP 0 rfl rfl 3 (by decide) (hts (.fieldLink RX1 21 "StreamSumsModel" "seedWide" "J") (wsM_self _ (wsM_nin (by decide +kernel)))) (fun _ h9 => h9) rfl dX1_wide_7 ?_
  refine q_V (As := [.int (0), .int (nI n), .long (wd)]) (rest := []) ⟨hx, hb, hml, hown, hts⟩ (c_M_sumWide l dC dI h0 a0 cB n ns wd f (0) (n) (wd) (by omega) (by omega)) (cwV 3 hts gX1_wide_X1_sumWide rfl rfl rfl (by decide +kernel) ⟨Nat.le_of_ble_eq_true rfl, Nat.le_of_ble_eq_true rfl⟩) (mw_pre hP hK _) rfl hl.1 rfl (Nat.le_of_ble_eq_true rfl) dX1_wide_10 ⟨Nat.zero_le _, Nat.zero_le _⟩ ?_
  exact W.lret (v := (wi_sum f 0 n wd)) hx hb hr (fun t ht _ => ⟨congrArg (fun z => Outcome.returned (some (Value.long z))) (rfl), ht⟩) (fun _ h => by cases h) dX1_wide_13
set_option maxHeartbeats 4000000 in
set_option maxRecDepth 100000 in
theorem c_M_wideOf (l : Launch) (dC : Nat → ClassId) (dI : Nat → Nat → Nat) (h0 a0 : Nat) (cB : ClassId) (n : Nat) (ns : Int32) (wd : Int64) (f : Nat → Int32) (x : Int32) (y : Int32) (sd : Int64) (hn : n ≤ 65536) : Met l yX1_wideOf wsM_wideOf ({ frames := 5, cells := 0, slots := 0, locals := 137 } : Room) (va_Pc [.ref h0, .int x, .int y, .long sd] (mW dC dI h0 a0 cB n ns wd f)) (k2_QcV (.long (an_wi n f x y sd))) 0 0 (fun _ => False) := by
  refine Met.ofW (cc := cX1_wideOf) (maxL := 5) (ret := some .long) (by decide) rfl ?_
  intro p e s m args below meth c s₁ B hml hv
  obtain ⟨rfl, hP, hK⟩ := hv
  have hx := B.exec
  have hb := B.bytes
  have hr := B.returns
  have hts := atoms_spec (ws := wsM_wideOf) B.pre
  have hown : s.vm.findClass RX1 = some m.cls := findClass_of_methodNamed B.named
  have hlocks := B.notSynchronized
  have hl := lv_entry ([.ref h0, .int x, .int y, .long sd]) (n := 5) (Nat.le_of_ble_eq_true rfl)
  rw [lg_entry_eq]
  generalize (lg_sl ([.ref h0, .int x, .int y, .long sd]) ++ List.replicate (5 - (lg_sl ([.ref h0, .int x, .int y, .long sd])).length) Slot.unset).toArray = ls at hl ⊢
  have hl : lv_has ls 5 [(0, .ref h0), (1, .int (x)), (2, .int (y)), (3, .long (sd))] := hl
  refine lv_aload_n hx hb dX1_wideOf_0 rfl (lv_at hl 0 rfl) ?_
  refine lv_iload_n hx hb dX1_wideOf_1 rfl (lv_at hl 1 rfl) ?_
  refine lv_iload_n hx hb dX1_wideOf_2 rfl (lv_at hl 2 rfl) ?_
  refine q_V (As := [.int (x), .int (y)]) (rest := []) ⟨hx, hb, hml, hown, hts⟩ (c_M_isPart l dC dI h0 a0 cB n ns wd f (x) (y)) (cwV 2 hts gX1_wideOf_X1_isPart rfl rfl rfl (by decide +kernel) ⟨Nat.le_of_ble_eq_true rfl, Nat.le_of_ble_eq_true rfl⟩) (mw_pre hP hK _) rfl hl.1 rfl (Nat.le_of_ble_eq_true rfl) dX1_wideOf_3 ⟨Nat.zero_le _, Nat.zero_le _⟩ ?_
  refine lv_if_eq (tgt := 19) hx hb dX1_wideOf_6 (by decide) (fun c_6 => ?_) (fun c_6 => ?_)
  · refine lv_aload_n hx hb dX1_wideOf_19 rfl (lv_at hl 0 rfl) ?_
    refine lv_iconst (v := 0) hx hb dX1_wideOf_20 (by decide) ?_
    refine lv_iconst (v := 0) hx hb dX1_wideOf_21 (by decide) ?_
    refine lv_lload_n hx hb dX1_wideOf_22 rfl (lv_at hl 3 rfl) ?_
    refine q_V (As := [.int (0), .int (0), .long (sd)]) (rest := []) ⟨hx, hb, hml, hown, hts⟩ (c_M_sumWide l dC dI h0 a0 cB n ns wd f (0) (0) (sd) (by omega) (by omega)) (cwV 3 hts gX1_wideOf_X1_sumWide rfl rfl rfl (by decide +kernel) ⟨Nat.le_of_ble_eq_true rfl, Nat.le_of_ble_eq_true rfl⟩) (mw_pre hP hK _) rfl hl.1 rfl (Nat.le_of_ble_eq_true rfl) dX1_wideOf_23 ⟨Nat.zero_le _, Nat.zero_le _⟩ ?_
    exact W.lret (v := (wi_sum f 0 0 sd)) hx hb hr (fun t ht _ => ⟨congrArg (fun z => Outcome.returned (some (Value.long z))) (by unfold an_wi; rw [if_pos c_6]), ht⟩) (fun _ h => by cases h) dX1_wideOf_26
  · obtain ⟨a, b, hxa, hyb, hab, hbn⟩ := pt_some hn c_6
    refine lv_aload_n hx hb dX1_wideOf_9 rfl (lv_at hl 0 rfl) ?_
    refine lv_iload_n hx hb dX1_wideOf_10 rfl (lv_at hl 1 rfl) ?_
    refine q_ti (y := nI a) (hxa) ?_
    refine lv_iload_n hx hb dX1_wideOf_11 rfl (lv_at hl 2 rfl) ?_
    refine q_ti (y := nI b) (hyb) ?_
    refine lv_lload_n hx hb dX1_wideOf_12 rfl (lv_at hl 3 rfl) ?_
    refine q_V (As := [.int (nI a), .int (nI b), .long (sd)]) (rest := []) ⟨hx, hb, hml, hown, hts⟩ (c_M_sumWide l dC dI h0 a0 cB n ns wd f (a) (b) (sd) (by omega) (by omega)) (cwV 3 hts gX1_wideOf_X1_sumWide rfl rfl rfl (by decide +kernel) ⟨Nat.le_of_ble_eq_true rfl, Nat.le_of_ble_eq_true rfl⟩) (mw_pre hP hK _) rfl hl.1 rfl (Nat.le_of_ble_eq_true rfl) dX1_wideOf_13 ⟨Nat.zero_le _, Nat.zero_le _⟩ ?_
    refine lv_goto (tgt := 26) hx hb dX1_wideOf_16 (by decide) ?_
    exact W.lret (v := (wi_sum f a b sd)) hx hb hr (fun t ht _ => ⟨congrArg (fun z => Outcome.returned (some (Value.long z))) (by unfold an_wi; rw [if_neg c_6, hxa, hyb, nI_clamp (by omega), nI_clamp (by omega)]), ht⟩) (fun _ h => by cases h) dX1_wideOf_26
