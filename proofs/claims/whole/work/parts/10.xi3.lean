set_option maxHeartbeats 4000000 in
set_option maxRecDepth 100000 in
theorem c_X_wideOfLanes (l : Launch) (dC : Nat → ClassId) (dI : Nat → Nat → Nat) (h0 a0 a1 : Nat) (cB cI : ClassId) (n : Nat) (ns : Int32) (wd : Int64) (f g : Nat → Int32) (a : Nat) (b : Nat) (sd : Int64) (hab : a ≤ b) (hbn : b ≤ n) (hn : n ≤ 65536) : Met l yX0_wideOfLanes wsX0_wideOfLanes ({ frames := 3, cells := 0, slots := 0, locals := 68 } : Room) (va_Pc [.ref h0, .int (nI a), .int (nI b), .long sd] (xW dC dI h0 a0 a1 cB cI n ns wd f g)) (k2_QcV (.long (wi_la f a b sd))) 0 0 (fun _ => False) := by
  refine Met.ofW (cc := cX0_wideOfLanes) (maxL := 15) (ret := some .long) (by decide) rfl ?_
  intro p e s m args below meth c s₁ B hml hv
  obtain ⟨rfl, hP, hK⟩ := hv
  have hx := B.exec
  have hb := B.bytes
  have hr := B.returns
  have hts := atoms_spec (ws := wsX0_wideOfLanes) B.pre
  have hown : s.vm.findClass RX0 = some m.cls := findClass_of_methodNamed B.named
  have hlocks := B.notSynchronized
  have hl := lv_entry ([.ref h0, .int (nI a), .int (nI b), .long sd]) (n := 15) (Nat.le_of_ble_eq_true rfl)
  rw [lg_entry_eq]
  generalize (lg_sl ([.ref h0, .int (nI a), .int (nI b), .long sd]) ++ List.replicate (15 - (lg_sl ([.ref h0, .int (nI a), .int (nI b), .long sd])).length) Slot.unset).toArray = ls at hl ⊢
  have hl : lv_has ls 15 [(0, .ref h0), (1, .int (nI a)), (2, .int (nI b)), (3, .long (sd))] := hl
  refine lv_lload_n hx hb dX0_wideOfLanes_0 rfl (lv_at hl 3 rfl) ?_
  refine lv_ldc2 (v := -7046029288634856825) hx hb hown (hts (.constantLong RX0 122 (-7046029288634856825)) (by decide +kernel)) dX0_wideOfLanes_1 ?_
  refine lv_ladd hx hb dX0_wideOfLanes_4 ?_
  refine lv_ldc2 (v := -4417276706812531889) hx hb hown (hts (.constantLong RX0 126 (-4417276706812531889)) (by decide +kernel)) dX0_wideOfLanes_5 ?_
  refine lv_ladd hx hb dX0_wideOfLanes_8 ?_
  refine lv_lstore (lv' := [(5, .long (((sd + (-7046029288634856825)) + (-4417276706812531889)))), (0, .ref h0), (1, .int (nI a)), (2, .int (nI b)), (3, .long (sd))]) hx hb dX0_wideOfLanes_9 hl (by decide) rfl (fun ls hl => ?_)
  refine lv_lload_n hx hb dX0_wideOfLanes_11 rfl (lv_at hl 4 rfl) ?_
  refine lv_ldc2 (v := -4417276706812531889) hx hb hown (hts (.constantLong RX0 126 (-4417276706812531889)) (by decide +kernel)) dX0_wideOfLanes_12 ?_
  refine lv_ladd hx hb dX0_wideOfLanes_15 ?_
  refine lv_lstore (lv' := [(7, .long ((sd + (-4417276706812531889)))), (5, .long (((sd + (-7046029288634856825)) + (-4417276706812531889)))), (0, .ref h0), (1, .int (nI a)), (2, .int (nI b)), (3, .long (sd))]) hx hb dX0_wideOfLanes_16 hl (by decide) rfl (fun ls hl => ?_)
  refine lv_lload_n hx hb dX0_wideOfLanes_18 rfl (lv_at hl 5 rfl) ?_
  refine lv_lstore (lv' := [(9, .long (sd)), (7, .long ((sd + (-4417276706812531889)))), (5, .long (((sd + (-7046029288634856825)) + (-4417276706812531889)))), (0, .ref h0), (1, .int (nI a)), (2, .int (nI b)), (3, .long (sd))]) hx hb dX0_wideOfLanes_19 hl (by decide) rfl (fun ls hl => ?_)
  refine lv_lload_n hx hb dX0_wideOfLanes_21 rfl (lv_at hl 6 rfl) ?_
  refine lv_ldc2 (v := -7046029288634856825) hx hb hown (hts (.constantLong RX0 122 (-7046029288634856825)) (by decide +kernel)) dX0_wideOfLanes_22 ?_
  refine lv_lsub hx hb dX0_wideOfLanes_25 ?_
  refine lv_lstore (lv' := [(11, .long ((sd - (-7046029288634856825)))), (9, .long (sd)), (7, .long ((sd + (-4417276706812531889)))), (5, .long (((sd + (-7046029288634856825)) + (-4417276706812531889)))), (0, .ref h0), (1, .int (nI a)), (2, .int (nI b)), (3, .long (sd))]) hx hb dX0_wideOfLanes_26 hl (by decide) rfl (fun ls hl => ?_)
  refine lv_iload_n hx hb dX0_wideOfLanes_28 rfl (lv_at hl 5 rfl) ?_
  refine lv_istore (lv' := [(13, .int (nI a)), (11, .long ((sd - (-7046029288634856825)))), (9, .long (sd)), (7, .long ((sd + (-4417276706812531889)))), (5, .long (((sd + (-7046029288634856825)) + (-4417276706812531889)))), (0, .ref h0), (1, .int (nI a)), (2, .int (nI b)), (3, .long (sd))]) hx hb dX0_wideOfLanes_29 hl (by decide) rfl (fun ls hl => ?_)
  have L31 : ∀ (d j : Nat), j + d = (b - a) / 32 → ∀ ls : Array Slot, lv_has ls 15 [(0, .ref h0), (1, .int (nI a)), (2, .int (nI b)), (3, .long (sd)), (5, .long (wi_fo f a 0 (sd + (-7046029288634856825) + (-4417276706812531889)) (j))), (7, .long (wi_fo f a 1 (sd + (-4417276706812531889)) (j))), (9, .long (wi_fo f a 2 sd (j))), (11, .long (wi_fo f a 3 (sd - (-7046029288634856825)) (j))), (13, .int (nI (a + 32 * (j))))] → W p l e (headSpec wsX0_wideOfLanes ({ frames := 3, cells := 0, slots := 0, locals := 68 } : Room)).room s m [Value.ref h0, .int (nI a), .int (nI b), .long sd].toArray below meth c s.heap [] 0 0 (MQ below (k2_QcV (.long (wi_la f a b sd))) [Value.ref h0, .int (nI a), .int (nI b), .long sd].toArray s 0 0 (fun _ => False)) (F0 m 31 ls []) := by
    intro d
    induction d with
    | zero =>
      intro j hj ls hl
      obtain rfl : (b - a) / 32 = j := by omega
      refine lv_iload_n hx hb dX0_wideOfLanes_31 rfl (lv_at hl 2 rfl) ?_
      refine lv_iload hx hb dX0_wideOfLanes_32 (lv_at hl 8 rfl) ?_
      refine lv_isub hx hb dX0_wideOfLanes_34 ?_
      refine q_ti (y := nI (b - (a + 32 * ((b - a) / 32)))) (pk_sub (by omega)) ?_
      refine lv_bipush (v := 32) hx hb dX0_wideOfLanes_35 (by decide) ?_
      refine lv_icmp_lt (tgt := 107) hx hb dX0_wideOfLanes_37 (by decide) (fun c_37 => ?_) (fun c_37 => ?_)
      · refine lv_lload hx hb dX0_wideOfLanes_107 (lv_at hl 4 rfl) ?_
        refine lv_iconst (v := 1) hx hb dX0_wideOfLanes_109 (by decide) ?_
        refine q_S (As := [.long (wi_fo f a 0 (sd + (-7046029288634856825) + (-4417276706812531889)) (((b - a) / 32))), .int (1)]) (rest := []) ⟨hx, hb, hml, hown, hts⟩ (c_X_rotatedLong l (wi_fo f a 0 (sd + (-7046029288634856825) + (-4417276706812531889)) (((b - a) / 32))) (1)) (va_cwS 2 hts gX0_wideOfLanes_X0_rotatedLong rfl rfl rfl (by decide +kernel) ⟨Nat.le_of_ble_eq_true rfl, Nat.le_of_ble_eq_true rfl⟩) rfl hl.1 rfl (Nat.le_of_ble_eq_true rfl) dX0_wideOfLanes_110 ⟨Nat.zero_le _, Nat.zero_le _⟩ ?_
        refine lv_lload hx hb dX0_wideOfLanes_113 (lv_at hl 5 rfl) ?_
        refine lv_bipush (v := 7) hx hb dX0_wideOfLanes_115 (by decide) ?_
        refine q_S (As := [.long (wi_fo f a 1 (sd + (-4417276706812531889)) (((b - a) / 32))), .int (7)]) (rest := [.long ((wi_rt (wi_fo f a 0 (sd + (-7046029288634856825) + (-4417276706812531889)) (((b - a) / 32))) 1))]) ⟨hx, hb, hml, hown, hts⟩ (c_X_rotatedLong l (wi_fo f a 1 (sd + (-4417276706812531889)) (((b - a) / 32))) (7)) (va_cwS 2 hts gX0_wideOfLanes_X0_rotatedLong rfl rfl rfl (by decide +kernel) ⟨Nat.le_of_ble_eq_true rfl, Nat.le_of_ble_eq_true rfl⟩) rfl hl.1 rfl (Nat.le_of_ble_eq_true rfl) dX0_wideOfLanes_117 ⟨Nat.zero_le _, Nat.zero_le _⟩ ?_
        refine lv_ladd hx hb dX0_wideOfLanes_120 ?_
        refine lv_lload hx hb dX0_wideOfLanes_121 (lv_at hl 6 rfl) ?_
        refine lv_bipush (v := 12) hx hb dX0_wideOfLanes_123 (by decide) ?_
        refine q_S (As := [.long (wi_fo f a 2 sd (((b - a) / 32))), .int (12)]) (rest := [.long (((wi_rt (wi_fo f a 0 (sd + (-7046029288634856825) + (-4417276706812531889)) (((b - a) / 32))) 1) + (wi_rt (wi_fo f a 1 (sd + (-4417276706812531889)) (((b - a) / 32))) 7)))]) ⟨hx, hb, hml, hown, hts⟩ (c_X_rotatedLong l (wi_fo f a 2 sd (((b - a) / 32))) (12)) (va_cwS 2 hts gX0_wideOfLanes_X0_rotatedLong rfl rfl rfl (by decide +kernel) ⟨Nat.le_of_ble_eq_true rfl, Nat.le_of_ble_eq_true rfl⟩) rfl hl.1 rfl (Nat.le_of_ble_eq_true rfl) dX0_wideOfLanes_125 ⟨Nat.zero_le _, Nat.zero_le _⟩ ?_
        refine lv_ladd hx hb dX0_wideOfLanes_128 ?_
        refine lv_lload hx hb dX0_wideOfLanes_129 (lv_at hl 7 rfl) ?_
        refine lv_bipush (v := 18) hx hb dX0_wideOfLanes_131 (by decide) ?_
        refine q_S (As := [.long (wi_fo f a 3 (sd - (-7046029288634856825)) (((b - a) / 32))), .int (18)]) (rest := [.long ((((wi_rt (wi_fo f a 0 (sd + (-7046029288634856825) + (-4417276706812531889)) (((b - a) / 32))) 1) + (wi_rt (wi_fo f a 1 (sd + (-4417276706812531889)) (((b - a) / 32))) 7)) + (wi_rt (wi_fo f a 2 sd (((b - a) / 32))) 12)))]) ⟨hx, hb, hml, hown, hts⟩ (c_X_rotatedLong l (wi_fo f a 3 (sd - (-7046029288634856825)) (((b - a) / 32))) (18)) (va_cwS 2 hts gX0_wideOfLanes_X0_rotatedLong rfl rfl rfl (by decide +kernel) ⟨Nat.le_of_ble_eq_true rfl, Nat.le_of_ble_eq_true rfl⟩) rfl hl.1 rfl (Nat.le_of_ble_eq_true rfl) dX0_wideOfLanes_133 ⟨Nat.zero_le _, Nat.zero_le _⟩ ?_
        refine lv_ladd hx hb dX0_wideOfLanes_136 ?_
        refine lv_lstore (lv' := [(13, .long (((((wi_rt (wi_fo f a 0 (sd + (-7046029288634856825) + (-4417276706812531889)) (((b - a) / 32))) 1) + (wi_rt (wi_fo f a 1 (sd + (-4417276706812531889)) (((b - a) / 32))) 7)) + (wi_rt (wi_fo f a 2 sd (((b - a) / 32))) 12)) + (wi_rt (wi_fo f a 3 (sd - (-7046029288634856825)) (((b - a) / 32))) 18)))), (0, .ref h0), (1, .int (nI a)), (2, .int (nI b)), (3, .long (sd)), (5, .long (wi_fo f a 0 (sd + (-7046029288634856825) + (-4417276706812531889)) (((b - a) / 32)))), (7, .long (wi_fo f a 1 (sd + (-4417276706812531889)) (((b - a) / 32)))), (9, .long (wi_fo f a 2 sd (((b - a) / 32)))), (11, .long (wi_fo f a 3 (sd - (-7046029288634856825)) (((b - a) / 32))))]) hx hb dX0_wideOfLanes_137 hl (by decide) rfl (fun ls hl => ?_)
        refine lv_lload hx hb dX0_wideOfLanes_139 (lv_at hl 0 rfl) ?_
        refine lv_lload hx hb dX0_wideOfLanes_141 (lv_at hl 5 rfl) ?_
        refine q_S (As := [.long (((((wi_rt (wi_fo f a 0 (sd + (-7046029288634856825) + (-4417276706812531889)) (((b - a) / 32))) 1) + (wi_rt (wi_fo f a 1 (sd + (-4417276706812531889)) (((b - a) / 32))) 7)) + (wi_rt (wi_fo f a 2 sd (((b - a) / 32))) 12)) + (wi_rt (wi_fo f a 3 (sd - (-7046029288634856825)) (((b - a) / 32))) 18))), .long (wi_fo f a 0 (sd + (-7046029288634856825) + (-4417276706812531889)) (((b - a) / 32)))]) (rest := []) ⟨hx, hb, hml, hown, hts⟩ (c_X_withLane l (((((wi_rt (wi_fo f a 0 (sd + (-7046029288634856825) + (-4417276706812531889)) (((b - a) / 32))) 1) + (wi_rt (wi_fo f a 1 (sd + (-4417276706812531889)) (((b - a) / 32))) 7)) + (wi_rt (wi_fo f a 2 sd (((b - a) / 32))) 12)) + (wi_rt (wi_fo f a 3 (sd - (-7046029288634856825)) (((b - a) / 32))) 18))) (wi_fo f a 0 (sd + (-7046029288634856825) + (-4417276706812531889)) (((b - a) / 32)))) (va_cwS 2 hts gX0_wideOfLanes_X0_withLane rfl rfl rfl (by decide +kernel) ⟨Nat.le_of_ble_eq_true rfl, Nat.le_of_ble_eq_true rfl⟩) rfl hl.1 rfl (Nat.le_of_ble_eq_true rfl) dX0_wideOfLanes_143 ⟨Nat.zero_le _, Nat.zero_le _⟩ ?_
        refine lv_lstore (lv' := [(13, .long ((wi_wl (((((wi_rt (wi_fo f a 0 (sd + (-7046029288634856825) + (-4417276706812531889)) (((b - a) / 32))) 1) + (wi_rt (wi_fo f a 1 (sd + (-4417276706812531889)) (((b - a) / 32))) 7)) + (wi_rt (wi_fo f a 2 sd (((b - a) / 32))) 12)) + (wi_rt (wi_fo f a 3 (sd - (-7046029288634856825)) (((b - a) / 32))) 18))) (wi_fo f a 0 (sd + (-7046029288634856825) + (-4417276706812531889)) (((b - a) / 32)))))), (0, .ref h0), (1, .int (nI a)), (2, .int (nI b)), (3, .long (sd)), (5, .long (wi_fo f a 0 (sd + (-7046029288634856825) + (-4417276706812531889)) (((b - a) / 32)))), (7, .long (wi_fo f a 1 (sd + (-4417276706812531889)) (((b - a) / 32)))), (9, .long (wi_fo f a 2 sd (((b - a) / 32)))), (11, .long (wi_fo f a 3 (sd - (-7046029288634856825)) (((b - a) / 32))))]) hx hb dX0_wideOfLanes_146 hl (by decide) rfl (fun ls hl => ?_)
        refine lv_lload hx hb dX0_wideOfLanes_148 (lv_at hl 0 rfl) ?_
        refine lv_lload hx hb dX0_wideOfLanes_150 (lv_at hl 6 rfl) ?_
        refine q_S (As := [.long ((wi_wl (((((wi_rt (wi_fo f a 0 (sd + (-7046029288634856825) + (-4417276706812531889)) (((b - a) / 32))) 1) + (wi_rt (wi_fo f a 1 (sd + (-4417276706812531889)) (((b - a) / 32))) 7)) + (wi_rt (wi_fo f a 2 sd (((b - a) / 32))) 12)) + (wi_rt (wi_fo f a 3 (sd - (-7046029288634856825)) (((b - a) / 32))) 18))) (wi_fo f a 0 (sd + (-7046029288634856825) + (-4417276706812531889)) (((b - a) / 32))))), .long (wi_fo f a 1 (sd + (-4417276706812531889)) (((b - a) / 32)))]) (rest := []) ⟨hx, hb, hml, hown, hts⟩ (c_X_withLane l ((wi_wl (((((wi_rt (wi_fo f a 0 (sd + (-7046029288634856825) + (-4417276706812531889)) (((b - a) / 32))) 1) + (wi_rt (wi_fo f a 1 (sd + (-4417276706812531889)) (((b - a) / 32))) 7)) + (wi_rt (wi_fo f a 2 sd (((b - a) / 32))) 12)) + (wi_rt (wi_fo f a 3 (sd - (-7046029288634856825)) (((b - a) / 32))) 18))) (wi_fo f a 0 (sd + (-7046029288634856825) + (-4417276706812531889)) (((b - a) / 32))))) (wi_fo f a 1 (sd + (-4417276706812531889)) (((b - a) / 32)))) (va_cwS 2 hts gX0_wideOfLanes_X0_withLane rfl rfl rfl (by decide +kernel) ⟨Nat.le_of_ble_eq_true rfl, Nat.le_of_ble_eq_true rfl⟩) rfl hl.1 rfl (Nat.le_of_ble_eq_true rfl) dX0_wideOfLanes_152 ⟨Nat.zero_le _, Nat.zero_le _⟩ ?_
        refine lv_lstore (lv' := [(13, .long ((wi_wl ((wi_wl (((((wi_rt (wi_fo f a 0 (sd + (-7046029288634856825) + (-4417276706812531889)) (((b - a) / 32))) 1) + (wi_rt (wi_fo f a 1 (sd + (-4417276706812531889)) (((b - a) / 32))) 7)) + (wi_rt (wi_fo f a 2 sd (((b - a) / 32))) 12)) + (wi_rt (wi_fo f a 3 (sd - (-7046029288634856825)) (((b - a) / 32))) 18))) (wi_fo f a 0 (sd + (-7046029288634856825) + (-4417276706812531889)) (((b - a) / 32))))) (wi_fo f a 1 (sd + (-4417276706812531889)) (((b - a) / 32)))))), (0, .ref h0), (1, .int (nI a)), (2, .int (nI b)), (3, .long (sd)), (5, .long (wi_fo f a 0 (sd + (-7046029288634856825) + (-4417276706812531889)) (((b - a) / 32)))), (7, .long (wi_fo f a 1 (sd + (-4417276706812531889)) (((b - a) / 32)))), (9, .long (wi_fo f a 2 sd (((b - a) / 32)))), (11, .long (wi_fo f a 3 (sd - (-7046029288634856825)) (((b - a) / 32))))]) hx hb dX0_wideOfLanes_155 hl (by decide) rfl (fun ls hl => ?_)
        refine lv_lload hx hb dX0_wideOfLanes_157 (lv_at hl 0 rfl) ?_
        refine lv_lload hx hb dX0_wideOfLanes_159 (lv_at hl 7 rfl) ?_
        refine q_S (As := [.long ((wi_wl ((wi_wl (((((wi_rt (wi_fo f a 0 (sd + (-7046029288634856825) + (-4417276706812531889)) (((b - a) / 32))) 1) + (wi_rt (wi_fo f a 1 (sd + (-4417276706812531889)) (((b - a) / 32))) 7)) + (wi_rt (wi_fo f a 2 sd (((b - a) / 32))) 12)) + (wi_rt (wi_fo f a 3 (sd - (-7046029288634856825)) (((b - a) / 32))) 18))) (wi_fo f a 0 (sd + (-7046029288634856825) + (-4417276706812531889)) (((b - a) / 32))))) (wi_fo f a 1 (sd + (-4417276706812531889)) (((b - a) / 32))))), .long (wi_fo f a 2 sd (((b - a) / 32)))]) (rest := []) ⟨hx, hb, hml, hown, hts⟩ (c_X_withLane l ((wi_wl ((wi_wl (((((wi_rt (wi_fo f a 0 (sd + (-7046029288634856825) + (-4417276706812531889)) (((b - a) / 32))) 1) + (wi_rt (wi_fo f a 1 (sd + (-4417276706812531889)) (((b - a) / 32))) 7)) + (wi_rt (wi_fo f a 2 sd (((b - a) / 32))) 12)) + (wi_rt (wi_fo f a 3 (sd - (-7046029288634856825)) (((b - a) / 32))) 18))) (wi_fo f a 0 (sd + (-7046029288634856825) + (-4417276706812531889)) (((b - a) / 32))))) (wi_fo f a 1 (sd + (-4417276706812531889)) (((b - a) / 32))))) (wi_fo f a 2 sd (((b - a) / 32)))) (va_cwS 2 hts gX0_wideOfLanes_X0_withLane rfl rfl rfl (by decide +kernel) ⟨Nat.le_of_ble_eq_true rfl, Nat.le_of_ble_eq_true rfl⟩) rfl hl.1 rfl (Nat.le_of_ble_eq_true rfl) dX0_wideOfLanes_161 ⟨Nat.zero_le _, Nat.zero_le _⟩ ?_
        refine lv_lstore (lv' := [(13, .long ((wi_wl ((wi_wl ((wi_wl (((((wi_rt (wi_fo f a 0 (sd + (-7046029288634856825) + (-4417276706812531889)) (((b - a) / 32))) 1) + (wi_rt (wi_fo f a 1 (sd + (-4417276706812531889)) (((b - a) / 32))) 7)) + (wi_rt (wi_fo f a 2 sd (((b - a) / 32))) 12)) + (wi_rt (wi_fo f a 3 (sd - (-7046029288634856825)) (((b - a) / 32))) 18))) (wi_fo f a 0 (sd + (-7046029288634856825) + (-4417276706812531889)) (((b - a) / 32))))) (wi_fo f a 1 (sd + (-4417276706812531889)) (((b - a) / 32))))) (wi_fo f a 2 sd (((b - a) / 32)))))), (0, .ref h0), (1, .int (nI a)), (2, .int (nI b)), (3, .long (sd)), (5, .long (wi_fo f a 0 (sd + (-7046029288634856825) + (-4417276706812531889)) (((b - a) / 32)))), (7, .long (wi_fo f a 1 (sd + (-4417276706812531889)) (((b - a) / 32)))), (9, .long (wi_fo f a 2 sd (((b - a) / 32)))), (11, .long (wi_fo f a 3 (sd - (-7046029288634856825)) (((b - a) / 32))))]) hx hb dX0_wideOfLanes_164 hl (by decide) rfl (fun ls hl => ?_)
        refine lv_lload hx hb dX0_wideOfLanes_166 (lv_at hl 0 rfl) ?_
        refine lv_lload hx hb dX0_wideOfLanes_168 (lv_at hl 8 rfl) ?_
        refine q_S (As := [.long ((wi_wl ((wi_wl ((wi_wl (((((wi_rt (wi_fo f a 0 (sd + (-7046029288634856825) + (-4417276706812531889)) (((b - a) / 32))) 1) + (wi_rt (wi_fo f a 1 (sd + (-4417276706812531889)) (((b - a) / 32))) 7)) + (wi_rt (wi_fo f a 2 sd (((b - a) / 32))) 12)) + (wi_rt (wi_fo f a 3 (sd - (-7046029288634856825)) (((b - a) / 32))) 18))) (wi_fo f a 0 (sd + (-7046029288634856825) + (-4417276706812531889)) (((b - a) / 32))))) (wi_fo f a 1 (sd + (-4417276706812531889)) (((b - a) / 32))))) (wi_fo f a 2 sd (((b - a) / 32))))), .long (wi_fo f a 3 (sd - (-7046029288634856825)) (((b - a) / 32)))]) (rest := []) ⟨hx, hb, hml, hown, hts⟩ (c_X_withLane l ((wi_wl ((wi_wl ((wi_wl (((((wi_rt (wi_fo f a 0 (sd + (-7046029288634856825) + (-4417276706812531889)) (((b - a) / 32))) 1) + (wi_rt (wi_fo f a 1 (sd + (-4417276706812531889)) (((b - a) / 32))) 7)) + (wi_rt (wi_fo f a 2 sd (((b - a) / 32))) 12)) + (wi_rt (wi_fo f a 3 (sd - (-7046029288634856825)) (((b - a) / 32))) 18))) (wi_fo f a 0 (sd + (-7046029288634856825) + (-4417276706812531889)) (((b - a) / 32))))) (wi_fo f a 1 (sd + (-4417276706812531889)) (((b - a) / 32))))) (wi_fo f a 2 sd (((b - a) / 32))))) (wi_fo f a 3 (sd - (-7046029288634856825)) (((b - a) / 32)))) (va_cwS 2 hts gX0_wideOfLanes_X0_withLane rfl rfl rfl (by decide +kernel) ⟨Nat.le_of_ble_eq_true rfl, Nat.le_of_ble_eq_true rfl⟩) rfl hl.1 rfl (Nat.le_of_ble_eq_true rfl) dX0_wideOfLanes_170 ⟨Nat.zero_le _, Nat.zero_le _⟩ ?_
        exact W.lret (v := (wi_wl ((wi_wl ((wi_wl ((wi_wl (((((wi_rt (wi_fo f a 0 (sd + (-7046029288634856825) + (-4417276706812531889)) (((b - a) / 32))) 1) + (wi_rt (wi_fo f a 1 (sd + (-4417276706812531889)) (((b - a) / 32))) 7)) + (wi_rt (wi_fo f a 2 sd (((b - a) / 32))) 12)) + (wi_rt (wi_fo f a 3 (sd - (-7046029288634856825)) (((b - a) / 32))) 18))) (wi_fo f a 0 (sd + (-7046029288634856825) + (-4417276706812531889)) (((b - a) / 32))))) (wi_fo f a 1 (sd + (-4417276706812531889)) (((b - a) / 32))))) (wi_fo f a 2 sd (((b - a) / 32))))) (wi_fo f a 3 (sd - (-7046029288634856825)) (((b - a) / 32))))) hx hb hr (fun t ht _ => ⟨congrArg (fun z => Outcome.returned (some (Value.long z))) (rfl), ht⟩) (fun _ h => by cases h) dX0_wideOfLanes_173
      · exact absurd (nI_lt (b := 32) (by omega) (by omega)) c_37
    | succ d ih =>
      intro j hj ls hl
      have hjl : j < (b - a) / 32 := by omega
      refine lv_iload_n hx hb dX0_wideOfLanes_31 rfl (lv_at hl 2 rfl) ?_
      refine lv_iload hx hb dX0_wideOfLanes_32 (lv_at hl 8 rfl) ?_
      refine lv_isub hx hb dX0_wideOfLanes_34 ?_
      refine q_ti (y := nI (b - (a + 32 * j))) (pk_sub (by omega)) ?_
      refine lv_bipush (v := 32) hx hb dX0_wideOfLanes_35 (by decide) ?_
      refine lv_icmp_lt (tgt := 107) hx hb dX0_wideOfLanes_37 (by decide) (fun c_37 => ?_) (fun c_37 => ?_)
      · exact absurd c_37 (nI_nlt (b := 32) (by omega) (by omega))
      · refine lv_lload hx hb dX0_wideOfLanes_40 (lv_at hl 4 rfl) ?_
        refine lv_aload_n hx hb dX0_wideOfLanes_42 rfl (lv_at hl 0 rfl) ?_
        refine lv_iload hx hb dX0_wideOfLanes_43 (lv_at hl 8 rfl) ?_
        refine q_V (As := [.int (nI (a + 32 * (j)))]) (rest := [.long (wi_fo f a 0 (sd + (-7046029288634856825) + (-4417276706812531889)) (j))]) ⟨hx, hb, hml, hown, hts⟩ (c_X_longWord l dC dI h0 a0 a1 cB cI n ns wd f g (a + 32 * j) (by omega)) (cwV 1 hts gX0_wideOfLanes_X0_longWord rfl rfl rfl (by decide +kernel) ⟨Nat.le_of_ble_eq_true rfl, Nat.le_of_ble_eq_true rfl⟩) (xw_pre hP hK _) rfl hl.1 rfl (Nat.le_of_ble_eq_true rfl) dX0_wideOfLanes_45 ⟨Nat.zero_le _, Nat.zero_le _⟩ ?_
        refine q_S (As := [.long (wi_fo f a 0 (sd + (-7046029288634856825) + (-4417276706812531889)) (j)), .long ((wo_8 f (a + 32 * j)))]) (rest := []) ⟨hx, hb, hml, hown, hts⟩ (c_X_wideLane l (wi_fo f a 0 (sd + (-7046029288634856825) + (-4417276706812531889)) (j)) ((wo_8 f (a + 32 * j)))) (va_cwS 2 hts gX0_wideOfLanes_X0_wideLane rfl rfl rfl (by decide +kernel) ⟨Nat.le_of_ble_eq_true rfl, Nat.le_of_ble_eq_true rfl⟩) rfl hl.1 rfl (Nat.le_of_ble_eq_true rfl) dX0_wideOfLanes_48 ⟨Nat.zero_le _, Nat.zero_le _⟩ ?_
        refine q_tl (y := wi_fo f a 0 (sd + (-7046029288634856825) + (-4417276706812531889)) (j + 1)) (rfl) ?_
        refine lv_lstore (lv' := [(5, .long (wi_fo f a 0 (sd + (-7046029288634856825) + (-4417276706812531889)) (j + 1))), (0, .ref h0), (1, .int (nI a)), (2, .int (nI b)), (3, .long (sd)), (7, .long (wi_fo f a 1 (sd + (-4417276706812531889)) (j))), (9, .long (wi_fo f a 2 sd (j))), (11, .long (wi_fo f a 3 (sd - (-7046029288634856825)) (j))), (13, .int (nI (a + 32 * (j))))]) hx hb dX0_wideOfLanes_51 hl (by decide) rfl (fun ls hl => ?_)
        refine lv_lload hx hb dX0_wideOfLanes_53 (lv_at hl 5 rfl) ?_
        refine lv_aload_n hx hb dX0_wideOfLanes_55 rfl (lv_at hl 1 rfl) ?_
        refine lv_iload hx hb dX0_wideOfLanes_56 (lv_at hl 8 rfl) ?_
        refine lv_bipush (v := 8) hx hb dX0_wideOfLanes_58 (by decide) ?_
        refine lv_iadd hx hb dX0_wideOfLanes_60 ?_
        refine q_ti (y := nI (a + 32 * j + 8)) (nI_add _ 8) ?_
        refine q_V (As := [.int (nI (a + 32 * j + 8))]) (rest := [.long (wi_fo f a 1 (sd + (-4417276706812531889)) (j))]) ⟨hx, hb, hml, hown, hts⟩ (c_X_longWord l dC dI h0 a0 a1 cB cI n ns wd f g (a + 32 * j + 8) (by omega)) (cwV 1 hts gX0_wideOfLanes_X0_longWord rfl rfl rfl (by decide +kernel) ⟨Nat.le_of_ble_eq_true rfl, Nat.le_of_ble_eq_true rfl⟩) (xw_pre hP hK _) rfl hl.1 rfl (Nat.le_of_ble_eq_true rfl) dX0_wideOfLanes_61 ⟨Nat.zero_le _, Nat.zero_le _⟩ ?_
        refine q_S (As := [.long (wi_fo f a 1 (sd + (-4417276706812531889)) (j)), .long ((wo_8 f (a + 32 * j + 8)))]) (rest := []) ⟨hx, hb, hml, hown, hts⟩ (c_X_wideLane l (wi_fo f a 1 (sd + (-4417276706812531889)) (j)) ((wo_8 f (a + 32 * j + 8)))) (va_cwS 2 hts gX0_wideOfLanes_X0_wideLane rfl rfl rfl (by decide +kernel) ⟨Nat.le_of_ble_eq_true rfl, Nat.le_of_ble_eq_true rfl⟩) rfl hl.1 rfl (Nat.le_of_ble_eq_true rfl) dX0_wideOfLanes_64 ⟨Nat.zero_le _, Nat.zero_le _⟩ ?_
        refine q_tl (y := wi_fo f a 1 (sd + (-4417276706812531889)) (j + 1)) (rfl) ?_
        refine lv_lstore (lv' := [(7, .long (wi_fo f a 1 (sd + (-4417276706812531889)) (j + 1))), (5, .long (wi_fo f a 0 (sd + (-7046029288634856825) + (-4417276706812531889)) (j + 1))), (0, .ref h0), (1, .int (nI a)), (2, .int (nI b)), (3, .long (sd)), (9, .long (wi_fo f a 2 sd (j))), (11, .long (wi_fo f a 3 (sd - (-7046029288634856825)) (j))), (13, .int (nI (a + 32 * (j))))]) hx hb dX0_wideOfLanes_67 hl (by decide) rfl (fun ls hl => ?_)
        refine lv_lload hx hb dX0_wideOfLanes_69 (lv_at hl 6 rfl) ?_
        refine lv_aload_n hx hb dX0_wideOfLanes_71 rfl (lv_at hl 2 rfl) ?_
        refine lv_iload hx hb dX0_wideOfLanes_72 (lv_at hl 8 rfl) ?_
        refine lv_bipush (v := 16) hx hb dX0_wideOfLanes_74 (by decide) ?_
        refine lv_iadd hx hb dX0_wideOfLanes_76 ?_
        refine q_ti (y := nI (a + 32 * j + 16)) (nI_add _ 16) ?_
        refine q_V (As := [.int (nI (a + 32 * j + 16))]) (rest := [.long (wi_fo f a 2 sd (j))]) ⟨hx, hb, hml, hown, hts⟩ (c_X_longWord l dC dI h0 a0 a1 cB cI n ns wd f g (a + 32 * j + 16) (by omega)) (cwV 1 hts gX0_wideOfLanes_X0_longWord rfl rfl rfl (by decide +kernel) ⟨Nat.le_of_ble_eq_true rfl, Nat.le_of_ble_eq_true rfl⟩) (xw_pre hP hK _) rfl hl.1 rfl (Nat.le_of_ble_eq_true rfl) dX0_wideOfLanes_77 ⟨Nat.zero_le _, Nat.zero_le _⟩ ?_
        refine q_S (As := [.long (wi_fo f a 2 sd (j)), .long ((wo_8 f (a + 32 * j + 16)))]) (rest := []) ⟨hx, hb, hml, hown, hts⟩ (c_X_wideLane l (wi_fo f a 2 sd (j)) ((wo_8 f (a + 32 * j + 16)))) (va_cwS 2 hts gX0_wideOfLanes_X0_wideLane rfl rfl rfl (by decide +kernel) ⟨Nat.le_of_ble_eq_true rfl, Nat.le_of_ble_eq_true rfl⟩) rfl hl.1 rfl (Nat.le_of_ble_eq_true rfl) dX0_wideOfLanes_80 ⟨Nat.zero_le _, Nat.zero_le _⟩ ?_
        refine q_tl (y := wi_fo f a 2 sd (j + 1)) (rfl) ?_
        refine lv_lstore (lv' := [(9, .long (wi_fo f a 2 sd (j + 1))), (7, .long (wi_fo f a 1 (sd + (-4417276706812531889)) (j + 1))), (5, .long (wi_fo f a 0 (sd + (-7046029288634856825) + (-4417276706812531889)) (j + 1))), (0, .ref h0), (1, .int (nI a)), (2, .int (nI b)), (3, .long (sd)), (11, .long (wi_fo f a 3 (sd - (-7046029288634856825)) (j))), (13, .int (nI (a + 32 * (j))))]) hx hb dX0_wideOfLanes_83 hl (by decide) rfl (fun ls hl => ?_)
        refine lv_lload hx hb dX0_wideOfLanes_85 (lv_at hl 7 rfl) ?_
        refine lv_aload_n hx hb dX0_wideOfLanes_87 rfl (lv_at hl 3 rfl) ?_
        refine lv_iload hx hb dX0_wideOfLanes_88 (lv_at hl 8 rfl) ?_
        refine lv_bipush (v := 24) hx hb dX0_wideOfLanes_90 (by decide) ?_
        refine lv_iadd hx hb dX0_wideOfLanes_92 ?_
        refine q_ti (y := nI (a + 32 * j + 24)) (nI_add _ 24) ?_
        refine q_V (As := [.int (nI (a + 32 * j + 24))]) (rest := [.long (wi_fo f a 3 (sd - (-7046029288634856825)) (j))]) ⟨hx, hb, hml, hown, hts⟩ (c_X_longWord l dC dI h0 a0 a1 cB cI n ns wd f g (a + 32 * j + 24) (by omega)) (cwV 1 hts gX0_wideOfLanes_X0_longWord rfl rfl rfl (by decide +kernel) ⟨Nat.le_of_ble_eq_true rfl, Nat.le_of_ble_eq_true rfl⟩) (xw_pre hP hK _) rfl hl.1 rfl (Nat.le_of_ble_eq_true rfl) dX0_wideOfLanes_93 ⟨Nat.zero_le _, Nat.zero_le _⟩ ?_
        refine q_S (As := [.long (wi_fo f a 3 (sd - (-7046029288634856825)) (j)), .long ((wo_8 f (a + 32 * j + 24)))]) (rest := []) ⟨hx, hb, hml, hown, hts⟩ (c_X_wideLane l (wi_fo f a 3 (sd - (-7046029288634856825)) (j)) ((wo_8 f (a + 32 * j + 24)))) (va_cwS 2 hts gX0_wideOfLanes_X0_wideLane rfl rfl rfl (by decide +kernel) ⟨Nat.le_of_ble_eq_true rfl, Nat.le_of_ble_eq_true rfl⟩) rfl hl.1 rfl (Nat.le_of_ble_eq_true rfl) dX0_wideOfLanes_96 ⟨Nat.zero_le _, Nat.zero_le _⟩ ?_
        refine q_tl (y := wi_fo f a 3 (sd - (-7046029288634856825)) (j + 1)) (rfl) ?_
        refine lv_lstore (lv' := [(11, .long (wi_fo f a 3 (sd - (-7046029288634856825)) (j + 1))), (9, .long (wi_fo f a 2 sd (j + 1))), (7, .long (wi_fo f a 1 (sd + (-4417276706812531889)) (j + 1))), (5, .long (wi_fo f a 0 (sd + (-7046029288634856825) + (-4417276706812531889)) (j + 1))), (0, .ref h0), (1, .int (nI a)), (2, .int (nI b)), (3, .long (sd)), (13, .int (nI (a + 32 * (j))))]) hx hb dX0_wideOfLanes_99 hl (by decide) rfl (fun ls hl => ?_)
        refine lv_iinc (v := nI (a + 32 * (j + 1))) (lv' := [(13, .int (nI (a + 32 * (j + 1)))), (11, .long (wi_fo f a 3 (sd - (-7046029288634856825)) (j + 1))), (9, .long (wi_fo f a 2 sd (j + 1))), (7, .long (wi_fo f a 1 (sd + (-4417276706812531889)) (j + 1))), (5, .long (wi_fo f a 0 (sd + (-7046029288634856825) + (-4417276706812531889)) (j + 1))), (0, .ref h0), (1, .int (nI a)), (2, .int (nI b)), (3, .long (sd))]) hx hb dX0_wideOfLanes_101 hl (k := 8) rfl (by rw [show a + 32 * (j + 1) = a + 32 * j + 32 by omega]; exact nI_add _ 32) (by decide) rfl (fun ls hl => ?_)
        refine lv_goto (tgt := 31) hx hb dX0_wideOfLanes_104 (by decide) ?_
        exact ih (j + 1) (by omega) ls (lv_sub hl [5, 6, 7, 8, 4, 3, 2, 1, 0] rfl)
  exact L31 ((b - a) / 32) 0 (by omega) ls (lv_sub hl [5, 6, 7, 8, 4, 3, 2, 1, 0] rfl)
set_option maxHeartbeats 4000000 in
set_option maxRecDepth 100000 in
theorem c_X_wideSum (l : Launch) (dC : Nat → ClassId) (dI : Nat → Nat → Nat) (h0 a0 a1 : Nat) (cB cI : ClassId) (n : Nat) (ns : Int32) (wd : Int64) (f g : Nat → Int32) (a : Nat) (b : Nat) (sd : Int64) (hab : a ≤ b) (hbn : b ≤ n) (hn : n ≤ 65536) : Met l yX0_wideSum wsX0_wideSum ({ frames := 4, cells := 0, slots := 0, locals := 102 } : Room) (va_Pc [.ref h0, .int (nI a), .int (nI b), .long sd] (xW dC dI h0 a0 a1 cB cI n ns wd f g)) (k2_QcV (.long (wi_sum f a b sd))) 0 0 (fun _ => False) := by
  refine Met.ofW (cc := cX0_wideSum) (maxL := 9) (ret := some .long) (by decide) rfl ?_
  intro p e s m args below meth c s₁ B hml hv
  obtain ⟨rfl, hP, hK⟩ := hv
  have hx := B.exec
  have hb := B.bytes
  have hr := B.returns
  have hts := atoms_spec (ws := wsX0_wideSum) B.pre
  have hown : s.vm.findClass RX0 = some m.cls := findClass_of_methodNamed B.named
  have hlocks := B.notSynchronized
  have hl := lv_entry ([.ref h0, .int (nI a), .int (nI b), .long sd]) (n := 9) (Nat.le_of_ble_eq_true rfl)
  rw [lg_entry_eq]
  generalize (lg_sl ([.ref h0, .int (nI a), .int (nI b), .long sd]) ++ List.replicate (9 - (lg_sl ([.ref h0, .int (nI a), .int (nI b), .long sd])).length) Slot.unset).toArray = ls at hl ⊢
  have hl : lv_has ls 9 [(0, .ref h0), (1, .int (nI a)), (2, .int (nI b)), (3, .long (sd))] := hl
  have hpc := wi_pc hab
  obtain ⟨hp1, hp2, hp3, hp4, hp5, hp6⟩ := hpc
  refine lv_iload_n hx hb dX0_wideSum_0 rfl (lv_at hl 2 rfl) ?_
  refine lv_iload_n hx hb dX0_wideSum_1 rfl (lv_at hl 1 rfl) ?_
  refine lv_isub hx hb dX0_wideSum_2 ?_
  refine q_ti (y := nI (b - a)) (pk_sub hab) ?_
  refine lv_istore (lv' := [(5, .int (nI (b - a))), (0, .ref h0), (1, .int (nI a)), (2, .int (nI b)), (3, .long (sd))]) hx hb dX0_wideSum_3 hl (by decide) rfl (fun ls hl => ?_)
  have J27 : ∀ ls : Array Slot, lv_has ls 9 [(5, .int (nI (b - a))), (0, .ref h0), (1, .int (nI a)), (2, .int (nI b)), (3, .long (sd))] → W p l e (headSpec wsX0_wideSum ({ frames := 4, cells := 0, slots := 0, locals := 102 } : Room)).room s m [Value.ref h0, .int (nI a), .int (nI b), .long sd].toArray below meth c s.heap [] 0 0 (MQ below (k2_QcV (.long (wi_sum f a b sd))) [Value.ref h0, .int (nI a), .int (nI b), .long sd].toArray s 0 0 (fun _ => False)) (F0 m 27 ls [.long (wi_h0 f a b sd)]) := by
    intro ls hl
    refine lv_lstore (lv' := [(6, .long (wi_h0 f a b sd)), (5, .int (nI (b - a))), (0, .ref h0), (1, .int (nI a)), (2, .int (nI b)), (3, .long (sd))]) hx hb dX0_wideSum_27 hl (by decide) rfl (fun ls hl => ?_)
    refine lv_lload hx hb dX0_wideSum_29 (lv_at hl 0 rfl) ?_
    refine lv_iload hx hb dX0_wideSum_31 (lv_at hl 1 rfl) ?_
    refine lv_i2l (v := (nI (b - a)).toInt64) hx hb dX0_wideSum_33 rfl ?_
    refine q_tl (y := lN (b - a)) (nI_l (by omega)) ?_
    refine lv_ladd hx hb dX0_wideSum_34 ?_
    refine lv_lstore (lv' := [(6, .long ((wi_h0 f a b sd + lN (b - a)))), (5, .int (nI (b - a))), (0, .ref h0), (1, .int (nI a)), (2, .int (nI b)), (3, .long (sd))]) hx hb dX0_wideSum_35 hl (by decide) rfl (fun ls hl => ?_)
    refine lv_iload_n hx hb dX0_wideSum_37 rfl (lv_at hl 4 rfl) ?_
    refine lv_iload hx hb dX0_wideSum_38 (lv_at hl 1 rfl) ?_
    refine lv_bipush (v := 32) hx hb dX0_wideSum_40 (by decide) ?_
    refine lv_irem hx hb dX0_wideSum_42 (by decide) ?_
    refine q_ti (y := nI ((b - a) % 32)) (pk_rem (d := 32) (by omega) (by omega) (by omega)) ?_
    refine lv_isub hx hb dX0_wideSum_43 ?_
    refine q_ti (y := nI (wi_p a b)) (pk_sub (by omega)) ?_
    refine lv_istore (lv' := [(8, .int (nI (wi_p a b))), (6, .long ((wi_h0 f a b sd + lN (b - a)))), (5, .int (nI (b - a))), (0, .ref h0), (1, .int (nI a)), (2, .int (nI b)), (3, .long (sd))]) hx hb dX0_wideSum_44 hl (by decide) rfl (fun ls hl => ?_)
    have L46 : ∀ (d j : Nat), j + d = wi_c a b → ∀ ls : Array Slot, lv_has ls 9 [(0, .ref h0), (1, .int (nI a)), (2, .int (nI b)), (3, .long (sd)), (5, .int (nI (b - a))), (6, .long (wi_w8 f (wi_p a b) (wi_h0 f a b sd + lN (b - a)) (j))), (8, .int (nI (wi_p a b + 8 * (j))))] → W p l e (headSpec wsX0_wideSum ({ frames := 4, cells := 0, slots := 0, locals := 102 } : Room)).room s m [Value.ref h0, .int (nI a), .int (nI b), .long sd].toArray below meth c s.heap [] 0 0 (MQ below (k2_QcV (.long (wi_sum f a b sd))) [Value.ref h0, .int (nI a), .int (nI b), .long sd].toArray s 0 0 (fun _ => False)) (F0 m 46 ls []) := by
      intro d
      induction d with
      | zero =>
        intro j hj ls hl
        obtain rfl : wi_c a b = j := by omega
        refine lv_iload_n hx hb dX0_wideSum_46 rfl (lv_at hl 2 rfl) ?_
        refine lv_iload hx hb dX0_wideSum_47 (lv_at hl 6 rfl) ?_
        refine lv_isub hx hb dX0_wideSum_49 ?_
        refine q_ti (y := nI (b - (wi_p a b + 8 * wi_c a b))) (pk_sub (by omega)) ?_
        refine lv_bipush (v := 8) hx hb dX0_wideSum_50 (by decide) ?_
        refine lv_icmp_lt (tgt := 89) hx hb dX0_wideSum_52 (by decide) (fun c_52 => ?_) (fun c_52 => ?_)
        · have J128 : ∀ ls : Array Slot, lv_has ls 9 [(0, .ref h0), (1, .int (nI a)), (2, .int (nI b)), (3, .long (sd)), (5, .int (nI (b - a))), (6, .long ((wi_o f (wi_p a b + 8 * wi_c a b) (wi_w8 f (wi_p a b) (wi_h0 f a b sd + lN (b - a)) (wi_c a b)) (wi_d a b)))), (8, .int (nI (wi_p a b + 8 * wi_c a b + 4 * wi_d a b)))] → W p l e (headSpec wsX0_wideSum ({ frames := 4, cells := 0, slots := 0, locals := 102 } : Room)).room s m [Value.ref h0, .int (nI a), .int (nI b), .long sd].toArray below meth c s.heap [] 0 0 (MQ below (k2_QcV (.long (wi_sum f a b sd))) [Value.ref h0, .int (nI a), .int (nI b), .long sd].toArray s 0 0 (fun _ => False)) (F0 m 128 ls []) := by
            intro ls hl
            have L128 : ∀ (d j : Nat), j + d = b - (wi_p a b + 8 * wi_c a b + 4 * wi_d a b) → ∀ ls : Array Slot, lv_has ls 9 [(0, .ref h0), (1, .int (nI a)), (2, .int (nI b)), (3, .long (sd)), (5, .int (nI (b - a))), (6, .long (wi_w1 f (wi_p a b + 8 * wi_c a b + 4 * wi_d a b) (wi_o f (wi_p a b + 8 * wi_c a b) (wi_w8 f (wi_p a b) (wi_h0 f a b sd + lN (b - a)) (wi_c a b)) (wi_d a b)) (j))), (8, .int (nI ((wi_p a b + 8 * wi_c a b + 4 * wi_d a b) + (j))))] → W p l e (headSpec wsX0_wideSum ({ frames := 4, cells := 0, slots := 0, locals := 102 } : Room)).room s m [Value.ref h0, .int (nI a), .int (nI b), .long sd].toArray below meth c s.heap [] 0 0 (MQ below (k2_QcV (.long (wi_sum f a b sd))) [Value.ref h0, .int (nI a), .int (nI b), .long sd].toArray s 0 0 (fun _ => False)) (F0 m 128 ls []) := by
              intro d
              induction d with
              | zero =>
                intro j hj ls hl
                obtain rfl : b - (wi_p a b + 8 * wi_c a b + 4 * wi_d a b) = j := by omega
                refine lv_iload hx hb dX0_wideSum_128 (lv_at hl 6 rfl) ?_
                refine lv_iload_n hx hb dX0_wideSum_130 rfl (lv_at hl 2 rfl) ?_
                refine lv_icmp_ge (tgt := 165) hx hb dX0_wideSum_131 (by decide) (fun c_131 => ?_) (fun c_131 => ?_)
                · refine lv_lload hx hb dX0_wideSum_165 (lv_at hl 5 rfl) ?_
                  refine q_S (As := [.long (wi_w1 f (wi_p a b + 8 * wi_c a b + 4 * wi_d a b) (wi_o f (wi_p a b + 8 * wi_c a b) (wi_w8 f (wi_p a b) (wi_h0 f a b sd + lN (b - a)) (wi_c a b)) (wi_d a b)) ((b - (wi_p a b + 8 * wi_c a b + 4 * wi_d a b))))]) (rest := []) ⟨hx, hb, hml, hown, hts⟩ (c_X_wideStirred l (wi_w1 f (wi_p a b + 8 * wi_c a b + 4 * wi_d a b) (wi_o f (wi_p a b + 8 * wi_c a b) (wi_w8 f (wi_p a b) (wi_h0 f a b sd + lN (b - a)) (wi_c a b)) (wi_d a b)) ((b - (wi_p a b + 8 * wi_c a b + 4 * wi_d a b))))) (va_cwS 1 hts gX0_wideSum_X0_wideStirred rfl rfl rfl (by decide +kernel) ⟨Nat.le_of_ble_eq_true rfl, Nat.le_of_ble_eq_true rfl⟩) rfl hl.1 rfl (Nat.le_of_ble_eq_true rfl) dX0_wideSum_167 ⟨Nat.zero_le _, Nat.zero_le _⟩ ?_
                  exact W.lret (v := (wi_s3 (wi_s2 (wi_s1 (wi_w1 f (wi_p a b + 8 * wi_c a b + 4 * wi_d a b) (wi_o f (wi_p a b + 8 * wi_c a b) (wi_w8 f (wi_p a b) (wi_h0 f a b sd + lN (b - a)) (wi_c a b)) (wi_d a b)) ((b - (wi_p a b + 8 * wi_c a b + 4 * wi_d a b)))))))) hx hb hr (fun t ht _ => ⟨congrArg (fun z => Outcome.returned (some (Value.long z))) (rfl), ht⟩) (fun _ h => by cases h) dX0_wideSum_170
                · exact absurd (nI_le (by omega) (by omega)) c_131
              | succ d ih =>
                intro j hj ls hl
                have hjl : j < b - (wi_p a b + 8 * wi_c a b + 4 * wi_d a b) := by omega
                refine lv_iload hx hb dX0_wideSum_128 (lv_at hl 6 rfl) ?_
                refine lv_iload_n hx hb dX0_wideSum_130 rfl (lv_at hl 2 rfl) ?_
                refine lv_icmp_ge (tgt := 165) hx hb dX0_wideSum_131 (by decide) (fun c_131 => ?_) (fun c_131 => ?_)
                · exact absurd c_131 (nI_ge (by omega) (by omega))
                · refine lv_lload hx hb dX0_wideSum_134 (lv_at hl 5 rfl) ?_
                  refine lv_aload_n hx hb dX0_wideSum_136 rfl (lv_at hl 0 rfl) ?_
                  refine lv_iload hx hb dX0_wideSum_137 (lv_at hl 6 rfl) ?_
                  refine q_V (As := [.int (nI ((wi_p a b + 8 * wi_c a b + 4 * wi_d a b) + (j)))]) (rest := [.long (wi_w1 f (wi_p a b + 8 * wi_c a b + 4 * wi_d a b) (wi_o f (wi_p a b + 8 * wi_c a b) (wi_w8 f (wi_p a b) (wi_h0 f a b sd + lN (b - a)) (wi_c a b)) (wi_d a b)) (j))]) ⟨hx, hb, hml, hown, hts⟩ (c_X_byteIn l dC dI h0 a0 a1 cB cI n ns wd f g ((wi_p a b + 8 * wi_c a b + 4 * wi_d a b) + j) (by omega) (hn)) (cwV 1 hts gX0_wideSum_X0_byteAt rfl rfl rfl (by decide +kernel) ⟨Nat.le_of_ble_eq_true rfl, Nat.le_of_ble_eq_true rfl⟩) (xw_pre hP hK _) rfl hl.1 rfl (Nat.le_of_ble_eq_true rfl) dX0_wideSum_139 ⟨Nat.zero_le _, Nat.zero_le _⟩ ?_
                  refine lv_i2l (v := ((f ((wi_p a b + 8 * wi_c a b + 4 * wi_d a b) + j) &&& 255)).toInt64) hx hb dX0_wideSum_142 rfl ?_
                  refine lv_ldc2 (v := 2870177450012600261) hx hb hown (hts (.constantLong RX0 109 (2870177450012600261)) (by decide +kernel)) dX0_wideSum_143 ?_
                  refine lv_lmul hx hb dX0_wideSum_146 ?_
                  refine lv_lxor hx hb dX0_wideSum_147 ?_
                  refine lv_bipush (v := 11) hx hb dX0_wideSum_148 (by decide) ?_
                  refine q_S (As := [.long ((wi_w1 f (wi_p a b + 8 * wi_c a b + 4 * wi_d a b) (wi_o f (wi_p a b + 8 * wi_c a b) (wi_w8 f (wi_p a b) (wi_h0 f a b sd + lN (b - a)) (wi_c a b)) (wi_d a b)) (j) ^^^ (((f ((wi_p a b + 8 * wi_c a b + 4 * wi_d a b) + j) &&& 255)).toInt64 * 2870177450012600261))), .int (11)]) (rest := []) ⟨hx, hb, hml, hown, hts⟩ (c_X_rotatedLong l ((wi_w1 f (wi_p a b + 8 * wi_c a b + 4 * wi_d a b) (wi_o f (wi_p a b + 8 * wi_c a b) (wi_w8 f (wi_p a b) (wi_h0 f a b sd + lN (b - a)) (wi_c a b)) (wi_d a b)) (j) ^^^ (((f ((wi_p a b + 8 * wi_c a b + 4 * wi_d a b) + j) &&& 255)).toInt64 * 2870177450012600261))) (11)) (va_cwS 2 hts gX0_wideSum_X0_rotatedLong rfl rfl rfl (by decide +kernel) ⟨Nat.le_of_ble_eq_true rfl, Nat.le_of_ble_eq_true rfl⟩) rfl hl.1 rfl (Nat.le_of_ble_eq_true rfl) dX0_wideSum_150 ⟨Nat.zero_le _, Nat.zero_le _⟩ ?_
                  refine lv_ldc2 (v := -7046029288634856825) hx hb hown (hts (.constantLong RX0 122 (-7046029288634856825)) (by decide +kernel)) dX0_wideSum_153 ?_
                  refine lv_lmul hx hb dX0_wideSum_156 ?_
                  refine q_tl (y := wi_w1 f (wi_p a b + 8 * wi_c a b + 4 * wi_d a b) (wi_o f (wi_p a b + 8 * wi_c a b) (wi_w8 f (wi_p a b) (wi_h0 f a b sd + lN (b - a)) (wi_c a b)) (wi_d a b)) (j + 1)) (rfl) ?_
                  refine lv_lstore (lv' := [(6, .long (wi_w1 f (wi_p a b + 8 * wi_c a b + 4 * wi_d a b) (wi_o f (wi_p a b + 8 * wi_c a b) (wi_w8 f (wi_p a b) (wi_h0 f a b sd + lN (b - a)) (wi_c a b)) (wi_d a b)) (j + 1))), (0, .ref h0), (1, .int (nI a)), (2, .int (nI b)), (3, .long (sd)), (5, .int (nI (b - a))), (8, .int (nI ((wi_p a b + 8 * wi_c a b + 4 * wi_d a b) + (j))))]) hx hb dX0_wideSum_157 hl (by decide) rfl (fun ls hl => ?_)
                  refine lv_iinc (v := nI ((wi_p a b + 8 * wi_c a b + 4 * wi_d a b) + (j + 1))) (lv' := [(8, .int (nI ((wi_p a b + 8 * wi_c a b + 4 * wi_d a b) + (j + 1)))), (6, .long (wi_w1 f (wi_p a b + 8 * wi_c a b + 4 * wi_d a b) (wi_o f (wi_p a b + 8 * wi_c a b) (wi_w8 f (wi_p a b) (wi_h0 f a b sd + lN (b - a)) (wi_c a b)) (wi_d a b)) (j + 1))), (0, .ref h0), (1, .int (nI a)), (2, .int (nI b)), (3, .long (sd)), (5, .int (nI (b - a)))]) hx hb dX0_wideSum_159 hl (k := 6) rfl (nI_add _ 1) (by decide) rfl (fun ls hl => ?_)
                  refine lv_goto (tgt := 128) hx hb dX0_wideSum_162 (by decide) ?_
                  exact ih (j + 1) (by omega) ls (lv_sub hl [2, 3, 4, 5, 6, 1, 0] rfl)
            exact L128 (b - (wi_p a b + 8 * wi_c a b + 4 * wi_d a b)) 0 (by omega) ls (lv_sub hl [0, 1, 2, 3, 4, 5, 6] rfl)
          refine lv_iload_n hx hb dX0_wideSum_89 rfl (lv_at hl 2 rfl) ?_
          refine lv_iload hx hb dX0_wideSum_90 (lv_at hl 6 rfl) ?_
          refine lv_isub hx hb dX0_wideSum_92 ?_
          refine q_ti (y := nI (b - (wi_p a b + 8 * wi_c a b))) (pk_sub (by omega)) ?_
          refine lv_iconst (v := 4) hx hb dX0_wideSum_93 (by decide) ?_
          refine lv_icmp_lt (tgt := 128) hx hb dX0_wideSum_94 (by decide) (fun c_94 => ?_) (fun c_94 => ?_)
          · have h4 : b - (wi_p a b + 8 * wi_c a b) < 4 := (nI_ltI (b := 4) (by omega) (by omega)).mp c_94
            have hd0 : wi_d a b = 0 := by omega
            have hl : lv_has ls 9 [(0, .ref h0), (1, .int (nI a)), (2, .int (nI b)), (3, .long (sd)), (5, .int (nI (b - a))), (6, .long ((wi_o f (wi_p a b + 8 * wi_c a b) (wi_w8 f (wi_p a b) (wi_h0 f a b sd + lN (b - a)) (wi_c a b)) (wi_d a b)))), (8, .int (nI (wi_p a b + 8 * ((wi_c a b)))))] := q_lv hl (congrArg (fun z => ([(0, .ref h0), (1, .int (nI a)), (2, .int (nI b)), (3, .long (sd)), (5, .int (nI (b - a))), (6, Value.long z), (8, .int (nI (wi_p a b + 8 * ((wi_c a b)))))] : List (Nat × Value))) (show (wi_w8 f (wi_p a b) (wi_h0 f a b sd + lN (b - a)) ((wi_c a b)) : Int64) = (wi_o f (wi_p a b + 8 * wi_c a b) (wi_w8 f (wi_p a b) (wi_h0 f a b sd + lN (b - a)) (wi_c a b)) (wi_d a b)) from by unfold wi_o; rw [if_pos hd0]))
            have hl : lv_has ls 9 [(0, .ref h0), (1, .int (nI a)), (2, .int (nI b)), (3, .long (sd)), (5, .int (nI (b - a))), (6, .long ((wi_o f (wi_p a b + 8 * wi_c a b) (wi_w8 f (wi_p a b) (wi_h0 f a b sd + lN (b - a)) (wi_c a b)) (wi_d a b)))), (8, .int (nI (wi_p a b + 8 * wi_c a b + 4 * wi_d a b)))] := q_lv hl (congrArg (fun z => ([(0, .ref h0), (1, .int (nI a)), (2, .int (nI b)), (3, .long (sd)), (5, .int (nI (b - a))), (6, .long ((wi_o f (wi_p a b + 8 * wi_c a b) (wi_w8 f (wi_p a b) (wi_h0 f a b sd + lN (b - a)) (wi_c a b)) (wi_d a b)))), (8, Value.int z)] : List (Nat × Value))) (show (nI (wi_p a b + 8 * ((wi_c a b))) : Int32) = nI (wi_p a b + 8 * wi_c a b + 4 * wi_d a b) from congrArg nI (by omega)))
            exact J128 ls (lv_sub hl [0, 1, 2, 3, 4, 5, 6] rfl)
          · have h4 : ¬ b - (wi_p a b + 8 * wi_c a b) < 4 := fun q => c_94 (nI_lt (b := 4) q (by omega))
            have hd1 : wi_d a b = 1 := by omega
            refine lv_lload hx hb dX0_wideSum_97 (lv_at hl 5 rfl) ?_
            refine lv_aload_n hx hb dX0_wideSum_99 rfl (lv_at hl 0 rfl) ?_
            refine lv_iload hx hb dX0_wideSum_100 (lv_at hl 6 rfl) ?_
            refine q_V (As := [.int (nI (wi_p a b + 8 * ((wi_c a b))))]) (rest := [.long (wi_w8 f (wi_p a b) (wi_h0 f a b sd + lN (b - a)) ((wi_c a b)))]) ⟨hx, hb, hml, hown, hts⟩ (c_X_unsignedWord l dC dI h0 a0 a1 cB cI n ns wd f g (wi_p a b + 8 * wi_c a b) (by omega)) (cwV 1 hts gX0_wideSum_X0_unsignedWord rfl rfl rfl (by decide +kernel) ⟨Nat.le_of_ble_eq_true rfl, Nat.le_of_ble_eq_true rfl⟩) (xw_pre hP hK _) rfl hl.1 rfl (Nat.le_of_ble_eq_true rfl) dX0_wideSum_102 ⟨Nat.zero_le _, Nat.zero_le _⟩ ?_
            refine lv_ldc2 (v := -7046029288634856825) hx hb hown (hts (.constantLong RX0 122 (-7046029288634856825)) (by decide +kernel)) dX0_wideSum_105 ?_
            refine lv_lmul hx hb dX0_wideSum_108 ?_
            refine lv_lxor hx hb dX0_wideSum_109 ?_
            refine lv_bipush (v := 23) hx hb dX0_wideSum_110 (by decide) ?_
            refine q_S (As := [.long ((wi_w8 f (wi_p a b) (wi_h0 f a b sd + lN (b - a)) ((wi_c a b)) ^^^ ((wo_u f (wi_p a b + 8 * wi_c a b)) * (-7046029288634856825)))), .int (23)]) (rest := []) ⟨hx, hb, hml, hown, hts⟩ (c_X_rotatedLong l ((wi_w8 f (wi_p a b) (wi_h0 f a b sd + lN (b - a)) ((wi_c a b)) ^^^ ((wo_u f (wi_p a b + 8 * wi_c a b)) * (-7046029288634856825)))) (23)) (va_cwS 2 hts gX0_wideSum_X0_rotatedLong rfl rfl rfl (by decide +kernel) ⟨Nat.le_of_ble_eq_true rfl, Nat.le_of_ble_eq_true rfl⟩) rfl hl.1 rfl (Nat.le_of_ble_eq_true rfl) dX0_wideSum_112 ⟨Nat.zero_le _, Nat.zero_le _⟩ ?_
            refine lv_ldc2 (v := -4417276706812531889) hx hb hown (hts (.constantLong RX0 126 (-4417276706812531889)) (by decide +kernel)) dX0_wideSum_115 ?_
            refine lv_lmul hx hb dX0_wideSum_118 ?_
            refine lv_ldc2 (v := 1609587929392839161) hx hb hown (hts (.constantLong RX0 128 (1609587929392839161)) (by decide +kernel)) dX0_wideSum_119 ?_
            refine lv_ladd hx hb dX0_wideSum_122 ?_
            refine q_tl (y := (wi_o f (wi_p a b + 8 * wi_c a b) (wi_w8 f (wi_p a b) (wi_h0 f a b sd + lN (b - a)) (wi_c a b)) (wi_d a b))) (by unfold wi_o; rw [if_neg (by omega)]; rfl) ?_
            refine lv_lstore (lv' := [(6, .long ((wi_o f (wi_p a b + 8 * wi_c a b) (wi_w8 f (wi_p a b) (wi_h0 f a b sd + lN (b - a)) (wi_c a b)) (wi_d a b)))), (0, .ref h0), (1, .int (nI a)), (2, .int (nI b)), (3, .long (sd)), (5, .int (nI (b - a))), (8, .int (nI (wi_p a b + 8 * ((wi_c a b)))))]) hx hb dX0_wideSum_123 hl (by decide) rfl (fun ls hl => ?_)
            refine lv_iinc (v := nI (wi_p a b + 8 * wi_c a b + 4 * wi_d a b)) (lv' := [(8, .int (nI (wi_p a b + 8 * wi_c a b + 4 * wi_d a b))), (6, .long ((wi_o f (wi_p a b + 8 * wi_c a b) (wi_w8 f (wi_p a b) (wi_h0 f a b sd + lN (b - a)) (wi_c a b)) (wi_d a b)))), (0, .ref h0), (1, .int (nI a)), (2, .int (nI b)), (3, .long (sd)), (5, .int (nI (b - a)))]) hx hb dX0_wideSum_125 hl (k := 6) rfl (by rw [hd1]; exact nI_add _ 4) (by decide) rfl (fun ls hl => ?_)
            exact J128 ls (lv_sub hl [2, 3, 4, 5, 6, 1, 0] rfl)
        · exact absurd (nI_lt (b := 8) (by omega) (by omega)) c_52
      | succ d ih =>
        intro j hj ls hl
        have hjl : j < wi_c a b := by omega
        refine lv_iload_n hx hb dX0_wideSum_46 rfl (lv_at hl 2 rfl) ?_
        refine lv_iload hx hb dX0_wideSum_47 (lv_at hl 6 rfl) ?_
        refine lv_isub hx hb dX0_wideSum_49 ?_
        refine q_ti (y := nI (b - (wi_p a b + 8 * j))) (pk_sub (by omega)) ?_
        refine lv_bipush (v := 8) hx hb dX0_wideSum_50 (by decide) ?_
        refine lv_icmp_lt (tgt := 89) hx hb dX0_wideSum_52 (by decide) (fun c_52 => ?_) (fun c_52 => ?_)
        · exact absurd c_52 (nI_nlt (b := 8) (by omega) (by omega))
        · refine lv_lload hx hb dX0_wideSum_55 (lv_at hl 5 rfl) ?_
          refine lv_lconst (v := 0) hx hb dX0_wideSum_57 (by decide) ?_
          refine lv_aload_n hx hb dX0_wideSum_58 rfl (lv_at hl 0 rfl) ?_
          refine lv_iload hx hb dX0_wideSum_59 (lv_at hl 6 rfl) ?_
          refine q_V (As := [.int (nI (wi_p a b + 8 * (j)))]) (rest := [.long (0), .long (wi_w8 f (wi_p a b) (wi_h0 f a b sd + lN (b - a)) (j))]) ⟨hx, hb, hml, hown, hts⟩ (c_X_longWord l dC dI h0 a0 a1 cB cI n ns wd f g (wi_p a b + 8 * j) (by omega)) (cwV 1 hts gX0_wideSum_X0_longWord rfl rfl rfl (by decide +kernel) ⟨Nat.le_of_ble_eq_true rfl, Nat.le_of_ble_eq_true rfl⟩) (xw_pre hP hK _) rfl hl.1 rfl (Nat.le_of_ble_eq_true rfl) dX0_wideSum_61 ⟨Nat.zero_le _, Nat.zero_le _⟩ ?_
          refine q_S (As := [.long (0), .long ((wo_8 f (wi_p a b + 8 * j)))]) (rest := [.long (wi_w8 f (wi_p a b) (wi_h0 f a b sd + lN (b - a)) (j))]) ⟨hx, hb, hml, hown, hts⟩ (c_X_wideLane l (0) ((wo_8 f (wi_p a b + 8 * j)))) (va_cwS 2 hts gX0_wideSum_X0_wideLane rfl rfl rfl (by decide +kernel) ⟨Nat.le_of_ble_eq_true rfl, Nat.le_of_ble_eq_true rfl⟩) rfl hl.1 rfl (Nat.le_of_ble_eq_true rfl) dX0_wideSum_64 ⟨Nat.zero_le _, Nat.zero_le _⟩ ?_
          refine lv_lxor hx hb dX0_wideSum_67 ?_
          refine lv_bipush (v := 27) hx hb dX0_wideSum_68 (by decide) ?_
          refine q_S (As := [.long ((wi_w8 f (wi_p a b) (wi_h0 f a b sd + lN (b - a)) (j) ^^^ (wi_ln 0 ((wo_8 f (wi_p a b + 8 * j)))))), .int (27)]) (rest := []) ⟨hx, hb, hml, hown, hts⟩ (c_X_rotatedLong l ((wi_w8 f (wi_p a b) (wi_h0 f a b sd + lN (b - a)) (j) ^^^ (wi_ln 0 ((wo_8 f (wi_p a b + 8 * j)))))) (27)) (va_cwS 2 hts gX0_wideSum_X0_rotatedLong rfl rfl rfl (by decide +kernel) ⟨Nat.le_of_ble_eq_true rfl, Nat.le_of_ble_eq_true rfl⟩) rfl hl.1 rfl (Nat.le_of_ble_eq_true rfl) dX0_wideSum_70 ⟨Nat.zero_le _, Nat.zero_le _⟩ ?_
          refine lv_ldc2 (v := -7046029288634856825) hx hb hown (hts (.constantLong RX0 122 (-7046029288634856825)) (by decide +kernel)) dX0_wideSum_73 ?_
          refine lv_lmul hx hb dX0_wideSum_76 ?_
          refine lv_ldc2 (v := -8796714831421723037) hx hb hown (hts (.constantLong RX0 124 (-8796714831421723037)) (by decide +kernel)) dX0_wideSum_77 ?_
          refine lv_ladd hx hb dX0_wideSum_80 ?_
          refine q_tl (y := wi_w8 f (wi_p a b) (wi_h0 f a b sd + lN (b - a)) (j + 1)) (rfl) ?_
          refine lv_lstore (lv' := [(6, .long (wi_w8 f (wi_p a b) (wi_h0 f a b sd + lN (b - a)) (j + 1))), (0, .ref h0), (1, .int (nI a)), (2, .int (nI b)), (3, .long (sd)), (5, .int (nI (b - a))), (8, .int (nI (wi_p a b + 8 * (j))))]) hx hb dX0_wideSum_81 hl (by decide) rfl (fun ls hl => ?_)
          refine lv_iinc (v := nI (wi_p a b + 8 * (j + 1))) (lv' := [(8, .int (nI (wi_p a b + 8 * (j + 1)))), (6, .long (wi_w8 f (wi_p a b) (wi_h0 f a b sd + lN (b - a)) (j + 1))), (0, .ref h0), (1, .int (nI a)), (2, .int (nI b)), (3, .long (sd)), (5, .int (nI (b - a)))]) hx hb dX0_wideSum_83 hl (k := 6) rfl (by rw [show wi_p a b + 8 * (j + 1) = wi_p a b + 8 * j + 8 by omega]; exact nI_add _ 8) (by decide) rfl (fun ls hl => ?_)
          refine lv_goto (tgt := 46) hx hb dX0_wideSum_86 (by decide) ?_
          exact ih (j + 1) (by omega) ls (lv_sub hl [2, 3, 4, 5, 6, 1, 0] rfl)
    exact L46 (wi_c a b) 0 (by omega) ls (lv_sub hl [3, 4, 5, 6, 2, 1, 0] rfl)
  refine lv_iload hx hb dX0_wideSum_5 (lv_at hl 0 rfl) ?_
  refine lv_bipush (v := 32) hx hb dX0_wideSum_7 (by decide) ?_
  refine lv_icmp_lt (tgt := 22) hx hb dX0_wideSum_9 (by decide) (fun c_9 => ?_) (fun c_9 => ?_)
  · refine lv_lload_n hx hb dX0_wideSum_22 rfl (lv_at hl 4 rfl) ?_
    refine lv_ldc2 (v := 2870177450012600261) hx hb hown (hts (.constantLong RX0 109 (2870177450012600261)) (by decide +kernel)) dX0_wideSum_23 ?_
    refine lv_ladd hx hb dX0_wideSum_26 ?_
    refine q_tl (y := wi_h0 f a b sd) (by unfold wi_h0; rw [if_neg (fun q => nI_nlt (a := b - a) (b := 32) q (by omega) c_9)]) ?_
    exact J27 ls (lv_sub hl [0, 1, 2, 3, 4] rfl)
  · refine lv_aload_n hx hb dX0_wideSum_12 rfl (lv_at hl 1 rfl) ?_
    refine lv_iload_n hx hb dX0_wideSum_13 rfl (lv_at hl 2 rfl) ?_
    refine lv_iload_n hx hb dX0_wideSum_14 rfl (lv_at hl 3 rfl) ?_
    refine lv_lload_n hx hb dX0_wideSum_15 rfl (lv_at hl 4 rfl) ?_
    refine q_V (As := [.int (nI a), .int (nI b), .long (sd)]) (rest := []) ⟨hx, hb, hml, hown, hts⟩ (c_X_wideOfLanes l dC dI h0 a0 a1 cB cI n ns wd f g (a) (b) (sd) (by omega) (by omega) (hn)) (cwV 3 hts gX0_wideSum_X0_wideOfLanes rfl rfl rfl (by decide +kernel) ⟨Nat.le_of_ble_eq_true rfl, Nat.le_of_ble_eq_true rfl⟩) (xw_pre hP hK _) rfl hl.1 rfl (Nat.le_of_ble_eq_true rfl) dX0_wideSum_16 ⟨Nat.zero_le _, Nat.zero_le _⟩ ?_
    refine q_tl (y := wi_h0 f a b sd) (by unfold wi_h0; rw [if_pos (Nat.not_lt.mp (fun q => c_9 (nI_lt (a := b - a) (b := 32) q (by omega))))]) ?_
    refine lv_goto (tgt := 27) hx hb dX0_wideSum_19 (by decide) ?_
    exact J27 ls (lv_sub hl [0, 1, 2, 3, 4] rfl)
set_option maxHeartbeats 4000000 in
set_option maxRecDepth 100000 in
theorem c_X_wide (l : Launch) (dC : Nat → ClassId) (dI : Nat → Nat → Nat) (h0 a0 a1 : Nat) (cB cI : ClassId) (n : Nat) (ns : Int32) (wd : Int64) (f g : Nat → Int32) (hn : n ≤ 65536) : Met l yX0_wide wsX0_wide ({ frames := 5, cells := 0, slots := 0, locals := 130 } : Room) (va_Pc [.ref h0] (xW dC dI h0 a0 a1 cB cI n ns wd f g)) (k2_QcV (.long (wi_sum f 0 n wd))) 0 0 (fun _ => False) := by
  refine Met.ofW (cc := cX0_wide) (maxL := 1) (ret := some .long) (by decide) rfl ?_
  intro p e s m args below meth c s₁ B hml hv
  obtain ⟨rfl, hP, hK⟩ := hv
  have hx := B.exec
  have hb := B.bytes
  have hr := B.returns
  have hts := atoms_spec (ws := wsX0_wide) B.pre
  have hown : s.vm.findClass RX0 = some m.cls := findClass_of_methodNamed B.named
  have hlocks := B.notSynchronized
  have hin : ∀ w ∈ u_ws RX0 TX0 5, w ∈ wsX0_wide := by decide +kernel
  have hl := lv_entry ([.ref h0]) (n := 1) (Nat.le_of_ble_eq_true rfl)
  rw [lg_entry_eq]
  generalize (lg_sl ([.ref h0]) ++ List.replicate (1 - (lg_sl ([.ref h0])).length) Slot.unset).toArray = ls at hl ⊢
  have hl : lv_has ls 1 [(0, .ref h0)] := hl
  refine lv_aload_n hx hb dX0_wide_0 rfl (lv_at hl 0 rfl) ?_
  refine lv_iconst (v := 0) hx hb dX0_wide_1 (by decide) ?_
  refine lv_aload_n hx hb dX0_wide_2 rfl (lv_at hl 0 rfl) ?_
  refine va_get (D := (dC, dI)) (ci := 0) (v := .int (nI n)) (C := RX0) (T := TX0) (N := 5) hx hb hts hin hown hK hP 0 rfl rfl 2 (by decide) (hts (.fieldLink RX0 22 "StreamSums" "count" "I") (by decide +kernel)) (fun _ h9 => h9) rfl dX0_wide_3 ?_
  refine lv_aload_n hx hb dX0_wide_6 rfl (lv_at hl 0 rfl) ?_
  refine va_get (D := (dC, dI)) (ci := 0) (v := .long (wd)) (C := RX0) (T := TX0) (N := 5) hx hb hts hin hown hK hP 0 rfl rfl 4 (by decide) (hts (.fieldLink RX0 29 "StreamSums" "wideSeed" "J") (by decide +kernel)) (fun _ h9 => h9) rfl dX0_wide_7 ?_
  refine q_V (As := [.int (0), .int (nI n), .long (wd)]) (rest := []) ⟨hx, hb, hml, hown, hts⟩ (c_X_wideSum l dC dI h0 a0 a1 cB cI n ns wd f g (0) (n) (wd) (by omega) (by omega) (hn)) (cwV 3 hts gX0_wide_X0_wideSum rfl rfl rfl (by decide +kernel) ⟨Nat.le_of_ble_eq_true rfl, Nat.le_of_ble_eq_true rfl⟩) (xw_pre hP hK _) rfl hl.1 rfl (Nat.le_of_ble_eq_true rfl) dX0_wide_10 ⟨Nat.zero_le _, Nat.zero_le _⟩ ?_
  exact W.lret (v := (wi_sum f 0 n wd)) hx hb hr (fun t ht _ => ⟨congrArg (fun z => Outcome.returned (some (Value.long z))) (rfl), ht⟩) (fun _ h => by cases h) dX0_wide_13
set_option maxHeartbeats 4000000 in
set_option maxRecDepth 100000 in
theorem c_X_wideOf (l : Launch) (dC : Nat → ClassId) (dI : Nat → Nat → Nat) (h0 a0 a1 : Nat) (cB cI : ClassId) (n : Nat) (ns : Int32) (wd : Int64) (f g : Nat → Int32) (x : Int32) (y : Int32) (sd : Int64) (hn : n ≤ 65536) : Met l yX0_wideOf wsX0_wideOf ({ frames := 5, cells := 0, slots := 0, locals := 130 } : Room) (va_Pc [.ref h0, .int x, .int y, .long sd] (xW dC dI h0 a0 a1 cB cI n ns wd f g)) (k2_QcV (.long (an_wi n f x y sd))) 0 0 (fun _ => False) := by
  refine Met.ofW (cc := cX0_wideOf) (maxL := 5) (ret := some .long) (by decide) rfl ?_
  intro p e s m args below meth c s₁ B hml hv
  obtain ⟨rfl, hP, hK⟩ := hv
  have hx := B.exec
  have hb := B.bytes
  have hr := B.returns
  have hts := atoms_spec (ws := wsX0_wideOf) B.pre
  have hown : s.vm.findClass RX0 = some m.cls := findClass_of_methodNamed B.named
  have hlocks := B.notSynchronized
  have hl := lv_entry ([.ref h0, .int x, .int y, .long sd]) (n := 5) (Nat.le_of_ble_eq_true rfl)
  rw [lg_entry_eq]
  generalize (lg_sl ([.ref h0, .int x, .int y, .long sd]) ++ List.replicate (5 - (lg_sl ([.ref h0, .int x, .int y, .long sd])).length) Slot.unset).toArray = ls at hl ⊢
  have hl : lv_has ls 5 [(0, .ref h0), (1, .int (x)), (2, .int (y)), (3, .long (sd))] := hl
  refine lv_aload_n hx hb dX0_wideOf_0 rfl (lv_at hl 0 rfl) ?_
  refine lv_iload_n hx hb dX0_wideOf_1 rfl (lv_at hl 1 rfl) ?_
  refine lv_iload_n hx hb dX0_wideOf_2 rfl (lv_at hl 2 rfl) ?_
  refine q_V (As := [.int (x), .int (y)]) (rest := []) ⟨hx, hb, hml, hown, hts⟩ (c_X_isPart l dC dI h0 a0 a1 cB cI n ns wd f g (x) (y)) (cwV 2 hts gX0_wideOf_X0_isPart rfl rfl rfl (by decide +kernel) ⟨Nat.le_of_ble_eq_true rfl, Nat.le_of_ble_eq_true rfl⟩) (xw_pre hP hK _) rfl hl.1 rfl (Nat.le_of_ble_eq_true rfl) dX0_wideOf_3 ⟨Nat.zero_le _, Nat.zero_le _⟩ ?_
  refine lv_if_eq (tgt := 19) hx hb dX0_wideOf_6 (by decide) (fun c_6 => ?_) (fun c_6 => ?_)
  · refine lv_aload_n hx hb dX0_wideOf_19 rfl (lv_at hl 0 rfl) ?_
    refine lv_iconst (v := 0) hx hb dX0_wideOf_20 (by decide) ?_
    refine lv_iconst (v := 0) hx hb dX0_wideOf_21 (by decide) ?_
    refine lv_lload_n hx hb dX0_wideOf_22 rfl (lv_at hl 3 rfl) ?_
    refine q_V (As := [.int (0), .int (0), .long (sd)]) (rest := []) ⟨hx, hb, hml, hown, hts⟩ (c_X_wideSum l dC dI h0 a0 a1 cB cI n ns wd f g (0) (0) (sd) (by omega) (by omega) (hn)) (cwV 3 hts gX0_wideOf_X0_wideSum rfl rfl rfl (by decide +kernel) ⟨Nat.le_of_ble_eq_true rfl, Nat.le_of_ble_eq_true rfl⟩) (xw_pre hP hK _) rfl hl.1 rfl (Nat.le_of_ble_eq_true rfl) dX0_wideOf_23 ⟨Nat.zero_le _, Nat.zero_le _⟩ ?_
    exact W.lret (v := (wi_sum f 0 0 sd)) hx hb hr (fun t ht _ => ⟨congrArg (fun z => Outcome.returned (some (Value.long z))) (by unfold an_wi; rw [if_pos c_6]), ht⟩) (fun _ h => by cases h) dX0_wideOf_26
  · obtain ⟨a, b, hxa, hyb, hab, hbn⟩ := pt_some hn c_6
    refine lv_aload_n hx hb dX0_wideOf_9 rfl (lv_at hl 0 rfl) ?_
    refine lv_iload_n hx hb dX0_wideOf_10 rfl (lv_at hl 1 rfl) ?_
    refine q_ti (y := nI a) (hxa) ?_
    refine lv_iload_n hx hb dX0_wideOf_11 rfl (lv_at hl 2 rfl) ?_
    refine q_ti (y := nI b) (hyb) ?_
    refine lv_lload_n hx hb dX0_wideOf_12 rfl (lv_at hl 3 rfl) ?_
    refine q_V (As := [.int (nI a), .int (nI b), .long (sd)]) (rest := []) ⟨hx, hb, hml, hown, hts⟩ (c_X_wideSum l dC dI h0 a0 a1 cB cI n ns wd f g (a) (b) (sd) (by omega) (by omega) (hn)) (cwV 3 hts gX0_wideOf_X0_wideSum rfl rfl rfl (by decide +kernel) ⟨Nat.le_of_ble_eq_true rfl, Nat.le_of_ble_eq_true rfl⟩) (xw_pre hP hK _) rfl hl.1 rfl (Nat.le_of_ble_eq_true rfl) dX0_wideOf_13 ⟨Nat.zero_le _, Nat.zero_le _⟩ ?_
    refine lv_goto (tgt := 26) hx hb dX0_wideOf_16 (by decide) ?_
    exact W.lret (v := (wi_sum f a b sd)) hx hb hr (fun t ht _ => ⟨congrArg (fun z => Outcome.returned (some (Value.long z))) (by unfold an_wi; rw [if_neg c_6, hxa, hyb, nI_clamp (by omega), nI_clamp (by omega)]), ht⟩) (fun _ h => by cases h) dX0_wideOf_26
