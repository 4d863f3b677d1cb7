set_option maxHeartbeats 4000000 in
set_option maxRecDepth 100000 in
theorem c_X_narrowOfLanes (l : Launch) (dC : Nat → ClassId) (dI : Nat → Nat → Nat) (h0 a0 a1 : Nat) (cB cI : ClassId) (n : Nat) (ns : Int32) (wd : Int64) (f g : Nat → Int32) (a : Nat) (b : Nat) (sd : Int32) (hab : a ≤ b) (hbn : b ≤ n) (hn : n ≤ 65536) : Met l yX0_narrowOfLanes wsX0_narrowOfLanes ({ frames := 2, cells := 0, slots := 0, locals := 42 } : Room) (va_Pc [.ref h0, .int (nI a), .int (nI b), .int sd] (xW dC dI h0 a0 a1 cB cI n ns wd f g)) (k2_QcV (.int (na_la f a b sd))) 0 0 (fun _ => False) := by
  refine Met.ofW (cc := cX0_narrowOfLanes) (maxL := 9) (ret := some .int) (by decide) rfl ?_
  intro p e s m args below meth c s₁ B hml hv
  obtain ⟨rfl, hP, hK⟩ := hv
  have hx := B.exec
  have hb := B.bytes
  have hr := B.returns
  have hts := atoms_spec (ws := wsX0_narrowOfLanes) B.pre
  have hown : s.vm.findClass RX0 = some m.cls := findClass_of_methodNamed B.named
  have hlocks := B.notSynchronized
  have hl := lv_entry ([.ref h0, .int (nI a), .int (nI b), .int sd]) (n := 9) (Nat.le_of_ble_eq_true rfl)
  rw [lg_entry_eq]
  generalize (lg_sl ([.ref h0, .int (nI a), .int (nI b), .int sd]) ++ List.replicate (9 - (lg_sl ([.ref h0, .int (nI a), .int (nI b), .int sd])).length) Slot.unset).toArray = ls at hl ⊢
  have hl : lv_has ls 9 [(0, .ref h0), (1, .int (nI a)), (2, .int (nI b)), (3, .int (sd))] := hl
  refine lv_iload_n hx hb dX0_narrowOfLanes_0 rfl (lv_at hl 3 rfl) ?_
  refine lv_ldc (v := -1640531535) hx hb hown (hts (.constant RX0 98 (-1640531535)) (by decide +kernel)) dX0_narrowOfLanes_1 ?_
  refine lv_iadd hx hb dX0_narrowOfLanes_3 ?_
  refine lv_ldc (v := -2048144777) hx hb hown (hts (.constant RX0 102 (-2048144777)) (by decide +kernel)) dX0_narrowOfLanes_4 ?_
  refine lv_iadd hx hb dX0_narrowOfLanes_6 ?_
  refine lv_istore (lv' := [(4, .int (((sd + (-1640531535)) + (-2048144777)))), (0, .ref h0), (1, .int (nI a)), (2, .int (nI b)), (3, .int (sd))]) hx hb dX0_narrowOfLanes_7 hl (by decide) rfl (fun ls hl => ?_)
  refine lv_iload_n hx hb dX0_narrowOfLanes_9 rfl (lv_at hl 4 rfl) ?_
  refine lv_ldc (v := -2048144777) hx hb hown (hts (.constant RX0 102 (-2048144777)) (by decide +kernel)) dX0_narrowOfLanes_10 ?_
  refine lv_iadd hx hb dX0_narrowOfLanes_12 ?_
  refine lv_istore (lv' := [(5, .int ((sd + (-2048144777)))), (4, .int (((sd + (-1640531535)) + (-2048144777)))), (0, .ref h0), (1, .int (nI a)), (2, .int (nI b)), (3, .int (sd))]) hx hb dX0_narrowOfLanes_13 hl (by decide) rfl (fun ls hl => ?_)
  refine lv_iload_n hx hb dX0_narrowOfLanes_15 rfl (lv_at hl 5 rfl) ?_
  refine lv_istore (lv' := [(6, .int (sd)), (5, .int ((sd + (-2048144777)))), (4, .int (((sd + (-1640531535)) + (-2048144777)))), (0, .ref h0), (1, .int (nI a)), (2, .int (nI b)), (3, .int (sd))]) hx hb dX0_narrowOfLanes_16 hl (by decide) rfl (fun ls hl => ?_)
  refine lv_iload_n hx hb dX0_narrowOfLanes_18 rfl (lv_at hl 6 rfl) ?_
  refine lv_ldc (v := -1640531535) hx hb hown (hts (.constant RX0 98 (-1640531535)) (by decide +kernel)) dX0_narrowOfLanes_19 ?_
  refine lv_isub hx hb dX0_narrowOfLanes_21 ?_
  refine lv_istore (lv' := [(7, .int ((sd - (-1640531535)))), (6, .int (sd)), (5, .int ((sd + (-2048144777)))), (4, .int (((sd + (-1640531535)) + (-2048144777)))), (0, .ref h0), (1, .int (nI a)), (2, .int (nI b)), (3, .int (sd))]) hx hb dX0_narrowOfLanes_22 hl (by decide) rfl (fun ls hl => ?_)
  refine lv_iload_n hx hb dX0_narrowOfLanes_24 rfl (lv_at hl 5 rfl) ?_
  refine lv_istore (lv' := [(8, .int (nI a)), (7, .int ((sd - (-1640531535)))), (6, .int (sd)), (5, .int ((sd + (-2048144777)))), (4, .int (((sd + (-1640531535)) + (-2048144777)))), (0, .ref h0), (1, .int (nI a)), (2, .int (nI b)), (3, .int (sd))]) hx hb dX0_narrowOfLanes_25 hl (by decide) rfl (fun ls hl => ?_)
  have L27 : ∀ (d j : Nat), j + d = (b - a) / 16 → ∀ ls : Array Slot, lv_has ls 9 [(0, .ref h0), (1, .int (nI a)), (2, .int (nI b)), (3, .int (sd)), (4, .int (na_fo f a 0 (sd + (-1640531535) + (-2048144777)) (j))), (5, .int (na_fo f a 1 (sd + (-2048144777)) (j))), (6, .int (na_fo f a 2 sd (j))), (7, .int (na_fo f a 3 (sd - (-1640531535)) (j))), (8, .int (nI (a + 16 * (j))))] → W p l e (headSpec wsX0_narrowOfLanes ({ frames := 2, cells := 0, slots := 0, locals := 42 } : Room)).room s m [Value.ref h0, .int (nI a), .int (nI b), .int sd].toArray below meth c s.heap [] 0 0 (MQ below (k2_QcV (.int (na_la f a b sd))) [Value.ref h0, .int (nI a), .int (nI b), .int sd].toArray s 0 0 (fun _ => False)) (F0 m 27 ls []) := by
    intro d
    induction d with
    | zero =>
      intro j hj ls hl
      obtain rfl : (b - a) / 16 = j := by omega
      refine lv_iload_n hx hb dX0_narrowOfLanes_27 rfl (lv_at hl 2 rfl) ?_
      refine lv_iload hx hb dX0_narrowOfLanes_28 (lv_at hl 8 rfl) ?_
      refine lv_isub hx hb dX0_narrowOfLanes_30 ?_
      refine q_ti (y := nI (b - (a + 16 * ((b - a) / 16)))) (pk_sub (by omega)) ?_
      refine lv_bipush (v := 16) hx hb dX0_narrowOfLanes_31 (by decide) ?_
      refine lv_icmp_lt (tgt := 102) hx hb dX0_narrowOfLanes_33 (by decide) (fun c_33 => ?_) (fun c_33 => ?_)
      · refine lv_iload hx hb dX0_narrowOfLanes_102 (lv_at hl 4 rfl) ?_
        refine lv_iconst (v := 1) hx hb dX0_narrowOfLanes_104 (by decide) ?_
        refine q_S (As := [.int (na_fo f a 0 (sd + (-1640531535) + (-2048144777)) (((b - a) / 16))), .int (1)]) (rest := []) ⟨hx, hb, hml, hown, hts⟩ (c_X_rotated l (na_fo f a 0 (sd + (-1640531535) + (-2048144777)) (((b - a) / 16))) (1)) (va_cwS 2 hts gX0_narrowOfLanes_X0_rotated rfl rfl rfl (by decide +kernel) ⟨Nat.le_of_ble_eq_true rfl, Nat.le_of_ble_eq_true rfl⟩) rfl hl.1 rfl (Nat.le_of_ble_eq_true rfl) dX0_narrowOfLanes_105 ⟨Nat.zero_le _, Nat.zero_le _⟩ ?_
        refine lv_iload hx hb dX0_narrowOfLanes_108 (lv_at hl 5 rfl) ?_
        refine lv_bipush (v := 7) hx hb dX0_narrowOfLanes_110 (by decide) ?_
        refine q_S (As := [.int (na_fo f a 1 (sd + (-2048144777)) (((b - a) / 16))), .int (7)]) (rest := [.int ((na_rt (na_fo f a 0 (sd + (-1640531535) + (-2048144777)) (((b - a) / 16))) 1))]) ⟨hx, hb, hml, hown, hts⟩ (c_X_rotated l (na_fo f a 1 (sd + (-2048144777)) (((b - a) / 16))) (7)) (va_cwS 2 hts gX0_narrowOfLanes_X0_rotated rfl rfl rfl (by decide +kernel) ⟨Nat.le_of_ble_eq_true rfl, Nat.le_of_ble_eq_true rfl⟩) rfl hl.1 rfl (Nat.le_of_ble_eq_true rfl) dX0_narrowOfLanes_112 ⟨Nat.zero_le _, Nat.zero_le _⟩ ?_
        refine lv_iadd hx hb dX0_narrowOfLanes_115 ?_
        refine lv_iload hx hb dX0_narrowOfLanes_116 (lv_at hl 6 rfl) ?_
        refine lv_bipush (v := 12) hx hb dX0_narrowOfLanes_118 (by decide) ?_
        refine q_S (As := [.int (na_fo f a 2 sd (((b - a) / 16))), .int (12)]) (rest := [.int (((na_rt (na_fo f a 0 (sd + (-1640531535) + (-2048144777)) (((b - a) / 16))) 1) + (na_rt (na_fo f a 1 (sd + (-2048144777)) (((b - a) / 16))) 7)))]) ⟨hx, hb, hml, hown, hts⟩ (c_X_rotated l (na_fo f a 2 sd (((b - a) / 16))) (12)) (va_cwS 2 hts gX0_narrowOfLanes_X0_rotated rfl rfl rfl (by decide +kernel) ⟨Nat.le_of_ble_eq_true rfl, Nat.le_of_ble_eq_true rfl⟩) rfl hl.1 rfl (Nat.le_of_ble_eq_true rfl) dX0_narrowOfLanes_120 ⟨Nat.zero_le _, Nat.zero_le _⟩ ?_
        refine lv_iadd hx hb dX0_narrowOfLanes_123 ?_
        refine lv_iload hx hb dX0_narrowOfLanes_124 (lv_at hl 7 rfl) ?_
        refine lv_bipush (v := 18) hx hb dX0_narrowOfLanes_126 (by decide) ?_
        refine q_S (As := [.int (na_fo f a 3 (sd - (-1640531535)) (((b - a) / 16))), .int (18)]) (rest := [.int ((((na_rt (na_fo f a 0 (sd + (-1640531535) + (-2048144777)) (((b - a) / 16))) 1) + (na_rt (na_fo f a 1 (sd + (-2048144777)) (((b - a) / 16))) 7)) + (na_rt (na_fo f a 2 sd (((b - a) / 16))) 12)))]) ⟨hx, hb, hml, hown, hts⟩ (c_X_rotated l (na_fo f a 3 (sd - (-1640531535)) (((b - a) / 16))) (18)) (va_cwS 2 hts gX0_narrowOfLanes_X0_rotated rfl rfl rfl (by decide +kernel) ⟨Nat.le_of_ble_eq_true rfl, Nat.le_of_ble_eq_true rfl⟩) rfl hl.1 rfl (Nat.le_of_ble_eq_true rfl) dX0_narrowOfLanes_128 ⟨Nat.zero_le _, Nat.zero_le _⟩ ?_
        refine lv_iadd hx hb dX0_narrowOfLanes_131 ?_
        exact W.iret (v := ((((na_rt (na_fo f a 0 (sd + (-1640531535) + (-2048144777)) (((b - a) / 16))) 1) + (na_rt (na_fo f a 1 (sd + (-2048144777)) (((b - a) / 16))) 7)) + (na_rt (na_fo f a 2 sd (((b - a) / 16))) 12)) + (na_rt (na_fo f a 3 (sd - (-1640531535)) (((b - a) / 16))) 18))) hx hb hr (fun t ht _ => ⟨congrArg (fun z => Outcome.returned (some (Value.int z))) (rfl), ht⟩) (fun _ h => by cases h) dX0_narrowOfLanes_132
      · exact absurd (nI_lt (b := 16) (by omega) (by omega)) c_33
    | succ d ih =>
      intro j hj ls hl
      have hjl : j < (b - a) / 16 := by omega
      refine lv_iload_n hx hb dX0_narrowOfLanes_27 rfl (lv_at hl 2 rfl) ?_
      refine lv_iload hx hb dX0_narrowOfLanes_28 (lv_at hl 8 rfl) ?_
      refine lv_isub hx hb dX0_narrowOfLanes_30 ?_
      refine q_ti (y := nI (b - (a + 16 * j))) (pk_sub (by omega)) ?_
      refine lv_bipush (v := 16) hx hb dX0_narrowOfLanes_31 (by decide) ?_
      refine lv_icmp_lt (tgt := 102) hx hb dX0_narrowOfLanes_33 (by decide) (fun c_33 => ?_) (fun c_33 => ?_)
      · exact absurd c_33 (nI_nlt (b := 16) (by omega) (by omega))
      · refine lv_iload hx hb dX0_narrowOfLanes_36 (lv_at hl 4 rfl) ?_
        refine lv_aload_n hx hb dX0_narrowOfLanes_38 rfl (lv_at hl 0 rfl) ?_
        refine lv_iload hx hb dX0_narrowOfLanes_39 (lv_at hl 8 rfl) ?_
        refine q_V (As := [.int (nI (a + 16 * (j)))]) (rest := [.int (na_fo f a 0 (sd + (-1640531535) + (-2048144777)) (j))]) ⟨hx, hb, hml, hown, hts⟩ (c_X_word l dC dI h0 a0 a1 cB cI n ns wd f g (a + 16 * j) (by omega)) (cwV 1 hts gX0_narrowOfLanes_X0_word rfl rfl rfl (by decide +kernel) ⟨Nat.le_of_ble_eq_true rfl, Nat.le_of_ble_eq_true rfl⟩) (xw_pre hP hK _) rfl hl.1 rfl (Nat.le_of_ble_eq_true rfl) dX0_narrowOfLanes_41 ⟨Nat.zero_le _, Nat.zero_le _⟩ ?_
        refine q_S (As := [.int (na_fo f a 0 (sd + (-1640531535) + (-2048144777)) (j)), .int ((wo_4 f (a + 16 * j)))]) (rest := []) ⟨hx, hb, hml, hown, hts⟩ (c_X_narrowLane l (na_fo f a 0 (sd + (-1640531535) + (-2048144777)) (j)) ((wo_4 f (a + 16 * j)))) (va_cwS 2 hts gX0_narrowOfLanes_X0_narrowLane rfl rfl rfl (by decide +kernel) ⟨Nat.le_of_ble_eq_true rfl, Nat.le_of_ble_eq_true rfl⟩) rfl hl.1 rfl (Nat.le_of_ble_eq_true rfl) dX0_narrowOfLanes_44 ⟨Nat.zero_le _, Nat.zero_le _⟩ ?_
        refine q_ti (y := na_fo f a 0 (sd + (-1640531535) + (-2048144777)) (j + 1)) (rfl) ?_
        refine lv_istore (lv' := [(4, .int (na_fo f a 0 (sd + (-1640531535) + (-2048144777)) (j + 1))), (0, .ref h0), (1, .int (nI a)), (2, .int (nI b)), (3, .int (sd)), (5, .int (na_fo f a 1 (sd + (-2048144777)) (j))), (6, .int (na_fo f a 2 sd (j))), (7, .int (na_fo f a 3 (sd - (-1640531535)) (j))), (8, .int (nI (a + 16 * (j))))]) hx hb dX0_narrowOfLanes_47 hl (by decide) rfl (fun ls hl => ?_)
        refine lv_iload hx hb dX0_narrowOfLanes_49 (lv_at hl 5 rfl) ?_
        refine lv_aload_n hx hb dX0_narrowOfLanes_51 rfl (lv_at hl 1 rfl) ?_
        refine lv_iload hx hb dX0_narrowOfLanes_52 (lv_at hl 8 rfl) ?_
        refine lv_iconst (v := 4) hx hb dX0_narrowOfLanes_54 (by decide) ?_
        refine lv_iadd hx hb dX0_narrowOfLanes_55 ?_
        refine q_ti (y := nI (a + 16 * j + 4)) (nI_add _ 4) ?_
        refine q_V (As := [.int (nI (a + 16 * j + 4))]) (rest := [.int (na_fo f a 1 (sd + (-2048144777)) (j))]) ⟨hx, hb, hml, hown, hts⟩ (c_X_word l dC dI h0 a0 a1 cB cI n ns wd f g (a + 16 * j + 4) (by omega)) (cwV 1 hts gX0_narrowOfLanes_X0_word rfl rfl rfl (by decide +kernel) ⟨Nat.le_of_ble_eq_true rfl, Nat.le_of_ble_eq_true rfl⟩) (xw_pre hP hK _) rfl hl.1 rfl (Nat.le_of_ble_eq_true rfl) dX0_narrowOfLanes_56 ⟨Nat.zero_le _, Nat.zero_le _⟩ ?_
        refine q_S (As := [.int (na_fo f a 1 (sd + (-2048144777)) (j)), .int ((wo_4 f (a + 16 * j + 4)))]) (rest := []) ⟨hx, hb, hml, hown, hts⟩ (c_X_narrowLane l (na_fo f a 1 (sd + (-2048144777)) (j)) ((wo_4 f (a + 16 * j + 4)))) (va_cwS 2 hts gX0_narrowOfLanes_X0_narrowLane rfl rfl rfl (by decide +kernel) ⟨Nat.le_of_ble_eq_true rfl, Nat.le_of_ble_eq_true rfl⟩) rfl hl.1 rfl (Nat.le_of_ble_eq_true rfl) dX0_narrowOfLanes_59 ⟨Nat.zero_le _, Nat.zero_le _⟩ ?_
        refine q_ti (y := na_fo f a 1 (sd + (-2048144777)) (j + 1)) (rfl) ?_
        refine lv_istore (lv' := [(5, .int (na_fo f a 1 (sd + (-2048144777)) (j + 1))), (4, .int (na_fo f a 0 (sd + (-1640531535) + (-2048144777)) (j + 1))), (0, .ref h0), (1, .int (nI a)), (2, .int (nI b)), (3, .int (sd)), (6, .int (na_fo f a 2 sd (j))), (7, .int (na_fo f a 3 (sd - (-1640531535)) (j))), (8, .int (nI (a + 16 * (j))))]) hx hb dX0_narrowOfLanes_62 hl (by decide) rfl (fun ls hl => ?_)
        refine lv_iload hx hb dX0_narrowOfLanes_64 (lv_at hl 6 rfl) ?_
        refine lv_aload_n hx hb dX0_narrowOfLanes_66 rfl (lv_at hl 2 rfl) ?_
        refine lv_iload hx hb dX0_narrowOfLanes_67 (lv_at hl 8 rfl) ?_
        refine lv_bipush (v := 8) hx hb dX0_narrowOfLanes_69 (by decide) ?_
        refine lv_iadd hx hb dX0_narrowOfLanes_71 ?_
        refine q_ti (y := nI (a + 16 * j + 8)) (nI_add _ 8) ?_
        refine q_V (As := [.int (nI (a + 16 * j + 8))]) (rest := [.int (na_fo f a 2 sd (j))]) ⟨hx, hb, hml, hown, hts⟩ (c_X_word l dC dI h0 a0 a1 cB cI n ns wd f g (a + 16 * j + 8) (by omega)) (cwV 1 hts gX0_narrowOfLanes_X0_word rfl rfl rfl (by decide +kernel) ⟨Nat.le_of_ble_eq_true rfl, Nat.le_of_ble_eq_true rfl⟩) (xw_pre hP hK _) rfl hl.1 rfl (Nat.le_of_ble_eq_true rfl) dX0_narrowOfLanes_72 ⟨Nat.zero_le _, Nat.zero_le _⟩ ?_
        refine q_S (As := [.int (na_fo f a 2 sd (j)), .int ((wo_4 f (a + 16 * j + 8)))]) (rest := []) ⟨hx, hb, hml, hown, hts⟩ (c_X_narrowLane l (na_fo f a 2 sd (j)) ((wo_4 f (a + 16 * j + 8)))) (va_cwS 2 hts gX0_narrowOfLanes_X0_narrowLane rfl rfl rfl (by decide +kernel) ⟨Nat.le_of_ble_eq_true rfl, Nat.le_of_ble_eq_true rfl⟩) rfl hl.1 rfl (Nat.le_of_ble_eq_true rfl) dX0_narrowOfLanes_75 ⟨Nat.zero_le _, Nat.zero_le _⟩ ?_
        refine q_ti (y := na_fo f a 2 sd (j + 1)) (rfl) ?_
        refine lv_istore (lv' := [(6, .int (na_fo f a 2 sd (j + 1))), (5, .int (na_fo f a 1 (sd + (-2048144777)) (j + 1))), (4, .int (na_fo f a 0 (sd + (-1640531535) + (-2048144777)) (j + 1))), (0, .ref h0), (1, .int (nI a)), (2, .int (nI b)), (3, .int (sd)), (7, .int (na_fo f a 3 (sd - (-1640531535)) (j))), (8, .int (nI (a + 16 * (j))))]) hx hb dX0_narrowOfLanes_78 hl (by decide) rfl (fun ls hl => ?_)
        refine lv_iload hx hb dX0_narrowOfLanes_80 (lv_at hl 7 rfl) ?_
        refine lv_aload_n hx hb dX0_narrowOfLanes_82 rfl (lv_at hl 3 rfl) ?_
        refine lv_iload hx hb dX0_narrowOfLanes_83 (lv_at hl 8 rfl) ?_
        refine lv_bipush (v := 12) hx hb dX0_narrowOfLanes_85 (by decide) ?_
        refine lv_iadd hx hb dX0_narrowOfLanes_87 ?_
        refine q_ti (y := nI (a + 16 * j + 12)) (nI_add _ 12) ?_
        refine q_V (As := [.int (nI (a + 16 * j + 12))]) (rest := [.int (na_fo f a 3 (sd - (-1640531535)) (j))]) ⟨hx, hb, hml, hown, hts⟩ (c_X_word l dC dI h0 a0 a1 cB cI n ns wd f g (a + 16 * j + 12) (by omega)) (cwV 1 hts gX0_narrowOfLanes_X0_word rfl rfl rfl (by decide +kernel) ⟨Nat.le_of_ble_eq_true rfl, Nat.le_of_ble_eq_true rfl⟩) (xw_pre hP hK _) rfl hl.1 rfl (Nat.le_of_ble_eq_true rfl) dX0_narrowOfLanes_88 ⟨Nat.zero_le _, Nat.zero_le _⟩ ?_
        refine q_S (As := [.int (na_fo f a 3 (sd - (-1640531535)) (j)), .int ((wo_4 f (a + 16 * j + 12)))]) (rest := []) ⟨hx, hb, hml, hown, hts⟩ (c_X_narrowLane l (na_fo f a 3 (sd - (-1640531535)) (j)) ((wo_4 f (a + 16 * j + 12)))) (va_cwS 2 hts gX0_narrowOfLanes_X0_narrowLane rfl rfl rfl (by decide +kernel) ⟨Nat.le_of_ble_eq_true rfl, Nat.le_of_ble_eq_true rfl⟩) rfl hl.1 rfl (Nat.le_of_ble_eq_true rfl) dX0_narrowOfLanes_91 ⟨Nat.zero_le _, Nat.zero_le _⟩ ?_
        refine q_ti (y := na_fo f a 3 (sd - (-1640531535)) (j + 1)) (rfl) ?_
        refine lv_istore (lv' := [(7, .int (na_fo f a 3 (sd - (-1640531535)) (j + 1))), (6, .int (na_fo f a 2 sd (j + 1))), (5, .int (na_fo f a 1 (sd + (-2048144777)) (j + 1))), (4, .int (na_fo f a 0 (sd + (-1640531535) + (-2048144777)) (j + 1))), (0, .ref h0), (1, .int (nI a)), (2, .int (nI b)), (3, .int (sd)), (8, .int (nI (a + 16 * (j))))]) hx hb dX0_narrowOfLanes_94 hl (by decide) rfl (fun ls hl => ?_)
        refine lv_iinc (v := nI (a + 16 * (j + 1))) (lv' := [(8, .int (nI (a + 16 * (j + 1)))), (7, .int (na_fo f a 3 (sd - (-1640531535)) (j + 1))), (6, .int (na_fo f a 2 sd (j + 1))), (5, .int (na_fo f a 1 (sd + (-2048144777)) (j + 1))), (4, .int (na_fo f a 0 (sd + (-1640531535) + (-2048144777)) (j + 1))), (0, .ref h0), (1, .int (nI a)), (2, .int (nI b)), (3, .int (sd))]) hx hb dX0_narrowOfLanes_96 hl (k := 8) rfl (by rw [show a + 16 * (j + 1) = a + 16 * j + 16 by omega]; exact nI_add _ 16) (by decide) rfl (fun ls hl => ?_)
        refine lv_goto (tgt := 27) hx hb dX0_narrowOfLanes_99 (by decide) ?_
        exact ih (j + 1) (by omega) ls (lv_sub hl [5, 6, 7, 8, 4, 3, 2, 1, 0] rfl)
  exact L27 ((b - a) / 16) 0 (by omega) ls (lv_sub hl [5, 6, 7, 8, 4, 3, 2, 1, 0] rfl)
set_option maxHeartbeats 4000000 in
set_option maxRecDepth 100000 in
theorem c_X_narrowSum (l : Launch) (dC : Nat → ClassId) (dI : Nat → Nat → Nat) (h0 a0 a1 : Nat) (cB cI : ClassId) (n : Nat) (ns : Int32) (wd : Int64) (f g : Nat → Int32) (a : Nat) (b : Nat) (sd : Int32) (hab : a ≤ b) (hbn : b ≤ n) (hn : n ≤ 65536) : Met l yX0_narrowSum wsX0_narrowSum ({ frames := 3, cells := 0, slots := 0, locals := 70 } : Room) (va_Pc [.ref h0, .int (nI a), .int (nI b), .int sd] (xW dC dI h0 a0 a1 cB cI n ns wd f g)) (k2_QcV (.int (na_sum f a b sd))) 0 0 (fun _ => False) := by
  refine Met.ofW (cc := cX0_narrowSum) (maxL := 7) (ret := some .int) (by decide) rfl ?_
  intro p e s m args below meth c s₁ B hml hv
  obtain ⟨rfl, hP, hK⟩ := hv
  have hx := B.exec
  have hb := B.bytes
  have hr := B.returns
  have hts := atoms_spec (ws := wsX0_narrowSum) B.pre
  have hown : s.vm.findClass RX0 = some m.cls := findClass_of_methodNamed B.named
  have hlocks := B.notSynchronized
  have hl := lv_entry ([.ref h0, .int (nI a), .int (nI b), .int sd]) (n := 7) (Nat.le_of_ble_eq_true rfl)
  rw [lg_entry_eq]
  generalize (lg_sl ([.ref h0, .int (nI a), .int (nI b), .int sd]) ++ List.replicate (7 - (lg_sl ([.ref h0, .int (nI a), .int (nI b), .int sd])).length) Slot.unset).toArray = ls at hl ⊢
  have hl : lv_has ls 7 [(0, .ref h0), (1, .int (nI a)), (2, .int (nI b)), (3, .int (sd))] := hl
  have hpc := na_pc hab
  obtain ⟨hp1, hp2, hp3, hp4⟩ := hpc
  refine lv_iload_n hx hb dX0_narrowSum_0 rfl (lv_at hl 2 rfl) ?_
  refine lv_iload_n hx hb dX0_narrowSum_1 rfl (lv_at hl 1 rfl) ?_
  refine lv_isub hx hb dX0_narrowSum_2 ?_
  refine q_ti (y := nI (b - a)) (pk_sub hab) ?_
  refine lv_istore (lv' := [(4, .int (nI (b - a))), (0, .ref h0), (1, .int (nI a)), (2, .int (nI b)), (3, .int (sd))]) hx hb dX0_narrowSum_3 hl (by decide) rfl (fun ls hl => ?_)
  have J26 : ∀ ls : Array Slot, lv_has ls 7 [(4, .int (nI (b - a))), (0, .ref h0), (1, .int (nI a)), (2, .int (nI b)), (3, .int (sd))] → W p l e (headSpec wsX0_narrowSum ({ frames := 3, cells := 0, slots := 0, locals := 70 } : Room)).room s m [Value.ref h0, .int (nI a), .int (nI b), .int sd].toArray below meth c s.heap [] 0 0 (MQ below (k2_QcV (.int (na_sum f a b sd))) [Value.ref h0, .int (nI a), .int (nI b), .int sd].toArray s 0 0 (fun _ => False)) (F0 m 26 ls [.int (na_h0 f a b sd)]) := by
    intro ls hl
    refine lv_istore (lv' := [(5, .int (na_h0 f a b sd)), (4, .int (nI (b - a))), (0, .ref h0), (1, .int (nI a)), (2, .int (nI b)), (3, .int (sd))]) hx hb dX0_narrowSum_26 hl (by decide) rfl (fun ls hl => ?_)
    refine lv_iload hx hb dX0_narrowSum_28 (lv_at hl 0 rfl) ?_
    refine lv_iload hx hb dX0_narrowSum_30 (lv_at hl 1 rfl) ?_
    refine lv_iadd hx hb dX0_narrowSum_32 ?_
    refine lv_istore (lv' := [(5, .int ((na_h0 f a b sd + nI (b - a)))), (4, .int (nI (b - a))), (0, .ref h0), (1, .int (nI a)), (2, .int (nI b)), (3, .int (sd))]) hx hb dX0_narrowSum_33 hl (by decide) rfl (fun ls hl => ?_)
    refine lv_iload_n hx hb dX0_narrowSum_35 rfl (lv_at hl 4 rfl) ?_
    refine lv_iload hx hb dX0_narrowSum_36 (lv_at hl 1 rfl) ?_
    refine lv_bipush (v := 16) hx hb dX0_narrowSum_38 (by decide) ?_
    refine lv_irem hx hb dX0_narrowSum_40 (by decide) ?_
    refine q_ti (y := nI ((b - a) % 16)) (pk_rem (d := 16) (by omega) (by omega) (by omega)) ?_
    refine lv_isub hx hb dX0_narrowSum_41 ?_
    refine q_ti (y := nI (na_p a b)) (pk_sub (by omega)) ?_
    refine lv_istore (lv' := [(6, .int (nI (na_p a b))), (5, .int ((na_h0 f a b sd + nI (b - a)))), (4, .int (nI (b - a))), (0, .ref h0), (1, .int (nI a)), (2, .int (nI b)), (3, .int (sd))]) hx hb dX0_narrowSum_42 hl (by decide) rfl (fun ls hl => ?_)
    have L44 : ∀ (d j : Nat), j + d = na_c a b → ∀ ls : Array Slot, lv_has ls 7 [(0, .ref h0), (1, .int (nI a)), (2, .int (nI b)), (3, .int (sd)), (4, .int (nI (b - a))), (5, .int (na_w4 f (na_p a b) (na_h0 f a b sd + nI (b - a)) (j))), (6, .int (nI (na_p a b + 4 * (j))))] → W p l e (headSpec wsX0_narrowSum ({ frames := 3, cells := 0, slots := 0, locals := 70 } : Room)).room s m [Value.ref h0, .int (nI a), .int (nI b), .int sd].toArray below meth c s.heap [] 0 0 (MQ below (k2_QcV (.int (na_sum f a b sd))) [Value.ref h0, .int (nI a), .int (nI b), .int sd].toArray s 0 0 (fun _ => False)) (F0 m 44 ls []) := by
      intro d
      induction d with
      | zero =>
        intro j hj ls hl
        obtain rfl : na_c a b = j := by omega
        refine lv_iload_n hx hb dX0_narrowSum_44 rfl (lv_at hl 2 rfl) ?_
        refine lv_iload hx hb dX0_narrowSum_45 (lv_at hl 6 rfl) ?_
        refine lv_isub hx hb dX0_narrowSum_47 ?_
        refine q_ti (y := nI (b - (na_p a b + 4 * na_c a b))) (pk_sub (by omega)) ?_
        refine lv_iconst (v := 4) hx hb dX0_narrowSum_48 (by decide) ?_
        refine lv_icmp_lt (tgt := 80) hx hb dX0_narrowSum_49 (by decide) (fun c_49 => ?_) (fun c_49 => ?_)
        · have L80 : ∀ (d j : Nat), j + d = b - (na_p a b + 4 * na_c a b) → ∀ ls : Array Slot, lv_has ls 7 [(0, .ref h0), (1, .int (nI a)), (2, .int (nI b)), (3, .int (sd)), (4, .int (nI (b - a))), (5, .int (na_w1 f (na_p a b + 4 * na_c a b) (na_w4 f (na_p a b) (na_h0 f a b sd + nI (b - a)) (na_c a b)) (j))), (6, .int (nI ((na_p a b + 4 * na_c a b) + (j))))] → W p l e (headSpec wsX0_narrowSum ({ frames := 3, cells := 0, slots := 0, locals := 70 } : Room)).room s m [Value.ref h0, .int (nI a), .int (nI b), .int sd].toArray below meth c s.heap [] 0 0 (MQ below (k2_QcV (.int (na_sum f a b sd))) [Value.ref h0, .int (nI a), .int (nI b), .int sd].toArray s 0 0 (fun _ => False)) (F0 m 80 ls []) := by
            intro d
            induction d with
            | zero =>
              intro j hj ls hl
              obtain rfl : b - (na_p a b + 4 * na_c a b) = j := by omega
              refine lv_iload hx hb dX0_narrowSum_80 (lv_at hl 6 rfl) ?_
              refine lv_iload_n hx hb dX0_narrowSum_82 rfl (lv_at hl 2 rfl) ?_
              refine lv_icmp_ge (tgt := 114) hx hb dX0_narrowSum_83 (by decide) (fun c_83 => ?_) (fun c_83 => ?_)
              · refine lv_iload hx hb dX0_narrowSum_114 (lv_at hl 5 rfl) ?_
                refine q_S (As := [.int (na_w1 f (na_p a b + 4 * na_c a b) (na_w4 f (na_p a b) (na_h0 f a b sd + nI (b - a)) (na_c a b)) ((b - (na_p a b + 4 * na_c a b))))]) (rest := []) ⟨hx, hb, hml, hown, hts⟩ (c_X_narrowStirred l (na_w1 f (na_p a b + 4 * na_c a b) (na_w4 f (na_p a b) (na_h0 f a b sd + nI (b - a)) (na_c a b)) ((b - (na_p a b + 4 * na_c a b))))) (va_cwS 1 hts gX0_narrowSum_X0_narrowStirred rfl rfl rfl (by decide +kernel) ⟨Nat.le_of_ble_eq_true rfl, Nat.le_of_ble_eq_true rfl⟩) rfl hl.1 rfl (Nat.le_of_ble_eq_true rfl) dX0_narrowSum_116 ⟨Nat.zero_le _, Nat.zero_le _⟩ ?_
                exact W.iret (v := (na_s3 (na_s2 (na_s1 (na_w1 f (na_p a b + 4 * na_c a b) (na_w4 f (na_p a b) (na_h0 f a b sd + nI (b - a)) (na_c a b)) ((b - (na_p a b + 4 * na_c a b)))))))) hx hb hr (fun t ht _ => ⟨congrArg (fun z => Outcome.returned (some (Value.int z))) (rfl), ht⟩) (fun _ h => by cases h) dX0_narrowSum_119
              · exact absurd (nI_le (by omega) (by omega)) c_83
            | succ d ih =>
              intro j hj ls hl
              have hjl : j < b - (na_p a b + 4 * na_c a b) := by omega
              refine lv_iload hx hb dX0_narrowSum_80 (lv_at hl 6 rfl) ?_
              refine lv_iload_n hx hb dX0_narrowSum_82 rfl (lv_at hl 2 rfl) ?_
              refine lv_icmp_ge (tgt := 114) hx hb dX0_narrowSum_83 (by decide) (fun c_83 => ?_) (fun c_83 => ?_)
              · exact absurd c_83 (nI_ge (by omega) (by omega))
              · refine lv_iload hx hb dX0_narrowSum_86 (lv_at hl 5 rfl) ?_
                refine lv_aload_n hx hb dX0_narrowSum_88 rfl (lv_at hl 0 rfl) ?_
                refine lv_iload hx hb dX0_narrowSum_89 (lv_at hl 6 rfl) ?_
                refine q_V (As := [.int (nI ((na_p a b + 4 * na_c a b) + (j)))]) (rest := [.int (na_w1 f (na_p a b + 4 * na_c a b) (na_w4 f (na_p a b) (na_h0 f a b sd + nI (b - a)) (na_c a b)) (j))]) ⟨hx, hb, hml, hown, hts⟩ (c_X_byteIn l dC dI h0 a0 a1 cB cI n ns wd f g ((na_p a b + 4 * na_c a b) + j) (by omega) (hn)) (cwV 1 hts gX0_narrowSum_X0_byteAt rfl rfl rfl (by decide +kernel) ⟨Nat.le_of_ble_eq_true rfl, Nat.le_of_ble_eq_true rfl⟩) (xw_pre hP hK _) rfl hl.1 rfl (Nat.le_of_ble_eq_true rfl) dX0_narrowSum_91 ⟨Nat.zero_le _, Nat.zero_le _⟩ ?_
                refine lv_ldc (v := 374761393) hx hb hown (hts (.constant RX0 95 (374761393)) (by decide +kernel)) dX0_narrowSum_94 ?_
                refine lv_imul hx hb dX0_narrowSum_96 ?_
                refine lv_iadd hx hb dX0_narrowSum_97 ?_
                refine lv_bipush (v := 11) hx hb dX0_narrowSum_98 (by decide) ?_
                refine q_S (As := [.int ((na_w1 f (na_p a b + 4 * na_c a b) (na_w4 f (na_p a b) (na_h0 f a b sd + nI (b - a)) (na_c a b)) (j) + ((f ((na_p a b + 4 * na_c a b) + j) &&& 255) * 374761393))), .int (11)]) (rest := []) ⟨hx, hb, hml, hown, hts⟩ (c_X_rotated l ((na_w1 f (na_p a b + 4 * na_c a b) (na_w4 f (na_p a b) (na_h0 f a b sd + nI (b - a)) (na_c a b)) (j) + ((f ((na_p a b + 4 * na_c a b) + j) &&& 255) * 374761393))) (11)) (va_cwS 2 hts gX0_narrowSum_X0_rotated rfl rfl rfl (by decide +kernel) ⟨Nat.le_of_ble_eq_true rfl, Nat.le_of_ble_eq_true rfl⟩) rfl hl.1 rfl (Nat.le_of_ble_eq_true rfl) dX0_narrowSum_100 ⟨Nat.zero_le _, Nat.zero_le _⟩ ?_
                refine lv_ldc (v := -1640531535) hx hb hown (hts (.constant RX0 98 (-1640531535)) (by decide +kernel)) dX0_narrowSum_103 ?_
                refine lv_imul hx hb dX0_narrowSum_105 ?_
                refine q_ti (y := na_w1 f (na_p a b + 4 * na_c a b) (na_w4 f (na_p a b) (na_h0 f a b sd + nI (b - a)) (na_c a b)) (j + 1)) (rfl) ?_
                refine lv_istore (lv' := [(5, .int (na_w1 f (na_p a b + 4 * na_c a b) (na_w4 f (na_p a b) (na_h0 f a b sd + nI (b - a)) (na_c a b)) (j + 1))), (0, .ref h0), (1, .int (nI a)), (2, .int (nI b)), (3, .int (sd)), (4, .int (nI (b - a))), (6, .int (nI ((na_p a b + 4 * na_c a b) + (j))))]) hx hb dX0_narrowSum_106 hl (by decide) rfl (fun ls hl => ?_)
                refine lv_iinc (v := nI ((na_p a b + 4 * na_c a b) + (j + 1))) (lv' := [(6, .int (nI ((na_p a b + 4 * na_c a b) + (j + 1)))), (5, .int (na_w1 f (na_p a b + 4 * na_c a b) (na_w4 f (na_p a b) (na_h0 f a b sd + nI (b - a)) (na_c a b)) (j + 1))), (0, .ref h0), (1, .int (nI a)), (2, .int (nI b)), (3, .int (sd)), (4, .int (nI (b - a)))]) hx hb dX0_narrowSum_108 hl (k := 6) rfl (nI_add _ 1) (by decide) rfl (fun ls hl => ?_)
                refine lv_goto (tgt := 80) hx hb dX0_narrowSum_111 (by decide) ?_
                exact ih (j + 1) (by omega) ls (lv_sub hl [2, 3, 4, 5, 6, 1, 0] rfl)
          exact L80 (b - (na_p a b + 4 * na_c a b)) 0 (by omega) ls (lv_sub hl [0, 1, 2, 3, 4, 5, 6] rfl)
        · exact absurd (nI_lt (b := 4) (by omega) (by omega)) c_49
      | succ d ih =>
        intro j hj ls hl
        have hjl : j < na_c a b := by omega
        refine lv_iload_n hx hb dX0_narrowSum_44 rfl (lv_at hl 2 rfl) ?_
        refine lv_iload hx hb dX0_narrowSum_45 (lv_at hl 6 rfl) ?_
        refine lv_isub hx hb dX0_narrowSum_47 ?_
        refine q_ti (y := nI (b - (na_p a b + 4 * j))) (pk_sub (by omega)) ?_
        refine lv_iconst (v := 4) hx hb dX0_narrowSum_48 (by decide) ?_
        refine lv_icmp_lt (tgt := 80) hx hb dX0_narrowSum_49 (by decide) (fun c_49 => ?_) (fun c_49 => ?_)
        · exact absurd c_49 (nI_nlt (b := 4) (by omega) (by omega))
        · refine lv_iload hx hb dX0_narrowSum_52 (lv_at hl 5 rfl) ?_
          refine lv_aload_n hx hb dX0_narrowSum_54 rfl (lv_at hl 0 rfl) ?_
          refine lv_iload hx hb dX0_narrowSum_55 (lv_at hl 6 rfl) ?_
          refine q_V (As := [.int (nI (na_p a b + 4 * (j)))]) (rest := [.int (na_w4 f (na_p a b) (na_h0 f a b sd + nI (b - a)) (j))]) ⟨hx, hb, hml, hown, hts⟩ (c_X_word l dC dI h0 a0 a1 cB cI n ns wd f g (na_p a b + 4 * j) (by omega)) (cwV 1 hts gX0_narrowSum_X0_word rfl rfl rfl (by decide +kernel) ⟨Nat.le_of_ble_eq_true rfl, Nat.le_of_ble_eq_true rfl⟩) (xw_pre hP hK _) rfl hl.1 rfl (Nat.le_of_ble_eq_true rfl) dX0_narrowSum_57 ⟨Nat.zero_le _, Nat.zero_le _⟩ ?_
          refine lv_ldc (v := -1028477379) hx hb hown (hts (.constant RX0 96 (-1028477379)) (by decide +kernel)) dX0_narrowSum_60 ?_
          refine lv_imul hx hb dX0_narrowSum_62 ?_
          refine lv_iadd hx hb dX0_narrowSum_63 ?_
          refine lv_bipush (v := 17) hx hb dX0_narrowSum_64 (by decide) ?_
          refine q_S (As := [.int ((na_w4 f (na_p a b) (na_h0 f a b sd + nI (b - a)) (j) + ((wo_4 f (na_p a b + 4 * j)) * (-1028477379)))), .int (17)]) (rest := []) ⟨hx, hb, hml, hown, hts⟩ (c_X_rotated l ((na_w4 f (na_p a b) (na_h0 f a b sd + nI (b - a)) (j) + ((wo_4 f (na_p a b + 4 * j)) * (-1028477379)))) (17)) (va_cwS 2 hts gX0_narrowSum_X0_rotated rfl rfl rfl (by decide +kernel) ⟨Nat.le_of_ble_eq_true rfl, Nat.le_of_ble_eq_true rfl⟩) rfl hl.1 rfl (Nat.le_of_ble_eq_true rfl) dX0_narrowSum_66 ⟨Nat.zero_le _, Nat.zero_le _⟩ ?_
          refine lv_ldc (v := 668265263) hx hb hown (hts (.constant RX0 97 (668265263)) (by decide +kernel)) dX0_narrowSum_69 ?_
          refine lv_imul hx hb dX0_narrowSum_71 ?_
          refine q_ti (y := na_w4 f (na_p a b) (na_h0 f a b sd + nI (b - a)) (j + 1)) (rfl) ?_
          refine lv_istore (lv' := [(5, .int (na_w4 f (na_p a b) (na_h0 f a b sd + nI (b - a)) (j + 1))), (0, .ref h0), (1, .int (nI a)), (2, .int (nI b)), (3, .int (sd)), (4, .int (nI (b - a))), (6, .int (nI (na_p a b + 4 * (j))))]) hx hb dX0_narrowSum_72 hl (by decide) rfl (fun ls hl => ?_)
          refine lv_iinc (v := nI (na_p a b + 4 * (j + 1))) (lv' := [(6, .int (nI (na_p a b + 4 * (j + 1)))), (5, .int (na_w4 f (na_p a b) (na_h0 f a b sd + nI (b - a)) (j + 1))), (0, .ref h0), (1, .int (nI a)), (2, .int (nI b)), (3, .int (sd)), (4, .int (nI (b - a)))]) hx hb dX0_narrowSum_74 hl (k := 6) rfl (by rw [show na_p a b + 4 * (j + 1) = na_p a b + 4 * j + 4 by omega]; exact nI_add _ 4) (by decide) rfl (fun ls hl => ?_)
          refine lv_goto (tgt := 44) hx hb dX0_narrowSum_77 (by decide) ?_
          exact ih (j + 1) (by omega) ls (lv_sub hl [2, 3, 4, 5, 6, 1, 0] rfl)
    exact L44 (na_c a b) 0 (by omega) ls (lv_sub hl [3, 4, 5, 6, 2, 1, 0] rfl)
  refine lv_iload hx hb dX0_narrowSum_5 (lv_at hl 0 rfl) ?_
  refine lv_bipush (v := 16) hx hb dX0_narrowSum_7 (by decide) ?_
  refine lv_icmp_lt (tgt := 22) hx hb dX0_narrowSum_9 (by decide) (fun c_9 => ?_) (fun c_9 => ?_)
  · refine lv_iload_n hx hb dX0_narrowSum_22 rfl (lv_at hl 4 rfl) ?_
    refine lv_ldc (v := 374761393) hx hb hown (hts (.constant RX0 95 (374761393)) (by decide +kernel)) dX0_narrowSum_23 ?_
    refine lv_iadd hx hb dX0_narrowSum_25 ?_
    refine q_ti (y := na_h0 f a b sd) (by unfold na_h0; rw [if_neg (fun q => nI_nlt (a := b - a) (b := 16) q (by omega) c_9)]) ?_
    exact J26 ls (lv_sub hl [0, 1, 2, 3, 4] rfl)
  · refine lv_aload_n hx hb dX0_narrowSum_12 rfl (lv_at hl 1 rfl) ?_
    refine lv_iload_n hx hb dX0_narrowSum_13 rfl (lv_at hl 2 rfl) ?_
    refine lv_iload_n hx hb dX0_narrowSum_14 rfl (lv_at hl 3 rfl) ?_
    refine lv_iload_n hx hb dX0_narrowSum_15 rfl (lv_at hl 4 rfl) ?_
    refine q_V (As := [.int (nI a), .int (nI b), .int (sd)]) (rest := []) ⟨hx, hb, hml, hown, hts⟩ (c_X_narrowOfLanes l dC dI h0 a0 a1 cB cI n ns wd f g (a) (b) (sd) (by omega) (by omega) (hn)) (cwV 3 hts gX0_narrowSum_X0_narrowOfLanes rfl rfl rfl (by decide +kernel) ⟨Nat.le_of_ble_eq_true rfl, Nat.le_of_ble_eq_true rfl⟩) (xw_pre hP hK _) rfl hl.1 rfl (Nat.le_of_ble_eq_true rfl) dX0_narrowSum_16 ⟨Nat.zero_le _, Nat.zero_le _⟩ ?_
    refine q_ti (y := na_h0 f a b sd) (by unfold na_h0; rw [if_pos (Nat.not_lt.mp (fun q => c_9 (nI_lt (a := b - a) (b := 16) q (by omega))))]) ?_
    refine lv_goto (tgt := 26) hx hb dX0_narrowSum_19 (by decide) ?_
    exact J26 ls (lv_sub hl [0, 1, 2, 3, 4] rfl)
set_option maxHeartbeats 4000000 in
set_option maxRecDepth 100000 in
theorem c_X_narrow (l : Launch) (dC : Nat → ClassId) (dI : Nat → Nat → Nat) (h0 a0 a1 : Nat) (cB cI : ClassId) (n : Nat) (ns : Int32) (wd : Int64) (f g : Nat → Int32) (hn : n ≤ 65536) : Met l yX0_narrow wsX0_narrow ({ frames := 4, cells := 0, slots := 0, locals := 96 } : Room) (va_Pc [.ref h0] (xW dC dI h0 a0 a1 cB cI n ns wd f g)) (k2_QcV (.int (na_sum f 0 n ns))) 0 0 (fun _ => False) := by
  refine Met.ofW (cc := cX0_narrow) (maxL := 1) (ret := some .int) (by decide) rfl ?_
  intro p e s m args below meth c s₁ B hml hv
  obtain ⟨rfl, hP, hK⟩ := hv
  have hx := B.exec
  have hb := B.bytes
  have hr := B.returns
  have hts := atoms_spec (ws := wsX0_narrow) B.pre
  have hown : s.vm.findClass RX0 = some m.cls := findClass_of_methodNamed B.named
  have hlocks := B.notSynchronized
  have hin : ∀ w ∈ u_ws RX0 TX0 5, w ∈ wsX0_narrow := by decide +kernel
  have hl := lv_entry ([.ref h0]) (n := 1) (Nat.le_of_ble_eq_true rfl)
  rw [lg_entry_eq]
  generalize (lg_sl ([.ref h0]) ++ List.replicate (1 - (lg_sl ([.ref h0])).length) Slot.unset).toArray = ls at hl ⊢
  have hl : lv_has ls 1 [(0, .ref h0)] := hl
  refine lv_aload_n hx hb dX0_narrow_0 rfl (lv_at hl 0 rfl) ?_
  refine lv_iconst (v := 0) hx hb dX0_narrow_1 (by decide) ?_
  refine lv_aload_n hx hb dX0_narrow_2 rfl (lv_at hl 0 rfl) ?_
  refine va_get (D := (dC, dI)) (ci := 0) (v := .int (nI n)) (C := RX0) (T := TX0) (N := 5) hx hb hts hin hown hK hP 0 rfl rfl 2 (by decide) (hts (.fieldLink RX0 22 "StreamSums" "count" "I") (by decide +kernel)) (fun _ h9 => h9) rfl dX0_narrow_3 ?_
  refine lv_aload_n hx hb dX0_narrow_6 rfl (lv_at hl 0 rfl) ?_
  refine va_get (D := (dC, dI)) (ci := 0) (v := .int (ns)) (C := RX0) (T := TX0) (N := 5) hx hb hts hin hown hK hP 0 rfl rfl 3 (by decide) (hts (.fieldLink RX0 26 "StreamSums" "narrowSeed" "I") (by decide +kernel)) (fun _ h9 => h9) rfl dX0_narrow_7 ?_
  refine q_V (As := [.int (0), .int (nI n), .int (ns)]) (rest := []) ⟨hx, hb, hml, hown, hts⟩ (c_X_narrowSum l dC dI h0 a0 a1 cB cI n ns wd f g (0) (n) (ns) (by omega) (by omega) (hn)) (cwV 3 hts gX0_narrow_X0_narrowSum rfl rfl rfl (by decide +kernel) ⟨Nat.le_of_ble_eq_true rfl, Nat.le_of_ble_eq_true rfl⟩) (xw_pre hP hK _) rfl hl.1 rfl (Nat.le_of_ble_eq_true rfl) dX0_narrow_10 ⟨Nat.zero_le _, Nat.zero_le _⟩ ?_
  exact W.iret (v := (na_sum f 0 n ns)) hx hb hr (fun t ht _ => ⟨congrArg (fun z => Outcome.returned (some (Value.int z))) (rfl), ht⟩) (fun _ h => by cases h) dX0_narrow_13
set_option maxHeartbeats 4000000 in
set_option maxRecDepth 100000 in
theorem c_X_narrowOf (l : Launch) (dC : Nat → ClassId) (dI : Nat → Nat → Nat) (h0 a0 a1 : Nat) (cB cI : ClassId) (n : Nat) (ns : Int32) (wd : Int64) (f g : Nat → Int32) (x : Int32) (y : Int32) (sd : Int32) (hn : n ≤ 65536) : Met l yX0_narrowOf wsX0_narrowOf ({ frames := 4, cells := 0, slots := 0, locals := 96 } : Room) (va_Pc [.ref h0, .int x, .int y, .int sd] (xW dC dI h0 a0 a1 cB cI n ns wd f g)) (k2_QcV (.int (an_na n f x y sd))) 0 0 (fun _ => False) := by
  refine Met.ofW (cc := cX0_narrowOf) (maxL := 4) (ret := some .int) (by decide) rfl ?_
  intro p e s m args below meth c s₁ B hml hv
  obtain ⟨rfl, hP, hK⟩ := hv
  have hx := B.exec
  have hb := B.bytes
  have hr := B.returns
  have hts := atoms_spec (ws := wsX0_narrowOf) B.pre
  have hown : s.vm.findClass RX0 = some m.cls := findClass_of_methodNamed B.named
  have hlocks := B.notSynchronized
  have hl := lv_entry ([.ref h0, .int x, .int y, .int sd]) (n := 4) (Nat.le_of_ble_eq_true rfl)
  rw [lg_entry_eq]
  generalize (lg_sl ([.ref h0, .int x, .int y, .int sd]) ++ List.replicate (4 - (lg_sl ([.ref h0, .int x, .int y, .int sd])).length) Slot.unset).toArray = ls at hl ⊢
  have hl : lv_has ls 4 [(0, .ref h0), (1, .int (x)), (2, .int (y)), (3, .int (sd))] := hl
  refine lv_aload_n hx hb dX0_narrowOf_0 rfl (lv_at hl 0 rfl) ?_
  refine lv_iload_n hx hb dX0_narrowOf_1 rfl (lv_at hl 1 rfl) ?_
  refine lv_iload_n hx hb dX0_narrowOf_2 rfl (lv_at hl 2 rfl) ?_
  refine q_V (As := [.int (x), .int (y)]) (rest := []) ⟨hx, hb, hml, hown, hts⟩ (c_X_isPart l dC dI h0 a0 a1 cB cI n ns wd f g (x) (y)) (cwV 2 hts gX0_narrowOf_X0_isPart rfl rfl rfl (by decide +kernel) ⟨Nat.le_of_ble_eq_true rfl, Nat.le_of_ble_eq_true rfl⟩) (xw_pre hP hK _) rfl hl.1 rfl (Nat.le_of_ble_eq_true rfl) dX0_narrowOf_3 ⟨Nat.zero_le _, Nat.zero_le _⟩ ?_
  refine lv_if_eq (tgt := 19) hx hb dX0_narrowOf_6 (by decide) (fun c_6 => ?_) (fun c_6 => ?_)
  · refine lv_aload_n hx hb dX0_narrowOf_19 rfl (lv_at hl 0 rfl) ?_
    refine lv_iconst (v := 0) hx hb dX0_narrowOf_20 (by decide) ?_
    refine lv_iconst (v := 0) hx hb dX0_narrowOf_21 (by decide) ?_
    refine lv_iload_n hx hb dX0_narrowOf_22 rfl (lv_at hl 3 rfl) ?_
    refine q_V (As := [.int (0), .int (0), .int (sd)]) (rest := []) ⟨hx, hb, hml, hown, hts⟩ (c_X_narrowSum l dC dI h0 a0 a1 cB cI n ns wd f g (0) (0) (sd) (by omega) (by omega) (hn)) (cwV 3 hts gX0_narrowOf_X0_narrowSum rfl rfl rfl (by decide +kernel) ⟨Nat.le_of_ble_eq_true rfl, Nat.le_of_ble_eq_true rfl⟩) (xw_pre hP hK _) rfl hl.1 rfl (Nat.le_of_ble_eq_true rfl) dX0_narrowOf_23 ⟨Nat.zero_le _, Nat.zero_le _⟩ ?_
    exact W.iret (v := (na_sum f 0 0 sd)) hx hb hr (fun t ht _ => ⟨congrArg (fun z => Outcome.returned (some (Value.int z))) (by unfold an_na; rw [if_pos c_6]), ht⟩) (fun _ h => by cases h) dX0_narrowOf_26
  · obtain ⟨a, b, hxa, hyb, hab, hbn⟩ := pt_some hn c_6
    refine lv_aload_n hx hb dX0_narrowOf_9 rfl (lv_at hl 0 rfl) ?_
    refine lv_iload_n hx hb dX0_narrowOf_10 rfl (lv_at hl 1 rfl) ?_
    refine q_ti (y := nI a) (hxa) ?_
    refine lv_iload_n hx hb dX0_narrowOf_11 rfl (lv_at hl 2 rfl) ?_
    refine q_ti (y := nI b) (hyb) ?_
    refine lv_iload_n hx hb dX0_narrowOf_12 rfl (lv_at hl 3 rfl) ?_
    refine q_V (As := [.int (nI a), .int (nI b), .int (sd)]) (rest := []) ⟨hx, hb, hml, hown, hts⟩ (c_X_narrowSum l dC dI h0 a0 a1 cB cI n ns wd f g (a) (b) (sd) (by omega) (by omega) (hn)) (cwV 3 hts gX0_narrowOf_X0_narrowSum rfl rfl rfl (by decide +kernel) ⟨Nat.le_of_ble_eq_true rfl, Nat.le_of_ble_eq_true rfl⟩) (xw_pre hP hK _) rfl hl.1 rfl (Nat.le_of_ble_eq_true rfl) dX0_narrowOf_13 ⟨Nat.zero_le _, Nat.zero_le _⟩ ?_
    refine lv_goto (tgt := 26) hx hb dX0_narrowOf_16 (by decide) ?_
    exact W.iret (v := (na_sum f a b sd)) hx hb hr (fun t ht _ => ⟨congrArg (fun z => Outcome.returned (some (Value.int z))) (by unfold an_na; rw [if_neg c_6, hxa, hyb, nI_clamp (by omega), nI_clamp (by omega)]), ht⟩) (fun _ h => by cases h) dX0_narrowOf_26
