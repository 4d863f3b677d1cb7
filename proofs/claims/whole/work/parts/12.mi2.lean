set_option maxHeartbeats 4000000 in
set_option maxRecDepth 100000 in
theorem c_M_lane (l : Launch) (dC : Nat → ClassId) (dI : Nat → Nat → Nat) (h0 a0 : Nat) (cB : ClassId) (n : Nat) (ns : Int32) (wd : Int64) (f : Nat → Int32) (sd : Int32) (a : Nat) (b : Nat) (q : Nat) (hab : a ≤ b) (hb6 : b ≤ 65536) (hq : q ≤ 3) : Met l yX1_lane wsM_lane ({ frames := 2, cells := 0, slots := 0, locals := 46 } : Room) (va_Pc [.ref h0, .int sd, .int (nI a), .int (nI b), .int (nI q)] (mW dC dI h0 a0 cB n ns wd f)) (k2_QcV (.int (na_fo f a q sd ((b - a) / 16)))) 0 0 (fun _ => False) := by
  refine Met.ofW (cc := cX1_lane) (maxL := 7) (ret := some .int) (by decide) rfl ?_
  intro p e s m args below meth c s₁ B hml hv
  obtain ⟨rfl, hP, hK⟩ := hv
  have hx := B.exec
  have hb := B.bytes
  have hr := B.returns
  have hts := atoms_spec (ws := wsM_lane) B.pre
  have hown : s.vm.findClass RX1 = some m.cls := findClass_of_methodNamed B.named
  have hlocks := B.notSynchronized
  have hl := lv_entry ([.ref h0, .int sd, .int (nI a), .int (nI b), .int (nI q)]) (n := 7) (Nat.le_of_ble_eq_true rfl)
  rw [lg_entry_eq]
  generalize (lg_sl ([.ref h0, .int sd, .int (nI a), .int (nI b), .int (nI q)]) ++ List.replicate (7 - (lg_sl ([.ref h0, .int sd, .int (nI a), .int (nI b), .int (nI q)])).length) Slot.unset).toArray = ls at hl ⊢
  have hl : lv_has ls 7 [(0, .ref h0), (1, .int (sd)), (2, .int (nI a)), (3, .int (nI b)), (4, .int (nI q))] := hl
  refine lv_iload_n hx hb dX1_lane_0 rfl (lv_at hl 1 rfl) ?_
  refine lv_istore (lv' := [(5, .int (sd)), (0, .ref h0), (1, .int (sd)), (2, .int (nI a)), (3, .int (nI b)), (4, .int (nI q))]) hx hb dX1_lane_1 hl (by decide) rfl (fun ls hl => ?_)
  refine lv_iload_n hx hb dX1_lane_3 rfl (lv_at hl 3 rfl) ?_
  refine lv_istore (lv' := [(6, .int (nI a)), (5, .int (sd)), (0, .ref h0), (1, .int (sd)), (2, .int (nI a)), (3, .int (nI b)), (4, .int (nI q))]) hx hb dX1_lane_4 hl (by decide) rfl (fun ls hl => ?_)
  have L6 : ∀ (d j : Nat), j + d = (b - a) / 16 → ∀ ls : Array Slot, lv_has ls 7 [(0, .ref h0), (1, .int (sd)), (2, .int (nI a)), (3, .int (nI b)), (4, .int (nI q)), (5, .int (na_fo f a q sd (j))), (6, .int (nI (a + 16 * (j))))] → W p l e (headSpec wsM_lane ({ frames := 2, cells := 0, slots := 0, locals := 46 } : Room)).room s m [Value.ref h0, .int sd, .int (nI a), .int (nI b), .int (nI q)].toArray below meth c s.heap [] 0 0 (MQ below (k2_QcV (.int (na_fo f a q sd ((b - a) / 16)))) [Value.ref h0, .int sd, .int (nI a), .int (nI b), .int (nI q)].toArray s 0 0 (fun _ => False)) (F0 m 6 ls []) := by
    intro d
    induction d with
    | zero =>
      intro j hj ls hl
      obtain rfl : (b - a) / 16 = j := by omega
      refine lv_iload_n hx hb dX1_lane_6 rfl (lv_at hl 3 rfl) ?_
      refine lv_iload hx hb dX1_lane_7 (lv_at hl 6 rfl) ?_
      refine lv_isub hx hb dX1_lane_9 ?_
      refine q_ti (y := nI (b - (a + 16 * ((b - a) / 16)))) (pk_sub (by omega)) ?_
      refine lv_bipush (v := 16) hx hb dX1_lane_10 (by decide) ?_
      refine lv_icmp_lt (tgt := 50) hx hb dX1_lane_12 (by decide) (fun c_12 => ?_) (fun c_12 => ?_)
      · refine lv_iload hx hb dX1_lane_50 (lv_at hl 5 rfl) ?_
        exact W.iret (v := na_fo f a q sd (((b - a) / 16))) hx hb hr (fun t ht _ => ⟨congrArg (fun z => Outcome.returned (some (Value.int z))) (rfl), ht⟩) (fun _ h => by cases h) dX1_lane_52
      · exact absurd (nI_lt (b := 16) (by omega) (by omega)) c_12
    | succ d ih =>
      intro j hj ls hl
      have hjl : j < (b - a) / 16 := by omega
      refine lv_iload_n hx hb dX1_lane_6 rfl (lv_at hl 3 rfl) ?_
      refine lv_iload hx hb dX1_lane_7 (lv_at hl 6 rfl) ?_
      refine lv_isub hx hb dX1_lane_9 ?_
      refine q_ti (y := nI (b - (a + 16 * j))) (pk_sub (by omega)) ?_
      refine lv_bipush (v := 16) hx hb dX1_lane_10 (by decide) ?_
      refine lv_icmp_lt (tgt := 50) hx hb dX1_lane_12 (by decide) (fun c_12 => ?_) (fun c_12 => ?_)
      · exact absurd c_12 (nI_nlt (b := 16) (by omega) (by omega))
      · refine lv_iload hx hb dX1_lane_15 (lv_at hl 5 rfl) ?_
        refine lv_aload_n hx hb dX1_lane_17 rfl (lv_at hl 0 rfl) ?_
        refine lv_iload hx hb dX1_lane_18 (lv_at hl 6 rfl) ?_
        refine lv_iconst (v := 4) hx hb dX1_lane_20 (by decide) ?_
        refine lv_iload hx hb dX1_lane_21 (lv_at hl 4 rfl) ?_
        refine lv_imul hx hb dX1_lane_23 ?_
        refine q_ti (y := nI (4 * q)) (pk_mul 4 q) ?_
        refine lv_iadd hx hb dX1_lane_24 ?_
        refine q_ti (y := nI (a + 16 * j + 4 * q)) (nI_add _ _) ?_
        refine lv_iconst (v := 4) hx hb dX1_lane_25 (by decide) ?_
        refine q_V (As := [.int (nI (a + 16 * j + 4 * q)), .int (4)]) (rest := [.int (na_fo f a q sd (j))]) ⟨hx, hb, hml, hown, hts⟩ (c_M_number l dC dI h0 a0 cB n ns wd f (a + 16 * j + 4 * q) (4) (by omega)) (cwV 2 hts gX1_lane_X1_number rfl rfl rfl (by decide +kernel) ⟨Nat.le_of_ble_eq_true rfl, Nat.le_of_ble_eq_true rfl⟩) (mw_pre hP hK _) rfl hl.1 rfl (Nat.le_of_ble_eq_true rfl) dX1_lane_26 ⟨Nat.zero_le _, Nat.zero_le _⟩ ?_
        refine lv_l2i (v := ((wo_n f (a + 16 * j + 4 * q) 4)).toInt32) hx hb dX1_lane_29 rfl ?_
        refine q_ti (y := wo_4 f (a + 16 * j + 4 * q)) (wo_n4i _ _) ?_
        refine lv_ldc (v := -2048144777) hx hb hown (hts (.constant RX1 35 (-2048144777)) (wsM_self _ (wsM_nin (by decide +kernel)))) dX1_lane_30 ?_
        refine lv_imul hx hb dX1_lane_32 ?_
        refine lv_iadd hx hb dX1_lane_33 ?_
        refine lv_bipush (v := 13) hx hb dX1_lane_34 (by decide) ?_
        refine q_S (As := [.int ((na_fo f a q sd (j) + (wo_4 f (a + 16 * j + 4 * q) * (-2048144777)))), .int (13)]) (rest := []) ⟨hx, hb, hml, hown, hts⟩ (c_M_rotated l ((na_fo f a q sd (j) + (wo_4 f (a + 16 * j + 4 * q) * (-2048144777)))) (13)) (va_cwS 2 hts gX1_lane_X1_rotated rfl rfl rfl (by decide +kernel) ⟨Nat.le_of_ble_eq_true rfl, Nat.le_of_ble_eq_true rfl⟩) rfl hl.1 rfl (Nat.le_of_ble_eq_true rfl) dX1_lane_36 ⟨Nat.zero_le _, Nat.zero_le _⟩ ?_
        refine lv_ldc (v := -1640531535) hx hb hown (hts (.constant RX1 40 (-1640531535)) (wsM_self _ (wsM_nin (by decide +kernel)))) dX1_lane_39 ?_
        refine lv_imul hx hb dX1_lane_41 ?_
        refine q_ti (y := na_fo f a q sd (j + 1)) (rfl) ?_
        refine lv_istore (lv' := [(5, .int (na_fo f a q sd (j + 1))), (0, .ref h0), (1, .int (sd)), (2, .int (nI a)), (3, .int (nI b)), (4, .int (nI q)), (6, .int (nI (a + 16 * (j))))]) hx hb dX1_lane_42 hl (by decide) rfl (fun ls hl => ?_)
        refine lv_iinc (v := nI (a + 16 * (j + 1))) (lv' := [(6, .int (nI (a + 16 * (j + 1)))), (5, .int (na_fo f a q sd (j + 1))), (0, .ref h0), (1, .int (sd)), (2, .int (nI a)), (3, .int (nI b)), (4, .int (nI q))]) hx hb dX1_lane_44 hl (k := 6) rfl (by rw [show a + 16 * (j + 1) = a + 16 * j + 16 by omega]; exact nI_add _ 16) (by decide) rfl (fun ls hl => ?_)
        refine lv_goto (tgt := 6) hx hb dX1_lane_47 (by decide) ?_
        exact ih (j + 1) (by omega) ls (lv_sub hl [2, 3, 4, 5, 6, 1, 0] rfl)
  exact L6 ((b - a) / 16) 0 (by omega) ls (lv_sub hl [2, 3, 4, 5, 6, 1, 0] rfl)
set_option maxHeartbeats 4000000 in
set_option maxRecDepth 100000 in
theorem c_M_sumNarrow (l : Launch) (dC : Nat → ClassId) (dI : Nat → Nat → Nat) (h0 a0 : Nat) (cB : ClassId) (n : Nat) (ns : Int32) (wd : Int64) (f : Nat → Int32) (a : Nat) (b : Nat) (sd : Int32) (hab : a ≤ b) (hb6 : b ≤ 65536) : Met l yX1_sumNarrow wsM_sumNarrow ({ frames := 3, cells := 0, slots := 0, locals := 72 } : Room) (va_Pc [.ref h0, .int (nI a), .int (nI b), .int sd] (mW dC dI h0 a0 cB n ns wd f)) (k2_QcV (.int (na_sum f a b sd))) 0 0 (fun _ => False) := by
  refine Met.ofW (cc := cX1_sumNarrow) (maxL := 8) (ret := some .int) (by decide) rfl ?_
  intro p e s m args below meth c s₁ B hml hv
  obtain ⟨rfl, hP, hK⟩ := hv
  have hx := B.exec
  have hb := B.bytes
  have hr := B.returns
  have hts := atoms_spec (ws := wsM_sumNarrow) B.pre
  have hown : s.vm.findClass RX1 = some m.cls := findClass_of_methodNamed B.named
  have hlocks := B.notSynchronized
  have hl := lv_entry ([.ref h0, .int (nI a), .int (nI b), .int sd]) (n := 8) (Nat.le_of_ble_eq_true rfl)
  rw [lg_entry_eq]
  generalize (lg_sl ([.ref h0, .int (nI a), .int (nI b), .int sd]) ++ List.replicate (8 - (lg_sl ([.ref h0, .int (nI a), .int (nI b), .int sd])).length) Slot.unset).toArray = ls at hl ⊢
  have hl : lv_has ls 8 [(0, .ref h0), (1, .int (nI a)), (2, .int (nI b)), (3, .int (sd))] := hl
  have hpc := na_pc hab
  obtain ⟨hp1, hp2, hp3, hp4⟩ := hpc
  refine lv_iload_n hx hb dX1_sumNarrow_0 rfl (lv_at hl 2 rfl) ?_
  refine lv_iload_n hx hb dX1_sumNarrow_1 rfl (lv_at hl 1 rfl) ?_
  refine lv_isub hx hb dX1_sumNarrow_2 ?_
  refine q_ti (y := nI (b - a)) (pk_sub hab) ?_
  refine lv_istore (lv' := [(4, .int (nI (b - a))), (0, .ref h0), (1, .int (nI a)), (2, .int (nI b)), (3, .int (sd))]) hx hb dX1_sumNarrow_3 hl (by decide) rfl (fun ls hl => ?_)
  refine lv_iload_n hx hb dX1_sumNarrow_5 rfl (lv_at hl 4 rfl) ?_
  refine lv_ldc (v := 374761393) hx hb hown (hts (.constant RX1 41 (374761393)) (wsM_self _ (wsM_nin (by decide +kernel)))) dX1_sumNarrow_6 ?_
  refine lv_iadd hx hb dX1_sumNarrow_8 ?_
  refine lv_istore (lv' := [(5, .int ((sd + 374761393))), (4, .int (nI (b - a))), (0, .ref h0), (1, .int (nI a)), (2, .int (nI b)), (3, .int (sd))]) hx hb dX1_sumNarrow_9 hl (by decide) rfl (fun ls hl => ?_)
  refine lv_iload_n hx hb dX1_sumNarrow_11 rfl (lv_at hl 3 rfl) ?_
  refine lv_istore (lv' := [(6, .int (nI a)), (5, .int ((sd + 374761393))), (4, .int (nI (b - a))), (0, .ref h0), (1, .int (nI a)), (2, .int (nI b)), (3, .int (sd))]) hx hb dX1_sumNarrow_12 hl (by decide) rfl (fun ls hl => ?_)
  have J102 : ∀ ls : Array Slot, lv_has ls 8 [(0, .ref h0), (1, .int (nI a)), (2, .int (nI b)), (3, .int (sd)), (4, .int (nI (b - a))), (5, .int (na_h0 f a b sd)), (6, .int (nI (na_p a b)))] → W p l e (headSpec wsM_sumNarrow ({ frames := 3, cells := 0, slots := 0, locals := 72 } : Room)).room s m [Value.ref h0, .int (nI a), .int (nI b), .int sd].toArray below meth c s.heap [] 0 0 (MQ below (k2_QcV (.int (na_sum f a b sd))) [Value.ref h0, .int (nI a), .int (nI b), .int sd].toArray s 0 0 (fun _ => False)) (F0 m 102 ls []) := by
    intro ls hl
    refine lv_iload hx hb dX1_sumNarrow_102 (lv_at hl 5 rfl) ?_
    refine lv_iload hx hb dX1_sumNarrow_104 (lv_at hl 4 rfl) ?_
    refine lv_iadd hx hb dX1_sumNarrow_106 ?_
    refine lv_istore (lv' := [(5, .int ((na_h0 f a b sd + nI (b - a)))), (0, .ref h0), (1, .int (nI a)), (2, .int (nI b)), (3, .int (sd)), (4, .int (nI (b - a))), (6, .int (nI (na_p a b)))]) hx hb dX1_sumNarrow_107 hl (by decide) rfl (fun ls hl => ?_)
    refine lv_iconst (v := 0) hx hb dX1_sumNarrow_109 (by decide) ?_
    refine lv_istore (lv' := [(7, .int (0)), (5, .int ((na_h0 f a b sd + nI (b - a)))), (0, .ref h0), (1, .int (nI a)), (2, .int (nI b)), (3, .int (sd)), (4, .int (nI (b - a))), (6, .int (nI (na_p a b)))]) hx hb dX1_sumNarrow_110 hl (by decide) rfl (fun ls hl => ?_)
    have L112 : ∀ (d j : Nat), j + d = na_c a b → ∀ ls : Array Slot, lv_has ls 8 [(0, .ref h0), (1, .int (nI a)), (2, .int (nI b)), (3, .int (sd)), (4, .int (nI (b - a))), (5, .int (na_w4 f (na_p a b) (na_h0 f a b sd + nI (b - a)) (j))), (6, .int (nI (na_p a b + 4 * (j)))), (7, .int (nI (j)))] → W p l e (headSpec wsM_sumNarrow ({ frames := 3, cells := 0, slots := 0, locals := 72 } : Room)).room s m [Value.ref h0, .int (nI a), .int (nI b), .int sd].toArray below meth c s.heap [] 0 0 (MQ below (k2_QcV (.int (na_sum f a b sd))) [Value.ref h0, .int (nI a), .int (nI b), .int sd].toArray s 0 0 (fun _ => False)) (F0 m 112 ls []) := by
      intro d
      induction d with
      | zero =>
        intro j hj ls hl
        obtain rfl : na_c a b = j := by omega
        have J159 : ∀ ls : Array Slot, lv_has ls 8 [(0, .ref h0), (1, .int (nI a)), (2, .int (nI b)), (3, .int (sd)), (4, .int (nI (b - a))), (5, .int (na_w4 f (na_p a b) (na_h0 f a b sd + nI (b - a)) ((na_c a b)))), (6, .int (nI (na_p a b + 4 * ((na_c a b))))), (7, .int (nI ((na_c a b))))] → W p l e (headSpec wsM_sumNarrow ({ frames := 3, cells := 0, slots := 0, locals := 72 } : Room)).room s m [Value.ref h0, .int (nI a), .int (nI b), .int sd].toArray below meth c s.heap [] 0 0 (MQ below (k2_QcV (.int (na_sum f a b sd))) [Value.ref h0, .int (nI a), .int (nI b), .int sd].toArray s 0 0 (fun _ => False)) (F0 m 159 ls []) := by
          intro ls hl
          refine lv_iload hx hb dX1_sumNarrow_159 (lv_at hl 6 rfl) ?_
          refine lv_istore (lv' := [(7, .int (nI (na_p a b + 4 * ((na_c a b))))), (0, .ref h0), (1, .int (nI a)), (2, .int (nI b)), (3, .int (sd)), (4, .int (nI (b - a))), (5, .int (na_w4 f (na_p a b) (na_h0 f a b sd + nI (b - a)) ((na_c a b)))), (6, .int (nI (na_p a b + 4 * ((na_c a b)))))]) hx hb dX1_sumNarrow_161 hl (by decide) rfl (fun ls hl => ?_)
          have L163 : ∀ (d j : Nat), j + d = b - (na_p a b + 4 * na_c a b) → ∀ ls : Array Slot, lv_has ls 8 [(0, .ref h0), (1, .int (nI a)), (2, .int (nI b)), (3, .int (sd)), (4, .int (nI (b - a))), (5, .int (na_w1 f (na_p a b + 4 * na_c a b) (na_w4 f (na_p a b) (na_h0 f a b sd + nI (b - a)) (na_c a b)) (j))), (7, .int (nI ((na_p a b + 4 * na_c a b) + (j))))] → W p l e (headSpec wsM_sumNarrow ({ frames := 3, cells := 0, slots := 0, locals := 72 } : Room)).room s m [Value.ref h0, .int (nI a), .int (nI b), .int sd].toArray below meth c s.heap [] 0 0 (MQ below (k2_QcV (.int (na_sum f a b sd))) [Value.ref h0, .int (nI a), .int (nI b), .int sd].toArray s 0 0 (fun _ => False)) (F0 m 163 ls []) := by
            intro d
            induction d with
            | zero =>
              intro j hj ls hl
              obtain rfl : b - (na_p a b + 4 * na_c a b) = j := by omega
              refine lv_iload hx hb dX1_sumNarrow_163 (lv_at hl 6 rfl) ?_
              refine lv_iload_n hx hb dX1_sumNarrow_165 rfl (lv_at hl 2 rfl) ?_
              refine lv_icmp_ge (tgt := 197) hx hb dX1_sumNarrow_166 (by decide) (fun c_166 => ?_) (fun c_166 => ?_)
              · refine lv_iload hx hb dX1_sumNarrow_197 (lv_at hl 5 rfl) ?_
                refine lv_iload hx hb dX1_sumNarrow_199 (lv_at hl 5 rfl) ?_
                refine lv_bipush (v := 15) hx hb dX1_sumNarrow_201 (by decide) ?_
                refine lv_iushr (v := sh_u (na_w1 f (na_p a b + 4 * na_c a b) (na_w4 f (na_p a b) (na_h0 f a b sd + nI (b - a)) (na_c a b)) ((b - (na_p a b + 4 * na_c a b)))) (15)) hx hb dX1_sumNarrow_203 rfl ?_
                refine lv_ixor hx hb dX1_sumNarrow_204 ?_
                refine lv_ldc (v := -2048144777) hx hb hown (hts (.constant RX1 35 (-2048144777)) (wsM_self _ (wsM_nin (by decide +kernel)))) dX1_sumNarrow_205 ?_
                refine lv_imul hx hb dX1_sumNarrow_207 ?_
                refine q_ti (y := na_s1 (na_w1 f (na_p a b + 4 * na_c a b) (na_w4 f (na_p a b) (na_h0 f a b sd + nI (b - a)) (na_c a b)) (b - (na_p a b + 4 * na_c a b)))) (rfl) ?_
                refine lv_istore (lv' := [(5, .int (na_s1 (na_w1 f (na_p a b + 4 * na_c a b) (na_w4 f (na_p a b) (na_h0 f a b sd + nI (b - a)) (na_c a b)) (b - (na_p a b + 4 * na_c a b))))), (0, .ref h0), (1, .int (nI a)), (2, .int (nI b)), (3, .int (sd)), (4, .int (nI (b - a))), (7, .int (nI ((na_p a b + 4 * na_c a b) + ((b - (na_p a b + 4 * na_c a b))))))]) hx hb dX1_sumNarrow_208 hl (by decide) rfl (fun ls hl => ?_)
                refine lv_iload hx hb dX1_sumNarrow_210 (lv_at hl 0 rfl) ?_
                refine lv_iload hx hb dX1_sumNarrow_212 (lv_at hl 0 rfl) ?_
                refine lv_bipush (v := 13) hx hb dX1_sumNarrow_214 (by decide) ?_
                refine lv_iushr (v := sh_u (na_s1 (na_w1 f (na_p a b + 4 * na_c a b) (na_w4 f (na_p a b) (na_h0 f a b sd + nI (b - a)) (na_c a b)) (b - (na_p a b + 4 * na_c a b)))) (13)) hx hb dX1_sumNarrow_216 rfl ?_
                refine lv_ixor hx hb dX1_sumNarrow_217 ?_
                refine lv_ldc (v := -1028477379) hx hb hown (hts (.constant RX1 46 (-1028477379)) (wsM_self _ (wsM_nin (by decide +kernel)))) dX1_sumNarrow_218 ?_
                refine lv_imul hx hb dX1_sumNarrow_220 ?_
                refine q_ti (y := na_s2 (na_s1 (na_w1 f (na_p a b + 4 * na_c a b) (na_w4 f (na_p a b) (na_h0 f a b sd + nI (b - a)) (na_c a b)) (b - (na_p a b + 4 * na_c a b))))) (rfl) ?_
                refine lv_istore (lv' := [(5, .int (na_s2 (na_s1 (na_w1 f (na_p a b + 4 * na_c a b) (na_w4 f (na_p a b) (na_h0 f a b sd + nI (b - a)) (na_c a b)) (b - (na_p a b + 4 * na_c a b)))))), (0, .ref h0), (1, .int (nI a)), (2, .int (nI b)), (3, .int (sd)), (4, .int (nI (b - a))), (7, .int (nI ((na_p a b + 4 * na_c a b) + ((b - (na_p a b + 4 * na_c a b))))))]) hx hb dX1_sumNarrow_221 hl (by decide) rfl (fun ls hl => ?_)
                refine lv_iload hx hb dX1_sumNarrow_223 (lv_at hl 0 rfl) ?_
                refine lv_iload hx hb dX1_sumNarrow_225 (lv_at hl 0 rfl) ?_
                refine lv_bipush (v := 16) hx hb dX1_sumNarrow_227 (by decide) ?_
                refine lv_iushr (v := sh_u (na_s2 (na_s1 (na_w1 f (na_p a b + 4 * na_c a b) (na_w4 f (na_p a b) (na_h0 f a b sd + nI (b - a)) (na_c a b)) (b - (na_p a b + 4 * na_c a b))))) (16)) hx hb dX1_sumNarrow_229 rfl ?_
                refine lv_ixor hx hb dX1_sumNarrow_230 ?_
                exact W.iret (v := (na_s2 (na_s1 (na_w1 f (na_p a b + 4 * na_c a b) (na_w4 f (na_p a b) (na_h0 f a b sd + nI (b - a)) (na_c a b)) (b - (na_p a b + 4 * na_c a b)))) ^^^ (sh_u (na_s2 (na_s1 (na_w1 f (na_p a b + 4 * na_c a b) (na_w4 f (na_p a b) (na_h0 f a b sd + nI (b - a)) (na_c a b)) (b - (na_p a b + 4 * na_c a b))))) (16)))) hx hb hr (fun t ht _ => ⟨congrArg (fun z => Outcome.returned (some (Value.int z))) (rfl), ht⟩) (fun _ h => by cases h) dX1_sumNarrow_231
              · exact absurd (nI_le (by omega) (by omega)) c_166
            | succ d ih =>
              intro j hj ls hl
              have hjl : j < b - (na_p a b + 4 * na_c a b) := by omega
              refine lv_iload hx hb dX1_sumNarrow_163 (lv_at hl 6 rfl) ?_
              refine lv_iload_n hx hb dX1_sumNarrow_165 rfl (lv_at hl 2 rfl) ?_
              refine lv_icmp_ge (tgt := 197) hx hb dX1_sumNarrow_166 (by decide) (fun c_166 => ?_) (fun c_166 => ?_)
              · exact absurd c_166 (nI_ge (by omega) (by omega))
              · refine lv_iload hx hb dX1_sumNarrow_169 (lv_at hl 5 rfl) ?_
                refine lv_aload_n hx hb dX1_sumNarrow_171 rfl (lv_at hl 0 rfl) ?_
                refine lv_iload hx hb dX1_sumNarrow_172 (lv_at hl 6 rfl) ?_
                refine q_V (As := [.int (nI ((na_p a b + 4 * na_c a b) + (j)))]) (rest := [.int (na_w1 f (na_p a b + 4 * na_c a b) (na_w4 f (na_p a b) (na_h0 f a b sd + nI (b - a)) (na_c a b)) (j))]) ⟨hx, hb, hml, hown, hts⟩ (c_M_at l dC dI h0 a0 cB n ns wd f ((na_p a b + 4 * na_c a b) + j) (by omega)) (cwV 1 hts gX1_sumNarrow_X1_at rfl rfl rfl (by decide +kernel) ⟨Nat.le_of_ble_eq_true rfl, Nat.le_of_ble_eq_true rfl⟩) (mw_pre hP hK _) rfl hl.1 rfl (Nat.le_of_ble_eq_true rfl) dX1_sumNarrow_174 ⟨Nat.zero_le _, Nat.zero_le _⟩ ?_
                refine lv_ldc (v := 374761393) hx hb hown (hts (.constant RX1 41 (374761393)) (wsM_self _ (wsM_nin (by decide +kernel)))) dX1_sumNarrow_177 ?_
                refine lv_imul hx hb dX1_sumNarrow_179 ?_
                refine lv_iadd hx hb dX1_sumNarrow_180 ?_
                refine lv_bipush (v := 11) hx hb dX1_sumNarrow_181 (by decide) ?_
                refine q_S (As := [.int ((na_w1 f (na_p a b + 4 * na_c a b) (na_w4 f (na_p a b) (na_h0 f a b sd + nI (b - a)) (na_c a b)) (j) + ((f ((na_p a b + 4 * na_c a b) + j) &&& 255) * 374761393))), .int (11)]) (rest := []) ⟨hx, hb, hml, hown, hts⟩ (c_M_rotated l ((na_w1 f (na_p a b + 4 * na_c a b) (na_w4 f (na_p a b) (na_h0 f a b sd + nI (b - a)) (na_c a b)) (j) + ((f ((na_p a b + 4 * na_c a b) + j) &&& 255) * 374761393))) (11)) (va_cwS 2 hts gX1_sumNarrow_X1_rotated rfl rfl rfl (by decide +kernel) ⟨Nat.le_of_ble_eq_true rfl, Nat.le_of_ble_eq_true rfl⟩) rfl hl.1 rfl (Nat.le_of_ble_eq_true rfl) dX1_sumNarrow_183 ⟨Nat.zero_le _, Nat.zero_le _⟩ ?_
                refine lv_ldc (v := -1640531535) hx hb hown (hts (.constant RX1 40 (-1640531535)) (wsM_self _ (wsM_nin (by decide +kernel)))) dX1_sumNarrow_186 ?_
                refine lv_imul hx hb dX1_sumNarrow_188 ?_
                refine q_ti (y := na_w1 f (na_p a b + 4 * na_c a b) (na_w4 f (na_p a b) (na_h0 f a b sd + nI (b - a)) (na_c a b)) (j + 1)) (rfl) ?_
                refine lv_istore (lv' := [(5, .int (na_w1 f (na_p a b + 4 * na_c a b) (na_w4 f (na_p a b) (na_h0 f a b sd + nI (b - a)) (na_c a b)) (j + 1))), (0, .ref h0), (1, .int (nI a)), (2, .int (nI b)), (3, .int (sd)), (4, .int (nI (b - a))), (7, .int (nI ((na_p a b + 4 * na_c a b) + (j))))]) hx hb dX1_sumNarrow_189 hl (by decide) rfl (fun ls hl => ?_)
                refine lv_iinc (v := nI ((na_p a b + 4 * na_c a b) + (j + 1))) (lv' := [(7, .int (nI ((na_p a b + 4 * na_c a b) + (j + 1)))), (5, .int (na_w1 f (na_p a b + 4 * na_c a b) (na_w4 f (na_p a b) (na_h0 f a b sd + nI (b - a)) (na_c a b)) (j + 1))), (0, .ref h0), (1, .int (nI a)), (2, .int (nI b)), (3, .int (sd)), (4, .int (nI (b - a)))]) hx hb dX1_sumNarrow_191 hl (k := 6) rfl (nI_add _ 1) (by decide) rfl (fun ls hl => ?_)
                refine lv_goto (tgt := 163) hx hb dX1_sumNarrow_194 (by decide) ?_
                exact ih (j + 1) (by omega) ls (lv_sub hl [2, 3, 4, 5, 6, 1, 0] rfl)
          exact L163 (b - (na_p a b + 4 * na_c a b)) 0 (by omega) ls (lv_sub hl [1, 2, 3, 4, 5, 6, 0] rfl)
        refine lv_iload hx hb dX1_sumNarrow_112 (lv_at hl 7 rfl) ?_
        refine lv_iconst (v := 3) hx hb dX1_sumNarrow_114 (by decide) ?_
        refine lv_icmp_ge (tgt := 159) hx hb dX1_sumNarrow_115 (by decide) (fun c_115 => ?_) (fun c_115 => ?_)
        · exact J159 ls (lv_sub hl [0, 1, 2, 3, 4, 5, 6, 7] rfl)
        · refine lv_iload_n hx hb dX1_sumNarrow_118 rfl (lv_at hl 2 rfl) ?_
          refine lv_iload hx hb dX1_sumNarrow_119 (lv_at hl 6 rfl) ?_
          refine lv_isub hx hb dX1_sumNarrow_121 ?_
          refine q_ti (y := nI (b - (na_p a b + 4 * na_c a b))) (pk_sub (by omega)) ?_
          refine lv_iconst (v := 4) hx hb dX1_sumNarrow_122 (by decide) ?_
          refine lv_icmp_lt (tgt := 159) hx hb dX1_sumNarrow_123 (by decide) (fun c_123 => ?_) (fun c_123 => ?_)
          · exact J159 ls (lv_sub hl [0, 1, 2, 3, 4, 5, 6, 7] rfl)
          · exact absurd (nI_lt (b := 4) (by omega) (by omega)) c_123
      | succ d ih =>
        intro j hj ls hl
        have hjl : j < na_c a b := by omega
        refine lv_iload hx hb dX1_sumNarrow_112 (lv_at hl 7 rfl) ?_
        refine lv_iconst (v := 3) hx hb dX1_sumNarrow_114 (by decide) ?_
        refine lv_icmp_ge (tgt := 159) hx hb dX1_sumNarrow_115 (by decide) (fun c_115 => ?_) (fun c_115 => ?_)
        · exact absurd c_115 (nI_ge (b := 3) (by omega) (by omega))
        · refine lv_iload_n hx hb dX1_sumNarrow_118 rfl (lv_at hl 2 rfl) ?_
          refine lv_iload hx hb dX1_sumNarrow_119 (lv_at hl 6 rfl) ?_
          refine lv_isub hx hb dX1_sumNarrow_121 ?_
          refine q_ti (y := nI (b - (na_p a b + 4 * j))) (pk_sub (by omega)) ?_
          refine lv_iconst (v := 4) hx hb dX1_sumNarrow_122 (by decide) ?_
          refine lv_icmp_lt (tgt := 159) hx hb dX1_sumNarrow_123 (by decide) (fun c_123 => ?_) (fun c_123 => ?_)
          · exact absurd c_123 (nI_nlt (b := 4) (by omega) (by omega))
          · refine lv_iload hx hb dX1_sumNarrow_126 (lv_at hl 5 rfl) ?_
            refine lv_aload_n hx hb dX1_sumNarrow_128 rfl (lv_at hl 0 rfl) ?_
            refine lv_iload hx hb dX1_sumNarrow_129 (lv_at hl 6 rfl) ?_
            refine lv_iconst (v := 4) hx hb dX1_sumNarrow_131 (by decide) ?_
            refine q_V (As := [.int (nI (na_p a b + 4 * (j))), .int (4)]) (rest := [.int (na_w4 f (na_p a b) (na_h0 f a b sd + nI (b - a)) (j))]) ⟨hx, hb, hml, hown, hts⟩ (c_M_number l dC dI h0 a0 cB n ns wd f (na_p a b + 4 * j) (4) (by omega)) (cwV 2 hts gX1_sumNarrow_X1_number rfl rfl rfl (by decide +kernel) ⟨Nat.le_of_ble_eq_true rfl, Nat.le_of_ble_eq_true rfl⟩) (mw_pre hP hK _) rfl hl.1 rfl (Nat.le_of_ble_eq_true rfl) dX1_sumNarrow_132 ⟨Nat.zero_le _, Nat.zero_le _⟩ ?_
            refine lv_l2i (v := ((wo_n f (na_p a b + 4 * j) 4)).toInt32) hx hb dX1_sumNarrow_135 rfl ?_
            refine q_ti (y := wo_4 f (na_p a b + 4 * j)) (wo_n4i _ _) ?_
            refine lv_ldc (v := -1028477379) hx hb hown (hts (.constant RX1 46 (-1028477379)) (wsM_self _ (wsM_nin (by decide +kernel)))) dX1_sumNarrow_136 ?_
            refine lv_imul hx hb dX1_sumNarrow_138 ?_
            refine lv_iadd hx hb dX1_sumNarrow_139 ?_
            refine lv_bipush (v := 17) hx hb dX1_sumNarrow_140 (by decide) ?_
            refine q_S (As := [.int ((na_w4 f (na_p a b) (na_h0 f a b sd + nI (b - a)) (j) + (wo_4 f (na_p a b + 4 * j) * (-1028477379)))), .int (17)]) (rest := []) ⟨hx, hb, hml, hown, hts⟩ (c_M_rotated l ((na_w4 f (na_p a b) (na_h0 f a b sd + nI (b - a)) (j) + (wo_4 f (na_p a b + 4 * j) * (-1028477379)))) (17)) (va_cwS 2 hts gX1_sumNarrow_X1_rotated rfl rfl rfl (by decide +kernel) ⟨Nat.le_of_ble_eq_true rfl, Nat.le_of_ble_eq_true rfl⟩) rfl hl.1 rfl (Nat.le_of_ble_eq_true rfl) dX1_sumNarrow_142 ⟨Nat.zero_le _, Nat.zero_le _⟩ ?_
            refine lv_ldc (v := 668265263) hx hb hown (hts (.constant RX1 47 (668265263)) (wsM_self _ (wsM_nin (by decide +kernel)))) dX1_sumNarrow_145 ?_
            refine lv_imul hx hb dX1_sumNarrow_147 ?_
            refine q_ti (y := na_w4 f (na_p a b) (na_h0 f a b sd + nI (b - a)) (j + 1)) (rfl) ?_
            refine lv_istore (lv' := [(5, .int (na_w4 f (na_p a b) (na_h0 f a b sd + nI (b - a)) (j + 1))), (0, .ref h0), (1, .int (nI a)), (2, .int (nI b)), (3, .int (sd)), (4, .int (nI (b - a))), (6, .int (nI (na_p a b + 4 * (j)))), (7, .int (nI (j)))]) hx hb dX1_sumNarrow_148 hl (by decide) rfl (fun ls hl => ?_)
            refine lv_iinc (v := nI (na_p a b + 4 * (j + 1))) (lv' := [(6, .int (nI (na_p a b + 4 * (j + 1)))), (5, .int (na_w4 f (na_p a b) (na_h0 f a b sd + nI (b - a)) (j + 1))), (0, .ref h0), (1, .int (nI a)), (2, .int (nI b)), (3, .int (sd)), (4, .int (nI (b - a))), (7, .int (nI (j)))]) hx hb dX1_sumNarrow_150 hl (k := 6) rfl (by rw [show na_p a b + 4 * (j + 1) = na_p a b + 4 * j + 4 by omega]; exact nI_add _ 4) (by decide) rfl (fun ls hl => ?_)
            refine lv_iinc (v := nI (j + 1)) (lv' := [(7, .int (nI (j + 1))), (6, .int (nI (na_p a b + 4 * (j + 1)))), (5, .int (na_w4 f (na_p a b) (na_h0 f a b sd + nI (b - a)) (j + 1))), (0, .ref h0), (1, .int (nI a)), (2, .int (nI b)), (3, .int (sd)), (4, .int (nI (b - a)))]) hx hb dX1_sumNarrow_153 hl (k := 7) rfl (nI_add j 1) (by decide) rfl (fun ls hl => ?_)
            refine lv_goto (tgt := 112) hx hb dX1_sumNarrow_156 (by decide) ?_
            exact ih (j + 1) (by omega) ls (lv_sub hl [3, 4, 5, 6, 7, 2, 1, 0] rfl)
    exact L112 (na_c a b) 0 (by omega) ls (lv_sub hl [2, 3, 4, 5, 6, 1, 7, 0] rfl)
  refine lv_iload hx hb dX1_sumNarrow_14 (lv_at hl 2 rfl) ?_
  refine lv_bipush (v := 16) hx hb dX1_sumNarrow_16 (by decide) ?_
  refine lv_icmp_lt (tgt := 102) hx hb dX1_sumNarrow_18 (by decide) (fun c_18 => ?_) (fun c_18 => ?_)
  · have hsm : b - a < 16 := (nI_ltI (b := 16) (by omega) (by omega)).mp c_18
    have hl : lv_has ls 8 [(6, .int (nI a)), (5, .int (na_h0 f a b sd)), (4, .int (nI (b - a))), (0, .ref h0), (1, .int (nI a)), (2, .int (nI b)), (3, .int (sd))] := q_lv hl (congrArg (fun z => ([(6, .int (nI a)), (5, Value.int z), (4, .int (nI (b - a))), (0, .ref h0), (1, .int (nI a)), (2, .int (nI b)), (3, .int (sd))] : List (Nat × Value))) (show ((sd + 374761393) : Int32) = na_h0 f a b sd from by unfold na_h0; rw [if_neg (by omega)]))
    have hl : lv_has ls 8 [(6, .int (nI (na_p a b))), (5, .int (na_h0 f a b sd)), (4, .int (nI (b - a))), (0, .ref h0), (1, .int (nI a)), (2, .int (nI b)), (3, .int (sd))] := q_lv hl (congrArg (fun z => ([(6, Value.int z), (5, .int (na_h0 f a b sd)), (4, .int (nI (b - a))), (0, .ref h0), (1, .int (nI a)), (2, .int (nI b)), (3, .int (sd))] : List (Nat × Value))) (show (nI a : Int32) = nI (na_p a b) from congrArg nI (by unfold na_p; omega)))
    exact J102 ls (lv_sub hl [3, 4, 5, 6, 2, 1, 0] rfl)
  · have hsm : ¬ b - a < 16 := fun q => c_18 (nI_lt (b := 16) q (by omega))
    refine lv_aload_n hx hb dX1_sumNarrow_21 rfl (lv_at hl 3 rfl) ?_
    refine lv_iload_n hx hb dX1_sumNarrow_22 rfl (lv_at hl 6 rfl) ?_
    refine lv_ldc (v := -1640531535) hx hb hown (hts (.constant RX1 40 (-1640531535)) (wsM_self _ (wsM_nin (by decide +kernel)))) dX1_sumNarrow_23 ?_
    refine lv_iadd hx hb dX1_sumNarrow_25 ?_
    refine lv_ldc (v := -2048144777) hx hb hown (hts (.constant RX1 35 (-2048144777)) (wsM_self _ (wsM_nin (by decide +kernel)))) dX1_sumNarrow_26 ?_
    refine lv_iadd hx hb dX1_sumNarrow_28 ?_
    refine lv_iload_n hx hb dX1_sumNarrow_29 rfl (lv_at hl 4 rfl) ?_
    refine lv_iload_n hx hb dX1_sumNarrow_30 rfl (lv_at hl 5 rfl) ?_
    refine lv_iconst (v := 0) hx hb dX1_sumNarrow_31 (by decide) ?_
    refine q_V (As := [.int (((sd + (-1640531535)) + (-2048144777))), .int (nI a), .int (nI b), .int (0)]) (rest := []) ⟨hx, hb, hml, hown, hts⟩ (c_M_lane l dC dI h0 a0 cB n ns wd f (sd + (-1640531535) + (-2048144777)) (a) (b) (0) (by omega) (by omega) (by omega)) (cwV 4 hts gX1_sumNarrow_X1_lane rfl rfl rfl (by decide +kernel) ⟨Nat.le_of_ble_eq_true rfl, Nat.le_of_ble_eq_true rfl⟩) (mw_pre hP hK _) rfl hl.1 rfl (Nat.le_of_ble_eq_true rfl) dX1_sumNarrow_32 ⟨Nat.zero_le _, Nat.zero_le _⟩ ?_
    refine lv_iconst (v := 1) hx hb dX1_sumNarrow_35 (by decide) ?_
    refine q_S (As := [.int ((na_fo f a 0 (sd + (-1640531535) + (-2048144777)) ((b - a) / 16))), .int (1)]) (rest := []) ⟨hx, hb, hml, hown, hts⟩ (c_M_rotated l ((na_fo f a 0 (sd + (-1640531535) + (-2048144777)) ((b - a) / 16))) (1)) (va_cwS 2 hts gX1_sumNarrow_X1_rotated rfl rfl rfl (by decide +kernel) ⟨Nat.le_of_ble_eq_true rfl, Nat.le_of_ble_eq_true rfl⟩) rfl hl.1 rfl (Nat.le_of_ble_eq_true rfl) dX1_sumNarrow_36 ⟨Nat.zero_le _, Nat.zero_le _⟩ ?_
    refine lv_aload_n hx hb dX1_sumNarrow_39 rfl (lv_at hl 3 rfl) ?_
    refine lv_iload_n hx hb dX1_sumNarrow_40 rfl (lv_at hl 6 rfl) ?_
    refine lv_ldc (v := -2048144777) hx hb hown (hts (.constant RX1 35 (-2048144777)) (wsM_self _ (wsM_nin (by decide +kernel)))) dX1_sumNarrow_41 ?_
    refine lv_iadd hx hb dX1_sumNarrow_43 ?_
    refine lv_iload_n hx hb dX1_sumNarrow_44 rfl (lv_at hl 4 rfl) ?_
    refine lv_iload_n hx hb dX1_sumNarrow_45 rfl (lv_at hl 5 rfl) ?_
    refine lv_iconst (v := 1) hx hb dX1_sumNarrow_46 (by decide) ?_
    refine q_V (As := [.int ((sd + (-2048144777))), .int (nI a), .int (nI b), .int (1)]) (rest := [.int ((na_rt ((na_fo f a 0 (sd + (-1640531535) + (-2048144777)) ((b - a) / 16))) 1))]) ⟨hx, hb, hml, hown, hts⟩ (c_M_lane l dC dI h0 a0 cB n ns wd f (sd + (-2048144777)) (a) (b) (1) (by omega) (by omega) (by omega)) (cwV 4 hts gX1_sumNarrow_X1_lane rfl rfl rfl (by decide +kernel) ⟨Nat.le_of_ble_eq_true rfl, Nat.le_of_ble_eq_true rfl⟩) (mw_pre hP hK _) rfl hl.1 rfl (Nat.le_of_ble_eq_true rfl) dX1_sumNarrow_47 ⟨Nat.zero_le _, Nat.zero_le _⟩ ?_
    refine lv_bipush (v := 7) hx hb dX1_sumNarrow_50 (by decide) ?_
    refine q_S (As := [.int ((na_fo f a 1 (sd + (-2048144777)) ((b - a) / 16))), .int (7)]) (rest := [.int ((na_rt ((na_fo f a 0 (sd + (-1640531535) + (-2048144777)) ((b - a) / 16))) 1))]) ⟨hx, hb, hml, hown, hts⟩ (c_M_rotated l ((na_fo f a 1 (sd + (-2048144777)) ((b - a) / 16))) (7)) (va_cwS 2 hts gX1_sumNarrow_X1_rotated rfl rfl rfl (by decide +kernel) ⟨Nat.le_of_ble_eq_true rfl, Nat.le_of_ble_eq_true rfl⟩) rfl hl.1 rfl (Nat.le_of_ble_eq_true rfl) dX1_sumNarrow_52 ⟨Nat.zero_le _, Nat.zero_le _⟩ ?_
    refine lv_iadd hx hb dX1_sumNarrow_55 ?_
    refine lv_istore (lv' := [(5, .int (((na_rt ((na_fo f a 0 (sd + (-1640531535) + (-2048144777)) ((b - a) / 16))) 1) + (na_rt ((na_fo f a 1 (sd + (-2048144777)) ((b - a) / 16))) 7)))), (6, .int (nI a)), (4, .int (nI (b - a))), (0, .ref h0), (1, .int (nI a)), (2, .int (nI b)), (3, .int (sd))]) hx hb dX1_sumNarrow_56 hl (by decide) rfl (fun ls hl => ?_)
    refine lv_iload hx hb dX1_sumNarrow_58 (lv_at hl 0 rfl) ?_
    refine lv_aload_n hx hb dX1_sumNarrow_60 rfl (lv_at hl 3 rfl) ?_
    refine lv_iload_n hx hb dX1_sumNarrow_61 rfl (lv_at hl 6 rfl) ?_
    refine lv_iload_n hx hb dX1_sumNarrow_62 rfl (lv_at hl 4 rfl) ?_
    refine lv_iload_n hx hb dX1_sumNarrow_63 rfl (lv_at hl 5 rfl) ?_
    refine lv_iconst (v := 2) hx hb dX1_sumNarrow_64 (by decide) ?_
    refine q_V (As := [.int (sd), .int (nI a), .int (nI b), .int (2)]) (rest := [.int (((na_rt ((na_fo f a 0 (sd + (-1640531535) + (-2048144777)) ((b - a) / 16))) 1) + (na_rt ((na_fo f a 1 (sd + (-2048144777)) ((b - a) / 16))) 7)))]) ⟨hx, hb, hml, hown, hts⟩ (c_M_lane l dC dI h0 a0 cB n ns wd f (sd) (a) (b) (2) (by omega) (by omega) (by omega)) (cwV 4 hts gX1_sumNarrow_X1_lane rfl rfl rfl (by decide +kernel) ⟨Nat.le_of_ble_eq_true rfl, Nat.le_of_ble_eq_true rfl⟩) (mw_pre hP hK _) rfl hl.1 rfl (Nat.le_of_ble_eq_true rfl) dX1_sumNarrow_65 ⟨Nat.zero_le _, Nat.zero_le _⟩ ?_
    refine lv_bipush (v := 12) hx hb dX1_sumNarrow_68 (by decide) ?_
    refine q_S (As := [.int ((na_fo f a 2 sd ((b - a) / 16))), .int (12)]) (rest := [.int (((na_rt ((na_fo f a 0 (sd + (-1640531535) + (-2048144777)) ((b - a) / 16))) 1) + (na_rt ((na_fo f a 1 (sd + (-2048144777)) ((b - a) / 16))) 7)))]) ⟨hx, hb, hml, hown, hts⟩ (c_M_rotated l ((na_fo f a 2 sd ((b - a) / 16))) (12)) (va_cwS 2 hts gX1_sumNarrow_X1_rotated rfl rfl rfl (by decide +kernel) ⟨Nat.le_of_ble_eq_true rfl, Nat.le_of_ble_eq_true rfl⟩) rfl hl.1 rfl (Nat.le_of_ble_eq_true rfl) dX1_sumNarrow_70 ⟨Nat.zero_le _, Nat.zero_le _⟩ ?_
    refine lv_aload_n hx hb dX1_sumNarrow_73 rfl (lv_at hl 3 rfl) ?_
    refine lv_iload_n hx hb dX1_sumNarrow_74 rfl (lv_at hl 6 rfl) ?_
    refine lv_ldc (v := -1640531535) hx hb hown (hts (.constant RX1 40 (-1640531535)) (wsM_self _ (wsM_nin (by decide +kernel)))) dX1_sumNarrow_75 ?_
    refine lv_isub hx hb dX1_sumNarrow_77 ?_
    refine lv_iload_n hx hb dX1_sumNarrow_78 rfl (lv_at hl 4 rfl) ?_
    refine lv_iload_n hx hb dX1_sumNarrow_79 rfl (lv_at hl 5 rfl) ?_
    refine lv_iconst (v := 3) hx hb dX1_sumNarrow_80 (by decide) ?_
    refine q_V (As := [.int ((sd - (-1640531535))), .int (nI a), .int (nI b), .int (3)]) (rest := [.int ((na_rt ((na_fo f a 2 sd ((b - a) / 16))) 12)), .int (((na_rt ((na_fo f a 0 (sd + (-1640531535) + (-2048144777)) ((b - a) / 16))) 1) + (na_rt ((na_fo f a 1 (sd + (-2048144777)) ((b - a) / 16))) 7)))]) ⟨hx, hb, hml, hown, hts⟩ (c_M_lane l dC dI h0 a0 cB n ns wd f (sd - (-1640531535)) (a) (b) (3) (by omega) (by omega) (by omega)) (cwV 4 hts gX1_sumNarrow_X1_lane rfl rfl rfl (by decide +kernel) ⟨Nat.le_of_ble_eq_true rfl, Nat.le_of_ble_eq_true rfl⟩) (mw_pre hP hK _) rfl hl.1 rfl (Nat.le_of_ble_eq_true rfl) dX1_sumNarrow_81 ⟨Nat.zero_le _, Nat.zero_le _⟩ ?_
    refine lv_bipush (v := 18) hx hb dX1_sumNarrow_84 (by decide) ?_
    refine q_S (As := [.int ((na_fo f a 3 (sd - (-1640531535)) ((b - a) / 16))), .int (18)]) (rest := [.int ((na_rt ((na_fo f a 2 sd ((b - a) / 16))) 12)), .int (((na_rt ((na_fo f a 0 (sd + (-1640531535) + (-2048144777)) ((b - a) / 16))) 1) + (na_rt ((na_fo f a 1 (sd + (-2048144777)) ((b - a) / 16))) 7)))]) ⟨hx, hb, hml, hown, hts⟩ (c_M_rotated l ((na_fo f a 3 (sd - (-1640531535)) ((b - a) / 16))) (18)) (va_cwS 2 hts gX1_sumNarrow_X1_rotated rfl rfl rfl (by decide +kernel) ⟨Nat.le_of_ble_eq_true rfl, Nat.le_of_ble_eq_true rfl⟩) rfl hl.1 rfl (Nat.le_of_ble_eq_true rfl) dX1_sumNarrow_86 ⟨Nat.zero_le _, Nat.zero_le _⟩ ?_
    refine lv_iadd hx hb dX1_sumNarrow_89 ?_
    refine lv_iadd hx hb dX1_sumNarrow_90 ?_
    refine q_ti (y := na_h0 f a b sd) (by unfold na_h0 na_la; rw [if_pos (by omega)]; exact (Int32.add_assoc _ _ _).symm) ?_
    refine lv_istore (lv' := [(5, .int (na_h0 f a b sd)), (6, .int (nI a)), (4, .int (nI (b - a))), (0, .ref h0), (1, .int (nI a)), (2, .int (nI b)), (3, .int (sd))]) hx hb dX1_sumNarrow_91 hl (by decide) rfl (fun ls hl => ?_)
    refine lv_iload_n hx hb dX1_sumNarrow_93 rfl (lv_at hl 5 rfl) ?_
    refine lv_iload hx hb dX1_sumNarrow_94 (lv_at hl 2 rfl) ?_
    refine lv_bipush (v := 16) hx hb dX1_sumNarrow_96 (by decide) ?_
    refine lv_irem hx hb dX1_sumNarrow_98 (by decide) ?_
    refine q_ti (y := nI ((b - a) % 16)) (pk_rem (d := 16) (by omega) (by omega) (by omega)) ?_
    refine lv_isub hx hb dX1_sumNarrow_99 ?_
    refine q_ti (y := nI (na_p a b)) (pk_sub (by omega)) ?_
    refine lv_istore (lv' := [(6, .int (nI (na_p a b))), (5, .int (na_h0 f a b sd)), (4, .int (nI (b - a))), (0, .ref h0), (1, .int (nI a)), (2, .int (nI b)), (3, .int (sd))]) hx hb dX1_sumNarrow_100 hl (by decide) rfl (fun ls hl => ?_)
    exact J102 ls (lv_sub hl [3, 4, 5, 6, 2, 1, 0] rfl)
set_option maxHeartbeats 4000000 in
set_option maxRecDepth 100000 in
theorem c_M_narrow (l : Launch) (dC : Nat → ClassId) (dI : Nat → Nat → Nat) (h0 a0 : Nat) (cB : ClassId) (n : Nat) (ns : Int32) (wd : Int64) (f : Nat → Int32) (hn : n ≤ 65536) : Met l yX1_narrow wsM_narrow ({ frames := 4, cells := 0, slots := 0, locals := 99 } : Room) (va_Pc [.ref h0] (mW dC dI h0 a0 cB n ns wd f)) (k2_QcV (.int (na_sum f 0 n ns))) 0 0 (fun _ => False) := by
  refine Met.ofW (cc := cX1_narrow) (maxL := 1) (ret := some .int) (by decide) rfl ?_
  intro p e s m args below meth c s₁ B hml hv
  obtain ⟨rfl, hP, hK⟩ := hv
  have hx := B.exec
  have hb := B.bytes
  have hr := B.returns
  have hts := atoms_spec (ws := wsM_narrow) B.pre
  have hown : s.vm.findClass RX1 = some m.cls := findClass_of_methodNamed B.named
  have hlocks := B.notSynchronized
  have hin : ∀ w ∈ u_ws RX1 TX1 4, w ∈ wsM_narrow := fun w h => wsM_self w (wsM_fin w h)
  have hl := lv_entry ([.ref h0]) (n := 1) (Nat.le_of_ble_eq_true rfl)
  rw [lg_entry_eq]
  generalize (lg_sl ([.ref h0]) ++ List.replicate (1 - (lg_sl ([.ref h0])).length) Slot.unset).toArray = ls at hl ⊢
  have hl : lv_has ls 1 [(0, .ref h0)] := hl
  refine lv_aload_n hx hb dX1_narrow_0 rfl (lv_at hl 0 rfl) ?_
  refine lv_iconst (v := 0) hx hb dX1_narrow_1 (by decide) ?_
  refine lv_aload_n hx hb dX1_narrow_2 rfl (lv_at hl 0 rfl) ?_
  refine va_get (D := (dC, dI)) (ci := 1) (v := .int (nI n)) (C := RX1) (T := TX1) (N := 4) hx hb hts hin hown hK hP 0 rfl rfl 1 (by decide) (hts (.fieldLink RX1 14 "StreamSumsModel" "length" "I") (wsM_self _ (wsM_nin (by decide +kernel)))) (fun _ h9 => h9) rfl dX1_narrow_3 ?_
  refine lv_aload_n hx hb dX1_narrow_6 rfl (lv_at hl 0 rfl) ?_
  refine va_get (D := (dC, dI)) (ci := 1) (v := .int (ns)) (C := RX1) (T := TX1) (N := 4) hx hb hts hin hown hK hP 0 rfl rfl 2 (by decide) (hts (.fieldLink RX1 18 "StreamSumsModel" "seedNarrow" "I") (wsM_self _ (wsM_nin (by decide +kernel)))) (fun _ h9 => h9) rfl dX1_narrow_7 ?_
  refine q_V (As := [.int (0), .int (nI n), .int (ns)]) (rest := []) ⟨hx, hb, hml, hown, hts⟩ (c_M_sumNarrow l dC dI h0 a0 cB n ns wd f (0) (n) (ns) (by omega) (by omega)) (cwV 3 hts gX1_narrow_X1_sumNarrow rfl rfl rfl (by decide +kernel) ⟨Nat.le_of_ble_eq_true rfl, Nat.le_of_ble_eq_true rfl⟩) (mw_pre hP hK _) rfl hl.1 rfl (Nat.le_of_ble_eq_true rfl) dX1_narrow_10 ⟨Nat.zero_le _, Nat.zero_le _⟩ ?_
  exact W.iret (v := (na_sum f 0 n ns)) hx hb hr (fun t ht _ => ⟨congrArg (fun z => Outcome.returned (some (Value.int z))) (rfl), ht⟩) (fun _ h => by cases h) dX1_narrow_13
set_option maxHeartbeats 4000000 in
set_option maxRecDepth 100000 in
theorem c_M_narrowOf (l : Launch) (dC : Nat → ClassId) (dI : Nat → Nat → Nat) (h0 a0 : Nat) (cB : ClassId) (n : Nat) (ns : Int32) (wd : Int64) (f : Nat → Int32) (x : Int32) (y : Int32) (sd : Int32) (hn : n ≤ 65536) : Met l yX1_narrowOf wsM_narrowOf ({ frames := 4, cells := 0, slots := 0, locals := 99 } : Room) (va_Pc [.ref h0, .int x, .int y, .int sd] (mW dC dI h0 a0 cB n ns wd f)) (k2_QcV (.int (an_na n f x y sd))) 0 0 (fun _ => False) := by
  refine Met.ofW (cc := cX1_narrowOf) (maxL := 4) (ret := some .int) (by decide) rfl ?_
  intro p e s m args below meth c s₁ B hml hv
  obtain ⟨rfl, hP, hK⟩ := hv
  have hx := B.exec
  have hb := B.bytes
  have hr := B.returns
  have hts := atoms_spec (ws := wsM_narrowOf) B.pre
  have hown : s.vm.findClass RX1 = some m.cls := findClass_of_methodNamed B.named
  have hlocks := B.notSynchronized
  have hl := lv_entry ([.ref h0, .int x, .int y, .int sd]) (n := 4) (Nat.le_of_ble_eq_true rfl)
  rw [lg_entry_eq]
  generalize (lg_sl ([.ref h0, .int x, .int y, .int sd]) ++ List.replicate (4 - (lg_sl ([.ref h0, .int x, .int y, .int sd])).length) Slot.unset).toArray = ls at hl ⊢
  have hl : lv_has ls 4 [(0, .ref h0), (1, .int (x)), (2, .int (y)), (3, .int (sd))] := hl
  refine lv_aload_n hx hb dX1_narrowOf_0 rfl (lv_at hl 0 rfl) ?_
  refine lv_iload_n hx hb dX1_narrowOf_1 rfl (lv_at hl 1 rfl) ?_
  refine lv_iload_n hx hb dX1_narrowOf_2 rfl (lv_at hl 2 rfl) ?_
  refine q_V (As := [.int (x), .int (y)]) (rest := []) ⟨hx, hb, hml, hown, hts⟩ (c_M_isPart l dC dI h0 a0 cB n ns wd f (x) (y)) (cwV 2 hts gX1_narrowOf_X1_isPart rfl rfl rfl (by decide +kernel) ⟨Nat.le_of_ble_eq_true rfl, Nat.le_of_ble_eq_true rfl⟩) (mw_pre hP hK _) rfl hl.1 rfl (Nat.le_of_ble_eq_true rfl) dX1_narrowOf_3 ⟨Nat.zero_le _, Nat.zero_le _⟩ ?_
  refine lv_if_eq (tgt := 19) hx hb dX1_narrowOf_6 (by decide) (fun c_6 => ?_) (fun c_6 => ?_)
  · refine lv_aload_n hx hb dX1_narrowOf_19 rfl (lv_at hl 0 rfl) ?_
    refine lv_iconst (v := 0) hx hb dX1_narrowOf_20 (by decide) ?_
    refine lv_iconst (v := 0) hx hb dX1_narrowOf_21 (by decide) ?_
    refine lv_iload_n hx hb dX1_narrowOf_22 rfl (lv_at hl 3 rfl) ?_
    refine q_V (As := [.int (0), .int (0), .int (sd)]) (rest := []) ⟨hx, hb, hml, hown, hts⟩ (c_M_sumNarrow l dC dI h0 a0 cB n ns wd f (0) (0) (sd) (by omega) (by omega)) (cwV 3 hts gX1_narrowOf_X1_sumNarrow rfl rfl rfl (by decide +kernel) ⟨Nat.le_of_ble_eq_true rfl, Nat.le_of_ble_eq_true rfl⟩) (mw_pre hP hK _) rfl hl.1 rfl (Nat.le_of_ble_eq_true rfl) dX1_narrowOf_23 ⟨Nat.zero_le _, Nat.zero_le _⟩ ?_
    exact W.iret (v := (na_sum f 0 0 sd)) hx hb hr (fun t ht _ => ⟨congrArg (fun z => Outcome.returned (some (Value.int z))) (by unfold an_na; rw [if_pos c_6]), ht⟩) (fun _ h => by cases h) dX1_narrowOf_26
  · obtain ⟨a, b, hxa, hyb, hab, hbn⟩ := pt_some hn c_6
    refine lv_aload_n hx hb dX1_narrowOf_9 rfl (lv_at hl 0 rfl) ?_
    refine lv_iload_n hx hb dX1_narrowOf_10 rfl (lv_at hl 1 rfl) ?_
    refine q_ti (y := nI a) (hxa) ?_
    refine lv_iload_n hx hb dX1_narrowOf_11 rfl (lv_at hl 2 rfl) ?_
    refine q_ti (y := nI b) (hyb) ?_
    refine lv_iload_n hx hb dX1_narrowOf_12 rfl (lv_at hl 3 rfl) ?_
    refine q_V (As := [.int (nI a), .int (nI b), .int (sd)]) (rest := []) ⟨hx, hb, hml, hown, hts⟩ (c_M_sumNarrow l dC dI h0 a0 cB n ns wd f (a) (b) (sd) (by omega) (by omega)) (cwV 3 hts gX1_narrowOf_X1_sumNarrow rfl rfl rfl (by decide +kernel) ⟨Nat.le_of_ble_eq_true rfl, Nat.le_of_ble_eq_true rfl⟩) (mw_pre hP hK _) rfl hl.1 rfl (Nat.le_of_ble_eq_true rfl) dX1_narrowOf_13 ⟨Nat.zero_le _, Nat.zero_le _⟩ ?_
    refine lv_goto (tgt := 26) hx hb dX1_narrowOf_16 (by decide) ?_
    exact W.iret (v := (na_sum f a b sd)) hx hb hr (fun t ht _ => ⟨congrArg (fun z => Outcome.returned (some (Value.int z))) (by unfold an_na; rw [if_neg c_6, hxa, hyb, nI_clamp (by omega), nI_clamp (by omega)]), ht⟩) (fun _ h => by cases h) dX1_narrowOf_26
