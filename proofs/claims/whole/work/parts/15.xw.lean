set_option maxHeartbeats 4000000 in
set_option maxRecDepth 100000 in
theorem c_X_append (l : Launch) (dC : Nat → ClassId) (dI : Nat → Nat → Nat) (h0 a0 a1 : Nat) (cB cI : ClassId) (sz n : Nat) (ns : Int32) (wd : Int64) (f g : Nat → Int32) (x : Int32) (hn : n < 65536) : Met l yX0_append wsX0_append ({ frames := 0, cells := 0, slots := 0, locals := 0 } : Room) (va_Pc [.ref h0, .int x] (xI dC dI h0 a0 a1 cB cI sz n ns wd f g)) (va_Qv (fun _ : Unit => True) (fun _ : Unit => xO dC dI (va_A (xC h0 a0 a1 cB cI (n) (ns) (wd) (f) (g)) sz) h0 a0 a1 cB cI (n + 1) (ns) (wd) (upd f n x.toInt8.toInt32) g) (va_A (xC h0 a0 a1 cB cI (n) (ns) (wd) (f) (g)) sz)) 0 0 (va_A (xC h0 a0 a1 cB cI (n) (ns) (wd) (f) (g)) sz) := by
  refine Met.ofW (cc := cX0_append) (maxL := 2) (ret := none) (by decide) rfl ?_
  intro p e s m args below meth c s₁ B hml hv
  obtain ⟨rfl, hsz, hP, hK, hD0⟩ := hv
  have hx := B.exec
  have hb := B.bytes
  have hr := B.returns
  have hts := atoms_spec (ws := wsX0_append) B.pre
  have hown : s.vm.findClass RX0 = some m.cls := findClass_of_methodNamed B.named
  have hlocks := B.notSynchronized
  have hin : ∀ w ∈ u_ws RX0 TX0 5, w ∈ wsX0_append := by decide +kernel
  subst hsz
  have hD := hD0.self (sz := s.heap.size)
  generalize hAe : va_A (xC h0 a0 a1 cB cI (n) (ns) (wd) (f) (g)) s.heap.size = A at hD ⊢
  have hA : ∀ q : Nat, s.heap.size ≤ q → A q := fun q h => by rw [← hAe]; exact Or.inr h
  have hS : va_S A s.heap s.heap [] := va_S.rf
  have hl := lv_entry ([.ref h0, .int x]) (n := 2) (Nat.le_of_ble_eq_true rfl)
  rw [lg_entry_eq]
  generalize (lg_sl ([.ref h0, .int x]) ++ List.replicate (2 - (lg_sl ([.ref h0, .int x])).length) Slot.unset).toArray = ls at hl ⊢
  have hl : lv_has ls 2 [(0, .ref h0), (1, .int (x))] := hl
  refine lv_aload_n hx hb dX0_append_0 rfl (lv_at hl 0 rfl) ?_
  refine va_get (D := (dC, dI)) (ci := 0) (v := .int (nI (n))) (C := RX0) (T := TX0) (N := 5) hx hb hts hin hown hK hP 0 rfl rfl 2 (by decide) (hts (.fieldLink RX0 22 "StreamSums" "count" "I") (by decide +kernel)) (fun _ h9 => h9) rfl dX0_append_1 ?_
  refine lv_ldc (v := 65536) hx hb hown (hts (.constant RX0 9 (65536)) (by decide +kernel)) dX0_append_4 ?_
  refine lv_icmp_ge (tgt := 30) hx hb dX0_append_6 (by decide) (fun c_6 => ?_) (fun c_6 => ?_)
  · exact absurd c_6 (nI_ge (b := 65536) hn (by omega))
  · refine lv_aload_n hx hb dX0_append_9 rfl (lv_at hl 0 rfl) ?_
    refine va_get (D := (dC, dI)) (ci := 0) (v := .ref a0) (C := RX0) (T := TX0) (N := 5) hx hb hts hin hown hK hP 0 rfl rfl 0 (by decide) (hts (.fieldLink RX0 10 "StreamSums" "bytes" "[B") (by decide +kernel)) (fun _ h9 => h9) rfl dX0_append_10 ?_
    refine lv_aload_n hx hb dX0_append_13 rfl (lv_at hl 0 rfl) ?_
    refine va_get (D := (dC, dI)) (ci := 0) (v := .int (nI (n))) (C := RX0) (T := TX0) (N := 5) hx hb hts hin hown hK hP 0 rfl rfl 2 (by decide) (hts (.fieldLink RX0 22 "StreamSums" "count" "I") (by decide +kernel)) (fun _ h9 => h9) rfl dX0_append_14 ?_
    refine lv_iload_n hx hb dX0_append_17 rfl (lv_at hl 1 rfl) ?_
    refine lv_i2b (v := (x).toInt8.toInt32) hx hb dX0_append_18 rfl ?_
    refine q_bast (j := n) (y := x.toInt8.toInt32) hx hb hK hP hD hS 1 0 rfl rfl rfl hn (by omega) (pk_vb x) dX0_append_19 (fun H locs hP hD hS => ?_)
    have hP : va_P (dC, dI) vwCl (xC h0 a0 a1 cB cI (n) (ns) (wd) (upd (f) (n) (x.toInt8.toInt32)) (g)) H := hP
    have hD : va_D A (xC h0 a0 a1 cB cI (n) (ns) (wd) (upd (f) (n) (x.toInt8.toInt32)) (g)) := hD
    refine lv_aload_n hx hb dX0_append_20 rfl (lv_at hl 0 rfl) ?_
    refine lv_dup hx hb dX0_append_21 rfl ?_
    refine va_get (D := (dC, dI)) (ci := 0) (v := .int (nI (n))) (C := RX0) (T := TX0) (N := 5) hx hb hts hin hown hK hP 0 rfl rfl 2 (by decide) (hts (.fieldLink RX0 22 "StreamSums" "count" "I") (by decide +kernel)) (fun _ h9 => h9) rfl dX0_append_22 ?_
    refine lv_iconst (v := 1) hx hb dX0_append_25 (by decide) ?_
    refine lv_iadd hx hb dX0_append_26 ?_
    refine q_ti (y := nI (n + 1)) (nI_add n 1) ?_
    refine va_put (D := (dC, dI)) (ci := 0) (v := .int (nI (n + 1))) (ty := .int) (C := RX0) (T := TX0) (N := 5) hx hb hts hin tyX0 tyX0_ok nmX0 hown hK hP hD hS 0 rfl rfl 2 (by decide) (hts (.fieldLink RX0 22 "StreamSums" "count" "I") (by decide +kernel)) (fun _ h9 => h9) rfl (by decide +kernel) rfl rfl (Nat.le_of_ble_eq_true rfl) dX0_append_27 (fun H locs hP hD hS => ?_)
    have hP : va_P (dC, dI) vwCl (xC h0 a0 a1 cB cI (n + 1) (ns) (wd) (upd (f) (n) (x.toInt8.toInt32)) (g)) H := hP
    have hD : va_D A (xC h0 a0 a1 cB cI (n + 1) (ns) (wd) (upd (f) (n) (x.toInt8.toInt32)) (g)) := hD
    exact W.vret hx hb hr (fun t ht hW => ⟨⟨(), rfl, trivial, by rw [ht]; exact hP, va_K.moved hW.alike hK, hD⟩, hS.F ht⟩) hS.2.2 dX0_append_30
set_option maxHeartbeats 4000000 in
set_option maxRecDepth 100000 in
theorem c_X_begin (l : Launch) (dC : Nat → ClassId) (dI : Nat → Nat → Nat) (h0 a0 a1 : Nat) (cB cI : ClassId) (sz n : Nat) (ns : Int32) (wd : Int64) (f g : Nat → Int32) (sd : Int32) (wv : Int64) : Met l yX0_begin wsX0_begin ({ frames := 0, cells := 0, slots := 0, locals := 0 } : Room) (va_Pc [.ref h0, .int sd, .long wv] (xI dC dI h0 a0 a1 cB cI sz n ns wd f g)) (va_Qv (fun _ : Unit => True) (fun _ : Unit => xO dC dI (va_A (xC h0 a0 a1 cB cI (n) (ns) (wd) (f) (g)) sz) h0 a0 a1 cB cI (0) (sd) (wv) (f) g) (va_A (xC h0 a0 a1 cB cI (n) (ns) (wd) (f) (g)) sz)) 0 0 (va_A (xC h0 a0 a1 cB cI (n) (ns) (wd) (f) (g)) sz) := by
  refine Met.ofW (cc := cX0_begin) (maxL := 4) (ret := none) (by decide) rfl ?_
  intro p e s m args below meth c s₁ B hml hv
  obtain ⟨rfl, hsz, hP, hK, hD0⟩ := hv
  have hx := B.exec
  have hb := B.bytes
  have hr := B.returns
  have hts := atoms_spec (ws := wsX0_begin) B.pre
  have hown : s.vm.findClass RX0 = some m.cls := findClass_of_methodNamed B.named
  have hlocks := B.notSynchronized
  have hin : ∀ w ∈ u_ws RX0 TX0 5, w ∈ wsX0_begin := by decide +kernel
  subst hsz
  have hD := hD0.self (sz := s.heap.size)
  generalize hAe : va_A (xC h0 a0 a1 cB cI (n) (ns) (wd) (f) (g)) s.heap.size = A at hD ⊢
  have hA : ∀ q : Nat, s.heap.size ≤ q → A q := fun q h => by rw [← hAe]; exact Or.inr h
  have hS : va_S A s.heap s.heap [] := va_S.rf
  have hl := lv_entry ([.ref h0, .int sd, .long wv]) (n := 4) (Nat.le_of_ble_eq_true rfl)
  rw [lg_entry_eq]
  generalize (lg_sl ([.ref h0, .int sd, .long wv]) ++ List.replicate (4 - (lg_sl ([.ref h0, .int sd, .long wv])).length) Slot.unset).toArray = ls at hl ⊢
  have hl : lv_has ls 4 [(0, .ref h0), (1, .int (sd)), (2, .long (wv))] := hl
  refine lv_aload_n hx hb dX0_begin_0 rfl (lv_at hl 0 rfl) ?_
  refine lv_iconst (v := 0) hx hb dX0_begin_1 (by decide) ?_
  refine va_put (D := (dC, dI)) (ci := 0) (v := .int (0)) (ty := .int) (C := RX0) (T := TX0) (N := 5) hx hb hts hin tyX0 tyX0_ok nmX0 hown hK hP hD hS 0 rfl rfl 2 (by decide) (hts (.fieldLink RX0 22 "StreamSums" "count" "I") (by decide +kernel)) (fun _ h9 => h9) rfl (by decide +kernel) rfl rfl (Nat.le_of_ble_eq_true rfl) dX0_begin_2 (fun H locs hP hD hS => ?_)
  have hP : va_P (dC, dI) vwCl (xC h0 a0 a1 cB cI (0) (ns) (wd) (f) (g)) H := hP
  have hD : va_D A (xC h0 a0 a1 cB cI (0) (ns) (wd) (f) (g)) := hD
  refine lv_aload_n hx hb dX0_begin_5 rfl (lv_at hl 0 rfl) ?_
  refine lv_iload_n hx hb dX0_begin_6 rfl (lv_at hl 1 rfl) ?_
  refine va_put (D := (dC, dI)) (ci := 0) (v := .int (sd)) (ty := .int) (C := RX0) (T := TX0) (N := 5) hx hb hts hin tyX0 tyX0_ok nmX0 hown hK hP hD hS 0 rfl rfl 3 (by decide) (hts (.fieldLink RX0 26 "StreamSums" "narrowSeed" "I") (by decide +kernel)) (fun _ h9 => h9) rfl (by decide +kernel) rfl rfl (Nat.le_of_ble_eq_true rfl) dX0_begin_7 (fun H locs hP hD hS => ?_)
  have hP : va_P (dC, dI) vwCl (xC h0 a0 a1 cB cI (0) (sd) (wd) (f) (g)) H := hP
  have hD : va_D A (xC h0 a0 a1 cB cI (0) (sd) (wd) (f) (g)) := hD
  refine lv_aload_n hx hb dX0_begin_10 rfl (lv_at hl 0 rfl) ?_
  refine lv_lload_n hx hb dX0_begin_11 rfl (lv_at hl 2 rfl) ?_
  refine va_put (D := (dC, dI)) (ci := 0) (v := .long (wv)) (ty := .long) (C := RX0) (T := TX0) (N := 5) hx hb hts hin tyX0 tyX0_ok nmX0 hown hK hP hD hS 0 rfl rfl 4 (by decide) (hts (.fieldLink RX0 29 "StreamSums" "wideSeed" "J") (by decide +kernel)) (fun _ h9 => h9) rfl (by decide +kernel) rfl rfl (Nat.le_of_ble_eq_true rfl) dX0_begin_12 (fun H locs hP hD hS => ?_)
  have hP : va_P (dC, dI) vwCl (xC h0 a0 a1 cB cI (0) (sd) (wv) (f) (g)) H := hP
  have hD : va_D A (xC h0 a0 a1 cB cI (0) (sd) (wv) (f) (g)) := hD
  exact W.vret hx hb hr (fun t ht hW => ⟨⟨(), rfl, trivial, by rw [ht]; exact hP, va_K.moved hW.alike hK, hD⟩, hS.F ht⟩) hS.2.2 dX0_begin_15
set_option maxHeartbeats 4000000 in
set_option maxRecDepth 100000 in
theorem c_X_write (l : Launch) (dC : Nat → ClassId) (dI : Nat → Nat → Nat) (h0 a0 a1 : Nat) (cB cI : ClassId) (sz n : Nat) (ns : Int32) (wd : Int64) (f g : Nat → Int32) (ev : Int64) (k : Int32) (hn : n ≤ 65536) : Met l yX0_write wsX0_write ({ frames := 1, cells := 0, slots := 0, locals := 21 } : Room) (va_Pc [.ref h0, .long ev, .int k] (xI dC dI h0 a0 a1 cB cI sz n ns wd f g)) (va_Qi (fun (r : Int32) (u : Nat × (Nat → Int32)) => r = wr_ok n k ∧ u.1 = wr_n n k ∧ u.2 = wr_F n f ev k) (fun u : Nat × (Nat → Int32) => xO dC dI (va_A (xC h0 a0 a1 cB cI (n) (ns) (wd) (f) (g)) sz) h0 a0 a1 cB cI u.1 ns wd u.2 g) (va_A (xC h0 a0 a1 cB cI (n) (ns) (wd) (f) (g)) sz)) 0 0 (va_A (xC h0 a0 a1 cB cI (n) (ns) (wd) (f) (g)) sz) := by
  refine Met.ofW (cc := cX0_write) (maxL := 5) (ret := some .boolean) (by decide) rfl ?_
  intro p e s m args below meth c s₁ B hml hv
  obtain ⟨rfl, hsz, hP, hK, hD0⟩ := hv
  have hx := B.exec
  have hb := B.bytes
  have hr := B.returns
  have hts := atoms_spec (ws := wsX0_write) B.pre
  have hown : s.vm.findClass RX0 = some m.cls := findClass_of_methodNamed B.named
  have hlocks := B.notSynchronized
  have hin : ∀ w ∈ u_ws RX0 TX0 5, w ∈ wsX0_write := by decide +kernel
  subst hsz
  have hD := hD0.self (sz := s.heap.size)
  generalize hAe : va_A (xC h0 a0 a1 cB cI (n) (ns) (wd) (f) (g)) s.heap.size = A at hD ⊢
  have hA : ∀ q : Nat, s.heap.size ≤ q → A q := fun q h => by rw [← hAe]; exact Or.inr h
  have hS : va_S A s.heap s.heap [] := va_S.rf
  have hl := lv_entry ([.ref h0, .long ev, .int k]) (n := 5) (Nat.le_of_ble_eq_true rfl)
  rw [lg_entry_eq]
  generalize (lg_sl ([.ref h0, .long ev, .int k]) ++ List.replicate (5 - (lg_sl ([.ref h0, .long ev, .int k])).length) Slot.unset).toArray = ls at hl ⊢
  have hl : lv_has ls 5 [(0, .ref h0), (1, .long (ev)), (3, .int (k))] := hl
  refine lv_iload_n hx hb dX0_write_0 rfl (lv_at hl 2 rfl) ?_
  refine lv_iconst (v := 1) hx hb dX0_write_1 (by decide) ?_
  refine lv_icmp_lt (tgt := 22) hx hb dX0_write_2 (by decide) (fun c_2 => ?_) (fun c_2 => ?_)
  · refine lv_iconst (v := 0) hx hb dX0_write_22 (by decide) ?_
    exact W.zret (v := 0) hx hb hr (by decide) (fun t ht hW => ⟨⟨0, (n, f), rfl, (wr_no f ev (by unfold wr_ok; rw [if_pos c_2])), by rw [ht]; exact hP, va_K.moved hW.alike hK, hD⟩, hS.F ht⟩) hS.2.2 dX0_write_23
  · refine lv_iload_n hx hb dX0_write_5 rfl (lv_at hl 2 rfl) ?_
    refine lv_bipush (v := 8) hx hb dX0_write_6 (by decide) ?_
    refine lv_icmp_gt (tgt := 22) hx hb dX0_write_8 (by decide) (fun c_8 => ?_) (fun c_8 => ?_)
    · refine lv_iconst (v := 0) hx hb dX0_write_22 (by decide) ?_
      exact W.zret (v := 0) hx hb hr (by decide) (fun t ht hW => ⟨⟨0, (n, f), rfl, (wr_no f ev (by unfold wr_ok; rw [if_neg c_2, if_pos c_8])), by rw [ht]; exact hP, va_K.moved hW.alike hK, hD⟩, hS.F ht⟩) hS.2.2 dX0_write_23
    · obtain ⟨K, hkK, hK1, hK8⟩ := wr_k c_2 c_8
      refine lv_iload_n hx hb dX0_write_11 rfl (lv_at hl 2 rfl) ?_
      refine lv_ldc (v := 65536) hx hb hown (hts (.constant RX0 9 (65536)) (by decide +kernel)) dX0_write_12 ?_
      refine lv_aload_n hx hb dX0_write_14 rfl (lv_at hl 0 rfl) ?_
      refine va_get (D := (dC, dI)) (ci := 0) (v := .int (nI (n))) (C := RX0) (T := TX0) (N := 5) hx hb hts hin hown hK hP 0 rfl rfl 2 (by decide) (hts (.fieldLink RX0 22 "StreamSums" "count" "I") (by decide +kernel)) (fun _ h9 => h9) rfl dX0_write_15 ?_
      refine lv_isub hx hb dX0_write_18 ?_
      refine q_ti (y := nI (65536 - n)) (pk_sub (a := 65536) hn) ?_
      refine lv_icmp_le (tgt := 24) hx hb dX0_write_19 (by decide) (fun c_19 => ?_) (fun c_19 => ?_)
      · have hKn : n + K ≤ 65536 := by
          rw [hkK, nI_leI (by omega) (by omega)] at c_19
          omega
        refine lv_iconst (v := 0) hx hb dX0_write_24 (by decide) ?_
        refine lv_istore (lv' := [(4, .int (0)), (0, .ref h0), (1, .long (ev)), (3, .int (k))]) hx hb dX0_write_25 hl (by decide) rfl (fun ls hl => ?_)
        have L27 : ∀ (d j : Nat), j + d = K → ∀ (H : Heap) (locs : List Loc), va_P (dC, dI) vwCl (xC h0 a0 a1 cB cI (n + j) (ns) (wd) (wr_f f n ev j) (g)) H → va_D A (xC h0 a0 a1 cB cI (n + j) (ns) (wd) (wr_f f n ev j) (g)) → va_S A s.heap H locs → ∀ ls : Array Slot, lv_has ls 5 [(0, .ref h0), (1, .long (ev)), (3, .int (k)), (4, .int (nI (j)))] → W p l e (headSpec wsX0_write ({ frames := 1, cells := 0, slots := 0, locals := 21 } : Room)).room s m [Value.ref h0, .long ev, .int k].toArray below meth c H locs 0 0 (MQ below (va_Qi (fun (r : Int32) (u : Nat × (Nat → Int32)) => r = wr_ok n k ∧ u.1 = wr_n n k ∧ u.2 = wr_F n f ev k) (fun u : Nat × (Nat → Int32) => xO dC dI A h0 a0 a1 cB cI u.1 ns wd u.2 g) A) [Value.ref h0, .long ev, .int k].toArray s 0 0 A) (F0 m 27 ls []) := by
          intro d
          induction d with
          | zero =>
            intro j hj H locs hP hD hS ls hl
            obtain rfl : K = j := by omega
            refine lv_iload hx hb dX0_write_27 (lv_at hl 3 rfl) ?_
            refine lv_iload_n hx hb dX0_write_29 rfl (lv_at hl 2 rfl) ?_
            refine q_ti (y := nI K) (hkK) ?_
            refine lv_icmp_ge (tgt := 54) hx hb dX0_write_30 (by decide) (fun c_30 => ?_) (fun c_30 => ?_)
            · refine lv_iconst (v := 1) hx hb dX0_write_54 (by decide) ?_
              exact W.zret (v := 1) hx hb hr (by decide) (fun t ht hW => ⟨⟨1, (n + K, wr_f f n ev K), rfl, (by have h := wr_yes (n := n) f ev hK1 hK8 hKn; rw [hkK]; exact h), by rw [ht]; exact hP, va_K.moved hW.alike hK, hD⟩, hS.F ht⟩) hS.2.2 dX0_write_55
            · exact absurd (nI_le (Nat.le_refl K) (by omega)) c_30
          | succ d ih =>
            intro j hj H locs hP hD hS ls hl
            have hjl : j < K := by omega
            refine lv_iload hx hb dX0_write_27 (lv_at hl 3 rfl) ?_
            refine lv_iload_n hx hb dX0_write_29 rfl (lv_at hl 2 rfl) ?_
            refine q_ti (y := nI K) (hkK) ?_
            refine lv_icmp_ge (tgt := 54) hx hb dX0_write_30 (by decide) (fun c_30 => ?_) (fun c_30 => ?_)
            · exact absurd c_30 (nI_ge hjl (by omega))
            · refine lv_aload_n hx hb dX0_write_33 rfl (lv_at hl 0 rfl) ?_
              refine lv_lload_n hx hb dX0_write_34 rfl (lv_at hl 1 rfl) ?_
              refine lv_bipush (v := 56) hx hb dX0_write_35 (by decide) ?_
              refine lv_bipush (v := 8) hx hb dX0_write_37 (by decide) ?_
              refine lv_iload hx hb dX0_write_39 (lv_at hl 3 rfl) ?_
              refine lv_imul hx hb dX0_write_41 ?_
              refine lv_isub hx hb dX0_write_42 ?_
              refine lv_lushr (v := sh_U (ev) ((56 - (8 * nI (j))))) hx hb dX0_write_43 rfl ?_
              refine lv_l2i (v := ((sh_U (ev) ((56 - (8 * nI (j)))))).toInt32) hx hb dX0_write_44 rfl ?_
              have hFc := va_free (wc := xC h0 a0 a1 cB cI (n + j) (ns) (wd) (wr_f f n ev j) (g)) hD hS hA [0, 1, 2] rfl
              refine va_callv (va_runV (As := [.int (((sh_U (ev) ((56 - (8 * nI (j)))))).toInt32)]) (rest := []) ⟨hx, hb, hml, hown, hts⟩ (c_X_append l dC dI h0 a0 a1 cB cI H.size (n + j) (ns) (wd) (wr_f f n ev j) (g) (((sh_U (ev) ((56 - (8 * nI (j)))))).toInt32) (by omega)) (cwV 1 hts gX0_write_X0_append rfl rfl rfl (by decide +kernel) ⟨Nat.le_of_ble_eq_true rfl, Nat.le_of_ble_eq_true rfl⟩) (xi_pre hP hK hD _) rfl rfl hl.1 rfl (lv_room (Nat.le_of_ble_eq_true rfl)) dX0_write_45 ⟨Nat.zero_le _, Nat.zero_le _⟩) hS (fun q _ h => hFc q h) hFc (fun u t H1 locs ht hvm hw hB hz1 hk1 hS => ?_)
              obtain ⟨hP, -, hD1⟩ := hB
              rw [ht] at hP
              have hD := hD1.weaken (fun _ q _ h => hFc q.1 h)
              have hfe : upd (wr_f f n ev j) (n + j) ((((sh_U (ev) ((56 - (8 * nI (j)))))).toInt32).toInt8.toInt32) = wr_f f n ev (j + 1) := rfl
              rw [hfe] at hP hD
              generalize H1 = H at hP hS ⊢
              have hP : va_P (dC, dI) vwCl (xC h0 a0 a1 cB cI (n + (j + 1)) (ns) (wd) (wr_f f n ev (j + 1)) (g)) H := hP
              have hD : va_D A (xC h0 a0 a1 cB cI (n + (j + 1)) (ns) (wd) (wr_f f n ev (j + 1)) (g)) := hD
              refine lv_iinc (v := nI (j + 1)) (lv' := [(4, .int (nI (j + 1))), (0, .ref h0), (1, .long (ev)), (3, .int (k))]) hx hb dX0_write_48 hl (k := 3) rfl (nI_add j 1) (by decide) rfl (fun ls hl => ?_)
              refine lv_goto (tgt := 27) hx hb dX0_write_51 (by decide) ?_
              exact ih (j + 1) (by omega) _ _ hP hD hS ls (lv_sub hl [1, 2, 3, 0] rfl)
        exact L27 (K) 0 (by omega) _ _ hP hD hS ls (lv_sub hl [1, 2, 3, 0] rfl)
      · have hKn : 65536 < n + K := by
          rw [hkK, nI_leI (by omega) (by omega)] at c_19
          omega
        refine lv_iconst (v := 0) hx hb dX0_write_22 (by decide) ?_
        exact W.zret (v := 0) hx hb hr (by decide) (fun t ht hW => ⟨⟨0, (n, f), rfl, (wr_no f ev (by rw [hkK]; exact wr_big hK1 hK8 hKn)), by rw [ht]; exact hP, va_K.moved hW.alike hK, hD⟩, hS.F ht⟩) hS.2.2 dX0_write_23
set_option maxHeartbeats 4000000 in
set_option maxRecDepth 100000 in
theorem c_X_again (l : Launch) (dC : Nat → ClassId) (dI : Nat → Nat → Nat) (h0 a0 a1 : Nat) (cB cI : ClassId) (sz n : Nat) (ns : Int32) (wd : Int64) (f g : Nat → Int32) (x : Int32) (y : Int32) (hn : n ≤ 65536) : Met l yX0_again wsX0_again ({ frames := 1, cells := 0, slots := 0, locals := 21 } : Room) (va_Pc [.ref h0, .int x, .int y] (xI dC dI h0 a0 a1 cB cI sz n ns wd f g)) (va_Qi (fun (r : Int32) (u : Nat × (Nat → Int32)) => r = ag_ok n x y ∧ u.1 = ag_n n x y ∧ u.2 = ag_F n f x y) (fun u : Nat × (Nat → Int32) => xO dC dI (va_A (xC h0 a0 a1 cB cI (n) (ns) (wd) (f) (g)) sz) h0 a0 a1 cB cI u.1 ns wd u.2 g) (va_A (xC h0 a0 a1 cB cI (n) (ns) (wd) (f) (g)) sz)) 0 0 (va_A (xC h0 a0 a1 cB cI (n) (ns) (wd) (f) (g)) sz) := by
  refine Met.ofW (cc := cX0_again) (maxL := 7) (ret := some .boolean) (by decide) rfl ?_
  intro p e s m args below meth c s₁ B hml hv
  obtain ⟨rfl, hsz, hP, hK, hD0⟩ := hv
  have hx := B.exec
  have hb := B.bytes
  have hr := B.returns
  have hts := atoms_spec (ws := wsX0_again) B.pre
  have hown : s.vm.findClass RX0 = some m.cls := findClass_of_methodNamed B.named
  have hlocks := B.notSynchronized
  have hin : ∀ w ∈ u_ws RX0 TX0 5, w ∈ wsX0_again := by decide +kernel
  subst hsz
  have hD := hD0.self (sz := s.heap.size)
  generalize hAe : va_A (xC h0 a0 a1 cB cI (n) (ns) (wd) (f) (g)) s.heap.size = A at hD ⊢
  have hA : ∀ q : Nat, s.heap.size ≤ q → A q := fun q h => by rw [← hAe]; exact Or.inr h
  have hS : va_S A s.heap s.heap [] := va_S.rf
  have hl := lv_entry ([.ref h0, .int x, .int y]) (n := 7) (Nat.le_of_ble_eq_true rfl)
  rw [lg_entry_eq]
  generalize (lg_sl ([.ref h0, .int x, .int y]) ++ List.replicate (7 - (lg_sl ([.ref h0, .int x, .int y])).length) Slot.unset).toArray = ls at hl ⊢
  have hl : lv_has ls 7 [(0, .ref h0), (1, .int (x)), (2, .int (y))] := hl
  refine lv_iload_n hx hb dX0_again_0 rfl (lv_at hl 1 rfl) ?_
  refine lv_iconst (v := 1) hx hb dX0_again_1 (by decide) ?_
  refine lv_icmp_lt (tgt := 17) hx hb dX0_again_2 (by decide) (fun c_2 => ?_) (fun c_2 => ?_)
  · refine lv_iconst (v := 0) hx hb dX0_again_17 (by decide) ?_
    exact W.zret (v := 0) hx hb hr (by decide) (fun t ht hW => ⟨⟨0, (n, f), rfl, (ag_no f (by unfold ag_ok; rw [if_pos c_2])), by rw [ht]; exact hP, va_K.moved hW.alike hK, hD⟩, hS.F ht⟩) hS.2.2 dX0_again_18
  · refine lv_iload_n hx hb dX0_again_5 rfl (lv_at hl 1 rfl) ?_
    refine lv_aload_n hx hb dX0_again_6 rfl (lv_at hl 0 rfl) ?_
    refine va_get (D := (dC, dI)) (ci := 0) (v := .int (nI (n))) (C := RX0) (T := TX0) (N := 5) hx hb hts hin hown hK hP 0 rfl rfl 2 (by decide) (hts (.fieldLink RX0 22 "StreamSums" "count" "I") (by decide +kernel)) (fun _ h9 => h9) rfl dX0_again_7 ?_
    refine lv_icmp_gt (tgt := 17) hx hb dX0_again_10 (by decide) (fun c_10 => ?_) (fun c_10 => ?_)
    · refine lv_iconst (v := 0) hx hb dX0_again_17 (by decide) ?_
      exact W.zret (v := 0) hx hb hr (by decide) (fun t ht hW => ⟨⟨0, (n, f), rfl, (ag_no f (by unfold ag_ok; rw [if_neg c_2, if_pos c_10])), by rw [ht]; exact hP, va_K.moved hW.alike hK, hD⟩, hS.F ht⟩) hS.2.2 dX0_again_18
    · refine lv_iload_n hx hb dX0_again_13 rfl (lv_at hl 2 rfl) ?_
      refine lv_if_ge (tgt := 19) hx hb dX0_again_14 (by decide) (fun c_14 => ?_) (fun c_14 => ?_)
      · have hy0 : ¬ y < 0 := Int32.not_lt.mpr c_14
        obtain ⟨w, k, hxw, hyk, hw1, hwn, hk⟩ := ag_k hn c_2 c_10 hy0
        have hwk := ag_lt (w := w) (k := k) (by omega) hk
        refine lv_iload_n hx hb dX0_again_19 rfl (lv_at hl 1 rfl) ?_
        refine lv_i2l (v := (x).toInt64) hx hb dX0_again_20 rfl ?_
        refine lv_iload_n hx hb dX0_again_21 rfl (lv_at hl 2 rfl) ?_
        refine lv_i2l (v := (y).toInt64) hx hb dX0_again_22 rfl ?_
        refine lv_lmul hx hb dX0_again_23 ?_
        refine q_tl (y := lN (w * k)) (by rw [hxw, hyk]; exact ag_mul (by omega) hk) ?_
        refine lv_lstore_n (lv' := [(3, .long (lN (w * k))), (0, .ref h0), (1, .int (x)), (2, .int (y))]) hx hb dX0_again_24 rfl hl (by decide) rfl (fun ls hl => ?_)
        refine lv_lload_n hx hb dX0_again_25 rfl (lv_at hl 0 rfl) ?_
        refine lv_ldc (v := 65536) hx hb hown (hts (.constant RX0 9 (65536)) (by decide +kernel)) dX0_again_26 ?_
        refine lv_aload_n hx hb dX0_again_28 rfl (lv_at hl 1 rfl) ?_
        refine va_get (D := (dC, dI)) (ci := 0) (v := .int (nI (n))) (C := RX0) (T := TX0) (N := 5) hx hb hts hin hown hK hP 0 rfl rfl 2 (by decide) (hts (.fieldLink RX0 22 "StreamSums" "count" "I") (by decide +kernel)) (fun _ h9 => h9) rfl dX0_again_29 ?_
        refine lv_isub hx hb dX0_again_32 ?_
        refine q_ti (y := nI (65536 - n)) (pk_sub (a := 65536) hn) ?_
        refine lv_i2l (v := (nI (65536 - n)).toInt64) hx hb dX0_again_33 rfl ?_
        refine q_tl (y := lN (65536 - n)) (nI_l (by omega)) ?_
        refine W.lcmp hx hb dX0_again_34 ?_
        refine lv_if_le (tgt := 40) hx hb dX0_again_35 (by decide) (fun c_35 => ?_) (fun c_35 => ?_)
        · have hfit : n + w * k ≤ 65536 := by
            rw [lg_cmp_le, pk_lLE (by omega) (by omega)] at c_35
            omega
          refine lv_lconst (v := 0) hx hb dX0_again_40 (by decide) ?_
          refine lv_lstore (lv' := [(5, .long (0)), (3, .long (lN (w * k))), (0, .ref h0), (1, .int (x)), (2, .int (y))]) hx hb dX0_again_41 hl (by decide) rfl (fun ls hl => ?_)
          have L43 : ∀ (d j : Nat), j + d = w * k → ∀ (H : Heap) (locs : List Loc), va_P (dC, dI) vwCl (xC h0 a0 a1 cB cI (n + j) (ns) (wd) (ag_f f n w (j)) (g)) H → va_D A (xC h0 a0 a1 cB cI (n + j) (ns) (wd) (ag_f f n w (j)) (g)) → va_S A s.heap H locs → ∀ ls : Array Slot, lv_has ls 7 [(0, .ref h0), (1, .int (x)), (2, .int (y)), (3, .long (lN (w * k))), (5, .long (lN (j)))] → W p l e (headSpec wsX0_again ({ frames := 1, cells := 0, slots := 0, locals := 21 } : Room)).room s m [Value.ref h0, .int x, .int y].toArray below meth c H locs 0 0 (MQ below (va_Qi (fun (r : Int32) (u : Nat × (Nat → Int32)) => r = ag_ok n x y ∧ u.1 = ag_n n x y ∧ u.2 = ag_F n f x y) (fun u : Nat × (Nat → Int32) => xO dC dI A h0 a0 a1 cB cI u.1 ns wd u.2 g) A) [Value.ref h0, .int x, .int y].toArray s 0 0 A) (F0 m 43 ls []) := by
            intro d
            induction d with
            | zero =>
              intro j hj H locs hP hD hS ls hl
              obtain rfl : w * k = j := by omega
              refine lv_lload hx hb dX0_again_43 (lv_at hl 4 rfl) ?_
              refine lv_lload_n hx hb dX0_again_45 rfl (lv_at hl 3 rfl) ?_
              refine W.lcmp hx hb dX0_again_46 ?_
              refine lv_if_ge (tgt := 73) hx hb dX0_again_47 (by decide) (fun c_47 => ?_) (fun c_47 => ?_)
              · refine lv_iconst (v := 1) hx hb dX0_again_73 (by decide) ?_
                exact W.zret (v := 1) hx hb hr (by decide) (fun t ht hW => ⟨⟨1, (n + (w * k), ag_f f n w ((w * k))), rfl, (by have h := ag_yes (n := n) f hw1 hwn hk hn hfit; rw [hxw, hyk]; exact h), by rw [ht]; exact hP, va_K.moved hW.alike hK, hD⟩, hS.F ht⟩) hS.2.2 dX0_again_74
              · exact absurd ((lg_cmp_ge _ _).mpr (by rw [Int64.le_iff_toInt_le]; exact Int.le_refl _)) c_47
            | succ d ih =>
              intro j hj H locs hP hD hS ls hl
              have hjl : j < w * k := by omega
              refine lv_lload hx hb dX0_again_43 (lv_at hl 4 rfl) ?_
              refine lv_lload_n hx hb dX0_again_45 rfl (lv_at hl 3 rfl) ?_
              refine W.lcmp hx hb dX0_again_46 ?_
              refine lv_if_ge (tgt := 73) hx hb dX0_again_47 (by decide) (fun c_47 => ?_) (fun c_47 => ?_)
              · exact absurd ((pk_lLE (by omega) (by omega)).mp ((lg_cmp_ge _ _).mp c_47)) (by omega)
              · refine lv_aload_n hx hb dX0_again_50 rfl (lv_at hl 0 rfl) ?_
                refine lv_aload_n hx hb dX0_again_51 rfl (lv_at hl 0 rfl) ?_
                refine lv_aload_n hx hb dX0_again_52 rfl (lv_at hl 0 rfl) ?_
                refine va_get (D := (dC, dI)) (ci := 0) (v := .int (nI (n + j))) (C := RX0) (T := TX0) (N := 5) hx hb hts hin hown hK hP 0 rfl rfl 2 (by decide) (hts (.fieldLink RX0 22 "StreamSums" "count" "I") (by decide +kernel)) (fun _ h9 => h9) rfl dX0_again_53 ?_
                refine lv_iload_n hx hb dX0_again_56 rfl (lv_at hl 1 rfl) ?_
                refine lv_isub hx hb dX0_again_57 ?_
                refine q_ti (y := nI (n + j - w)) (by rw [hxw]; exact pk_sub (by omega)) ?_
                refine q_V (As := [.int (nI (n + j - w))]) (rest := [.ref h0]) ⟨hx, hb, hml, hown, hts⟩ (c_X_byteIn l dC dI h0 a0 a1 cB cI (n + j) (ns) (wd) (ag_f f n w (j)) (g) (n + j - w) (by omega) (by omega)) (cwV 1 hts gX0_again_X0_byteAt rfl rfl rfl (by decide +kernel) ⟨Nat.le_of_ble_eq_true rfl, Nat.le_of_ble_eq_true rfl⟩) (xw_pre hP hK _) rfl hl.1 rfl (Nat.le_of_ble_eq_true rfl) dX0_again_58 ⟨Nat.zero_le _, Nat.zero_le _⟩ ?_
                have hFc := va_free (wc := xC h0 a0 a1 cB cI (n + j) (ns) (wd) (ag_f f n w (j)) (g)) hD hS hA [0, 1, 2] rfl
                refine va_callv (va_runV (As := [.int (((ag_f f n w (j)) (n + j - w) &&& 255))]) (rest := []) ⟨hx, hb, hml, hown, hts⟩ (c_X_append l dC dI h0 a0 a1 cB cI H.size (n + j) (ns) (wd) (ag_f f n w (j)) (g) (((ag_f f n w (j)) (n + j - w) &&& 255)) (by omega)) (cwV 1 hts gX0_again_X0_append rfl rfl rfl (by decide +kernel) ⟨Nat.le_of_ble_eq_true rfl, Nat.le_of_ble_eq_true rfl⟩) (xi_pre hP hK hD _) rfl rfl hl.1 rfl (lv_room (Nat.le_of_ble_eq_true rfl)) dX0_again_61 ⟨Nat.zero_le _, Nat.zero_le _⟩) hS (fun q _ h => hFc q h) hFc (fun u t H1 locs ht hvm hw hB hz1 hk1 hS => ?_)
                obtain ⟨hP, -, hD1⟩ := hB
                rw [ht] at hP
                have hD := hD1.weaken (fun _ q _ h => hFc q.1 h)
                have hfe : upd (ag_f f n w (j)) (n + j) ((((ag_f f n w (j)) (n + j - w) &&& 255)).toInt8.toInt32) = ag_f f n w (j + 1) := by rw [ag_byte]; rfl
                rw [hfe] at hP hD
                generalize H1 = H at hP hS ⊢
                have hP : va_P (dC, dI) vwCl (xC h0 a0 a1 cB cI (n + (j + 1)) (ns) (wd) (ag_f f n w (j + 1)) (g)) H := hP
                have hD : va_D A (xC h0 a0 a1 cB cI (n + (j + 1)) (ns) (wd) (ag_f f n w (j + 1)) (g)) := hD
                refine lv_lload hx hb dX0_again_64 (lv_at hl 4 rfl) ?_
                refine lv_lconst (v := 1) hx hb dX0_again_66 (by decide) ?_
                refine lv_ladd hx hb dX0_again_67 ?_
                refine q_tl (y := lN (j + 1)) (lN_add j 1) ?_
                refine lv_lstore (lv' := [(5, .long (lN (j + 1))), (0, .ref h0), (1, .int (x)), (2, .int (y)), (3, .long (lN (w * k)))]) hx hb dX0_again_68 hl (by decide) rfl (fun ls hl => ?_)
                refine lv_goto (tgt := 43) hx hb dX0_again_70 (by decide) ?_
                exact ih (j + 1) (by omega) _ _ hP hD hS ls (lv_sub hl [1, 2, 3, 4, 0] rfl)
          exact L43 (w * k) 0 (by omega) _ _ hP hD hS ls (lv_sub hl [2, 3, 4, 1, 0] rfl)
        · have hfit : 65536 < n + w * k := by
            rw [lg_cmp_le, pk_lLE (by omega) (by omega)] at c_35
            omega
          refine lv_iconst (v := 0) hx hb dX0_again_38 (by decide) ?_
          exact W.zret (v := 0) hx hb hr (by decide) (fun t ht hW => ⟨⟨0, (n, f), rfl, (ag_no f (by rw [hxw, hyk]; exact ag_big (by omega) hk hfit)), by rw [ht]; exact hP, va_K.moved hW.alike hK, hD⟩, hS.F ht⟩) hS.2.2 dX0_again_39
      · refine lv_iconst (v := 0) hx hb dX0_again_17 (by decide) ?_
        exact W.zret (v := 0) hx hb hr (by decide) (fun t ht hW => ⟨⟨0, (n, f), rfl, (ag_no f (by unfold ag_ok; rw [if_neg c_2, if_neg c_10, if_pos (Int32.not_le.mp c_14)])), by rw [ht]; exact hP, va_K.moved hW.alike hK, hD⟩, hS.F ht⟩) hS.2.2 dX0_again_18
