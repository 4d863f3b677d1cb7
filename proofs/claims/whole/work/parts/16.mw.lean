set_option maxHeartbeats 4000000 in
set_option maxRecDepth 100000 in
theorem c_M_begin (l : Launch) (dC : Nat → ClassId) (dI : Nat → Nat → Nat) (h0 a0 : Nat) (cB : ClassId) (sz n : Nat) (ns : Int32) (wd : Int64) (f : Nat → Int32) (sd : Int32) (wv : Int64) : Met l yX1_begin wsM_begin ({ frames := 0, cells := 0, slots := 0, locals := 0 } : Room) (va_Pc [.ref h0, .int sd, .long wv] (mI dC dI h0 a0 cB sz n ns wd f)) (va_Qv (fun _ : Unit => True) (fun _ : Unit => mO dC dI (va_A (mC h0 a0 cB (n) (ns) (wd) (f)) sz) h0 a0 cB (0) (sd) (wv) (f)) (va_A (mC h0 a0 cB (n) (ns) (wd) (f)) sz)) 0 0 (va_A (mC h0 a0 cB (n) (ns) (wd) (f)) sz) := by
  refine Met.ofW (cc := cX1_begin) (maxL := 4) (ret := none) (by decide) rfl ?_
  intro p e s m args below meth c s₁ B hml hv
  obtain ⟨rfl, hsz, hP, hK, hD0⟩ := hv
  have hx := B.exec
  have hb := B.bytes
  have hr := B.returns
  have hts := atoms_spec (ws := wsM_begin) B.pre
  have hown : s.vm.findClass RX1 = some m.cls := findClass_of_methodNamed B.named
  have hlocks := B.notSynchronized
  have hin : ∀ w ∈ u_ws RX1 TX1 4, w ∈ wsM_begin := fun w h => wsM_self w (wsM_fin w h)
  subst hsz
  have hD := hD0.self (sz := s.heap.size)
  generalize hAe : va_A (mC h0 a0 cB (n) (ns) (wd) (f)) s.heap.size = A at hD ⊢
  have hA : ∀ q : Nat, s.heap.size ≤ q → A q := fun q h => by rw [← hAe]; exact Or.inr h
  have hS : va_S A s.heap s.heap [] := va_S.rf
  have hl := lv_entry ([.ref h0, .int sd, .long wv]) (n := 4) (Nat.le_of_ble_eq_true rfl)
  rw [lg_entry_eq]
  generalize (lg_sl ([.ref h0, .int sd, .long wv]) ++ List.replicate (4 - (lg_sl ([.ref h0, .int sd, .long wv])).length) Slot.unset).toArray = ls at hl ⊢
  have hl : lv_has ls 4 [(0, .ref h0), (1, .int (sd)), (2, .long (wv))] := hl
  refine lv_aload_n hx hb dX1_begin_0 rfl (lv_at hl 0 rfl) ?_
  refine lv_iconst (v := 0) hx hb dX1_begin_1 (by decide) ?_
  refine va_put (D := (dC, dI)) (ci := 1) (v := .int (0)) (ty := .int) (C := RX1) (T := TX1) (N := 4) hx hb hts hin tyX1 tyX1_ok nmX1 hown hK hP hD hS 0 rfl rfl 1 (by decide) (hts (.fieldLink RX1 14 "StreamSumsModel" "length" "I") (wsM_self _ (wsM_nin (by decide +kernel)))) (fun _ h9 => h9) rfl (by decide +kernel) rfl rfl (Nat.le_of_ble_eq_true rfl) dX1_begin_2 (fun H locs hP hD hS => ?_)
  have hP : va_P (dC, dI) vwCl (mC h0 a0 cB (0) (ns) (wd) (f)) H := hP
  have hD : va_D A (mC h0 a0 cB (0) (ns) (wd) (f)) := hD
  refine lv_aload_n hx hb dX1_begin_5 rfl (lv_at hl 0 rfl) ?_
  refine lv_iload_n hx hb dX1_begin_6 rfl (lv_at hl 1 rfl) ?_
  refine va_put (D := (dC, dI)) (ci := 1) (v := .int (sd)) (ty := .int) (C := RX1) (T := TX1) (N := 4) hx hb hts hin tyX1 tyX1_ok nmX1 hown hK hP hD hS 0 rfl rfl 2 (by decide) (hts (.fieldLink RX1 18 "StreamSumsModel" "seedNarrow" "I") (wsM_self _ (wsM_nin (by decide +kernel)))) (fun _ h9 => h9) rfl (by decide +kernel) rfl rfl (Nat.le_of_ble_eq_true rfl) dX1_begin_7 (fun H locs hP hD hS => ?_)
  have hP : va_P (dC, dI) vwCl (mC h0 a0 cB (0) (sd) (wd) (f)) H := hP
  have hD : va_D A (mC h0 a0 cB (0) (sd) (wd) (f)) := hD
  refine lv_aload_n hx hb dX1_begin_10 rfl (lv_at hl 0 rfl) ?_
  refine lv_lload_n hx hb dX1_begin_11 rfl (lv_at hl 2 rfl) ?_
  refine va_put (D := (dC, dI)) (ci := 1) (v := .long (wv)) (ty := .long) (C := RX1) (T := TX1) (N := 4) hx hb hts hin tyX1 tyX1_ok nmX1 hown hK hP hD hS 0 rfl rfl 3 (by decide) (hts (.fieldLink RX1 21 "StreamSumsModel" "seedWide" "J") (wsM_self _ (wsM_nin (by decide +kernel)))) (fun _ h9 => h9) rfl (by decide +kernel) rfl rfl (Nat.le_of_ble_eq_true rfl) dX1_begin_12 (fun H locs hP hD hS => ?_)
  have hP : va_P (dC, dI) vwCl (mC h0 a0 cB (0) (sd) (wv) (f)) H := hP
  have hD : va_D A (mC h0 a0 cB (0) (sd) (wv) (f)) := hD
  exact W.vret hx hb hr (fun t ht hW => ⟨⟨(), rfl, trivial, by rw [ht]; exact hP, va_K.moved hW.alike hK, hD⟩, hS.F ht⟩) hS.2.2 dX1_begin_15
set_option maxHeartbeats 4000000 in
set_option maxRecDepth 100000 in
theorem c_M_write (l : Launch) (dC : Nat → ClassId) (dI : Nat → Nat → Nat) (h0 a0 : Nat) (cB : ClassId) (sz n : Nat) (ns : Int32) (wd : Int64) (f : Nat → Int32) (ev : Int64) (k : Int32) (hn : n ≤ 65536) : Met l yX1_write wsM_write ({ frames := 0, cells := 0, slots := 0, locals := 0 } : Room) (va_Pc [.ref h0, .long ev, .int k] (mI dC dI h0 a0 cB sz n ns wd f)) (va_Qi (fun (r : Int32) (u : Nat × (Nat → Int32)) => r = wr_ok n k ∧ u.1 = wr_n n k ∧ u.2 = wr_F n f ev k) (fun u : Nat × (Nat → Int32) => mO dC dI (va_A (mC h0 a0 cB (n) (ns) (wd) (f)) sz) h0 a0 cB u.1 ns wd u.2) (va_A (mC h0 a0 cB (n) (ns) (wd) (f)) sz)) 0 0 (va_A (mC h0 a0 cB (n) (ns) (wd) (f)) sz) := by
  refine Met.ofW (cc := cX1_write) (maxL := 5) (ret := some .boolean) (by decide) rfl ?_
  intro p e s m args below meth c s₁ B hml hv
  obtain ⟨rfl, hsz, hP, hK, hD0⟩ := hv
  have hx := B.exec
  have hb := B.bytes
  have hr := B.returns
  have hts := atoms_spec (ws := wsM_write) B.pre
  have hown : s.vm.findClass RX1 = some m.cls := findClass_of_methodNamed B.named
  have hlocks := B.notSynchronized
  have hin : ∀ w ∈ u_ws RX1 TX1 4, w ∈ wsM_write := fun w h => wsM_self w (wsM_fin w h)
  subst hsz
  have hD := hD0.self (sz := s.heap.size)
  generalize hAe : va_A (mC h0 a0 cB (n) (ns) (wd) (f)) s.heap.size = A at hD ⊢
  have hA : ∀ q : Nat, s.heap.size ≤ q → A q := fun q h => by rw [← hAe]; exact Or.inr h
  have hS : va_S A s.heap s.heap [] := va_S.rf
  have hl := lv_entry ([.ref h0, .long ev, .int k]) (n := 5) (Nat.le_of_ble_eq_true rfl)
  rw [lg_entry_eq]
  generalize (lg_sl ([.ref h0, .long ev, .int k]) ++ List.replicate (5 - (lg_sl ([.ref h0, .long ev, .int k])).length) Slot.unset).toArray = ls at hl ⊢
  have hl : lv_has ls 5 [(0, .ref h0), (1, .long (ev)), (3, .int (k))] := hl
  refine lv_iload_n hx hb dX1_write_0 rfl (lv_at hl 2 rfl) ?_
  refine lv_iconst (v := 1) hx hb dX1_write_1 (by decide) ?_
  refine lv_icmp_lt (tgt := 22) hx hb dX1_write_2 (by decide) (fun c_2 => ?_) (fun c_2 => ?_)
  · refine lv_iconst (v := 0) hx hb dX1_write_22 (by decide) ?_
    exact W.zret (v := 0) hx hb hr (by decide) (fun t ht hW => ⟨⟨0, (n, f), rfl, (wr_no f ev (by unfold wr_ok; rw [if_pos c_2])), by rw [ht]; exact hP, va_K.moved hW.alike hK, hD⟩, hS.F ht⟩) hS.2.2 dX1_write_23
  · refine lv_iload_n hx hb dX1_write_5 rfl (lv_at hl 2 rfl) ?_
    refine lv_bipush (v := 8) hx hb dX1_write_6 (by decide) ?_
    refine lv_icmp_gt (tgt := 22) hx hb dX1_write_8 (by decide) (fun c_8 => ?_) (fun c_8 => ?_)
    · refine lv_iconst (v := 0) hx hb dX1_write_22 (by decide) ?_
      exact W.zret (v := 0) hx hb hr (by decide) (fun t ht hW => ⟨⟨0, (n, f), rfl, (wr_no f ev (by unfold wr_ok; rw [if_neg c_2, if_pos c_8])), by rw [ht]; exact hP, va_K.moved hW.alike hK, hD⟩, hS.F ht⟩) hS.2.2 dX1_write_23
    · obtain ⟨K, hkK, hK1, hK8⟩ := wr_k c_2 c_8
      refine lv_aload_n hx hb dX1_write_11 rfl (lv_at hl 0 rfl) ?_
      refine va_get (D := (dC, dI)) (ci := 1) (v := .int (nI (n))) (C := RX1) (T := TX1) (N := 4) hx hb hts hin hown hK hP 0 rfl rfl 1 (by decide) (hts (.fieldLink RX1 14 "StreamSumsModel" "length" "I") (wsM_self _ (wsM_nin (by decide +kernel)))) (fun _ h9 => h9) rfl dX1_write_12 ?_
      refine lv_iload_n hx hb dX1_write_15 rfl (lv_at hl 2 rfl) ?_
      refine lv_iadd hx hb dX1_write_16 ?_
      refine q_ti (y := nI (n + K)) (by rw [hkK]; exact nI_add n K) ?_
      refine lv_ldc (v := 65536) hx hb hown (hts (.constant RX1 7 (65536)) (wsM_self _ (wsM_nin (by decide +kernel)))) dX1_write_17 ?_
      refine lv_icmp_le (tgt := 24) hx hb dX1_write_19 (by decide) (fun c_19 => ?_) (fun c_19 => ?_)
      · have hKn : n + K ≤ 65536 := (nI_leI (b := 65536) (by omega) (by omega)).mp c_19
        refine lv_iconst (v := 0) hx hb dX1_write_24 (by decide) ?_
        refine lv_istore (lv' := [(4, .int (0)), (0, .ref h0), (1, .long (ev)), (3, .int (k))]) hx hb dX1_write_25 hl (by decide) rfl (fun ls hl => ?_)
        have L27 : ∀ (d j : Nat), j + d = K → ∀ (H : Heap) (locs : List Loc), va_P (dC, dI) vwCl (mC h0 a0 cB (n + j) (ns) (wd) (wr_f f n ev j)) H → va_D A (mC h0 a0 cB (n + j) (ns) (wd) (wr_f f n ev j)) → va_S A s.heap H locs → ∀ ls : Array Slot, lv_has ls 5 [(0, .ref h0), (1, .long (ev)), (3, .int (k)), (4, .int (nI (j)))] → W p l e (headSpec wsM_write ({ frames := 0, cells := 0, slots := 0, locals := 0 } : Room)).room s m [Value.ref h0, .long ev, .int k].toArray below meth c H locs 0 0 (MQ below (va_Qi (fun (r : Int32) (u : Nat × (Nat → Int32)) => r = wr_ok n k ∧ u.1 = wr_n n k ∧ u.2 = wr_F n f ev k) (fun u : Nat × (Nat → Int32) => mO dC dI A h0 a0 cB u.1 ns wd u.2) A) [Value.ref h0, .long ev, .int k].toArray s 0 0 A) (F0 m 27 ls []) := by
          intro d
          induction d with
          | zero =>
            intro j hj H locs hP hD hS ls hl
            obtain rfl : K = j := by omega
            refine lv_iload hx hb dX1_write_27 (lv_at hl 3 rfl) ?_
            refine lv_iload_n hx hb dX1_write_29 rfl (lv_at hl 2 rfl) ?_
            refine q_ti (y := nI K) (hkK) ?_
            refine lv_icmp_ge (tgt := 70) hx hb dX1_write_30 (by decide) (fun c_30 => ?_) (fun c_30 => ?_)
            · refine lv_iconst (v := 1) hx hb dX1_write_70 (by decide) ?_
              exact W.zret (v := 1) hx hb hr (by decide) (fun t ht hW => ⟨⟨1, (n + K, wr_f f n ev K), rfl, (by have h := wr_yes (n := n) f ev hK1 hK8 hKn; rw [hkK]; exact h), by rw [ht]; exact hP, va_K.moved hW.alike hK, hD⟩, hS.F ht⟩) hS.2.2 dX1_write_71
            · exact absurd (nI_le (Nat.le_refl K) (by omega)) c_30
          | succ d ih =>
            intro j hj H locs hP hD hS ls hl
            have hjl : j < K := by omega
            refine lv_iload hx hb dX1_write_27 (lv_at hl 3 rfl) ?_
            refine lv_iload_n hx hb dX1_write_29 rfl (lv_at hl 2 rfl) ?_
            refine q_ti (y := nI K) (hkK) ?_
            refine lv_icmp_ge (tgt := 70) hx hb dX1_write_30 (by decide) (fun c_30 => ?_) (fun c_30 => ?_)
            · exact absurd c_30 (nI_ge hjl (by omega))
            · refine lv_aload_n hx hb dX1_write_33 rfl (lv_at hl 0 rfl) ?_
              refine va_get (D := (dC, dI)) (ci := 1) (v := .ref a0) (C := RX1) (T := TX1) (N := 4) hx hb hts hin hown hK hP 0 rfl rfl 0 (by decide) (hts (.fieldLink RX1 8 "StreamSumsModel" "row" "[B") (wsM_self _ (wsM_nin (by decide +kernel)))) (fun _ h9 => h9) rfl dX1_write_34 ?_
              refine lv_aload_n hx hb dX1_write_37 rfl (lv_at hl 0 rfl) ?_
              refine va_get (D := (dC, dI)) (ci := 1) (v := .int (nI (n + j))) (C := RX1) (T := TX1) (N := 4) hx hb hts hin hown hK hP 0 rfl rfl 1 (by decide) (hts (.fieldLink RX1 14 "StreamSumsModel" "length" "I") (wsM_self _ (wsM_nin (by decide +kernel)))) (fun _ h9 => h9) rfl dX1_write_38 ?_
              refine lv_lload_n hx hb dX1_write_41 rfl (lv_at hl 1 rfl) ?_
              refine lv_bipush (v := 56) hx hb dX1_write_42 (by decide) ?_
              refine lv_bipush (v := 8) hx hb dX1_write_44 (by decide) ?_
              refine lv_iload hx hb dX1_write_46 (lv_at hl 3 rfl) ?_
              refine lv_imul hx hb dX1_write_48 ?_
              refine lv_isub hx hb dX1_write_49 ?_
              refine lv_lushr (v := sh_U (ev) ((56 - (8 * nI (j))))) hx hb dX1_write_50 rfl ?_
              refine lv_l2i (v := ((sh_U (ev) ((56 - (8 * nI (j)))))).toInt32) hx hb dX1_write_51 rfl ?_
              refine lv_i2b (v := (((sh_U (ev) ((56 - (8 * nI (j)))))).toInt32).toInt8.toInt32) hx hb dX1_write_52 rfl ?_
              refine q_bast (j := n + j) (y := wr_b ev j) hx hb hK hP hD hS 1 0 rfl rfl rfl (by omega) (by omega) (pk_vb _) dX1_write_53 (fun H locs hP hD hS => ?_)
              have hP : va_P (dC, dI) vwCl (mC h0 a0 cB (n + j) (ns) (wd) (wr_f f n ev (j + 1))) H := hP
              have hD : va_D A (mC h0 a0 cB (n + j) (ns) (wd) (wr_f f n ev (j + 1))) := hD
              refine lv_aload_n hx hb dX1_write_54 rfl (lv_at hl 0 rfl) ?_
              refine lv_dup hx hb dX1_write_55 rfl ?_
              refine va_get (D := (dC, dI)) (ci := 1) (v := .int (nI (n + j))) (C := RX1) (T := TX1) (N := 4) hx hb hts hin hown hK hP 0 rfl rfl 1 (by decide) (hts (.fieldLink RX1 14 "StreamSumsModel" "length" "I") (wsM_self _ (wsM_nin (by decide +kernel)))) (fun _ h9 => h9) rfl dX1_write_56 ?_
              refine lv_iconst (v := 1) hx hb dX1_write_59 (by decide) ?_
              refine lv_iadd hx hb dX1_write_60 ?_
              refine q_ti (y := nI (n + (j + 1))) (nI_add (n + j) 1) ?_
              refine va_put (D := (dC, dI)) (ci := 1) (v := .int (nI (n + (j + 1)))) (ty := .int) (C := RX1) (T := TX1) (N := 4) hx hb hts hin tyX1 tyX1_ok nmX1 hown hK hP hD hS 0 rfl rfl 1 (by decide) (hts (.fieldLink RX1 14 "StreamSumsModel" "length" "I") (wsM_self _ (wsM_nin (by decide +kernel)))) (fun _ h9 => h9) rfl (by decide +kernel) rfl rfl (Nat.le_of_ble_eq_true rfl) dX1_write_61 (fun H locs hP hD hS => ?_)
              have hP : va_P (dC, dI) vwCl (mC h0 a0 cB (n + (j + 1)) (ns) (wd) (wr_f f n ev (j + 1))) H := hP
              have hD : va_D A (mC h0 a0 cB (n + (j + 1)) (ns) (wd) (wr_f f n ev (j + 1))) := hD
              refine lv_iinc (v := nI (j + 1)) (lv' := [(4, .int (nI (j + 1))), (0, .ref h0), (1, .long (ev)), (3, .int (k))]) hx hb dX1_write_64 hl (k := 3) rfl (nI_add j 1) (by decide) rfl (fun ls hl => ?_)
              refine lv_goto (tgt := 27) hx hb dX1_write_67 (by decide) ?_
              exact ih (j + 1) (by omega) _ _ hP hD hS ls (lv_sub hl [1, 2, 3, 0] rfl)
        exact L27 (K) 0 (by omega) _ _ hP hD hS ls (lv_sub hl [1, 2, 3, 0] rfl)
      · have hKn : 65536 < n + K := Nat.not_le.mp (fun q => c_19 (nI_le (b := 65536) q (by omega)))
        refine lv_iconst (v := 0) hx hb dX1_write_22 (by decide) ?_
        exact W.zret (v := 0) hx hb hr (by decide) (fun t ht hW => ⟨⟨0, (n, f), rfl, (wr_no f ev (by rw [hkK]; exact wr_big hK1 hK8 hKn)), by rw [ht]; exact hP, va_K.moved hW.alike hK, hD⟩, hS.F ht⟩) hS.2.2 dX1_write_23
set_option maxHeartbeats 4000000 in
set_option maxRecDepth 100000 in
theorem c_M_again (l : Launch) (dC : Nat → ClassId) (dI : Nat → Nat → Nat) (h0 a0 : Nat) (cB : ClassId) (sz n : Nat) (ns : Int32) (wd : Int64) (f : Nat → Int32) (x : Int32) (y : Int32) (hn : n ≤ 65536) : Met l yX1_again wsM_again ({ frames := 0, cells := 0, slots := 0, locals := 0 } : Room) (va_Pc [.ref h0, .int x, .int y] (mI dC dI h0 a0 cB sz n ns wd f)) (va_Qi (fun (r : Int32) (u : Nat × (Nat → Int32)) => r = ag_ok n x y ∧ u.1 = ag_n n x y ∧ u.2 = ag_F n f x y) (fun u : Nat × (Nat → Int32) => mO dC dI (va_A (mC h0 a0 cB (n) (ns) (wd) (f)) sz) h0 a0 cB u.1 ns wd u.2) (va_A (mC h0 a0 cB (n) (ns) (wd) (f)) sz)) 0 0 (va_A (mC h0 a0 cB (n) (ns) (wd) (f)) sz) := by
  refine Met.ofW (cc := cX1_again) (maxL := 5) (ret := some .boolean) (by decide) rfl ?_
  intro p e s m args below meth c s₁ B hml hv
  obtain ⟨rfl, hsz, hP, hK, hD0⟩ := hv
  have hx := B.exec
  have hb := B.bytes
  have hr := B.returns
  have hts := atoms_spec (ws := wsM_again) B.pre
  have hown : s.vm.findClass RX1 = some m.cls := findClass_of_methodNamed B.named
  have hlocks := B.notSynchronized
  have hin : ∀ w ∈ u_ws RX1 TX1 4, w ∈ wsM_again := fun w h => wsM_self w (wsM_fin w h)
  subst hsz
  have hD := hD0.self (sz := s.heap.size)
  generalize hAe : va_A (mC h0 a0 cB (n) (ns) (wd) (f)) s.heap.size = A at hD ⊢
  have hA : ∀ q : Nat, s.heap.size ≤ q → A q := fun q h => by rw [← hAe]; exact Or.inr h
  have hS : va_S A s.heap s.heap [] := va_S.rf
  have hl := lv_entry ([.ref h0, .int x, .int y]) (n := 5) (Nat.le_of_ble_eq_true rfl)
  rw [lg_entry_eq]
  generalize (lg_sl ([.ref h0, .int x, .int y]) ++ List.replicate (5 - (lg_sl ([.ref h0, .int x, .int y])).length) Slot.unset).toArray = ls at hl ⊢
  have hl : lv_has ls 5 [(0, .ref h0), (1, .int (x)), (2, .int (y))] := hl
  refine lv_iload_n hx hb dX1_again_0 rfl (lv_at hl 1 rfl) ?_
  refine lv_iconst (v := 1) hx hb dX1_again_1 (by decide) ?_
  refine lv_icmp_lt (tgt := 35) hx hb dX1_again_2 (by decide) (fun c_2 => ?_) (fun c_2 => ?_)
  · refine lv_iconst (v := 0) hx hb dX1_again_35 (by decide) ?_
    exact W.zret (v := 0) hx hb hr (by decide) (fun t ht hW => ⟨⟨0, (n, f), rfl, (ag_no f (by unfold ag_ok; rw [if_pos c_2])), by rw [ht]; exact hP, va_K.moved hW.alike hK, hD⟩, hS.F ht⟩) hS.2.2 dX1_again_36
  · refine lv_iload_n hx hb dX1_again_5 rfl (lv_at hl 1 rfl) ?_
    refine lv_aload_n hx hb dX1_again_6 rfl (lv_at hl 0 rfl) ?_
    refine va_get (D := (dC, dI)) (ci := 1) (v := .int (nI (n))) (C := RX1) (T := TX1) (N := 4) hx hb hts hin hown hK hP 0 rfl rfl 1 (by decide) (hts (.fieldLink RX1 14 "StreamSumsModel" "length" "I") (wsM_self _ (wsM_nin (by decide +kernel)))) (fun _ h9 => h9) rfl dX1_again_7 ?_
    refine lv_icmp_gt (tgt := 35) hx hb dX1_again_10 (by decide) (fun c_10 => ?_) (fun c_10 => ?_)
    · refine lv_iconst (v := 0) hx hb dX1_again_35 (by decide) ?_
      exact W.zret (v := 0) hx hb hr (by decide) (fun t ht hW => ⟨⟨0, (n, f), rfl, (ag_no f (by unfold ag_ok; rw [if_neg c_2, if_pos c_10])), by rw [ht]; exact hP, va_K.moved hW.alike hK, hD⟩, hS.F ht⟩) hS.2.2 dX1_again_36
    · refine lv_iload_n hx hb dX1_again_13 rfl (lv_at hl 2 rfl) ?_
      refine lv_if_lt (tgt := 35) hx hb dX1_again_14 (by decide) (fun c_14 => ?_) (fun c_14 => ?_)
      · refine lv_iconst (v := 0) hx hb dX1_again_35 (by decide) ?_
        exact W.zret (v := 0) hx hb hr (by decide) (fun t ht hW => ⟨⟨0, (n, f), rfl, (ag_no f (by unfold ag_ok; rw [if_neg c_2, if_neg c_10, if_pos c_14])), by rw [ht]; exact hP, va_K.moved hW.alike hK, hD⟩, hS.F ht⟩) hS.2.2 dX1_again_36
      · obtain ⟨w, k, hxw, hyk, hw1, hwn, hk⟩ := ag_k hn c_2 c_10 c_14
        have hwk := ag_lt (w := w) (k := k) (by omega) hk
        refine lv_aload_n hx hb dX1_again_17 rfl (lv_at hl 0 rfl) ?_
        refine va_get (D := (dC, dI)) (ci := 1) (v := .int (nI (n))) (C := RX1) (T := TX1) (N := 4) hx hb hts hin hown hK hP 0 rfl rfl 1 (by decide) (hts (.fieldLink RX1 14 "StreamSumsModel" "length" "I") (wsM_self _ (wsM_nin (by decide +kernel)))) (fun _ h9 => h9) rfl dX1_again_18 ?_
        refine lv_i2l (v := (nI (n)).toInt64) hx hb dX1_again_21 rfl ?_
        refine q_tl (y := lN n) (nI_l (by omega)) ?_
        refine lv_iload_n hx hb dX1_again_22 rfl (lv_at hl 1 rfl) ?_
        refine lv_i2l (v := (x).toInt64) hx hb dX1_again_23 rfl ?_
        refine lv_iload_n hx hb dX1_again_24 rfl (lv_at hl 2 rfl) ?_
        refine lv_i2l (v := (y).toInt64) hx hb dX1_again_25 rfl ?_
        refine lv_lmul hx hb dX1_again_26 ?_
        refine q_tl (y := lN (w * k)) (by rw [hxw, hyk]; exact ag_mul (by omega) hk) ?_
        refine lv_ladd hx hb dX1_again_27 ?_
        refine q_tl (y := lN (n + w * k)) (lN_add _ _) ?_
        refine lv_ldc2 (v := 65536) hx hb hown (hts (.constantLong RX1 25 (65536)) (wsM_self _ (wsM_nin (by decide +kernel)))) dX1_again_28 ?_
        refine W.lcmp hx hb dX1_again_31 ?_
        refine lv_if_le (tgt := 37) hx hb dX1_again_32 (by decide) (fun c_32 => ?_) (fun c_32 => ?_)
        · have hfit : n + w * k ≤ 65536 := by
            rw [lg_cmp_le, show (65536 : Int64) = lN 65536 from rfl, pk_lLE (by omega) (by omega)] at c_32
            omega
          refine lv_iload_n hx hb dX1_again_37 rfl (lv_at hl 1 rfl) ?_
          refine lv_iload_n hx hb dX1_again_38 rfl (lv_at hl 2 rfl) ?_
          refine lv_imul hx hb dX1_again_39 ?_
          refine q_ti (y := nI (w * k)) (by rw [hxw, hyk]; exact pk_mul w k) ?_
          refine lv_istore_n (lv' := [(3, .int (nI (w * k))), (0, .ref h0), (1, .int (x)), (2, .int (y))]) hx hb dX1_again_40 rfl hl (by decide) rfl (fun ls hl => ?_)
          refine lv_iconst (v := 0) hx hb dX1_again_41 (by decide) ?_
          refine lv_istore (lv' := [(4, .int (0)), (3, .int (nI (w * k))), (0, .ref h0), (1, .int (x)), (2, .int (y))]) hx hb dX1_again_42 hl (by decide) rfl (fun ls hl => ?_)
          have L44 : ∀ (d j : Nat), j + d = w * k → ∀ (H : Heap) (locs : List Loc), va_P (dC, dI) vwCl (mC h0 a0 cB (n + j) (ns) (wd) (ag_f f n w (j))) H → va_D A (mC h0 a0 cB (n + j) (ns) (wd) (ag_f f n w (j))) → va_S A s.heap H locs → ∀ ls : Array Slot, lv_has ls 5 [(0, .ref h0), (1, .int (x)), (2, .int (y)), (3, .int (nI (w * k))), (4, .int (nI (j)))] → W p l e (headSpec wsM_again ({ frames := 0, cells := 0, slots := 0, locals := 0 } : Room)).room s m [Value.ref h0, .int x, .int y].toArray below meth c H locs 0 0 (MQ below (va_Qi (fun (r : Int32) (u : Nat × (Nat → Int32)) => r = ag_ok n x y ∧ u.1 = ag_n n x y ∧ u.2 = ag_F n f x y) (fun u : Nat × (Nat → Int32) => mO dC dI A h0 a0 cB u.1 ns wd u.2) A) [Value.ref h0, .int x, .int y].toArray s 0 0 A) (F0 m 44 ls []) := by
            intro d
            induction d with
            | zero =>
              intro j hj H locs hP hD hS ls hl
              obtain rfl : w * k = j := by omega
              refine lv_iload hx hb dX1_again_44 (lv_at hl 4 rfl) ?_
              refine lv_iload_n hx hb dX1_again_46 rfl (lv_at hl 3 rfl) ?_
              refine lv_icmp_ge (tgt := 86) hx hb dX1_again_47 (by decide) (fun c_47 => ?_) (fun c_47 => ?_)
              · refine lv_iconst (v := 1) hx hb dX1_again_86 (by decide) ?_
                exact W.zret (v := 1) hx hb hr (by decide) (fun t ht hW => ⟨⟨1, (n + (w * k), ag_f f n w ((w * k))), rfl, (by have h := ag_yes (n := n) f hw1 hwn hk hn hfit; rw [hxw, hyk]; exact h), by rw [ht]; exact hP, va_K.moved hW.alike hK, hD⟩, hS.F ht⟩) hS.2.2 dX1_again_87
              · exact absurd (nI_le (Nat.le_refl _) (by omega)) c_47
            | succ d ih =>
              intro j hj H locs hP hD hS ls hl
              have hjl : j < w * k := by omega
              refine lv_iload hx hb dX1_again_44 (lv_at hl 4 rfl) ?_
              refine lv_iload_n hx hb dX1_again_46 rfl (lv_at hl 3 rfl) ?_
              refine lv_icmp_ge (tgt := 86) hx hb dX1_again_47 (by decide) (fun c_47 => ?_) (fun c_47 => ?_)
              · exact absurd c_47 (nI_ge hjl (by omega))
              · refine lv_aload_n hx hb dX1_again_50 rfl (lv_at hl 0 rfl) ?_
                refine va_get (D := (dC, dI)) (ci := 1) (v := .ref a0) (C := RX1) (T := TX1) (N := 4) hx hb hts hin hown hK hP 0 rfl rfl 0 (by decide) (hts (.fieldLink RX1 8 "StreamSumsModel" "row" "[B") (wsM_self _ (wsM_nin (by decide +kernel)))) (fun _ h9 => h9) rfl dX1_again_51 ?_
                refine lv_aload_n hx hb dX1_again_54 rfl (lv_at hl 0 rfl) ?_
                refine va_get (D := (dC, dI)) (ci := 1) (v := .int (nI (n + j))) (C := RX1) (T := TX1) (N := 4) hx hb hts hin hown hK hP 0 rfl rfl 1 (by decide) (hts (.fieldLink RX1 14 "StreamSumsModel" "length" "I") (wsM_self _ (wsM_nin (by decide +kernel)))) (fun _ h9 => h9) rfl dX1_again_55 ?_
                refine lv_aload_n hx hb dX1_again_58 rfl (lv_at hl 0 rfl) ?_
                refine va_get (D := (dC, dI)) (ci := 1) (v := .ref a0) (C := RX1) (T := TX1) (N := 4) hx hb hts hin hown hK hP 0 rfl rfl 0 (by decide) (hts (.fieldLink RX1 8 "StreamSumsModel" "row" "[B") (wsM_self _ (wsM_nin (by decide +kernel)))) (fun _ h9 => h9) rfl dX1_again_59 ?_
                refine lv_aload_n hx hb dX1_again_62 rfl (lv_at hl 0 rfl) ?_
                refine va_get (D := (dC, dI)) (ci := 1) (v := .int (nI (n + j))) (C := RX1) (T := TX1) (N := 4) hx hb hts hin hown hK hP 0 rfl rfl 1 (by decide) (hts (.fieldLink RX1 14 "StreamSumsModel" "length" "I") (wsM_self _ (wsM_nin (by decide +kernel)))) (fun _ h9 => h9) rfl dX1_again_63 ?_
                refine lv_iload_n hx hb dX1_again_66 rfl (lv_at hl 1 rfl) ?_
                refine lv_isub hx hb dX1_again_67 ?_
                refine q_ti (y := nI (n + j - w)) (by rw [hxw]; exact pk_sub (by omega)) ?_
                refine q_bald (j := n + j - w) hx hb hK hP 1 0 rfl rfl rfl (by omega) (by omega) dX1_again_68 ?_
                refine q_bast (j := n + j) (y := (ag_f f n w j (n + j - w)).toInt8.toInt32) hx hb hK hP hD hS 1 0 rfl rfl rfl (by omega) (by omega) (vp_nar_byte _) dX1_again_69 (fun H locs hP hD hS => ?_)
                have hP : va_P (dC, dI) vwCl (mC h0 a0 cB (n + j) (ns) (wd) (ag_f f n w (j + 1))) H := hP
                have hD : va_D A (mC h0 a0 cB (n + j) (ns) (wd) (ag_f f n w (j + 1))) := hD
                refine lv_aload_n hx hb dX1_again_70 rfl (lv_at hl 0 rfl) ?_
                refine lv_dup hx hb dX1_again_71 rfl ?_
                refine va_get (D := (dC, dI)) (ci := 1) (v := .int (nI (n + j))) (C := RX1) (T := TX1) (N := 4) hx hb hts hin hown hK hP 0 rfl rfl 1 (by decide) (hts (.fieldLink RX1 14 "StreamSumsModel" "length" "I") (wsM_self _ (wsM_nin (by decide +kernel)))) (fun _ h9 => h9) rfl dX1_again_72 ?_
                refine lv_iconst (v := 1) hx hb dX1_again_75 (by decide) ?_
                refine lv_iadd hx hb dX1_again_76 ?_
                refine q_ti (y := nI (n + (j + 1))) (nI_add (n + j) 1) ?_
                refine va_put (D := (dC, dI)) (ci := 1) (v := .int (nI (n + (j + 1)))) (ty := .int) (C := RX1) (T := TX1) (N := 4) hx hb hts hin tyX1 tyX1_ok nmX1 hown hK hP hD hS 0 rfl rfl 1 (by decide) (hts (.fieldLink RX1 14 "StreamSumsModel" "length" "I") (wsM_self _ (wsM_nin (by decide +kernel)))) (fun _ h9 => h9) rfl (by decide +kernel) rfl rfl (Nat.le_of_ble_eq_true rfl) dX1_again_77 (fun H locs hP hD hS => ?_)
                have hP : va_P (dC, dI) vwCl (mC h0 a0 cB (n + (j + 1)) (ns) (wd) (ag_f f n w (j + 1))) H := hP
                have hD : va_D A (mC h0 a0 cB (n + (j + 1)) (ns) (wd) (ag_f f n w (j + 1))) := hD
                refine lv_iinc (v := nI (j + 1)) (lv' := [(4, .int (nI (j + 1))), (0, .ref h0), (1, .int (x)), (2, .int (y)), (3, .int (nI (w * k)))]) hx hb dX1_again_80 hl (k := 4) rfl (nI_add j 1) (by decide) rfl (fun ls hl => ?_)
                refine lv_goto (tgt := 44) hx hb dX1_again_83 (by decide) ?_
                exact ih (j + 1) (by omega) _ _ hP hD hS ls (lv_sub hl [1, 2, 3, 4, 0] rfl)
          exact L44 (w * k) 0 (by omega) _ _ hP hD hS ls (lv_sub hl [2, 3, 4, 1, 0] rfl)
        · have hfit : 65536 < n + w * k := by
            rw [lg_cmp_le, show (65536 : Int64) = lN 65536 from rfl, pk_lLE (by omega) (by omega)] at c_32
            omega
          refine lv_iconst (v := 0) hx hb dX1_again_35 (by decide) ?_
          exact W.zret (v := 0) hx hb hr (by decide) (fun t ht hW => ⟨⟨0, (n, f), rfl, (ag_no f (by rw [hxw, hyk]; exact ag_big (by omega) hk hfit)), by rw [ht]; exact hP, va_K.moved hW.alike hK, hD⟩, hS.F ht⟩) hS.2.2 dX1_again_36
