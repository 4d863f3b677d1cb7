def tb_f : Nat → Nat → Int32
  | 0 => fun _ => 0
  | j + 1 => upd (tb_f j) j (cr_it cr_r 8 (nI j))
theorem tb_ok : ∀ j i, i < j → tb_f j i = cr_it cr_r 8 (nI i) := by
  intro j
  induction j with
  | zero => intro i hi; omega
  | succ j ih =>
    intro i hi
    show upd (tb_f j) j _ i = _
    by_cases e : i = j
    · subst e; exact pk_us
    · rw [pk_un e]; exact ih i (by omega)
set_option maxHeartbeats 4000000 in
set_option maxRecDepth 100000 in
theorem c_X_init (l : Launch) (dC : Nat → ClassId) (dI : Nat → Nat → Nat) (h0 sz : Nat) : Met l yX0_init wsX0_init ({ frames := 1, cells := 2, slots := 65792, locals := 40 } : Room) (va_Pc [.ref h0] (fun U => U.heap.size = sz ∧ va_P (dC, dI) vwCl [(h0, .inr (0, [.null, .null, .int 0, .int 0, .long 0]))] U.heap ∧ va_K (dC, dI) vwCl [] U ∧ va_D (fun _ => True) [(h0, .inr (0, [.null, .null, .int 0, .int 0, .long 0]))])) (va_Qv (fun u : (Nat × Nat × ClassId × ClassId × (Nat → Int32)) => ∀ i, i < 256 → u.2.2.2.2 i = cr_it cr_r 8 (nI i)) (fun u : (Nat × Nat × ClassId × ClassId × (Nat → Int32)) => xO dC dI (va_A [(h0, .inr (0, [.null, .null, .int 0, .int 0, .long 0]))] sz) h0 u.1 u.2.1 u.2.2.1 u.2.2.2.1 0 0 0 (fun _ => 0) u.2.2.2.2) (va_A [(h0, .inr (0, [.null, .null, .int 0, .int 0, .long 0]))] sz)) 2 65792 (va_A [(h0, .inr (0, [.null, .null, .int 0, .int 0, .long 0]))] sz) := by
  refine Met.ofW (cc := cX0_init) (maxL := 2) (ret := none) (by decide) rfl ?_
  intro p e s m args below meth c s₁ B hml hv
  obtain ⟨rfl, hsz, hP, hK, hD0⟩ := hv
  have hx := B.exec
  have hb := B.bytes
  have hr := B.returns
  have hts := atoms_spec (ws := wsX0_init) B.pre
  have hown : s.vm.findClass RX0 = some m.cls := findClass_of_methodNamed B.named
  have hlocks := B.notSynchronized
  have hmn : meth.name = "<init>" := (name_of_methodNamed B.named B.method).1
  have hin : ∀ w ∈ u_ws RX0 TX0 5, w ∈ wsX0_init := by decide +kernel
  subst hsz
  have hD := hD0.self (sz := s.heap.size)
  generalize hAe : va_A [(h0, .inr (0, [.null, .null, .int 0, .int 0, .long 0]))] s.heap.size = A at hD ⊢
  have hA : ∀ q : Nat, s.heap.size ≤ q → A q := fun q h => by rw [← hAe]; exact Or.inr h
  have hS : va_S A s.heap s.heap [] := va_S.rf
  have hl := lv_entry ([.ref h0]) (n := 2) (Nat.le_of_ble_eq_true rfl)
  rw [lg_entry_eq]
  generalize (lg_sl ([.ref h0]) ++ List.replicate (2 - (lg_sl ([.ref h0])).length) Slot.unset).toArray = ls at hl ⊢
  have hl : lv_has ls 2 [(0, .ref h0)] := hl
  refine lv_aload_n hx hb dX0_init_0 rfl (lv_at hl 0 rfl) ?_
  refine W.objInit hx hb hown (hts (.methodLink RX0 1 objectInit) (by decide +kernel)) (hts (.instanceMethod objectInit) (by decide +kernel)) (hts (.code objectInit ⟨#[0xb1]⟩ 1 none) (by decide +kernel)) rfl (by rw [hml]; exact hl.1) rfl dX0_init_1 (Nat.le_of_ble_eq_true rfl) (Nat.le_of_ble_eq_true rfl) ?_
  refine W.eq (g2 := F0 m 4 ls []) rfl ?_
  refine lv_aload_n hx hb dX0_init_4 rfl (lv_at hl 0 rfl) ?_
  refine lv_ldc (v := 65536) hx hb hown (hts (.constant RX0 9 (65536)) (by decide +kernel)) dX0_init_5 ?_
  refine va_newa (atype := .byte) (ty := .byte) (n := 65536) (N' := 65536) (a0 := (65536, .inl (fun _ => 0))) hx hb (hts (.arrayClass .byte) (by decide +kernel)) rfl hK hP hD hS hA (fun _ => rfl) (by decide) (by decide) (by decide) (Nat.le_of_ble_eq_true rfl) (Nat.le_of_ble_eq_true rfl) dX0_init_7 (fun a0 cB H hK hP hD hS => ?_)
  refine W.widen (k := 1) (n := 65536) (by omega) (by omega) ?_
  have hP : va_P (dC, dI) vwCl ([(h0, .inr (0, [.null, .null, .int 0, .int 0, .long 0])), (a0, .inl (cB, 65536, .inl (fun _ => 0)))]) H := hP
  have hD : va_D A ([(h0, .inr (0, [.null, .null, .int 0, .int 0, .long 0])), (a0, .inl (cB, 65536, .inl (fun _ => 0)))]) := hD
  refine va_putF (D := (dC, dI)) (ci := 0) (v := .ref a0) (ty := .array .byte) (C := RX0) (T := TX0) (N := 5) hx hb hts hin tyX0 tyX0_ok nmX0 hown hK hP hD hS 0 rfl rfl 0 (by decide) (hts (.fieldLink RX0 10 "StreamSums" "bytes" "[B") (by decide +kernel)) (fun _ h9 => h9) rfl hmn rfl (by decide +kernel) rfl rfl (Nat.le_of_ble_eq_true rfl) dX0_init_9 (fun H locs hP hD hS => ?_)
  have hP : va_P (dC, dI) vwCl ([(h0, .inr (0, [.ref a0, .null, .int 0, .int 0, .long 0])), (a0, .inl (cB, 65536, .inl (fun _ => 0)))]) H := hP
  have hD : va_D A ([(h0, .inr (0, [.ref a0, .null, .int 0, .int 0, .long 0])), (a0, .inl (cB, 65536, .inl (fun _ => 0)))]) := hD
  refine lv_aload_n hx hb dX0_init_12 rfl (lv_at hl 0 rfl) ?_
  refine lv_sipush (v := 256) hx hb dX0_init_13 (by decide) ?_
  refine va_newa (atype := .int) (ty := .int) (n := 256) (N' := 256) (a0 := (256, .inl (fun _ => 0))) hx hb (hts (.arrayClass .int) (by decide +kernel)) rfl hK hP hD hS hA (fun _ => rfl) (by decide) (by decide) (by decide) (Nat.le_of_ble_eq_true rfl) (Nat.le_of_ble_eq_true rfl) dX0_init_16 (fun a1 cI H hK hP hD hS => ?_)
  refine W.widen (k := 2) (n := 65792) (by omega) (by omega) ?_
  have hP : va_P (dC, dI) vwCl ([(h0, .inr (0, [.ref a0, .null, .int 0, .int 0, .long 0])), (a0, .inl (cB, 65536, .inl (fun _ => 0))), (a1, .inl (cI, 256, .inl (fun _ => 0)))]) H := hP
  have hD : va_D A ([(h0, .inr (0, [.ref a0, .null, .int 0, .int 0, .long 0])), (a0, .inl (cB, 65536, .inl (fun _ => 0))), (a1, .inl (cI, 256, .inl (fun _ => 0)))]) := hD
  have hK : va_K (dC, dI) vwCl (xT cB cI) s := hK
  refine va_putF (D := (dC, dI)) (ci := 0) (v := .ref a1) (ty := .array .int) (C := RX0) (T := TX0) (N := 5) hx hb hts hin tyX0 tyX0_ok nmX0 hown hK hP hD hS 0 rfl rfl 1 (by decide) (hts (.fieldLink RX0 14 "StreamSums" "eightSteps" "[I") (by decide +kernel)) (fun _ h9 => h9) rfl hmn rfl (by decide +kernel) rfl rfl (Nat.le_of_ble_eq_true rfl) dX0_init_18 (fun H locs hP hD hS => ?_)
  have hP : va_P (dC, dI) vwCl (xC h0 a0 a1 cB cI 0 0 0 (fun _ => 0) (tb_f 0)) H := hP
  have hD : va_D A (xC h0 a0 a1 cB cI 0 0 0 (fun _ => 0) (tb_f 0)) := hD
  refine lv_iconst (v := 0) hx hb dX0_init_21 (by decide) ?_
  refine lv_istore_n (lv' := [(1, .int 0), (0, .ref h0)]) hx hb dX0_init_22 rfl hl (by decide) rfl (fun ls hl => ?_)
  have L23 : ∀ (d j : Nat), j + d = 256 → ∀ (H : Heap) (locs : List Loc), va_P (dC, dI) vwCl (xC h0 a0 a1 cB cI 0 0 0 (fun _ => 0) (tb_f j)) H → va_D A (xC h0 a0 a1 cB cI 0 0 0 (fun _ => 0) (tb_f j)) → va_S A s.heap H locs → ∀ ls : Array Slot, lv_has ls 2 [(0, .ref h0), (1, .int (nI j))] → W p l e (headSpec wsX0_init ({ frames := 1, cells := 2, slots := 65792, locals := 40 } : Room)).room s m [Value.ref h0].toArray below meth c H locs 2 65792 (MQ below (va_Qv (fun u : (Nat × Nat × ClassId × ClassId × (Nat → Int32)) => ∀ i, i < 256 → u.2.2.2.2 i = cr_it cr_r 8 (nI i)) (fun u : (Nat × Nat × ClassId × ClassId × (Nat → Int32)) => xO dC dI A h0 u.1 u.2.1 u.2.2.1 u.2.2.2.1 0 0 0 (fun _ => 0) u.2.2.2.2) A) [Value.ref h0].toArray s 2 65792 A) (F0 m 23 ls []) := by
    intro d
    induction d with
    | zero =>
      intro j hj H locs hP hD hS ls hl
      obtain rfl : 256 = j := by omega
      refine lv_iload_n hx hb dX0_init_23 rfl (lv_at hl 1 rfl) ?_
      refine lv_sipush (v := 256) hx hb dX0_init_24 (by decide) ?_
      refine lv_icmp_ge (tgt := 48) hx hb dX0_init_27 (by decide) (fun c_27 => ?_) (fun c_27 => ?_)
      · refine lv_aload_n hx hb dX0_init_48 rfl (lv_at hl 0 rfl) ?_
        refine lv_iconst (v := 0) hx hb dX0_init_49 (by decide) ?_
        refine va_put (D := (dC, dI)) (ci := 0) (v := .int 0) (ty := .int) (C := RX0) (T := TX0) (N := 5) hx hb hts hin tyX0 tyX0_ok nmX0 hown hK hP hD hS 0 rfl rfl 2 (by decide) (hts (.fieldLink RX0 22 "StreamSums" "count" "I") (by decide +kernel)) (fun _ h9 => h9) rfl (by decide +kernel) rfl rfl (Nat.le_of_ble_eq_true rfl) dX0_init_50 (fun H locs hP hD hS => ?_)
        have hP : va_P (dC, dI) vwCl (xC h0 a0 a1 cB cI 0 0 0 (fun _ => 0) (tb_f 256)) H := hP
        have hD : va_D A (xC h0 a0 a1 cB cI 0 0 0 (fun _ => 0) (tb_f 256)) := hD
        refine lv_aload_n hx hb dX0_init_53 rfl (lv_at hl 0 rfl) ?_
        refine lv_iconst (v := 0) hx hb dX0_init_54 (by decide) ?_
        refine va_put (D := (dC, dI)) (ci := 0) (v := .int 0) (ty := .int) (C := RX0) (T := TX0) (N := 5) hx hb hts hin tyX0 tyX0_ok nmX0 hown hK hP hD hS 0 rfl rfl 3 (by decide) (hts (.fieldLink RX0 26 "StreamSums" "narrowSeed" "I") (by decide +kernel)) (fun _ h9 => h9) rfl (by decide +kernel) rfl rfl (Nat.le_of_ble_eq_true rfl) dX0_init_55 (fun H locs hP hD hS => ?_)
        have hP : va_P (dC, dI) vwCl (xC h0 a0 a1 cB cI 0 0 0 (fun _ => 0) (tb_f 256)) H := hP
        have hD : va_D A (xC h0 a0 a1 cB cI 0 0 0 (fun _ => 0) (tb_f 256)) := hD
        refine lv_aload_n hx hb dX0_init_58 rfl (lv_at hl 0 rfl) ?_
        refine lv_lconst (v := 0) hx hb dX0_init_59 (by decide) ?_
        refine va_put (D := (dC, dI)) (ci := 0) (v := .long 0) (ty := .long) (C := RX0) (T := TX0) (N := 5) hx hb hts hin tyX0 tyX0_ok nmX0 hown hK hP hD hS 0 rfl rfl 4 (by decide) (hts (.fieldLink RX0 29 "StreamSums" "wideSeed" "J") (by decide +kernel)) (fun _ h9 => h9) rfl (by decide +kernel) rfl rfl (Nat.le_of_ble_eq_true rfl) dX0_init_60 (fun H locs hP hD hS => ?_)
        have hP : va_P (dC, dI) vwCl (xC h0 a0 a1 cB cI 0 0 0 (fun _ => 0) (tb_f 256)) H := hP
        have hD : va_D A (xC h0 a0 a1 cB cI 0 0 0 (fun _ => 0) (tb_f 256)) := hD
        exact W.vret hx hb hr (fun t ht hW => ⟨⟨(a0, a1, cB, cI, tb_f 256), rfl, tb_ok 256, by rw [ht]; exact hP, va_K.moved hW.alike hK, hD⟩, hS.F ht⟩) hS.2.2 dX0_init_63
      · exact absurd (nI_le (a := 256) (b := 256) (Nat.le_refl _) (by omega)) c_27
    | succ d ih =>
      intro j hj H locs hP hD hS ls hl
      have hjl : j < 256 := by omega
      refine lv_iload_n hx hb dX0_init_23 rfl (lv_at hl 1 rfl) ?_
      refine lv_sipush (v := 256) hx hb dX0_init_24 (by decide) ?_
      refine lv_icmp_ge (tgt := 48) hx hb dX0_init_27 (by decide) (fun c_27 => ?_) (fun c_27 => ?_)
      · exact absurd c_27 (nI_ge (b := 256) hjl (by omega))
      · refine lv_aload_n hx hb dX0_init_30 rfl (lv_at hl 0 rfl) ?_
        refine va_get (D := (dC, dI)) (ci := 0) (v := .ref a1) (C := RX0) (T := TX0) (N := 5) hx hb hts hin hown hK hP 0 rfl rfl 1 (by decide) (hts (.fieldLink RX0 14 "StreamSums" "eightSteps" "[I") (by decide +kernel)) (fun _ h9 => h9) rfl dX0_init_31 ?_
        refine lv_iload_n hx hb dX0_init_34 rfl (lv_at hl 1 rfl) ?_
        refine lv_iload_n hx hb dX0_init_35 rfl (lv_at hl 1 rfl) ?_
        refine lv_bipush (v := 8) hx hb dX0_init_36 (by decide) ?_
        refine q_S (As := [.int (nI j), .int 8]) (rest := [.int (nI j), .ref a1]) ⟨hx, hb, hml, hown, hts⟩ (c_X_movedOn l (nI j) 8 (by omega)) (va_cwS 2 hts gX0_init_X0_movedOn rfl rfl rfl (by decide +kernel) ⟨Nat.le_of_ble_eq_true rfl, Nat.le_of_ble_eq_true rfl⟩) rfl hl.1 rfl (Nat.le_of_ble_eq_true rfl) dX0_init_38 ⟨Nat.le_of_ble_eq_true rfl, Nat.le_of_ble_eq_true rfl⟩ ?_
        refine q_iast (j := j) hx hb hK hP hD hS 2 1 rfl rfl rfl (by omega) (by omega) dX0_init_41 (fun H locs hP hD hS => ?_)
        have hP : va_P (dC, dI) vwCl (xC h0 a0 a1 cB cI 0 0 0 (fun _ => 0) (tb_f (j + 1))) H := hP
        have hD : va_D A (xC h0 a0 a1 cB cI 0 0 0 (fun _ => 0) (tb_f (j + 1))) := hD
        refine lv_iinc (v := nI (j + 1)) (lv' := [(1, .int (nI (j + 1))), (0, .ref h0)]) hx hb dX0_init_42 hl (k := 1) rfl (nI_add j 1) (by decide) rfl (fun ls hl => ?_)
        refine lv_goto (tgt := 23) hx hb dX0_init_45 (by decide) ?_
        exact ih (j + 1) (by omega) _ _ hP hD hS ls (lv_sub hl [1, 0] rfl)
  exact L23 256 0 (by omega) _ _ hP hD hS ls (lv_sub hl [1, 0] rfl)
set_option maxHeartbeats 4000000 in
set_option maxRecDepth 100000 in
theorem c_M_init (l : Launch) (dC : Nat → ClassId) (dI : Nat → Nat → Nat) (h0 sz : Nat) : Met l yX1_init wsM_init ({ frames := 1, cells := 1, slots := 65536, locals := 20 } : Room) (va_Pc [.ref h0] (fun U => U.heap.size = sz ∧ va_P (dC, dI) vwCl [(h0, .inr (1, [.null, .int 0, .int 0, .long 0]))] U.heap ∧ va_K (dC, dI) vwCl [] U ∧ va_D (fun _ => True) [(h0, .inr (1, [.null, .int 0, .int 0, .long 0]))])) (va_Qv (fun _ : (Nat × ClassId) => True) (fun u : (Nat × ClassId) => mO dC dI (va_A [(h0, .inr (1, [.null, .int 0, .int 0, .long 0]))] sz) h0 u.1 u.2 0 0 0 (fun _ => 0)) (va_A [(h0, .inr (1, [.null, .int 0, .int 0, .long 0]))] sz)) 1 65536 (va_A [(h0, .inr (1, [.null, .int 0, .int 0, .long 0]))] sz) := by
  refine Met.ofW (cc := cX1_init) (maxL := 1) (ret := none) (by decide) rfl ?_
  intro p e s m args below meth c s₁ B hml hv
  obtain ⟨rfl, hsz, hP, hK, hD0⟩ := hv
  have hx := B.exec
  have hb := B.bytes
  have hr := B.returns
  have hts := atoms_spec (ws := wsM_init) B.pre
  have hown : s.vm.findClass RX1 = some m.cls := findClass_of_methodNamed B.named
  have hlocks := B.notSynchronized
  have hmn : meth.name = "<init>" := (name_of_methodNamed B.named B.method).1
  have hin : ∀ w ∈ u_ws RX1 TX1 4, w ∈ wsM_init := fun w h => wsM_self w (wsM_fin w h)
  subst hsz
  have hD := hD0.self (sz := s.heap.size)
  generalize hAe : va_A [(h0, .inr (1, [.null, .int 0, .int 0, .long 0]))] s.heap.size = A at hD ⊢
  have hA : ∀ q : Nat, s.heap.size ≤ q → A q := fun q h => by rw [← hAe]; exact Or.inr h
  have hS : va_S A s.heap s.heap [] := va_S.rf
  have hl := lv_entry ([.ref h0]) (n := 1) (Nat.le_of_ble_eq_true rfl)
  rw [lg_entry_eq]
  generalize (lg_sl ([.ref h0]) ++ List.replicate (1 - (lg_sl ([.ref h0])).length) Slot.unset).toArray = ls at hl ⊢
  have hl : lv_has ls 1 [(0, .ref h0)] := hl
  refine lv_aload_n hx hb dX1_init_0 rfl (lv_at hl 0 rfl) ?_
  refine W.objInit hx hb hown (hts (.methodLink RX1 1 objectInit) (by decide +kernel)) (hts (.instanceMethod objectInit) (by decide +kernel)) (hts (.code objectInit ⟨#[0xb1]⟩ 1 none) (by decide +kernel)) rfl (by rw [hml]; exact hl.1) rfl dX1_init_1 (Nat.le_of_ble_eq_true rfl) (Nat.le_of_ble_eq_true rfl) ?_
  refine W.eq (g2 := F0 m 4 ls []) rfl ?_
  refine lv_aload_n hx hb dX1_init_4 rfl (lv_at hl 0 rfl) ?_
  refine lv_ldc (v := 65536) hx hb hown (hts (.constant RX1 7 (65536)) (by decide +kernel)) dX1_init_5 ?_
  refine va_newa (atype := .byte) (ty := .byte) (n := 65536) (N' := 65536) (a0 := (65536, .inl (fun _ => 0))) hx hb (hts (.arrayClass .byte) (by decide +kernel)) rfl hK hP hD hS hA (fun _ => rfl) (by decide) (by decide) (by decide) (Nat.le_of_ble_eq_true rfl) (Nat.le_of_ble_eq_true rfl) dX1_init_7 (fun a0 cB H hK hP hD hS => ?_)
  refine W.widen (k := 1) (n := 65536) (by omega) (by omega) ?_
  have hP : va_P (dC, dI) vwCl ([(h0, .inr (1, [.null, .int 0, .int 0, .long 0])), (a0, .inl (cB, 65536, .inl (fun _ => 0)))]) H := hP
  have hD : va_D A ([(h0, .inr (1, [.null, .int 0, .int 0, .long 0])), (a0, .inl (cB, 65536, .inl (fun _ => 0)))]) := hD
  have hK : va_K (dC, dI) vwCl (mT cB) s := hK
  refine va_putF (D := (dC, dI)) (ci := 1) (v := .ref a0) (ty := .array .byte) (C := RX1) (T := TX1) (N := 4) hx hb hts hin tyX1 tyX1_ok nmX1 hown hK hP hD hS 0 rfl rfl 0 (by decide) (hts (.fieldLink RX1 8 "StreamSumsModel" "row" "[B") (by decide +kernel)) (fun _ h9 => h9) rfl hmn rfl (by decide +kernel) rfl rfl (Nat.le_of_ble_eq_true rfl) dX1_init_9 (fun H locs hP hD hS => ?_)
  have hP : va_P (dC, dI) vwCl (mC h0 a0 cB 0 0 0 (fun _ => 0)) H := hP
  have hD : va_D A (mC h0 a0 cB 0 0 0 (fun _ => 0)) := hD
  exact W.vret hx hb hr (fun t ht hW => ⟨⟨(a0, cB), rfl, trivial, by rw [ht]; exact hP, va_K.moved hW.alike hK, hD⟩, hS.F ht⟩) hS.2.2 dX1_init_12
