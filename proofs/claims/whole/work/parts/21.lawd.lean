set_option maxHeartbeats 4000000 in
set_option maxRecDepth 100000 in
theorem law_case11 {p : Program} {l : Launch} {e : Env} {s : State} {m : MethodId} {below : List Frame} {meth : Method} {c : Code} {b L : Nat} {xs : Nat → Int32} (hL : L ≤ 2560) (C0 : lw_At p s m meth c b L xs) {dC : Nat → ClassId} {dI : Nat → Nat → Nat} {h0 a0 a1 : Nat} {cB cI : ClassId} {h1 b0 : Nat} {cM : ClassId} {g : Nat → Int32} (hg : ∀ i, i < 256 → g i = cr_it cr_r 8 (nI i)) (hK : va_K (dC, dI) vwCl (lT cB cI cM) s) (t : Nat) (ht5 : 5 * t + 5 ≤ L) (ih : ∀ (n : Nat) (ns : Int32) (wd : Int64) (f : Nat → Int32), n ≤ 65536 → ∀ (H : Heap) (locs : List Loc), va_P (dC, dI) vwCl (lC h0 a0 a1 cB cI h1 b0 cM n ns wd f g n ns wd f) H → va_D (fun q : Nat => s.heap.size ≤ q) (lC h0 a0 a1 cB cI h1 b0 cM n ns wd f g n ns wd f) → va_S (fun q : Nat => s.heap.size ≤ q) s.heap H locs → ∀ ls : Array Slot, lv_has ls 4 [(0, .ref b), (1, .ref h0), (2, .ref h1), (3, .int (nI (5 * (t + 1))))] → W p l e room_1 s m #[Value.ref b] below meth c H locs 5 131337 (lw_Z below #[Value.ref b] s) (F0 m 18 ls [])) : ∀ (n : Nat) (ns : Int32) (wd : Int64) (f : Nat → Int32), n ≤ 65536 → ∀ (H : Heap) (locs : List Loc), va_P (dC, dI) vwCl (lC h0 a0 a1 cB cI h1 b0 cM n ns wd f g n ns wd f) H → va_D (fun q : Nat => s.heap.size ≤ q) (lC h0 a0 a1 cB cI h1 b0 cM n ns wd f g n ns wd f) → va_S (fun q : Nat => s.heap.size ≤ q) s.heap H locs → ∀ ls : Array Slot, lv_has ls 4 [(0, .ref b), (1, .ref h0), (2, .ref h1), (3, .int (nI (5 * (t))))] → W p l e room_1 s m #[Value.ref b] below meth c H locs 5 131337 (lw_Z below #[Value.ref b] s) (F0 m 495 ls []) := by
  obtain ⟨hx, hb, hr, hml, hown0, hts0, hX, hbl, hlocks, hgv⟩ := id C0
  have hown : s.vm.findClass RL = some m.cls := hown0
  have hts : ∀ w ∈ wsL_law, w.before #[Value.ref b] s = true := fun w h => hts0 w (wsL_law_in w h)
  have htm : ∀ w ∈ wsLM, w.before #[Value.ref b] s = true := fun w h => hts0 w (wsLM_in w h)
  have hA : ∀ q : Nat, s.heap.size ≤ q → (fun q : Nat => s.heap.size ≤ q) q := fun _ h => h
  have hbA : ¬ (fun q : Nat => s.heap.size ≤ q) b := Nat.not_le.mpr hbl
  intro n ns wd f hn H locs hP hD hS ls hl
  refine lv_aload_n hx hb dL_law_495 rfl (lv_at hl 1 rfl) ?_
  refine lv_aload_n hx hb dL_law_496 rfl (lv_at hl 0 rfl) ?_
  refine lv_iload_n hx hb dL_law_497 rfl (lv_at hl 3 rfl) ?_
  refine lv_iconst (v := 1) hx hb dL_law_498 (by decide) ?_
  refine lv_iadd hx hb dL_law_499 ?_
  refine q_ti (y := nI (5 * t + 1)) (nI_add _ 1) ?_
  refine q_sld (j := 5 * t + 1) hx hb hX hbl hbA hS rfl (by omega) (by omega) dL_law_500 ?_
  refine lv_aload_n hx hb dL_law_501 rfl (lv_at hl 0 rfl) ?_
  refine lv_iload_n hx hb dL_law_502 rfl (lv_at hl 3 rfl) ?_
  refine lv_iconst (v := 2) hx hb dL_law_503 (by decide) ?_
  refine lv_iadd hx hb dL_law_504 ?_
  refine q_ti (y := nI (5 * t + 2)) (nI_add _ 2) ?_
  refine q_sld (j := 5 * t + 2) hx hb hX hbl hbA hS rfl (by omega) (by omega) dL_law_505 ?_
  refine lv_if_eq (tgt := 513) hx hb dL_law_506 (by decide) (fun c_506 => ?_) (fun c_506 => ?_)
  · refine lv_iconst (v := 0) hx hb dL_law_513 (by decide) ?_
    have hPc := hP.sub (ws' := xC h0 a0 a1 cB cI (n) (ns) (wd) (f) g) [0, 1, 2] rfl
    have hKc := hK.sub (tys' := xT cB cI) [0, 1] rfl
    refine q_V (As := [.int (xs (5 * t + 1)), .int (0)]) (rest := []) ⟨hx, hb, hml, hown, hts⟩ (c_X_masked l dC dI h0 a0 a1 cB cI (n) (ns) (wd) (f) g (xs (5 * t + 1)) (0)) (cwV 2 hts gL_law_X0_masked rfl rfl rfl (by decide +kernel) ⟨Nat.le_of_ble_eq_true rfl, Nat.le_of_ble_eq_true rfl⟩) (xw_pre hPc hKc _) rfl hl.1 rfl (Nat.le_of_ble_eq_true rfl) dL_law_514 ⟨Nat.le_of_ble_eq_true rfl, Nat.le_of_ble_eq_true rfl⟩ ?_
    refine lv_aload_n hx hb dL_law_517 rfl (lv_at hl 2 rfl) ?_
    refine lv_aload_n hx hb dL_law_518 rfl (lv_at hl 0 rfl) ?_
    refine lv_iload_n hx hb dL_law_519 rfl (lv_at hl 3 rfl) ?_
    refine lv_iconst (v := 1) hx hb dL_law_520 (by decide) ?_
    refine lv_iadd hx hb dL_law_521 ?_
    refine q_ti (y := nI (5 * t + 1)) (nI_add _ 1) ?_
    refine q_sld (j := 5 * t + 1) hx hb hX hbl hbA hS rfl (by omega) (by omega) dL_law_522 ?_
    refine lv_aload_n hx hb dL_law_523 rfl (lv_at hl 0 rfl) ?_
    refine lv_iload_n hx hb dL_law_524 rfl (lv_at hl 3 rfl) ?_
    refine lv_iconst (v := 2) hx hb dL_law_525 (by decide) ?_
    refine lv_iadd hx hb dL_law_526 ?_
    refine q_ti (y := nI (5 * t + 2)) (nI_add _ 2) ?_
    refine q_sld (j := 5 * t + 2) hx hb hX hbl hbA hS rfl (by omega) (by omega) dL_law_527 ?_
    refine lv_if_eq (tgt := 535) hx hb dL_law_528 (by decide) (fun c_528 => ?_) (fun c_528 => ?_)
    · refine lv_iconst (v := 0) hx hb dL_law_535 (by decide) ?_
      have hPc := hP.sub (ws' := mC h1 b0 cM (n) (ns) (wd) (f)) [3, 4] rfl
      have hKc := hK.sub (tys' := mT cM) [2] rfl
      refine q_V (As := [.int (xs (5 * t + 1)), .int (0)]) (rest := [.int ((an_ma (xs (5 * t + 1)) 0))]) ⟨hx, hb, hml, hown, htm⟩ (c_M_masked l dC dI h1 b0 cM (n) (ns) (wd) (f) (xs (5 * t + 1)) (0)) (cwV 2 htm gL_law_X1_masked rfl rfl rfl (by decide +kernel) ⟨Nat.le_of_ble_eq_true rfl, Nat.le_of_ble_eq_true rfl⟩) (mw_pre hPc hKc _) rfl hl.1 rfl (Nat.le_of_ble_eq_true rfl) dL_law_536 ⟨Nat.le_of_ble_eq_true rfl, Nat.le_of_ble_eq_true rfl⟩ ?_
      refine lv_icmp_eq (tgt := 746) hx hb dL_law_539 (by decide) (fun c_539 => ?_) (fun c_539 => absurd rfl c_539)
      refine lv_iinc (v := nI (5 * (t + 1))) (lv' := [(3, .int (nI (5 * (t + 1)))), (0, .ref b), (1, .ref h0), (2, .ref h1)]) hx hb dL_law_746 hl (k := 3) rfl (by rw [show 5 * (t + 1) = 5 * t + 5 by omega]; exact nI_add _ 5) (by decide) rfl (fun ls hl => ?_)
      refine lv_goto (tgt := 18) hx hb dL_law_749 (by decide) ?_
      exact ih (n) (ns) (wd) (f) (hn) _ _ hP hD hS ls (lv_sub hl [1, 2, 3, 0] rfl)
    · exact absurd c_506 c_528
  · refine lv_iconst (v := 1) hx hb dL_law_509 (by decide) ?_
    refine lv_goto (tgt := 514) hx hb dL_law_510 (by decide) ?_
    have hPc := hP.sub (ws' := xC h0 a0 a1 cB cI (n) (ns) (wd) (f) g) [0, 1, 2] rfl
    have hKc := hK.sub (tys' := xT cB cI) [0, 1] rfl
    refine q_V (As := [.int (xs (5 * t + 1)), .int (1)]) (rest := []) ⟨hx, hb, hml, hown, hts⟩ (c_X_masked l dC dI h0 a0 a1 cB cI (n) (ns) (wd) (f) g (xs (5 * t + 1)) (1)) (cwV 2 hts gL_law_X0_masked rfl rfl rfl (by decide +kernel) ⟨Nat.le_of_ble_eq_true rfl, Nat.le_of_ble_eq_true rfl⟩) (xw_pre hPc hKc _) rfl hl.1 rfl (Nat.le_of_ble_eq_true rfl) dL_law_514 ⟨Nat.le_of_ble_eq_true rfl, Nat.le_of_ble_eq_true rfl⟩ ?_
    refine lv_aload_n hx hb dL_law_517 rfl (lv_at hl 2 rfl) ?_
    refine lv_aload_n hx hb dL_law_518 rfl (lv_at hl 0 rfl) ?_
    refine lv_iload_n hx hb dL_law_519 rfl (lv_at hl 3 rfl) ?_
    refine lv_iconst (v := 1) hx hb dL_law_520 (by decide) ?_
    refine lv_iadd hx hb dL_law_521 ?_
    refine q_ti (y := nI (5 * t + 1)) (nI_add _ 1) ?_
    refine q_sld (j := 5 * t + 1) hx hb hX hbl hbA hS rfl (by omega) (by omega) dL_law_522 ?_
    refine lv_aload_n hx hb dL_law_523 rfl (lv_at hl 0 rfl) ?_
    refine lv_iload_n hx hb dL_law_524 rfl (lv_at hl 3 rfl) ?_
    refine lv_iconst (v := 2) hx hb dL_law_525 (by decide) ?_
    refine lv_iadd hx hb dL_law_526 ?_
    refine q_ti (y := nI (5 * t + 2)) (nI_add _ 2) ?_
    refine q_sld (j := 5 * t + 2) hx hb hX hbl hbA hS rfl (by omega) (by omega) dL_law_527 ?_
    refine lv_if_eq (tgt := 535) hx hb dL_law_528 (by decide) (fun c_528 => ?_) (fun c_528 => ?_)
    · exact absurd c_528 c_506
    · refine lv_iconst (v := 1) hx hb dL_law_531 (by decide) ?_
      refine lv_goto (tgt := 536) hx hb dL_law_532 (by decide) ?_
      have hPc := hP.sub (ws' := mC h1 b0 cM (n) (ns) (wd) (f)) [3, 4] rfl
      have hKc := hK.sub (tys' := mT cM) [2] rfl
      refine q_V (As := [.int (xs (5 * t + 1)), .int (1)]) (rest := [.int ((an_ma (xs (5 * t + 1)) 1))]) ⟨hx, hb, hml, hown, htm⟩ (c_M_masked l dC dI h1 b0 cM (n) (ns) (wd) (f) (xs (5 * t + 1)) (1)) (cwV 2 htm gL_law_X1_masked rfl rfl rfl (by decide +kernel) ⟨Nat.le_of_ble_eq_true rfl, Nat.le_of_ble_eq_true rfl⟩) (mw_pre hPc hKc _) rfl hl.1 rfl (Nat.le_of_ble_eq_true rfl) dL_law_536 ⟨Nat.le_of_ble_eq_true rfl, Nat.le_of_ble_eq_true rfl⟩ ?_
      refine lv_icmp_eq (tgt := 746) hx hb dL_law_539 (by decide) (fun c_539 => ?_) (fun c_539 => absurd rfl c_539)
      refine lv_iinc (v := nI (5 * (t + 1))) (lv' := [(3, .int (nI (5 * (t + 1)))), (0, .ref b), (1, .ref h0), (2, .ref h1)]) hx hb dL_law_746 hl (k := 3) rfl (by rw [show 5 * (t + 1) = 5 * t + 5 by omega]; exact nI_add _ 5) (by decide) rfl (fun ls hl => ?_)
      refine lv_goto (tgt := 18) hx hb dL_law_749 (by decide) ?_
      exact ih (n) (ns) (wd) (f) (hn) _ _ hP hD hS ls (lv_sub hl [1, 2, 3, 0] rfl)
set_option maxHeartbeats 4000000 in
set_option maxRecDepth 100000 in
theorem law_case12 {p : Program} {l : Launch} {e : Env} {s : State} {m : MethodId} {below : List Frame} {meth : Method} {c : Code} {b L : Nat} {xs : Nat → Int32} (hL : L ≤ 2560) (C0 : lw_At p s m meth c b L xs) {dC : Nat → ClassId} {dI : Nat → Nat → Nat} {h0 a0 a1 : Nat} {cB cI : ClassId} {h1 b0 : Nat} {cM : ClassId} {g : Nat → Int32} (hg : ∀ i, i < 256 → g i = cr_it cr_r 8 (nI i)) (hK : va_K (dC, dI) vwCl (lT cB cI cM) s) (t : Nat) (ht5 : 5 * t + 5 ≤ L) (ih : ∀ (n : Nat) (ns : Int32) (wd : Int64) (f : Nat → Int32), n ≤ 65536 → ∀ (H : Heap) (locs : List Loc), va_P (dC, dI) vwCl (lC h0 a0 a1 cB cI h1 b0 cM n ns wd f g n ns wd f) H → va_D (fun q : Nat => s.heap.size ≤ q) (lC h0 a0 a1 cB cI h1 b0 cM n ns wd f g n ns wd f) → va_S (fun q : Nat => s.heap.size ≤ q) s.heap H locs → ∀ ls : Array Slot, lv_has ls 4 [(0, .ref b), (1, .ref h0), (2, .ref h1), (3, .int (nI (5 * (t + 1))))] → W p l e room_1 s m #[Value.ref b] below meth c H locs 5 131337 (lw_Z below #[Value.ref b] s) (F0 m 18 ls [])) : ∀ (n : Nat) (ns : Int32) (wd : Int64) (f : Nat → Int32), n ≤ 65536 → ∀ (H : Heap) (locs : List Loc), va_P (dC, dI) vwCl (lC h0 a0 a1 cB cI h1 b0 cM n ns wd f g n ns wd f) H → va_D (fun q : Nat => s.heap.size ≤ q) (lC h0 a0 a1 cB cI h1 b0 cM n ns wd f g n ns wd f) → va_S (fun q : Nat => s.heap.size ≤ q) s.heap H locs → ∀ ls : Array Slot, lv_has ls 4 [(0, .ref b), (1, .ref h0), (2, .ref h1), (3, .int (nI (5 * (t))))] → W p l e room_1 s m #[Value.ref b] below meth c H locs 5 131337 (lw_Z below #[Value.ref b] s) (F0 m 544 ls []) := by
  obtain ⟨hx, hb, hr, hml, hown0, hts0, hX, hbl, hlocks, hgv⟩ := id C0
  have hown : s.vm.findClass RL = some m.cls := hown0
  have hts : ∀ w ∈ wsL_law, w.before #[Value.ref b] s = true := fun w h => hts0 w (wsL_law_in w h)
  have htm : ∀ w ∈ wsLM, w.before #[Value.ref b] s = true := fun w h => hts0 w (wsLM_in w h)
  have hA : ∀ q : Nat, s.heap.size ≤ q → (fun q : Nat => s.heap.size ≤ q) q := fun _ h => h
  have hbA : ¬ (fun q : Nat => s.heap.size ≤ q) b := Nat.not_le.mpr hbl
  intro n ns wd f hn H locs hP hD hS ls hl
  refine lv_aload_n hx hb dL_law_544 rfl (lv_at hl 1 rfl) ?_
  refine lv_aload_n hx hb dL_law_545 rfl (lv_at hl 0 rfl) ?_
  refine lv_iload_n hx hb dL_law_546 rfl (lv_at hl 3 rfl) ?_
  refine lv_iconst (v := 1) hx hb dL_law_547 (by decide) ?_
  refine lv_iadd hx hb dL_law_548 ?_
  refine q_ti (y := nI (5 * t + 1)) (nI_add _ 1) ?_
  refine q_sld (j := 5 * t + 1) hx hb hX hbl hbA hS rfl (by omega) (by omega) dL_law_549 ?_
  refine lv_aload_n hx hb dL_law_550 rfl (lv_at hl 0 rfl) ?_
  refine lv_iload_n hx hb dL_law_551 rfl (lv_at hl 3 rfl) ?_
  refine lv_iconst (v := 2) hx hb dL_law_552 (by decide) ?_
  refine lv_iadd hx hb dL_law_553 ?_
  refine q_ti (y := nI (5 * t + 2)) (nI_add _ 2) ?_
  refine q_sld (j := 5 * t + 2) hx hb hX hbl hbA hS rfl (by omega) (by omega) dL_law_554 ?_
  refine lv_aload_n hx hb dL_law_555 rfl (lv_at hl 0 rfl) ?_
  refine lv_iload_n hx hb dL_law_556 rfl (lv_at hl 3 rfl) ?_
  refine lv_iconst (v := 3) hx hb dL_law_557 (by decide) ?_
  refine lv_iadd hx hb dL_law_558 ?_
  refine q_ti (y := nI (5 * t + 3)) (nI_add _ 3) ?_
  refine q_sld (j := 5 * t + 3) hx hb hX hbl hbA hS rfl (by omega) (by omega) dL_law_559 ?_
  refine lv_i2l (v := (xs (5 * t + 3)).toInt64) hx hb dL_law_560 rfl ?_
  refine lv_bipush (v := 32) hx hb dL_law_561 (by decide) ?_
  refine lv_lshl (v := sh_L ((xs (5 * t + 3)).toInt64) (32)) hx hb dL_law_563 rfl ?_
  refine lv_aload_n hx hb dL_law_564 rfl (lv_at hl 0 rfl) ?_
  refine lv_iload_n hx hb dL_law_565 rfl (lv_at hl 3 rfl) ?_
  refine lv_iconst (v := 4) hx hb dL_law_566 (by decide) ?_
  refine lv_iadd hx hb dL_law_567 ?_
  refine q_ti (y := nI (5 * t + 4)) (nI_add _ 4) ?_
  refine q_sld (j := 5 * t + 4) hx hb hX hbl hbA hS rfl (by omega) (by omega) dL_law_568 ?_
  refine lv_i2l (v := (xs (5 * t + 4)).toInt64) hx hb dL_law_569 rfl ?_
  refine lv_ldc2 (v := 4294967295) hx hb hown (hts0 (.constantLong RL 13 4294967295) lw_k13) dL_law_570 ?_
  refine lv_land hx hb dL_law_573 ?_
  refine lv_lor hx hb dL_law_574 ?_
  have hPc := hP.sub (ws' := xC h0 a0 a1 cB cI (n) (ns) (wd) (f) g) [0, 1, 2] rfl
  have hKc := hK.sub (tys' := xT cB cI) [0, 1] rfl
  refine q_V (As := [.int (xs (5 * t + 1)), .int (xs (5 * t + 2)), .long (((sh_L ((xs (5 * t + 3)).toInt64) (32)) ||| ((xs (5 * t + 4)).toInt64 &&& 4294967295)))]) (rest := []) ⟨hx, hb, hml, hown, hts⟩ (c_X_joined l dC dI h0 a0 a1 cB cI (n) (ns) (wd) (f) g (xs (5 * t + 1)) (xs (5 * t + 2)) (((sh_L ((xs (5 * t + 3)).toInt64) (32)) ||| ((xs (5 * t + 4)).toInt64 &&& 4294967295)))) (cwV 3 hts gL_law_X0_joined rfl rfl rfl (by decide +kernel) ⟨Nat.le_of_ble_eq_true rfl, Nat.le_of_ble_eq_true rfl⟩) (xw_pre hPc hKc _) rfl hl.1 rfl (Nat.le_of_ble_eq_true rfl) dL_law_575 ⟨Nat.le_of_ble_eq_true rfl, Nat.le_of_ble_eq_true rfl⟩ ?_
  refine lv_aload_n hx hb dL_law_578 rfl (lv_at hl 2 rfl) ?_
  refine lv_aload_n hx hb dL_law_579 rfl (lv_at hl 0 rfl) ?_
  refine lv_iload_n hx hb dL_law_580 rfl (lv_at hl 3 rfl) ?_
  refine lv_iconst (v := 1) hx hb dL_law_581 (by decide) ?_
  refine lv_iadd hx hb dL_law_582 ?_
  refine q_ti (y := nI (5 * t + 1)) (nI_add _ 1) ?_
  refine q_sld (j := 5 * t + 1) hx hb hX hbl hbA hS rfl (by omega) (by omega) dL_law_583 ?_
  refine lv_aload_n hx hb dL_law_584 rfl (lv_at hl 0 rfl) ?_
  refine lv_iload_n hx hb dL_law_585 rfl (lv_at hl 3 rfl) ?_
  refine lv_iconst (v := 2) hx hb dL_law_586 (by decide) ?_
  refine lv_iadd hx hb dL_law_587 ?_
  refine q_ti (y := nI (5 * t + 2)) (nI_add _ 2) ?_
  refine q_sld (j := 5 * t + 2) hx hb hX hbl hbA hS rfl (by omega) (by omega) dL_law_588 ?_
  refine lv_aload_n hx hb dL_law_589 rfl (lv_at hl 0 rfl) ?_
  refine lv_iload_n hx hb dL_law_590 rfl (lv_at hl 3 rfl) ?_
  refine lv_iconst (v := 3) hx hb dL_law_591 (by decide) ?_
  refine lv_iadd hx hb dL_law_592 ?_
  refine q_ti (y := nI (5 * t + 3)) (nI_add _ 3) ?_
  refine q_sld (j := 5 * t + 3) hx hb hX hbl hbA hS rfl (by omega) (by omega) dL_law_593 ?_
  refine lv_i2l (v := (xs (5 * t + 3)).toInt64) hx hb dL_law_594 rfl ?_
  refine lv_bipush (v := 32) hx hb dL_law_595 (by decide) ?_
  refine lv_lshl (v := sh_L ((xs (5 * t + 3)).toInt64) (32)) hx hb dL_law_597 rfl ?_
  refine lv_aload_n hx hb dL_law_598 rfl (lv_at hl 0 rfl) ?_
  refine lv_iload_n hx hb dL_law_599 rfl (lv_at hl 3 rfl) ?_
  refine lv_iconst (v := 4) hx hb dL_law_600 (by decide) ?_
  refine lv_iadd hx hb dL_law_601 ?_
  refine q_ti (y := nI (5 * t + 4)) (nI_add _ 4) ?_
  refine q_sld (j := 5 * t + 4) hx hb hX hbl hbA hS rfl (by omega) (by omega) dL_law_602 ?_
  refine lv_i2l (v := (xs (5 * t + 4)).toInt64) hx hb dL_law_603 rfl ?_
  refine lv_ldc2 (v := 4294967295) hx hb hown (hts0 (.constantLong RL 13 4294967295) lw_k13) dL_law_604 ?_
  refine lv_land hx hb dL_law_607 ?_
  refine lv_lor hx hb dL_law_608 ?_
  have hPc := hP.sub (ws' := mC h1 b0 cM (n) (ns) (wd) (f)) [3, 4] rfl
  have hKc := hK.sub (tys' := mT cM) [2] rfl
  refine q_V (As := [.int (xs (5 * t + 1)), .int (xs (5 * t + 2)), .long (((sh_L ((xs (5 * t + 3)).toInt64) (32)) ||| ((xs (5 * t + 4)).toInt64 &&& 4294967295)))]) (rest := [.int ((an_jo (xs (5 * t + 1)) (xs (5 * t + 2)) (((sh_L ((xs (5 * t + 3)).toInt64) (32)) ||| ((xs (5 * t + 4)).toInt64 &&& 4294967295)))))]) ⟨hx, hb, hml, hown, htm⟩ (c_M_joined l dC dI h1 b0 cM (n) (ns) (wd) (f) (xs (5 * t + 1)) (xs (5 * t + 2)) (((sh_L ((xs (5 * t + 3)).toInt64) (32)) ||| ((xs (5 * t + 4)).toInt64 &&& 4294967295)))) (cwV 3 htm gL_law_X1_joined rfl rfl rfl (by decide +kernel) ⟨Nat.le_of_ble_eq_true rfl, Nat.le_of_ble_eq_true rfl⟩) (mw_pre hPc hKc _) rfl hl.1 rfl (Nat.le_of_ble_eq_true rfl) dL_law_609 ⟨Nat.le_of_ble_eq_true rfl, Nat.le_of_ble_eq_true rfl⟩ ?_
  refine lv_icmp_eq (tgt := 746) hx hb dL_law_612 (by decide) (fun c_612 => ?_) (fun c_612 => absurd rfl c_612)
  refine lv_iinc (v := nI (5 * (t + 1))) (lv' := [(3, .int (nI (5 * (t + 1)))), (0, .ref b), (1, .ref h0), (2, .ref h1)]) hx hb dL_law_746 hl (k := 3) rfl (by rw [show 5 * (t + 1) = 5 * t + 5 by omega]; exact nI_add _ 5) (by decide) rfl (fun ls hl => ?_)
  refine lv_goto (tgt := 18) hx hb dL_law_749 (by decide) ?_
  exact ih (n) (ns) (wd) (f) (hn) _ _ hP hD hS ls (lv_sub hl [1, 2, 3, 0] rfl)
set_option maxHeartbeats 4000000 in
set_option maxRecDepth 100000 in
theorem law_case13 {p : Program} {l : Launch} {e : Env} {s : State} {m : MethodId} {below : List Frame} {meth : Method} {c : Code} {b L : Nat} {xs : Nat → Int32} (hL : L ≤ 2560) (C0 : lw_At p s m meth c b L xs) {dC : Nat → ClassId} {dI : Nat → Nat → Nat} {h0 a0 a1 : Nat} {cB cI : ClassId} {h1 b0 : Nat} {cM : ClassId} {g : Nat → Int32} (hg : ∀ i, i < 256 → g i = cr_it cr_r 8 (nI i)) (hK : va_K (dC, dI) vwCl (lT cB cI cM) s) (t : Nat) (ht5 : 5 * t + 5 ≤ L) (ih : ∀ (n : Nat) (ns : Int32) (wd : Int64) (f : Nat → Int32), n ≤ 65536 → ∀ (H : Heap) (locs : List Loc), va_P (dC, dI) vwCl (lC h0 a0 a1 cB cI h1 b0 cM n ns wd f g n ns wd f) H → va_D (fun q : Nat => s.heap.size ≤ q) (lC h0 a0 a1 cB cI h1 b0 cM n ns wd f g n ns wd f) → va_S (fun q : Nat => s.heap.size ≤ q) s.heap H locs → ∀ ls : Array Slot, lv_has ls 4 [(0, .ref b), (1, .ref h0), (2, .ref h1), (3, .int (nI (5 * (t + 1))))] → W p l e room_1 s m #[Value.ref b] below meth c H locs 5 131337 (lw_Z below #[Value.ref b] s) (F0 m 18 ls [])) : ∀ (n : Nat) (ns : Int32) (wd : Int64) (f : Nat → Int32), n ≤ 65536 → ∀ (H : Heap) (locs : List Loc), va_P (dC, dI) vwCl (lC h0 a0 a1 cB cI h1 b0 cM n ns wd f g n ns wd f) H → va_D (fun q : Nat => s.heap.size ≤ q) (lC h0 a0 a1 cB cI h1 b0 cM n ns wd f g n ns wd f) → va_S (fun q : Nat => s.heap.size ≤ q) s.heap H locs → ∀ ls : Array Slot, lv_has ls 4 [(0, .ref b), (1, .ref h0), (2, .ref h1), (3, .int (nI (5 * (t))))] → W p l e room_1 s m #[Value.ref b] below meth c H locs 5 131337 (lw_Z below #[Value.ref b] s) (F0 m 617 ls []) := by
  obtain ⟨hx, hb, hr, hml, hown0, hts0, hX, hbl, hlocks, hgv⟩ := id C0
  have hown : s.vm.findClass RL = some m.cls := hown0
  have hts : ∀ w ∈ wsL_law, w.before #[Value.ref b] s = true := fun w h => hts0 w (wsL_law_in w h)
  have htm : ∀ w ∈ wsLM, w.before #[Value.ref b] s = true := fun w h => hts0 w (wsLM_in w h)
  have hA : ∀ q : Nat, s.heap.size ≤ q → (fun q : Nat => s.heap.size ≤ q) q := fun _ h => h
  have hbA : ¬ (fun q : Nat => s.heap.size ≤ q) b := Nat.not_le.mpr hbl
  intro n ns wd f hn H locs hP hD hS ls hl
  refine lv_aload_n hx hb dL_law_617 rfl (lv_at hl 1 rfl) ?_
  refine lv_aload_n hx hb dL_law_618 rfl (lv_at hl 0 rfl) ?_
  refine lv_iload_n hx hb dL_law_619 rfl (lv_at hl 3 rfl) ?_
  refine lv_iconst (v := 1) hx hb dL_law_620 (by decide) ?_
  refine lv_iadd hx hb dL_law_621 ?_
  refine q_ti (y := nI (5 * t + 1)) (nI_add _ 1) ?_
  refine q_sld (j := 5 * t + 1) hx hb hX hbl hbA hS rfl (by omega) (by omega) dL_law_622 ?_
  refine lv_aload_n hx hb dL_law_623 rfl (lv_at hl 0 rfl) ?_
  refine lv_iload_n hx hb dL_law_624 rfl (lv_at hl 3 rfl) ?_
  refine lv_iconst (v := 2) hx hb dL_law_625 (by decide) ?_
  refine lv_iadd hx hb dL_law_626 ?_
  refine q_ti (y := nI (5 * t + 2)) (nI_add _ 2) ?_
  refine q_sld (j := 5 * t + 2) hx hb hX hbl hbA hS rfl (by omega) (by omega) dL_law_627 ?_
  refine lv_aload_n hx hb dL_law_628 rfl (lv_at hl 0 rfl) ?_
  refine lv_iload_n hx hb dL_law_629 rfl (lv_at hl 3 rfl) ?_
  refine lv_iconst (v := 3) hx hb dL_law_630 (by decide) ?_
  refine lv_iadd hx hb dL_law_631 ?_
  refine q_ti (y := nI (5 * t + 3)) (nI_add _ 3) ?_
  refine q_sld (j := 5 * t + 3) hx hb hX hbl hbA hS rfl (by omega) (by omega) dL_law_632 ?_
  refine lv_i2l (v := (xs (5 * t + 3)).toInt64) hx hb dL_law_633 rfl ?_
  refine lv_bipush (v := 32) hx hb dL_law_634 (by decide) ?_
  refine lv_lshl (v := sh_L ((xs (5 * t + 3)).toInt64) (32)) hx hb dL_law_636 rfl ?_
  refine lv_aload_n hx hb dL_law_637 rfl (lv_at hl 0 rfl) ?_
  refine lv_iload_n hx hb dL_law_638 rfl (lv_at hl 3 rfl) ?_
  refine lv_iconst (v := 4) hx hb dL_law_639 (by decide) ?_
  refine lv_iadd hx hb dL_law_640 ?_
  refine q_ti (y := nI (5 * t + 4)) (nI_add _ 4) ?_
  refine q_sld (j := 5 * t + 4) hx hb hX hbl hbA hS rfl (by omega) (by omega) dL_law_641 ?_
  refine lv_i2l (v := (xs (5 * t + 4)).toInt64) hx hb dL_law_642 rfl ?_
  refine lv_ldc2 (v := 4294967295) hx hb hown (hts0 (.constantLong RL 13 4294967295) lw_k13) dL_law_643 ?_
  refine lv_land hx hb dL_law_646 ?_
  refine lv_lor hx hb dL_law_647 ?_
  have hPc := hP.sub (ws' := xC h0 a0 a1 cB cI (n) (ns) (wd) (f) g) [0, 1, 2] rfl
  have hKc := hK.sub (tys' := xT cB cI) [0, 1] rfl
  refine q_V (As := [.int (xs (5 * t + 1)), .int (xs (5 * t + 2)), .long (((sh_L ((xs (5 * t + 3)).toInt64) (32)) ||| ((xs (5 * t + 4)).toInt64 &&& 4294967295)))]) (rest := []) ⟨hx, hb, hml, hown, hts⟩ (c_X_cut l dC dI h0 a0 a1 cB cI (n) (ns) (wd) (f) g (xs (5 * t + 1)) (xs (5 * t + 2)) (((sh_L ((xs (5 * t + 3)).toInt64) (32)) ||| ((xs (5 * t + 4)).toInt64 &&& 4294967295)))) (cwV 3 hts gL_law_X0_cut rfl rfl rfl (by decide +kernel) ⟨Nat.le_of_ble_eq_true rfl, Nat.le_of_ble_eq_true rfl⟩) (xw_pre hPc hKc _) rfl hl.1 rfl (Nat.le_of_ble_eq_true rfl) dL_law_648 ⟨Nat.le_of_ble_eq_true rfl, Nat.le_of_ble_eq_true rfl⟩ ?_
  refine lv_aload_n hx hb dL_law_651 rfl (lv_at hl 2 rfl) ?_
  refine lv_aload_n hx hb dL_law_652 rfl (lv_at hl 0 rfl) ?_
  refine lv_iload_n hx hb dL_law_653 rfl (lv_at hl 3 rfl) ?_
  refine lv_iconst (v := 1) hx hb dL_law_654 (by decide) ?_
  refine lv_iadd hx hb dL_law_655 ?_
  refine q_ti (y := nI (5 * t + 1)) (nI_add _ 1) ?_
  refine q_sld (j := 5 * t + 1) hx hb hX hbl hbA hS rfl (by omega) (by omega) dL_law_656 ?_
  refine lv_aload_n hx hb dL_law_657 rfl (lv_at hl 0 rfl) ?_
  refine lv_iload_n hx hb dL_law_658 rfl (lv_at hl 3 rfl) ?_
  refine lv_iconst (v := 2) hx hb dL_law_659 (by decide) ?_
  refine lv_iadd hx hb dL_law_660 ?_
  refine q_ti (y := nI (5 * t + 2)) (nI_add _ 2) ?_
  refine q_sld (j := 5 * t + 2) hx hb hX hbl hbA hS rfl (by omega) (by omega) dL_law_661 ?_
  refine lv_aload_n hx hb dL_law_662 rfl (lv_at hl 0 rfl) ?_
  refine lv_iload_n hx hb dL_law_663 rfl (lv_at hl 3 rfl) ?_
  refine lv_iconst (v := 3) hx hb dL_law_664 (by decide) ?_
  refine lv_iadd hx hb dL_law_665 ?_
  refine q_ti (y := nI (5 * t + 3)) (nI_add _ 3) ?_
  refine q_sld (j := 5 * t + 3) hx hb hX hbl hbA hS rfl (by omega) (by omega) dL_law_666 ?_
  refine lv_i2l (v := (xs (5 * t + 3)).toInt64) hx hb dL_law_667 rfl ?_
  refine lv_bipush (v := 32) hx hb dL_law_668 (by decide) ?_
  refine lv_lshl (v := sh_L ((xs (5 * t + 3)).toInt64) (32)) hx hb dL_law_670 rfl ?_
  refine lv_aload_n hx hb dL_law_671 rfl (lv_at hl 0 rfl) ?_
  refine lv_iload_n hx hb dL_law_672 rfl (lv_at hl 3 rfl) ?_
  refine lv_iconst (v := 4) hx hb dL_law_673 (by decide) ?_
  refine lv_iadd hx hb dL_law_674 ?_
  refine q_ti (y := nI (5 * t + 4)) (nI_add _ 4) ?_
  refine q_sld (j := 5 * t + 4) hx hb hX hbl hbA hS rfl (by omega) (by omega) dL_law_675 ?_
  refine lv_i2l (v := (xs (5 * t + 4)).toInt64) hx hb dL_law_676 rfl ?_
  refine lv_ldc2 (v := 4294967295) hx hb hown (hts0 (.constantLong RL 13 4294967295) lw_k13) dL_law_677 ?_
  refine lv_land hx hb dL_law_680 ?_
  refine lv_lor hx hb dL_law_681 ?_
  have hPc := hP.sub (ws' := mC h1 b0 cM (n) (ns) (wd) (f)) [3, 4] rfl
  have hKc := hK.sub (tys' := mT cM) [2] rfl
  refine q_V (As := [.int (xs (5 * t + 1)), .int (xs (5 * t + 2)), .long (((sh_L ((xs (5 * t + 3)).toInt64) (32)) ||| ((xs (5 * t + 4)).toInt64 &&& 4294967295)))]) (rest := [.int ((an_cu (xs (5 * t + 1)) (xs (5 * t + 2)) (((sh_L ((xs (5 * t + 3)).toInt64) (32)) ||| ((xs (5 * t + 4)).toInt64 &&& 4294967295)))))]) ⟨hx, hb, hml, hown, htm⟩ (c_M_cut l dC dI h1 b0 cM (n) (ns) (wd) (f) (xs (5 * t + 1)) (xs (5 * t + 2)) (((sh_L ((xs (5 * t + 3)).toInt64) (32)) ||| ((xs (5 * t + 4)).toInt64 &&& 4294967295)))) (cwV 3 htm gL_law_X1_cut rfl rfl rfl (by decide +kernel) ⟨Nat.le_of_ble_eq_true rfl, Nat.le_of_ble_eq_true rfl⟩) (mw_pre hPc hKc _) rfl hl.1 rfl (Nat.le_of_ble_eq_true rfl) dL_law_682 ⟨Nat.le_of_ble_eq_true rfl, Nat.le_of_ble_eq_true rfl⟩ ?_
  refine lv_icmp_eq (tgt := 746) hx hb dL_law_685 (by decide) (fun c_685 => ?_) (fun c_685 => absurd rfl c_685)
  refine lv_iinc (v := nI (5 * (t + 1))) (lv' := [(3, .int (nI (5 * (t + 1)))), (0, .ref b), (1, .ref h0), (2, .ref h1)]) hx hb dL_law_746 hl (k := 3) rfl (by rw [show 5 * (t + 1) = 5 * t + 5 by omega]; exact nI_add _ 5) (by decide) rfl (fun ls hl => ?_)
  refine lv_goto (tgt := 18) hx hb dL_law_749 (by decide) ?_
  exact ih (n) (ns) (wd) (f) (hn) _ _ hP hD hS ls (lv_sub hl [1, 2, 3, 0] rfl)
set_option maxHeartbeats 4000000 in
set_option maxRecDepth 100000 in
theorem law_case14 {p : Program} {l : Launch} {e : Env} {s : State} {m : MethodId} {below : List Frame} {meth : Method} {c : Code} {b L : Nat} {xs : Nat → Int32} (hL : L ≤ 2560) (C0 : lw_At p s m meth c b L xs) {dC : Nat → ClassId} {dI : Nat → Nat → Nat} {h0 a0 a1 : Nat} {cB cI : ClassId} {h1 b0 : Nat} {cM : ClassId} {g : Nat → Int32} (hg : ∀ i, i < 256 → g i = cr_it cr_r 8 (nI i)) (hK : va_K (dC, dI) vwCl (lT cB cI cM) s) (t : Nat) (ht5 : 5 * t + 5 ≤ L) (ih : ∀ (n : Nat) (ns : Int32) (wd : Int64) (f : Nat → Int32), n ≤ 65536 → ∀ (H : Heap) (locs : List Loc), va_P (dC, dI) vwCl (lC h0 a0 a1 cB cI h1 b0 cM n ns wd f g n ns wd f) H → va_D (fun q : Nat => s.heap.size ≤ q) (lC h0 a0 a1 cB cI h1 b0 cM n ns wd f g n ns wd f) → va_S (fun q : Nat => s.heap.size ≤ q) s.heap H locs → ∀ ls : Array Slot, lv_has ls 4 [(0, .ref b), (1, .ref h0), (2, .ref h1), (3, .int (nI (5 * (t + 1))))] → W p l e room_1 s m #[Value.ref b] below meth c H locs 5 131337 (lw_Z below #[Value.ref b] s) (F0 m 18 ls [])) : ∀ (n : Nat) (ns : Int32) (wd : Int64) (f : Nat → Int32), n ≤ 65536 → ∀ (H : Heap) (locs : List Loc), va_P (dC, dI) vwCl (lC h0 a0 a1 cB cI h1 b0 cM n ns wd f g n ns wd f) H → va_D (fun q : Nat => s.heap.size ≤ q) (lC h0 a0 a1 cB cI h1 b0 cM n ns wd f g n ns wd f) → va_S (fun q : Nat => s.heap.size ≤ q) s.heap H locs → ∀ ls : Array Slot, lv_has ls 4 [(0, .ref b), (1, .ref h0), (2, .ref h1), (3, .int (nI (5 * (t))))] → W p l e room_1 s m #[Value.ref b] below meth c H locs 5 131337 (lw_Z below #[Value.ref b] s) (F0 m 690 ls []) := by
  obtain ⟨hx, hb, hr, hml, hown0, hts0, hX, hbl, hlocks, hgv⟩ := id C0
  have hown : s.vm.findClass RL = some m.cls := hown0
  have hts : ∀ w ∈ wsL_law, w.before #[Value.ref b] s = true := fun w h => hts0 w (wsL_law_in w h)
  have htm : ∀ w ∈ wsLM, w.before #[Value.ref b] s = true := fun w h => hts0 w (wsLM_in w h)
  have hA : ∀ q : Nat, s.heap.size ≤ q → (fun q : Nat => s.heap.size ≤ q) q := fun _ h => h
  have hbA : ¬ (fun q : Nat => s.heap.size ≤ q) b := Nat.not_le.mpr hbl
  intro n ns wd f hn H locs hP hD hS ls hl
  refine lv_aload_n hx hb dL_law_690 rfl (lv_at hl 1 rfl) ?_
  refine lv_aload_n hx hb dL_law_691 rfl (lv_at hl 0 rfl) ?_
  refine lv_iload_n hx hb dL_law_692 rfl (lv_at hl 3 rfl) ?_
  refine lv_iconst (v := 1) hx hb dL_law_693 (by decide) ?_
  refine lv_iadd hx hb dL_law_694 ?_
  refine q_ti (y := nI (5 * t + 1)) (nI_add _ 1) ?_
  refine q_sld (j := 5 * t + 1) hx hb hX hbl hbA hS rfl (by omega) (by omega) dL_law_695 ?_
  have hPc := hP.sub (ws' := xC h0 a0 a1 cB cI (n) (ns) (wd) (f) g) [0, 1, 2] rfl
  have hKc := hK.sub (tys' := xT cB cI) [0, 1] rfl
  refine q_V (As := [.int (xs (5 * t + 1))]) (rest := []) ⟨hx, hb, hml, hown, hts⟩ (c_X_forged l dC dI h0 a0 a1 cB cI (n) (ns) (wd) (f) g (xs (5 * t + 1)) (hn) (hg)) (cwV 1 hts gL_law_X0_forged rfl rfl rfl (by decide +kernel) ⟨Nat.le_of_ble_eq_true rfl, Nat.le_of_ble_eq_true rfl⟩) (xw_pre hPc hKc _) rfl hl.1 rfl (Nat.le_of_ble_eq_true rfl) dL_law_696 ⟨Nat.le_of_ble_eq_true rfl, Nat.le_of_ble_eq_true rfl⟩ ?_
  refine lv_aload_n hx hb dL_law_699 rfl (lv_at hl 2 rfl) ?_
  refine lv_aload_n hx hb dL_law_700 rfl (lv_at hl 0 rfl) ?_
  refine lv_iload_n hx hb dL_law_701 rfl (lv_at hl 3 rfl) ?_
  refine lv_iconst (v := 1) hx hb dL_law_702 (by decide) ?_
  refine lv_iadd hx hb dL_law_703 ?_
  refine q_ti (y := nI (5 * t + 1)) (nI_add _ 1) ?_
  refine q_sld (j := 5 * t + 1) hx hb hX hbl hbA hS rfl (by omega) (by omega) dL_law_704 ?_
  have hPc := hP.sub (ws' := mC h1 b0 cM (n) (ns) (wd) (f)) [3, 4] rfl
  have hKc := hK.sub (tys' := mT cM) [2] rfl
  refine q_V (As := [.int (xs (5 * t + 1))]) (rest := [.int ((an_fo n f (xs (5 * t + 1))))]) ⟨hx, hb, hml, hown, htm⟩ (c_M_forged l dC dI h1 b0 cM (n) (ns) (wd) (f) (xs (5 * t + 1)) (hn)) (cwV 1 htm gL_law_X1_forged rfl rfl rfl (by decide +kernel) ⟨Nat.le_of_ble_eq_true rfl, Nat.le_of_ble_eq_true rfl⟩) (mw_pre hPc hKc _) rfl hl.1 rfl (Nat.le_of_ble_eq_true rfl) dL_law_705 ⟨Nat.le_of_ble_eq_true rfl, Nat.le_of_ble_eq_true rfl⟩ ?_
  refine lv_icmp_eq (tgt := 746) hx hb dL_law_708 (by decide) (fun c_708 => ?_) (fun c_708 => absurd rfl c_708)
  refine lv_iinc (v := nI (5 * (t + 1))) (lv' := [(3, .int (nI (5 * (t + 1)))), (0, .ref b), (1, .ref h0), (2, .ref h1)]) hx hb dL_law_746 hl (k := 3) rfl (by rw [show 5 * (t + 1) = 5 * t + 5 by omega]; exact nI_add _ 5) (by decide) rfl (fun ls hl => ?_)
  refine lv_goto (tgt := 18) hx hb dL_law_749 (by decide) ?_
  exact ih (n) (ns) (wd) (f) (hn) _ _ hP hD hS ls (lv_sub hl [1, 2, 3, 0] rfl)
set_option maxHeartbeats 4000000 in
set_option maxRecDepth 100000 in
theorem law_case15 {p : Program} {l : Launch} {e : Env} {s : State} {m : MethodId} {below : List Frame} {meth : Method} {c : Code} {b L : Nat} {xs : Nat → Int32} (hL : L ≤ 2560) (C0 : lw_At p s m meth c b L xs) {dC : Nat → ClassId} {dI : Nat → Nat → Nat} {h0 a0 a1 : Nat} {cB cI : ClassId} {h1 b0 : Nat} {cM : ClassId} {g : Nat → Int32} (hg : ∀ i, i < 256 → g i = cr_it cr_r 8 (nI i)) (hK : va_K (dC, dI) vwCl (lT cB cI cM) s) (t : Nat) (ht5 : 5 * t + 5 ≤ L) (ih : ∀ (n : Nat) (ns : Int32) (wd : Int64) (f : Nat → Int32), n ≤ 65536 → ∀ (H : Heap) (locs : List Loc), va_P (dC, dI) vwCl (lC h0 a0 a1 cB cI h1 b0 cM n ns wd f g n ns wd f) H → va_D (fun q : Nat => s.heap.size ≤ q) (lC h0 a0 a1 cB cI h1 b0 cM n ns wd f g n ns wd f) → va_S (fun q : Nat => s.heap.size ≤ q) s.heap H locs → ∀ ls : Array Slot, lv_has ls 4 [(0, .ref b), (1, .ref h0), (2, .ref h1), (3, .int (nI (5 * (t + 1))))] → W p l e room_1 s m #[Value.ref b] below meth c H locs 5 131337 (lw_Z below #[Value.ref b] s) (F0 m 18 ls [])) : ∀ (n : Nat) (ns : Int32) (wd : Int64) (f : Nat → Int32), n ≤ 65536 → ∀ (H : Heap) (locs : List Loc), va_P (dC, dI) vwCl (lC h0 a0 a1 cB cI h1 b0 cM n ns wd f g n ns wd f) H → va_D (fun q : Nat => s.heap.size ≤ q) (lC h0 a0 a1 cB cI h1 b0 cM n ns wd f g n ns wd f) → va_S (fun q : Nat => s.heap.size ≤ q) s.heap H locs → ∀ ls : Array Slot, lv_has ls 4 [(0, .ref b), (1, .ref h0), (2, .ref h1), (3, .int (nI (5 * (t))))] → W p l e room_1 s m #[Value.ref b] below meth c H locs 5 131337 (lw_Z below #[Value.ref b] s) (F0 m 713 ls []) := by
  obtain ⟨hx, hb, hr, hml, hown0, hts0, hX, hbl, hlocks, hgv⟩ := id C0
  have hown : s.vm.findClass RL = some m.cls := hown0
  have hts : ∀ w ∈ wsL_law, w.before #[Value.ref b] s = true := fun w h => hts0 w (wsL_law_in w h)
  have htm : ∀ w ∈ wsLM, w.before #[Value.ref b] s = true := fun w h => hts0 w (wsLM_in w h)
  have hA : ∀ q : Nat, s.heap.size ≤ q → (fun q : Nat => s.heap.size ≤ q) q := fun _ h => h
  have hbA : ¬ (fun q : Nat => s.heap.size ≤ q) b := Nat.not_le.mpr hbl
  intro n ns wd f hn H locs hP hD hS ls hl
  refine lv_aload_n hx hb dL_law_713 rfl (lv_at hl 1 rfl) ?_
  refine lv_aload_n hx hb dL_law_714 rfl (lv_at hl 0 rfl) ?_
  refine lv_iload_n hx hb dL_law_715 rfl (lv_at hl 3 rfl) ?_
  refine lv_iconst (v := 1) hx hb dL_law_716 (by decide) ?_
  refine lv_iadd hx hb dL_law_717 ?_
  refine q_ti (y := nI (5 * t + 1)) (nI_add _ 1) ?_
  refine q_sld (j := 5 * t + 1) hx hb hX hbl hbA hS rfl (by omega) (by omega) dL_law_718 ?_
  refine lv_aload_n hx hb dL_law_719 rfl (lv_at hl 0 rfl) ?_
  refine lv_iload_n hx hb dL_law_720 rfl (lv_at hl 3 rfl) ?_
  refine lv_iconst (v := 2) hx hb dL_law_721 (by decide) ?_
  refine lv_iadd hx hb dL_law_722 ?_
  refine q_ti (y := nI (5 * t + 2)) (nI_add _ 2) ?_
  refine q_sld (j := 5 * t + 2) hx hb hX hbl hbA hS rfl (by omega) (by omega) dL_law_723 ?_
  have hPc := hP.sub (ws' := xC h0 a0 a1 cB cI (n) (ns) (wd) (f) g) [0, 1, 2] rfl
  have hKc := hK.sub (tys' := xT cB cI) [0, 1] rfl
  refine q_V (As := [.int (xs (5 * t + 1)), .int (xs (5 * t + 2))]) (rest := []) ⟨hx, hb, hml, hown, hts⟩ (c_X_mended l dC dI h0 a0 a1 cB cI (n) (ns) (wd) (f) g (xs (5 * t + 1)) (xs (5 * t + 2)) (hn) (hg)) (cwV 2 hts gL_law_X0_mended rfl rfl rfl (by decide +kernel) ⟨Nat.le_of_ble_eq_true rfl, Nat.le_of_ble_eq_true rfl⟩) (xw_pre hPc hKc _) rfl hl.1 rfl (Nat.le_of_ble_eq_true rfl) dL_law_724 ⟨Nat.le_of_ble_eq_true rfl, Nat.le_of_ble_eq_true rfl⟩ ?_
  refine lv_aload_n hx hb dL_law_727 rfl (lv_at hl 2 rfl) ?_
  refine lv_aload_n hx hb dL_law_728 rfl (lv_at hl 0 rfl) ?_
  refine lv_iload_n hx hb dL_law_729 rfl (lv_at hl 3 rfl) ?_
  refine lv_iconst (v := 1) hx hb dL_law_730 (by decide) ?_
  refine lv_iadd hx hb dL_law_731 ?_
  refine q_ti (y := nI (5 * t + 1)) (nI_add _ 1) ?_
  refine q_sld (j := 5 * t + 1) hx hb hX hbl hbA hS rfl (by omega) (by omega) dL_law_732 ?_
  refine lv_aload_n hx hb dL_law_733 rfl (lv_at hl 0 rfl) ?_
  refine lv_iload_n hx hb dL_law_734 rfl (lv_at hl 3 rfl) ?_
  refine lv_iconst (v := 2) hx hb dL_law_735 (by decide) ?_
  refine lv_iadd hx hb dL_law_736 ?_
  refine q_ti (y := nI (5 * t + 2)) (nI_add _ 2) ?_
  refine q_sld (j := 5 * t + 2) hx hb hX hbl hbA hS rfl (by omega) (by omega) dL_law_737 ?_
  have hPc := hP.sub (ws' := mC h1 b0 cM (n) (ns) (wd) (f)) [3, 4] rfl
  have hKc := hK.sub (tys' := mT cM) [2] rfl
  refine q_V (As := [.int (xs (5 * t + 1)), .int (xs (5 * t + 2))]) (rest := [.int ((an_me n f (xs (5 * t + 1)) (xs (5 * t + 2))))]) ⟨hx, hb, hml, hown, htm⟩ (c_M_mended l dC dI h1 b0 cM (n) (ns) (wd) (f) (xs (5 * t + 1)) (xs (5 * t + 2)) (hn)) (cwV 2 htm gL_law_X1_mended rfl rfl rfl (by decide +kernel) ⟨Nat.le_of_ble_eq_true rfl, Nat.le_of_ble_eq_true rfl⟩) (mw_pre hPc hKc _) rfl hl.1 rfl (Nat.le_of_ble_eq_true rfl) dL_law_738 ⟨Nat.le_of_ble_eq_true rfl, Nat.le_of_ble_eq_true rfl⟩ ?_
  refine lv_icmp_eq (tgt := 746) hx hb dL_law_741 (by decide) (fun c_741 => ?_) (fun c_741 => absurd rfl c_741)
  refine lv_iinc (v := nI (5 * (t + 1))) (lv' := [(3, .int (nI (5 * (t + 1)))), (0, .ref b), (1, .ref h0), (2, .ref h1)]) hx hb dL_law_746 hl (k := 3) rfl (by rw [show 5 * (t + 1) = 5 * t + 5 by omega]; exact nI_add _ 5) (by decide) rfl (fun ls hl => ?_)
  refine lv_goto (tgt := 18) hx hb dL_law_749 (by decide) ?_
  exact ih (n) (ns) (wd) (f) (hn) _ _ hP hD hS ls (lv_sub hl [1, 2, 3, 0] rfl)
