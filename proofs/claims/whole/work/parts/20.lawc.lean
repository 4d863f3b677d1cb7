set_option maxHeartbeats 4000000 in
set_option maxRecDepth 100000 in
theorem law_case6 {p : Program} {l : Launch} {e : Env} {s : State} {m : MethodId} {below : List Frame} {meth : Method} {c : Code} {b L : Nat} {xs : Nat → Int32} (hL : L ≤ 2560) (C0 : lw_At p s m meth c b L xs) {dC : Nat → ClassId} {dI : Nat → Nat → Nat} {h0 a0 a1 : Nat} {cB cI : ClassId} {h1 b0 : Nat} {cM : ClassId} {g : Nat → Int32} (hg : ∀ i, i < 256 → g i = cr_it cr_r 8 (nI i)) (hK : va_K (dC, dI) vwCl (lT cB cI cM) s) (t : Nat) (ht5 : 5 * t + 5 ≤ L) (ih : ∀ (n : Nat) (ns : Int32) (wd : Int64) (f : Nat → Int32), n ≤ 65536 → ∀ (H : Heap) (locs : List Loc), va_P (dC, dI) vwCl (lC h0 a0 a1 cB cI h1 b0 cM n ns wd f g n ns wd f) H → va_D (fun q : Nat => s.heap.size ≤ q) (lC h0 a0 a1 cB cI h1 b0 cM n ns wd f g n ns wd f) → va_S (fun q : Nat => s.heap.size ≤ q) s.heap H locs → ∀ ls : Array Slot, lv_has ls 4 [(0, .ref b), (1, .ref h0), (2, .ref h1), (3, .int (nI (5 * (t + 1))))] → W p l e room_1 s m #[Value.ref b] below meth c H locs 5 131337 (lw_Z below #[Value.ref b] s) (F0 m 18 ls [])) : ∀ (n : Nat) (ns : Int32) (wd : Int64) (f : Nat → Int32), n ≤ 65536 → ∀ (H : Heap) (locs : List Loc), va_P (dC, dI) vwCl (lC h0 a0 a1 cB cI h1 b0 cM n ns wd f g n ns wd f) H → va_D (fun q : Nat => s.heap.size ≤ q) (lC h0 a0 a1 cB cI h1 b0 cM n ns wd f g n ns wd f) → va_S (fun q : Nat => s.heap.size ≤ q) s.heap H locs → ∀ ls : Array Slot, lv_has ls 4 [(0, .ref b), (1, .ref h0), (2, .ref h1), (3, .int (nI (5 * (t))))] → W p l e room_1 s m #[Value.ref b] below meth c H locs 5 131337 (lw_Z below #[Value.ref b] s) (F0 m 318 ls []) := by
  obtain ⟨hx, hb, hr, hml, hown0, hts0, hX, hbl, hlocks, hgv⟩ := id C0
  have hown : s.vm.findClass RL = some m.cls := hown0
  have hts : ∀ w ∈ wsL_law, w.before #[Value.ref b] s = true := fun w h => hts0 w (wsL_law_in w h)
  have htm : ∀ w ∈ wsLM, w.before #[Value.ref b] s = true := fun w h => hts0 w (wsLM_in w h)
  have hA : ∀ q : Nat, s.heap.size ≤ q → (fun q : Nat => s.heap.size ≤ q) q := fun _ h => h
  have hbA : ¬ (fun q : Nat => s.heap.size ≤ q) b := Nat.not_le.mpr hbl
  intro n ns wd f hn H locs hP hD hS ls hl
  refine lv_aload_n hx hb dL_law_318 rfl (lv_at hl 1 rfl) ?_
  have hPc := hP.sub (ws' := xC h0 a0 a1 cB cI (n) (ns) (wd) (f) g) [0, 1, 2] rfl
  have hKc := hK.sub (tys' := xT cB cI) [0, 1] rfl
  refine q_V (As := []) (rest := []) ⟨hx, hb, hml, hown, hts⟩ (c_X_wide l dC dI h0 a0 a1 cB cI (n) (ns) (wd) (f) g (hn)) (cwV 0 hts gL_law_X0_wide rfl rfl rfl (by decide +kernel) ⟨Nat.le_of_ble_eq_true rfl, Nat.le_of_ble_eq_true rfl⟩) (xw_pre hPc hKc _) rfl hl.1 rfl (Nat.le_of_ble_eq_true rfl) dL_law_319 ⟨Nat.le_of_ble_eq_true rfl, Nat.le_of_ble_eq_true rfl⟩ ?_
  refine lv_aload_n hx hb dL_law_322 rfl (lv_at hl 2 rfl) ?_
  have hPc := hP.sub (ws' := mC h1 b0 cM (n) (ns) (wd) (f)) [3, 4] rfl
  have hKc := hK.sub (tys' := mT cM) [2] rfl
  refine q_V (As := []) (rest := [.long ((wi_sum f 0 n wd))]) ⟨hx, hb, hml, hown, htm⟩ (c_M_wide l dC dI h1 b0 cM (n) (ns) (wd) (f) (hn)) (cwV 0 htm gL_law_X1_wide rfl rfl rfl (by decide +kernel) ⟨Nat.le_of_ble_eq_true rfl, Nat.le_of_ble_eq_true rfl⟩) (mw_pre hPc hKc _) rfl hl.1 rfl (Nat.le_of_ble_eq_true rfl) dL_law_323 ⟨Nat.le_of_ble_eq_true rfl, Nat.le_of_ble_eq_true rfl⟩ ?_
  refine W.lcmp hx hb dL_law_326 ?_
  refine lv_if_eq (tgt := 746) hx hb dL_law_327 (by decide) (fun c_327 => ?_) (fun c_327 => absurd ((lg_cmp_eq _ _).mpr rfl) c_327)
  refine lv_iinc (v := nI (5 * (t + 1))) (lv' := [(3, .int (nI (5 * (t + 1)))), (0, .ref b), (1, .ref h0), (2, .ref h1)]) hx hb dL_law_746 hl (k := 3) rfl (by rw [show 5 * (t + 1) = 5 * t + 5 by omega]; exact nI_add _ 5) (by decide) rfl (fun ls hl => ?_)
  refine lv_goto (tgt := 18) hx hb dL_law_749 (by decide) ?_
  exact ih (n) (ns) (wd) (f) (hn) _ _ hP hD hS ls (lv_sub hl [1, 2, 3, 0] rfl)
set_option maxHeartbeats 4000000 in
set_option maxRecDepth 100000 in
theorem law_case7 {p : Program} {l : Launch} {e : Env} {s : State} {m : MethodId} {below : List Frame} {meth : Method} {c : Code} {b L : Nat} {xs : Nat → Int32} (hL : L ≤ 2560) (C0 : lw_At p s m meth c b L xs) {dC : Nat → ClassId} {dI : Nat → Nat → Nat} {h0 a0 a1 : Nat} {cB cI : ClassId} {h1 b0 : Nat} {cM : ClassId} {g : Nat → Int32} (hg : ∀ i, i < 256 → g i = cr_it cr_r 8 (nI i)) (hK : va_K (dC, dI) vwCl (lT cB cI cM) s) (t : Nat) (ht5 : 5 * t + 5 ≤ L) (ih : ∀ (n : Nat) (ns : Int32) (wd : Int64) (f : Nat → Int32), n ≤ 65536 → ∀ (H : Heap) (locs : List Loc), va_P (dC, dI) vwCl (lC h0 a0 a1 cB cI h1 b0 cM n ns wd f g n ns wd f) H → va_D (fun q : Nat => s.heap.size ≤ q) (lC h0 a0 a1 cB cI h1 b0 cM n ns wd f g n ns wd f) → va_S (fun q : Nat => s.heap.size ≤ q) s.heap H locs → ∀ ls : Array Slot, lv_has ls 4 [(0, .ref b), (1, .ref h0), (2, .ref h1), (3, .int (nI (5 * (t + 1))))] → W p l e room_1 s m #[Value.ref b] below meth c H locs 5 131337 (lw_Z below #[Value.ref b] s) (F0 m 18 ls [])) : ∀ (n : Nat) (ns : Int32) (wd : Int64) (f : Nat → Int32), n ≤ 65536 → ∀ (H : Heap) (locs : List Loc), va_P (dC, dI) vwCl (lC h0 a0 a1 cB cI h1 b0 cM n ns wd f g n ns wd f) H → va_D (fun q : Nat => s.heap.size ≤ q) (lC h0 a0 a1 cB cI h1 b0 cM n ns wd f g n ns wd f) → va_S (fun q : Nat => s.heap.size ≤ q) s.heap H locs → ∀ ls : Array Slot, lv_has ls 4 [(0, .ref b), (1, .ref h0), (2, .ref h1), (3, .int (nI (5 * (t))))] → W p l e room_1 s m #[Value.ref b] below meth c H locs 5 131337 (lw_Z below #[Value.ref b] s) (F0 m 332 ls []) := by
  obtain ⟨hx, hb, hr, hml, hown0, hts0, hX, hbl, hlocks, hgv⟩ := id C0
  have hown : s.vm.findClass RL = some m.cls := hown0
  have hts : ∀ w ∈ wsL_law, w.before #[Value.ref b] s = true := fun w h => hts0 w (wsL_law_in w h)
  have htm : ∀ w ∈ wsLM, w.before #[Value.ref b] s = true := fun w h => hts0 w (wsLM_in w h)
  have hA : ∀ q : Nat, s.heap.size ≤ q → (fun q : Nat => s.heap.size ≤ q) q := fun _ h => h
  have hbA : ¬ (fun q : Nat => s.heap.size ≤ q) b := Nat.not_le.mpr hbl
  intro n ns wd f hn H locs hP hD hS ls hl
  refine lv_aload_n hx hb dL_law_332 rfl (lv_at hl 1 rfl) ?_
  have hPc := hP.sub (ws' := xC h0 a0 a1 cB cI (n) (ns) (wd) (f) g) [0, 1, 2] rfl
  have hKc := hK.sub (tys' := xT cB cI) [0, 1] rfl
  refine q_V (As := []) (rest := []) ⟨hx, hb, hml, hown, hts⟩ (c_X_poly l dC dI h0 a0 a1 cB cI (n) (ns) (wd) (f) g (hn) (hg)) (cwV 0 hts gL_law_X0_poly rfl rfl rfl (by decide +kernel) ⟨Nat.le_of_ble_eq_true rfl, Nat.le_of_ble_eq_true rfl⟩) (xw_pre hPc hKc _) rfl hl.1 rfl (Nat.le_of_ble_eq_true rfl) dL_law_333 ⟨Nat.le_of_ble_eq_true rfl, Nat.le_of_ble_eq_true rfl⟩ ?_
  refine lv_aload_n hx hb dL_law_336 rfl (lv_at hl 2 rfl) ?_
  have hPc := hP.sub (ws' := mC h1 b0 cM (n) (ns) (wd) (f)) [3, 4] rfl
  have hKc := hK.sub (tys' := mT cM) [2] rfl
  refine q_V (As := []) (rest := [.int ((cr_rg f 0 (-1) n ^^^ (-1)))]) ⟨hx, hb, hml, hown, htm⟩ (c_M_poly l dC dI h1 b0 cM (n) (ns) (wd) (f) (hn)) (cwV 0 htm gL_law_X1_poly rfl rfl rfl (by decide +kernel) ⟨Nat.le_of_ble_eq_true rfl, Nat.le_of_ble_eq_true rfl⟩) (mw_pre hPc hKc _) rfl hl.1 rfl (Nat.le_of_ble_eq_true rfl) dL_law_337 ⟨Nat.le_of_ble_eq_true rfl, Nat.le_of_ble_eq_true rfl⟩ ?_
  refine lv_icmp_eq (tgt := 746) hx hb dL_law_340 (by decide) (fun c_340 => ?_) (fun c_340 => absurd rfl c_340)
  refine lv_iinc (v := nI (5 * (t + 1))) (lv' := [(3, .int (nI (5 * (t + 1)))), (0, .ref b), (1, .ref h0), (2, .ref h1)]) hx hb dL_law_746 hl (k := 3) rfl (by rw [show 5 * (t + 1) = 5 * t + 5 by omega]; exact nI_add _ 5) (by decide) rfl (fun ls hl => ?_)
  refine lv_goto (tgt := 18) hx hb dL_law_749 (by decide) ?_
  exact ih (n) (ns) (wd) (f) (hn) _ _ hP hD hS ls (lv_sub hl [1, 2, 3, 0] rfl)
set_option maxHeartbeats 4000000 in
set_option maxRecDepth 100000 in
theorem law_case8 {p : Program} {l : Launch} {e : Env} {s : State} {m : MethodId} {below : List Frame} {meth : Method} {c : Code} {b L : Nat} {xs : Nat → Int32} (hL : L ≤ 2560) (C0 : lw_At p s m meth c b L xs) {dC : Nat → ClassId} {dI : Nat → Nat → Nat} {h0 a0 a1 : Nat} {cB cI : ClassId} {h1 b0 : Nat} {cM : ClassId} {g : Nat → Int32} (hg : ∀ i, i < 256 → g i = cr_it cr_r 8 (nI i)) (hK : va_K (dC, dI) vwCl (lT cB cI cM) s) (t : Nat) (ht5 : 5 * t + 5 ≤ L) (ih : ∀ (n : Nat) (ns : Int32) (wd : Int64) (f : Nat → Int32), n ≤ 65536 → ∀ (H : Heap) (locs : List Loc), va_P (dC, dI) vwCl (lC h0 a0 a1 cB cI h1 b0 cM n ns wd f g n ns wd f) H → va_D (fun q : Nat => s.heap.size ≤ q) (lC h0 a0 a1 cB cI h1 b0 cM n ns wd f g n ns wd f) → va_S (fun q : Nat => s.heap.size ≤ q) s.heap H locs → ∀ ls : Array Slot, lv_has ls 4 [(0, .ref b), (1, .ref h0), (2, .ref h1), (3, .int (nI (5 * (t + 1))))] → W p l e room_1 s m #[Value.ref b] below meth c H locs 5 131337 (lw_Z below #[Value.ref b] s) (F0 m 18 ls [])) : ∀ (n : Nat) (ns : Int32) (wd : Int64) (f : Nat → Int32), n ≤ 65536 → ∀ (H : Heap) (locs : List Loc), va_P (dC, dI) vwCl (lC h0 a0 a1 cB cI h1 b0 cM n ns wd f g n ns wd f) H → va_D (fun q : Nat => s.heap.size ≤ q) (lC h0 a0 a1 cB cI h1 b0 cM n ns wd f g n ns wd f) → va_S (fun q : Nat => s.heap.size ≤ q) s.heap H locs → ∀ ls : Array Slot, lv_has ls 4 [(0, .ref b), (1, .ref h0), (2, .ref h1), (3, .int (nI (5 * (t))))] → W p l e room_1 s m #[Value.ref b] below meth c H locs 5 131337 (lw_Z below #[Value.ref b] s) (F0 m 345 ls []) := by
  obtain ⟨hx, hb, hr, hml, hown0, hts0, hX, hbl, hlocks, hgv⟩ := id C0
  have hown : s.vm.findClass RL = some m.cls := hown0
  have hts : ∀ w ∈ wsL_law, w.before #[Value.ref b] s = true := fun w h => hts0 w (wsL_law_in w h)
  have htm : ∀ w ∈ wsLM, w.before #[Value.ref b] s = true := fun w h => hts0 w (wsLM_in w h)
  have hA : ∀ q : Nat, s.heap.size ≤ q → (fun q : Nat => s.heap.size ≤ q) q := fun _ h => h
  have hbA : ¬ (fun q : Nat => s.heap.size ≤ q) b := Nat.not_le.mpr hbl
  intro n ns wd f hn H locs hP hD hS ls hl
  refine lv_aload_n hx hb dL_law_345 rfl (lv_at hl 1 rfl) ?_
  refine lv_aload_n hx hb dL_law_346 rfl (lv_at hl 0 rfl) ?_
  refine lv_iload_n hx hb dL_law_347 rfl (lv_at hl 3 rfl) ?_
  refine lv_iconst (v := 1) hx hb dL_law_348 (by decide) ?_
  refine lv_iadd hx hb dL_law_349 ?_
  refine q_ti (y := nI (5 * t + 1)) (nI_add _ 1) ?_
  refine q_sld (j := 5 * t + 1) hx hb hX hbl hbA hS rfl (by omega) (by omega) dL_law_350 ?_
  refine lv_aload_n hx hb dL_law_351 rfl (lv_at hl 0 rfl) ?_
  refine lv_iload_n hx hb dL_law_352 rfl (lv_at hl 3 rfl) ?_
  refine lv_iconst (v := 2) hx hb dL_law_353 (by decide) ?_
  refine lv_iadd hx hb dL_law_354 ?_
  refine q_ti (y := nI (5 * t + 2)) (nI_add _ 2) ?_
  refine q_sld (j := 5 * t + 2) hx hb hX hbl hbA hS rfl (by omega) (by omega) dL_law_355 ?_
  refine lv_aload_n hx hb dL_law_356 rfl (lv_at hl 0 rfl) ?_
  refine lv_iload_n hx hb dL_law_357 rfl (lv_at hl 3 rfl) ?_
  refine lv_iconst (v := 3) hx hb dL_law_358 (by decide) ?_
  refine lv_iadd hx hb dL_law_359 ?_
  refine q_ti (y := nI (5 * t + 3)) (nI_add _ 3) ?_
  refine q_sld (j := 5 * t + 3) hx hb hX hbl hbA hS rfl (by omega) (by omega) dL_law_360 ?_
  have hPc := hP.sub (ws' := xC h0 a0 a1 cB cI (n) (ns) (wd) (f) g) [0, 1, 2] rfl
  have hKc := hK.sub (tys' := xT cB cI) [0, 1] rfl
  refine q_V (As := [.int (xs (5 * t + 1)), .int (xs (5 * t + 2)), .int (xs (5 * t + 3))]) (rest := []) ⟨hx, hb, hml, hown, hts⟩ (c_X_narrowOf l dC dI h0 a0 a1 cB cI (n) (ns) (wd) (f) g (xs (5 * t + 1)) (xs (5 * t + 2)) (xs (5 * t + 3)) (hn)) (cwV 3 hts gL_law_X0_narrowOf rfl rfl rfl (by decide +kernel) ⟨Nat.le_of_ble_eq_true rfl, Nat.le_of_ble_eq_true rfl⟩) (xw_pre hPc hKc _) rfl hl.1 rfl (Nat.le_of_ble_eq_true rfl) dL_law_361 ⟨Nat.le_of_ble_eq_true rfl, Nat.le_of_ble_eq_true rfl⟩ ?_
  refine lv_aload_n hx hb dL_law_364 rfl (lv_at hl 2 rfl) ?_
  refine lv_aload_n hx hb dL_law_365 rfl (lv_at hl 0 rfl) ?_
  refine lv_iload_n hx hb dL_law_366 rfl (lv_at hl 3 rfl) ?_
  refine lv_iconst (v := 1) hx hb dL_law_367 (by decide) ?_
  refine lv_iadd hx hb dL_law_368 ?_
  refine q_ti (y := nI (5 * t + 1)) (nI_add _ 1) ?_
  refine q_sld (j := 5 * t + 1) hx hb hX hbl hbA hS rfl (by omega) (by omega) dL_law_369 ?_
  refine lv_aload_n hx hb dL_law_370 rfl (lv_at hl 0 rfl) ?_
  refine lv_iload_n hx hb dL_law_371 rfl (lv_at hl 3 rfl) ?_
  refine lv_iconst (v := 2) hx hb dL_law_372 (by decide) ?_
  refine lv_iadd hx hb dL_law_373 ?_
  refine q_ti (y := nI (5 * t + 2)) (nI_add _ 2) ?_
  refine q_sld (j := 5 * t + 2) hx hb hX hbl hbA hS rfl (by omega) (by omega) dL_law_374 ?_
  refine lv_aload_n hx hb dL_law_375 rfl (lv_at hl 0 rfl) ?_
  refine lv_iload_n hx hb dL_law_376 rfl (lv_at hl 3 rfl) ?_
  refine lv_iconst (v := 3) hx hb dL_law_377 (by decide) ?_
  refine lv_iadd hx hb dL_law_378 ?_
  refine q_ti (y := nI (5 * t + 3)) (nI_add _ 3) ?_
  refine q_sld (j := 5 * t + 3) hx hb hX hbl hbA hS rfl (by omega) (by omega) dL_law_379 ?_
  have hPc := hP.sub (ws' := mC h1 b0 cM (n) (ns) (wd) (f)) [3, 4] rfl
  have hKc := hK.sub (tys' := mT cM) [2] rfl
  refine q_V (As := [.int (xs (5 * t + 1)), .int (xs (5 * t + 2)), .int (xs (5 * t + 3))]) (rest := [.int ((an_na n f (xs (5 * t + 1)) (xs (5 * t + 2)) (xs (5 * t + 3))))]) ⟨hx, hb, hml, hown, htm⟩ (c_M_narrowOf l dC dI h1 b0 cM (n) (ns) (wd) (f) (xs (5 * t + 1)) (xs (5 * t + 2)) (xs (5 * t + 3)) (hn)) (cwV 3 htm gL_law_X1_narrowOf rfl rfl rfl (by decide +kernel) ⟨Nat.le_of_ble_eq_true rfl, Nat.le_of_ble_eq_true rfl⟩) (mw_pre hPc hKc _) rfl hl.1 rfl (Nat.le_of_ble_eq_true rfl) dL_law_380 ⟨Nat.le_of_ble_eq_true rfl, Nat.le_of_ble_eq_true rfl⟩ ?_
  refine lv_icmp_eq (tgt := 746) hx hb dL_law_383 (by decide) (fun c_383 => ?_) (fun c_383 => absurd rfl c_383)
  refine lv_iinc (v := nI (5 * (t + 1))) (lv' := [(3, .int (nI (5 * (t + 1)))), (0, .ref b), (1, .ref h0), (2, .ref h1)]) hx hb dL_law_746 hl (k := 3) rfl (by rw [show 5 * (t + 1) = 5 * t + 5 by omega]; exact nI_add _ 5) (by decide) rfl (fun ls hl => ?_)
  refine lv_goto (tgt := 18) hx hb dL_law_749 (by decide) ?_
  exact ih (n) (ns) (wd) (f) (hn) _ _ hP hD hS ls (lv_sub hl [1, 2, 3, 0] rfl)
set_option maxHeartbeats 4000000 in
set_option maxRecDepth 100000 in
theorem law_case9 {p : Program} {l : Launch} {e : Env} {s : State} {m : MethodId} {below : List Frame} {meth : Method} {c : Code} {b L : Nat} {xs : Nat → Int32} (hL : L ≤ 2560) (C0 : lw_At p s m meth c b L xs) {dC : Nat → ClassId} {dI : Nat → Nat → Nat} {h0 a0 a1 : Nat} {cB cI : ClassId} {h1 b0 : Nat} {cM : ClassId} {g : Nat → Int32} (hg : ∀ i, i < 256 → g i = cr_it cr_r 8 (nI i)) (hK : va_K (dC, dI) vwCl (lT cB cI cM) s) (t : Nat) (ht5 : 5 * t + 5 ≤ L) (ih : ∀ (n : Nat) (ns : Int32) (wd : Int64) (f : Nat → Int32), n ≤ 65536 → ∀ (H : Heap) (locs : List Loc), va_P (dC, dI) vwCl (lC h0 a0 a1 cB cI h1 b0 cM n ns wd f g n ns wd f) H → va_D (fun q : Nat => s.heap.size ≤ q) (lC h0 a0 a1 cB cI h1 b0 cM n ns wd f g n ns wd f) → va_S (fun q : Nat => s.heap.size ≤ q) s.heap H locs → ∀ ls : Array Slot, lv_has ls 4 [(0, .ref b), (1, .ref h0), (2, .ref h1), (3, .int (nI (5 * (t + 1))))] → W p l e room_1 s m #[Value.ref b] below meth c H locs 5 131337 (lw_Z below #[Value.ref b] s) (F0 m 18 ls [])) : ∀ (n : Nat) (ns : Int32) (wd : Int64) (f : Nat → Int32), n ≤ 65536 → ∀ (H : Heap) (locs : List Loc), va_P (dC, dI) vwCl (lC h0 a0 a1 cB cI h1 b0 cM n ns wd f g n ns wd f) H → va_D (fun q : Nat => s.heap.size ≤ q) (lC h0 a0 a1 cB cI h1 b0 cM n ns wd f g n ns wd f) → va_S (fun q : Nat => s.heap.size ≤ q) s.heap H locs → ∀ ls : Array Slot, lv_has ls 4 [(0, .ref b), (1, .ref h0), (2, .ref h1), (3, .int (nI (5 * (t))))] → W p l e room_1 s m #[Value.ref b] below meth c H locs 5 131337 (lw_Z below #[Value.ref b] s) (F0 m 388 ls []) := by
  obtain ⟨hx, hb, hr, hml, hown0, hts0, hX, hbl, hlocks, hgv⟩ := id C0
  have hown : s.vm.findClass RL = some m.cls := hown0
  have hts : ∀ w ∈ wsL_law, w.before #[Value.ref b] s = true := fun w h => hts0 w (wsL_law_in w h)
  have htm : ∀ w ∈ wsLM, w.before #[Value.ref b] s = true := fun w h => hts0 w (wsLM_in w h)
  have hA : ∀ q : Nat, s.heap.size ≤ q → (fun q : Nat => s.heap.size ≤ q) q := fun _ h => h
  have hbA : ¬ (fun q : Nat => s.heap.size ≤ q) b := Nat.not_le.mpr hbl
  intro n ns wd f hn H locs hP hD hS ls hl
  refine lv_aload_n hx hb dL_law_388 rfl (lv_at hl 1 rfl) ?_
  refine lv_aload_n hx hb dL_law_389 rfl (lv_at hl 0 rfl) ?_
  refine lv_iload_n hx hb dL_law_390 rfl (lv_at hl 3 rfl) ?_
  refine lv_iconst (v := 1) hx hb dL_law_391 (by decide) ?_
  refine lv_iadd hx hb dL_law_392 ?_
  refine q_ti (y := nI (5 * t + 1)) (nI_add _ 1) ?_
  refine q_sld (j := 5 * t + 1) hx hb hX hbl hbA hS rfl (by omega) (by omega) dL_law_393 ?_
  refine lv_aload_n hx hb dL_law_394 rfl (lv_at hl 0 rfl) ?_
  refine lv_iload_n hx hb dL_law_395 rfl (lv_at hl 3 rfl) ?_
  refine lv_iconst (v := 2) hx hb dL_law_396 (by decide) ?_
  refine lv_iadd hx hb dL_law_397 ?_
  refine q_ti (y := nI (5 * t + 2)) (nI_add _ 2) ?_
  refine q_sld (j := 5 * t + 2) hx hb hX hbl hbA hS rfl (by omega) (by omega) dL_law_398 ?_
  refine lv_aload_n hx hb dL_law_399 rfl (lv_at hl 0 rfl) ?_
  refine lv_iload_n hx hb dL_law_400 rfl (lv_at hl 3 rfl) ?_
  refine lv_iconst (v := 3) hx hb dL_law_401 (by decide) ?_
  refine lv_iadd hx hb dL_law_402 ?_
  refine q_ti (y := nI (5 * t + 3)) (nI_add _ 3) ?_
  refine q_sld (j := 5 * t + 3) hx hb hX hbl hbA hS rfl (by omega) (by omega) dL_law_403 ?_
  refine lv_i2l (v := (xs (5 * t + 3)).toInt64) hx hb dL_law_404 rfl ?_
  refine lv_bipush (v := 32) hx hb dL_law_405 (by decide) ?_
  refine lv_lshl (v := sh_L ((xs (5 * t + 3)).toInt64) (32)) hx hb dL_law_407 rfl ?_
  refine lv_aload_n hx hb dL_law_408 rfl (lv_at hl 0 rfl) ?_
  refine lv_iload_n hx hb dL_law_409 rfl (lv_at hl 3 rfl) ?_
  refine lv_iconst (v := 4) hx hb dL_law_410 (by decide) ?_
  refine lv_iadd hx hb dL_law_411 ?_
  refine q_ti (y := nI (5 * t + 4)) (nI_add _ 4) ?_
  refine q_sld (j := 5 * t + 4) hx hb hX hbl hbA hS rfl (by omega) (by omega) dL_law_412 ?_
  refine lv_i2l (v := (xs (5 * t + 4)).toInt64) hx hb dL_law_413 rfl ?_
  refine lv_ldc2 (v := 4294967295) hx hb hown (hts0 (.constantLong RL 13 4294967295) lw_k13) dL_law_414 ?_
  refine lv_land hx hb dL_law_417 ?_
  refine lv_lor hx hb dL_law_418 ?_
  have hPc := hP.sub (ws' := xC h0 a0 a1 cB cI (n) (ns) (wd) (f) g) [0, 1, 2] rfl
  have hKc := hK.sub (tys' := xT cB cI) [0, 1] rfl
  refine q_V (As := [.int (xs (5 * t + 1)), .int (xs (5 * t + 2)), .long (((sh_L ((xs (5 * t + 3)).toInt64) (32)) ||| ((xs (5 * t + 4)).toInt64 &&& 4294967295)))]) (rest := []) ⟨hx, hb, hml, hown, hts⟩ (c_X_wideOf l dC dI h0 a0 a1 cB cI (n) (ns) (wd) (f) g (xs (5 * t + 1)) (xs (5 * t + 2)) (((sh_L ((xs (5 * t + 3)).toInt64) (32)) ||| ((xs (5 * t + 4)).toInt64 &&& 4294967295))) (hn)) (cwV 3 hts gL_law_X0_wideOf rfl rfl rfl (by decide +kernel) ⟨Nat.le_of_ble_eq_true rfl, Nat.le_of_ble_eq_true rfl⟩) (xw_pre hPc hKc _) rfl hl.1 rfl (Nat.le_of_ble_eq_true rfl) dL_law_419 ⟨Nat.le_of_ble_eq_true rfl, Nat.le_of_ble_eq_true rfl⟩ ?_
  refine lv_aload_n hx hb dL_law_422 rfl (lv_at hl 2 rfl) ?_
  refine lv_aload_n hx hb dL_law_423 rfl (lv_at hl 0 rfl) ?_
  refine lv_iload_n hx hb dL_law_424 rfl (lv_at hl 3 rfl) ?_
  refine lv_iconst (v := 1) hx hb dL_law_425 (by decide) ?_
  refine lv_iadd hx hb dL_law_426 ?_
  refine q_ti (y := nI (5 * t + 1)) (nI_add _ 1) ?_
  refine q_sld (j := 5 * t + 1) hx hb hX hbl hbA hS rfl (by omega) (by omega) dL_law_427 ?_
  refine lv_aload_n hx hb dL_law_428 rfl (lv_at hl 0 rfl) ?_
  refine lv_iload_n hx hb dL_law_429 rfl (lv_at hl 3 rfl) ?_
  refine lv_iconst (v := 2) hx hb dL_law_430 (by decide) ?_
  refine lv_iadd hx hb dL_law_431 ?_
  refine q_ti (y := nI (5 * t + 2)) (nI_add _ 2) ?_
  refine q_sld (j := 5 * t + 2) hx hb hX hbl hbA hS rfl (by omega) (by omega) dL_law_432 ?_
  refine lv_aload_n hx hb dL_law_433 rfl (lv_at hl 0 rfl) ?_
  refine lv_iload_n hx hb dL_law_434 rfl (lv_at hl 3 rfl) ?_
  refine lv_iconst (v := 3) hx hb dL_law_435 (by decide) ?_
  refine lv_iadd hx hb dL_law_436 ?_
  refine q_ti (y := nI (5 * t + 3)) (nI_add _ 3) ?_
  refine q_sld (j := 5 * t + 3) hx hb hX hbl hbA hS rfl (by omega) (by omega) dL_law_437 ?_
  refine lv_i2l (v := (xs (5 * t + 3)).toInt64) hx hb dL_law_438 rfl ?_
  refine lv_bipush (v := 32) hx hb dL_law_439 (by decide) ?_
  refine lv_lshl (v := sh_L ((xs (5 * t + 3)).toInt64) (32)) hx hb dL_law_441 rfl ?_
  refine lv_aload_n hx hb dL_law_442 rfl (lv_at hl 0 rfl) ?_
  refine lv_iload_n hx hb dL_law_443 rfl (lv_at hl 3 rfl) ?_
  refine lv_iconst (v := 4) hx hb dL_law_444 (by decide) ?_
  refine lv_iadd hx hb dL_law_445 ?_
  refine q_ti (y := nI (5 * t + 4)) (nI_add _ 4) ?_
  refine q_sld (j := 5 * t + 4) hx hb hX hbl hbA hS rfl (by omega) (by omega) dL_law_446 ?_
  refine lv_i2l (v := (xs (5 * t + 4)).toInt64) hx hb dL_law_447 rfl ?_
  refine lv_ldc2 (v := 4294967295) hx hb hown (hts0 (.constantLong RL 13 4294967295) lw_k13) dL_law_448 ?_
  refine lv_land hx hb dL_law_451 ?_
  refine lv_lor hx hb dL_law_452 ?_
  have hPc := hP.sub (ws' := mC h1 b0 cM (n) (ns) (wd) (f)) [3, 4] rfl
  have hKc := hK.sub (tys' := mT cM) [2] rfl
  refine q_V (As := [.int (xs (5 * t + 1)), .int (xs (5 * t + 2)), .long (((sh_L ((xs (5 * t + 3)).toInt64) (32)) ||| ((xs (5 * t + 4)).toInt64 &&& 4294967295)))]) (rest := [.long ((an_wi n f (xs (5 * t + 1)) (xs (5 * t + 2)) (((sh_L ((xs (5 * t + 3)).toInt64) (32)) ||| ((xs (5 * t + 4)).toInt64 &&& 4294967295)))))]) ⟨hx, hb, hml, hown, htm⟩ (c_M_wideOf l dC dI h1 b0 cM (n) (ns) (wd) (f) (xs (5 * t + 1)) (xs (5 * t + 2)) (((sh_L ((xs (5 * t + 3)).toInt64) (32)) ||| ((xs (5 * t + 4)).toInt64 &&& 4294967295))) (hn)) (cwV 3 htm gL_law_X1_wideOf rfl rfl rfl (by decide +kernel) ⟨Nat.le_of_ble_eq_true rfl, Nat.le_of_ble_eq_true rfl⟩) (mw_pre hPc hKc _) rfl hl.1 rfl (Nat.le_of_ble_eq_true rfl) dL_law_453 ⟨Nat.le_of_ble_eq_true rfl, Nat.le_of_ble_eq_true rfl⟩ ?_
  refine W.lcmp hx hb dL_law_456 ?_
  refine lv_if_eq (tgt := 746) hx hb dL_law_457 (by decide) (fun c_457 => ?_) (fun c_457 => absurd ((lg_cmp_eq _ _).mpr rfl) c_457)
  refine lv_iinc (v := nI (5 * (t + 1))) (lv' := [(3, .int (nI (5 * (t + 1)))), (0, .ref b), (1, .ref h0), (2, .ref h1)]) hx hb dL_law_746 hl (k := 3) rfl (by rw [show 5 * (t + 1) = 5 * t + 5 by omega]; exact nI_add _ 5) (by decide) rfl (fun ls hl => ?_)
  refine lv_goto (tgt := 18) hx hb dL_law_749 (by decide) ?_
  exact ih (n) (ns) (wd) (f) (hn) _ _ hP hD hS ls (lv_sub hl [1, 2, 3, 0] rfl)
set_option maxHeartbeats 4000000 in
set_option maxRecDepth 100000 in
theorem law_case10 {p : Program} {l : Launch} {e : Env} {s : State} {m : MethodId} {below : List Frame} {meth : Method} {c : Code} {b L : Nat} {xs : Nat → Int32} (hL : L ≤ 2560) (C0 : lw_At p s m meth c b L xs) {dC : Nat → ClassId} {dI : Nat → Nat → Nat} {h0 a0 a1 : Nat} {cB cI : ClassId} {h1 b0 : Nat} {cM : ClassId} {g : Nat → Int32} (hg : ∀ i, i < 256 → g i = cr_it cr_r 8 (nI i)) (hK : va_K (dC, dI) vwCl (lT cB cI cM) s) (t : Nat) (ht5 : 5 * t + 5 ≤ L) (ih : ∀ (n : Nat) (ns : Int32) (wd : Int64) (f : Nat → Int32), n ≤ 65536 → ∀ (H : Heap) (locs : List Loc), va_P (dC, dI) vwCl (lC h0 a0 a1 cB cI h1 b0 cM n ns wd f g n ns wd f) H → va_D (fun q : Nat => s.heap.size ≤ q) (lC h0 a0 a1 cB cI h1 b0 cM n ns wd f g n ns wd f) → va_S (fun q : Nat => s.heap.size ≤ q) s.heap H locs → ∀ ls : Array Slot, lv_has ls 4 [(0, .ref b), (1, .ref h0), (2, .ref h1), (3, .int (nI (5 * (t + 1))))] → W p l e room_1 s m #[Value.ref b] below meth c H locs 5 131337 (lw_Z below #[Value.ref b] s) (F0 m 18 ls [])) : ∀ (n : Nat) (ns : Int32) (wd : Int64) (f : Nat → Int32), n ≤ 65536 → ∀ (H : Heap) (locs : List Loc), va_P (dC, dI) vwCl (lC h0 a0 a1 cB cI h1 b0 cM n ns wd f g n ns wd f) H → va_D (fun q : Nat => s.heap.size ≤ q) (lC h0 a0 a1 cB cI h1 b0 cM n ns wd f g n ns wd f) → va_S (fun q : Nat => s.heap.size ≤ q) s.heap H locs → ∀ ls : Array Slot, lv_has ls 4 [(0, .ref b), (1, .ref h0), (2, .ref h1), (3, .int (nI (5 * (t))))] → W p l e room_1 s m #[Value.ref b] below meth c H locs 5 131337 (lw_Z below #[Value.ref b] s) (F0 m 462 ls []) := by
  obtain ⟨hx, hb, hr, hml, hown0, hts0, hX, hbl, hlocks, hgv⟩ := id C0
  have hown : s.vm.findClass RL = some m.cls := hown0
  have hts : ∀ w ∈ wsL_law, w.before #[Value.ref b] s = true := fun w h => hts0 w (wsL_law_in w h)
  have htm : ∀ w ∈ wsLM, w.before #[Value.ref b] s = true := fun w h => hts0 w (wsLM_in w h)
  have hA : ∀ q : Nat, s.heap.size ≤ q → (fun q : Nat => s.heap.size ≤ q) q := fun _ h => h
  have hbA : ¬ (fun q : Nat => s.heap.size ≤ q) b := Nat.not_le.mpr hbl
  intro n ns wd f hn H locs hP hD hS ls hl
  refine lv_aload_n hx hb dL_law_462 rfl (lv_at hl 1 rfl) ?_
  refine lv_aload_n hx hb dL_law_463 rfl (lv_at hl 0 rfl) ?_
  refine lv_iload_n hx hb dL_law_464 rfl (lv_at hl 3 rfl) ?_
  refine lv_iconst (v := 1) hx hb dL_law_465 (by decide) ?_
  refine lv_iadd hx hb dL_law_466 ?_
  refine q_ti (y := nI (5 * t + 1)) (nI_add _ 1) ?_
  refine q_sld (j := 5 * t + 1) hx hb hX hbl hbA hS rfl (by omega) (by omega) dL_law_467 ?_
  refine lv_aload_n hx hb dL_law_468 rfl (lv_at hl 0 rfl) ?_
  refine lv_iload_n hx hb dL_law_469 rfl (lv_at hl 3 rfl) ?_
  refine lv_iconst (v := 2) hx hb dL_law_470 (by decide) ?_
  refine lv_iadd hx hb dL_law_471 ?_
  refine q_ti (y := nI (5 * t + 2)) (nI_add _ 2) ?_
  refine q_sld (j := 5 * t + 2) hx hb hX hbl hbA hS rfl (by omega) (by omega) dL_law_472 ?_
  have hPc := hP.sub (ws' := xC h0 a0 a1 cB cI (n) (ns) (wd) (f) g) [0, 1, 2] rfl
  have hKc := hK.sub (tys' := xT cB cI) [0, 1] rfl
  refine q_V (As := [.int (xs (5 * t + 1)), .int (xs (5 * t + 2))]) (rest := []) ⟨hx, hb, hml, hown, hts⟩ (c_X_polyOf l dC dI h0 a0 a1 cB cI (n) (ns) (wd) (f) g (xs (5 * t + 1)) (xs (5 * t + 2)) (hn) (hg)) (cwV 2 hts gL_law_X0_polyOf rfl rfl rfl (by decide +kernel) ⟨Nat.le_of_ble_eq_true rfl, Nat.le_of_ble_eq_true rfl⟩) (xw_pre hPc hKc _) rfl hl.1 rfl (Nat.le_of_ble_eq_true rfl) dL_law_473 ⟨Nat.le_of_ble_eq_true rfl, Nat.le_of_ble_eq_true rfl⟩ ?_
  refine lv_aload_n hx hb dL_law_476 rfl (lv_at hl 2 rfl) ?_
  refine lv_aload_n hx hb dL_law_477 rfl (lv_at hl 0 rfl) ?_
  refine lv_iload_n hx hb dL_law_478 rfl (lv_at hl 3 rfl) ?_
  refine lv_iconst (v := 1) hx hb dL_law_479 (by decide) ?_
  refine lv_iadd hx hb dL_law_480 ?_
  refine q_ti (y := nI (5 * t + 1)) (nI_add _ 1) ?_
  refine q_sld (j := 5 * t + 1) hx hb hX hbl hbA hS rfl (by omega) (by omega) dL_law_481 ?_
  refine lv_aload_n hx hb dL_law_482 rfl (lv_at hl 0 rfl) ?_
  refine lv_iload_n hx hb dL_law_483 rfl (lv_at hl 3 rfl) ?_
  refine lv_iconst (v := 2) hx hb dL_law_484 (by decide) ?_
  refine lv_iadd hx hb dL_law_485 ?_
  refine q_ti (y := nI (5 * t + 2)) (nI_add _ 2) ?_
  refine q_sld (j := 5 * t + 2) hx hb hX hbl hbA hS rfl (by omega) (by omega) dL_law_486 ?_
  have hPc := hP.sub (ws' := mC h1 b0 cM (n) (ns) (wd) (f)) [3, 4] rfl
  have hKc := hK.sub (tys' := mT cM) [2] rfl
  refine q_V (As := [.int (xs (5 * t + 1)), .int (xs (5 * t + 2))]) (rest := [.int ((an_po n f (xs (5 * t + 1)) (xs (5 * t + 2))))]) ⟨hx, hb, hml, hown, htm⟩ (c_M_polyOf l dC dI h1 b0 cM (n) (ns) (wd) (f) (xs (5 * t + 1)) (xs (5 * t + 2)) (hn)) (cwV 2 htm gL_law_X1_polyOf rfl rfl rfl (by decide +kernel) ⟨Nat.le_of_ble_eq_true rfl, Nat.le_of_ble_eq_true rfl⟩) (mw_pre hPc hKc _) rfl hl.1 rfl (Nat.le_of_ble_eq_true rfl) dL_law_487 ⟨Nat.le_of_ble_eq_true rfl, Nat.le_of_ble_eq_true rfl⟩ ?_
  refine lv_icmp_eq (tgt := 746) hx hb dL_law_490 (by decide) (fun c_490 => ?_) (fun c_490 => absurd rfl c_490)
  refine lv_iinc (v := nI (5 * (t + 1))) (lv' := [(3, .int (nI (5 * (t + 1)))), (0, .ref b), (1, .ref h0), (2, .ref h1)]) hx hb dL_law_746 hl (k := 3) rfl (by rw [show 5 * (t + 1) = 5 * t + 5 by omega]; exact nI_add _ 5) (by decide) rfl (fun ls hl => ?_)
  refine lv_goto (tgt := 18) hx hb dL_law_749 (by decide) ?_
  exact ih (n) (ns) (wd) (f) (hn) _ _ hP hD hS ls (lv_sub hl [1, 2, 3, 0] rfl)
