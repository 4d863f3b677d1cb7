set_option maxHeartbeats 4000000 in
set_option maxRecDepth 100000 in
theorem law_case0 {p : Program} {l : Launch} {e : Env} {s : State} {m : MethodId} {below : List Frame} {meth : Method} {c : Code} {b L : Nat} {xs : Nat → Int32} (hL : L ≤ 2560) (C0 : lw_At p s m meth c b L xs) {dC : Nat → ClassId} {dI : Nat → Nat → Nat} {h0 a0 a1 : Nat} {cB cI : ClassId} {h1 b0 : Nat} {cM : ClassId} {g : Nat → Int32} (hg : ∀ i, i < 256 → g i = cr_it cr_r 8 (nI i)) (hK : va_K (dC, dI) vwCl (lT cB cI cM) s) (t : Nat) (ht5 : 5 * t + 5 ≤ L) (ih : ∀ (n : Nat) (ns : Int32) (wd : Int64) (f : Nat → Int32), n ≤ 65536 → ∀ (H : Heap) (locs : List Loc), va_P (dC, dI) vwCl (lC h0 a0 a1 cB cI h1 b0 cM n ns wd f g n ns wd f) H → va_D (fun q : Nat => s.heap.size ≤ q) (lC h0 a0 a1 cB cI h1 b0 cM n ns wd f g n ns wd f) → va_S (fun q : Nat => s.heap.size ≤ q) s.heap H locs → ∀ ls : Array Slot, lv_has ls 4 [(0, .ref b), (1, .ref h0), (2, .ref h1), (3, .int (nI (5 * (t + 1))))] → W p l e room_1 s m #[Value.ref b] below meth c H locs 5 131337 (lw_Z below #[Value.ref b] s) (F0 m 18 ls [])) : ∀ (n : Nat) (ns : Int32) (wd : Int64) (f : Nat → Int32), n ≤ 65536 → ∀ (H : Heap) (locs : List Loc), va_P (dC, dI) vwCl (lC h0 a0 a1 cB cI h1 b0 cM n ns wd f g n ns wd f) H → va_D (fun q : Nat => s.heap.size ≤ q) (lC h0 a0 a1 cB cI h1 b0 cM n ns wd f g n ns wd f) → va_S (fun q : Nat => s.heap.size ≤ q) s.heap H locs → ∀ ls : Array Slot, lv_has ls 4 [(0, .ref b), (1, .ref h0), (2, .ref h1), (3, .int (nI (5 * (t))))] → W p l e room_1 s m #[Value.ref b] below meth c H locs 5 131337 (lw_Z below #[Value.ref b] s) (F0 m 112 ls []) := by
  obtain ⟨hx, hb, hr, hml, hown0, hts0, hX, hbl, hlocks, hgv⟩ := id C0
  have hown : s.vm.findClass RL = some m.cls := hown0
  have hts : ∀ w ∈ wsL_law, w.before #[Value.ref b] s = true := fun w h => hts0 w (wsL_law_in w h)
  have htm : ∀ w ∈ wsLM, w.before #[Value.ref b] s = true := fun w h => hts0 w (wsLM_in w h)
  have hA : ∀ q : Nat, s.heap.size ≤ q → (fun q : Nat => s.heap.size ≤ q) q := fun _ h => h
  have hbA : ¬ (fun q : Nat => s.heap.size ≤ q) b := Nat.not_le.mpr hbl
  intro n ns wd f hn H locs hP hD hS ls hl
  refine lv_aload_n hx hb dL_law_112 rfl (lv_at hl 1 rfl) ?_
  refine lv_aload_n hx hb dL_law_113 rfl (lv_at hl 0 rfl) ?_
  refine lv_iload_n hx hb dL_law_114 rfl (lv_at hl 3 rfl) ?_
  refine lv_iconst (v := 1) hx hb dL_law_115 (by decide) ?_
  refine lv_iadd hx hb dL_law_116 ?_
  refine q_ti (y := nI (5 * t + 1)) (nI_add _ 1) ?_
  refine q_sld (j := 5 * t + 1) hx hb hX hbl hbA hS rfl (by omega) (by omega) dL_law_117 ?_
  refine lv_aload_n hx hb dL_law_118 rfl (lv_at hl 0 rfl) ?_
  refine lv_iload_n hx hb dL_law_119 rfl (lv_at hl 3 rfl) ?_
  refine lv_iconst (v := 2) hx hb dL_law_120 (by decide) ?_
  refine lv_iadd hx hb dL_law_121 ?_
  refine q_ti (y := nI (5 * t + 2)) (nI_add _ 2) ?_
  refine q_sld (j := 5 * t + 2) hx hb hX hbl hbA hS rfl (by omega) (by omega) dL_law_122 ?_
  refine lv_i2l (v := (xs (5 * t + 2)).toInt64) hx hb dL_law_123 rfl ?_
  refine lv_bipush (v := 32) hx hb dL_law_124 (by decide) ?_
  refine lv_lshl (v := sh_L ((xs (5 * t + 2)).toInt64) (32)) hx hb dL_law_126 rfl ?_
  refine lv_aload_n hx hb dL_law_127 rfl (lv_at hl 0 rfl) ?_
  refine lv_iload_n hx hb dL_law_128 rfl (lv_at hl 3 rfl) ?_
  refine lv_iconst (v := 3) hx hb dL_law_129 (by decide) ?_
  refine lv_iadd hx hb dL_law_130 ?_
  refine q_ti (y := nI (5 * t + 3)) (nI_add _ 3) ?_
  refine q_sld (j := 5 * t + 3) hx hb hX hbl hbA hS rfl (by omega) (by omega) dL_law_131 ?_
  refine lv_i2l (v := (xs (5 * t + 3)).toInt64) hx hb dL_law_132 rfl ?_
  refine lv_ldc2 (v := 4294967295) hx hb hown (hts0 (.constantLong RL 13 4294967295) lw_k13) dL_law_133 ?_
  refine lv_land hx hb dL_law_136 ?_
  refine lv_lor hx hb dL_law_137 ?_
  have hPc := hP.sub (ws' := xC h0 a0 a1 cB cI (n) (ns) (wd) (f) g) [0, 1, 2] rfl
  have hKc := hK.sub (tys' := xT cB cI) [0, 1] rfl
  have hDc := hD.sub (ws' := xC h0 a0 a1 cB cI (n) (ns) (wd) (f) g) [0, 1, 2] (by decide) rfl
  have hFc := va_free (wc := xC h0 a0 a1 cB cI (n) (ns) (wd) (f) g) hD hS hA [0, 1, 2] rfl
  refine va_callv (va_runV (As := [.int (xs (5 * t + 1)), .long (((sh_L ((xs (5 * t + 2)).toInt64) (32)) ||| ((xs (5 * t + 3)).toInt64 &&& 4294967295)))]) (rest := []) ⟨hx, hb, hml, hown, hts⟩ (c_X_begin l dC dI h0 a0 a1 cB cI H.size (n) (ns) (wd) (f) g (xs (5 * t + 1)) (((sh_L ((xs (5 * t + 2)).toInt64) (32)) ||| ((xs (5 * t + 3)).toInt64 &&& 4294967295)))) (cwV 2 hts gL_law_X0_begin rfl rfl rfl (by decide +kernel) ⟨Nat.le_of_ble_eq_true rfl, Nat.le_of_ble_eq_true rfl⟩) (xi_pre hPc hKc hDc _) rfl rfl hl.1 rfl (lv_room (Nat.le_of_ble_eq_true rfl)) dL_law_138 ⟨Nat.le_of_ble_eq_true rfl, Nat.le_of_ble_eq_true rfl⟩) hS (fun q _ h => hFc q h) hFc (fun u tt H1 locs ht hvm hw hB hz1 hk1 hS => ?_)
  obtain ⟨hP1, -, hD1⟩ := hB
  rw [ht] at hP1
  obtain ⟨hP, hD⟩ := va_join (wr := mC h1 b0 cM (n) (ns) (wd) (f)) (w1 := xC h0 a0 a1 cB cI (0) (xs (5 * t + 1)) (((sh_L ((xs (5 * t + 2)).toInt64) (32)) ||| ((xs (5 * t + 3)).toInt64 &&& 4294967295))) (f) g) hP hD [0, 1, 2] [3, 4] rfl rfl (by decide) (by decide) hk1 hFc hP1 hD1
  have hP := hP.sub (ws' := lC h0 a0 a1 cB cI h1 b0 cM (0) (xs (5 * t + 1)) (((sh_L ((xs (5 * t + 2)).toInt64) (32)) ||| ((xs (5 * t + 3)).toInt64 &&& 4294967295))) (f) g (n) (ns) (wd) (f)) [2, 3, 4, 0, 1] rfl
  have hD := hD.sub (ws' := lC h0 a0 a1 cB cI h1 b0 cM (0) (xs (5 * t + 1)) (((sh_L ((xs (5 * t + 2)).toInt64) (32)) ||| ((xs (5 * t + 3)).toInt64 &&& 4294967295))) (f) g (n) (ns) (wd) (f)) [2, 3, 4, 0, 1] (by decide) rfl
  generalize H1 = H at hP hS ⊢
  refine lv_aload_n hx hb dL_law_141 rfl (lv_at hl 2 rfl) ?_
  refine lv_aload_n hx hb dL_law_142 rfl (lv_at hl 0 rfl) ?_
  refine lv_iload_n hx hb dL_law_143 rfl (lv_at hl 3 rfl) ?_
  refine lv_iconst (v := 1) hx hb dL_law_144 (by decide) ?_
  refine lv_iadd hx hb dL_law_145 ?_
  refine q_ti (y := nI (5 * t + 1)) (nI_add _ 1) ?_
  refine q_sld (j := 5 * t + 1) hx hb hX hbl hbA hS rfl (by omega) (by omega) dL_law_146 ?_
  refine lv_aload_n hx hb dL_law_147 rfl (lv_at hl 0 rfl) ?_
  refine lv_iload_n hx hb dL_law_148 rfl (lv_at hl 3 rfl) ?_
  refine lv_iconst (v := 2) hx hb dL_law_149 (by decide) ?_
  refine lv_iadd hx hb dL_law_150 ?_
  refine q_ti (y := nI (5 * t + 2)) (nI_add _ 2) ?_
  refine q_sld (j := 5 * t + 2) hx hb hX hbl hbA hS rfl (by omega) (by omega) dL_law_151 ?_
  refine lv_i2l (v := (xs (5 * t + 2)).toInt64) hx hb dL_law_152 rfl ?_
  refine lv_bipush (v := 32) hx hb dL_law_153 (by decide) ?_
  refine lv_lshl (v := sh_L ((xs (5 * t + 2)).toInt64) (32)) hx hb dL_law_155 rfl ?_
  refine lv_aload_n hx hb dL_law_156 rfl (lv_at hl 0 rfl) ?_
  refine lv_iload_n hx hb dL_law_157 rfl (lv_at hl 3 rfl) ?_
  refine lv_iconst (v := 3) hx hb dL_law_158 (by decide) ?_
  refine lv_iadd hx hb dL_law_159 ?_
  refine q_ti (y := nI (5 * t + 3)) (nI_add _ 3) ?_
  refine q_sld (j := 5 * t + 3) hx hb hX hbl hbA hS rfl (by omega) (by omega) dL_law_160 ?_
  refine lv_i2l (v := (xs (5 * t + 3)).toInt64) hx hb dL_law_161 rfl ?_
  refine lv_ldc2 (v := 4294967295) hx hb hown (hts0 (.constantLong RL 13 4294967295) lw_k13) dL_law_162 ?_
  refine lv_land hx hb dL_law_165 ?_
  refine lv_lor hx hb dL_law_166 ?_
  have hPc := hP.sub (ws' := mC h1 b0 cM (n) (ns) (wd) (f)) [3, 4] rfl
  have hKc := hK.sub (tys' := mT cM) [2] rfl
  have hDc := hD.sub (ws' := mC h1 b0 cM (n) (ns) (wd) (f)) [3, 4] (by decide) rfl
  have hFc := va_free (wc := mC h1 b0 cM (n) (ns) (wd) (f)) hD hS hA [3, 4] rfl
  refine va_callv (va_runV (As := [.int (xs (5 * t + 1)), .long (((sh_L ((xs (5 * t + 2)).toInt64) (32)) ||| ((xs (5 * t + 3)).toInt64 &&& 4294967295)))]) (rest := []) ⟨hx, hb, hml, hown, htm⟩ (c_M_begin l dC dI h1 b0 cM H.size (n) (ns) (wd) (f) (xs (5 * t + 1)) (((sh_L ((xs (5 * t + 2)).toInt64) (32)) ||| ((xs (5 * t + 3)).toInt64 &&& 4294967295)))) (cwV 2 htm gL_law_X1_begin rfl rfl rfl (by decide +kernel) ⟨Nat.le_of_ble_eq_true rfl, Nat.le_of_ble_eq_true rfl⟩) (mi_pre hPc hKc hDc _) rfl rfl hl.1 rfl (lv_room (Nat.le_of_ble_eq_true rfl)) dL_law_167 ⟨Nat.le_of_ble_eq_true rfl, Nat.le_of_ble_eq_true rfl⟩) hS (fun q _ h => hFc q h) hFc (fun u tt H1 locs ht hvm hw hB hz1 hk1 hS => ?_)
  obtain ⟨hP1, -, hD1⟩ := hB
  rw [ht] at hP1
  obtain ⟨hP, hD⟩ := va_join (wr := xC h0 a0 a1 cB cI (0) (xs (5 * t + 1)) (((sh_L ((xs (5 * t + 2)).toInt64) (32)) ||| ((xs (5 * t + 3)).toInt64 &&& 4294967295))) (f) g) (w1 := mC h1 b0 cM (0) (xs (5 * t + 1)) (((sh_L ((xs (5 * t + 2)).toInt64) (32)) ||| ((xs (5 * t + 3)).toInt64 &&& 4294967295))) (f)) hP hD [3, 4] [0, 1, 2] rfl rfl (by decide) (by decide) hk1 hFc hP1 hD1
  have hP := hP.sub (ws' := lC h0 a0 a1 cB cI h1 b0 cM (0) (xs (5 * t + 1)) (((sh_L ((xs (5 * t + 2)).toInt64) (32)) ||| ((xs (5 * t + 3)).toInt64 &&& 4294967295))) (f) g (0) (xs (5 * t + 1)) (((sh_L ((xs (5 * t + 2)).toInt64) (32)) ||| ((xs (5 * t + 3)).toInt64 &&& 4294967295))) (f)) [0, 1, 2, 3, 4] rfl
  have hD := hD.sub (ws' := lC h0 a0 a1 cB cI h1 b0 cM (0) (xs (5 * t + 1)) (((sh_L ((xs (5 * t + 2)).toInt64) (32)) ||| ((xs (5 * t + 3)).toInt64 &&& 4294967295))) (f) g (0) (xs (5 * t + 1)) (((sh_L ((xs (5 * t + 2)).toInt64) (32)) ||| ((xs (5 * t + 3)).toInt64 &&& 4294967295))) (f)) [0, 1, 2, 3, 4] (by decide) rfl
  generalize H1 = H at hP hS ⊢
  refine lv_goto (tgt := 746) hx hb dL_law_170 (by decide) ?_
  refine lv_iinc (v := nI (5 * (t + 1))) (lv' := [(3, .int (nI (5 * (t + 1)))), (0, .ref b), (1, .ref h0), (2, .ref h1)]) hx hb dL_law_746 hl (k := 3) rfl (by rw [show 5 * (t + 1) = 5 * t + 5 by omega]; exact nI_add _ 5) (by decide) rfl (fun ls hl => ?_)
  refine lv_goto (tgt := 18) hx hb dL_law_749 (by decide) ?_
  exact ih (0) (xs (5 * t + 1)) (((sh_L ((xs (5 * t + 2)).toInt64) (32)) ||| ((xs (5 * t + 3)).toInt64 &&& 4294967295))) (f) (Nat.zero_le _) _ _ hP hD hS ls (lv_sub hl [1, 2, 3, 0] rfl)
set_option maxHeartbeats 4000000 in
set_option maxRecDepth 100000 in
theorem law_case1 {p : Program} {l : Launch} {e : Env} {s : State} {m : MethodId} {below : List Frame} {meth : Method} {c : Code} {b L : Nat} {xs : Nat → Int32} (hL : L ≤ 2560) (C0 : lw_At p s m meth c b L xs) {dC : Nat → ClassId} {dI : Nat → Nat → Nat} {h0 a0 a1 : Nat} {cB cI : ClassId} {h1 b0 : Nat} {cM : ClassId} {g : Nat → Int32} (hg : ∀ i, i < 256 → g i = cr_it cr_r 8 (nI i)) (hK : va_K (dC, dI) vwCl (lT cB cI cM) s) (t : Nat) (ht5 : 5 * t + 5 ≤ L) (ih : ∀ (n : Nat) (ns : Int32) (wd : Int64) (f : Nat → Int32), n ≤ 65536 → ∀ (H : Heap) (locs : List Loc), va_P (dC, dI) vwCl (lC h0 a0 a1 cB cI h1 b0 cM n ns wd f g n ns wd f) H → va_D (fun q : Nat => s.heap.size ≤ q) (lC h0 a0 a1 cB cI h1 b0 cM n ns wd f g n ns wd f) → va_S (fun q : Nat => s.heap.size ≤ q) s.heap H locs → ∀ ls : Array Slot, lv_has ls 4 [(0, .ref b), (1, .ref h0), (2, .ref h1), (3, .int (nI (5 * (t + 1))))] → W p l e room_1 s m #[Value.ref b] below meth c H locs 5 131337 (lw_Z below #[Value.ref b] s) (F0 m 18 ls [])) : ∀ (n : Nat) (ns : Int32) (wd : Int64) (f : Nat → Int32), n ≤ 65536 → ∀ (H : Heap) (locs : List Loc), va_P (dC, dI) vwCl (lC h0 a0 a1 cB cI h1 b0 cM n ns wd f g n ns wd f) H → va_D (fun q : Nat => s.heap.size ≤ q) (lC h0 a0 a1 cB cI h1 b0 cM n ns wd f g n ns wd f) → va_S (fun q : Nat => s.heap.size ≤ q) s.heap H locs → ∀ ls : Array Slot, lv_has ls 4 [(0, .ref b), (1, .ref h0), (2, .ref h1), (3, .int (nI (5 * (t))))] → W p l e room_1 s m #[Value.ref b] below meth c H locs 5 131337 (lw_Z below #[Value.ref b] s) (F0 m 173 ls []) := by
  obtain ⟨hx, hb, hr, hml, hown0, hts0, hX, hbl, hlocks, hgv⟩ := id C0
  have hown : s.vm.findClass RL = some m.cls := hown0
  have hts : ∀ w ∈ wsL_law, w.before #[Value.ref b] s = true := fun w h => hts0 w (wsL_law_in w h)
  have htm : ∀ w ∈ wsLM, w.before #[Value.ref b] s = true := fun w h => hts0 w (wsLM_in w h)
  have hA : ∀ q : Nat, s.heap.size ≤ q → (fun q : Nat => s.heap.size ≤ q) q := fun _ h => h
  have hbA : ¬ (fun q : Nat => s.heap.size ≤ q) b := Nat.not_le.mpr hbl
  intro n ns wd f hn H locs hP hD hS ls hl
  refine lv_aload_n hx hb dL_law_173 rfl (lv_at hl 1 rfl) ?_
  refine lv_aload_n hx hb dL_law_174 rfl (lv_at hl 0 rfl) ?_
  refine lv_iload_n hx hb dL_law_175 rfl (lv_at hl 3 rfl) ?_
  refine lv_iconst (v := 1) hx hb dL_law_176 (by decide) ?_
  refine lv_iadd hx hb dL_law_177 ?_
  refine q_ti (y := nI (5 * t + 1)) (nI_add _ 1) ?_
  refine q_sld (j := 5 * t + 1) hx hb hX hbl hbA hS rfl (by omega) (by omega) dL_law_178 ?_
  refine lv_i2l (v := (xs (5 * t + 1)).toInt64) hx hb dL_law_179 rfl ?_
  refine lv_bipush (v := 32) hx hb dL_law_180 (by decide) ?_
  refine lv_lshl (v := sh_L ((xs (5 * t + 1)).toInt64) (32)) hx hb dL_law_182 rfl ?_
  refine lv_aload_n hx hb dL_law_183 rfl (lv_at hl 0 rfl) ?_
  refine lv_iload_n hx hb dL_law_184 rfl (lv_at hl 3 rfl) ?_
  refine lv_iconst (v := 2) hx hb dL_law_185 (by decide) ?_
  refine lv_iadd hx hb dL_law_186 ?_
  refine q_ti (y := nI (5 * t + 2)) (nI_add _ 2) ?_
  refine q_sld (j := 5 * t + 2) hx hb hX hbl hbA hS rfl (by omega) (by omega) dL_law_187 ?_
  refine lv_i2l (v := (xs (5 * t + 2)).toInt64) hx hb dL_law_188 rfl ?_
  refine lv_ldc2 (v := 4294967295) hx hb hown (hts0 (.constantLong RL 13 4294967295) lw_k13) dL_law_189 ?_
  refine lv_land hx hb dL_law_192 ?_
  refine lv_lor hx hb dL_law_193 ?_
  refine lv_aload_n hx hb dL_law_194 rfl (lv_at hl 0 rfl) ?_
  refine lv_iload_n hx hb dL_law_195 rfl (lv_at hl 3 rfl) ?_
  refine lv_iconst (v := 3) hx hb dL_law_196 (by decide) ?_
  refine lv_iadd hx hb dL_law_197 ?_
  refine q_ti (y := nI (5 * t + 3)) (nI_add _ 3) ?_
  refine q_sld (j := 5 * t + 3) hx hb hX hbl hbA hS rfl (by omega) (by omega) dL_law_198 ?_
  have hPc := hP.sub (ws' := xC h0 a0 a1 cB cI (n) (ns) (wd) (f) g) [0, 1, 2] rfl
  have hKc := hK.sub (tys' := xT cB cI) [0, 1] rfl
  have hDc := hD.sub (ws' := xC h0 a0 a1 cB cI (n) (ns) (wd) (f) g) [0, 1, 2] (by decide) rfl
  have hFc := va_free (wc := xC h0 a0 a1 cB cI (n) (ns) (wd) (f) g) hD hS hA [0, 1, 2] rfl
  refine va_calli (va_runV (As := [.long (((sh_L ((xs (5 * t + 1)).toInt64) (32)) ||| ((xs (5 * t + 2)).toInt64 &&& 4294967295))), .int (xs (5 * t + 3))]) (rest := []) ⟨hx, hb, hml, hown, hts⟩ (c_X_write l dC dI h0 a0 a1 cB cI H.size (n) (ns) (wd) (f) g (((sh_L ((xs (5 * t + 1)).toInt64) (32)) ||| ((xs (5 * t + 2)).toInt64 &&& 4294967295))) (xs (5 * t + 3)) (hn)) (cwV 2 hts gL_law_X0_write rfl rfl rfl (by decide +kernel) ⟨Nat.le_of_ble_eq_true rfl, Nat.le_of_ble_eq_true rfl⟩) (xi_pre hPc hKc hDc _) rfl rfl hl.1 rfl (lv_room (Nat.le_of_ble_eq_true rfl)) dL_law_199 ⟨Nat.le_of_ble_eq_true rfl, Nat.le_of_ble_eq_true rfl⟩) hS (fun q _ h => hFc q h) hFc (fun rr u tt H1 locs ht hvm hw hB hz1 hk1 hS => ?_)
  obtain ⟨u1, u2⟩ := u
  obtain ⟨hr1, hu1, hu2⟩ := hw
  dsimp only at hu1 hu2
  subst hu1 hu2 hr1
  obtain ⟨hP1, -, hD1⟩ := hB
  rw [ht] at hP1
  obtain ⟨hP, hD⟩ := va_join (wr := mC h1 b0 cM (n) (ns) (wd) (f)) (w1 := xC h0 a0 a1 cB cI (wr_n (n) (xs (5 * t + 3))) (ns) (wd) (wr_F (n) (f) (((sh_L ((xs (5 * t + 1)).toInt64) (32)) ||| ((xs (5 * t + 2)).toInt64 &&& 4294967295))) (xs (5 * t + 3))) g) hP hD [0, 1, 2] [3, 4] rfl rfl (by decide) (by decide) hk1 hFc hP1 hD1
  have hP := hP.sub (ws' := lC h0 a0 a1 cB cI h1 b0 cM (wr_n (n) (xs (5 * t + 3))) (ns) (wd) (wr_F (n) (f) (((sh_L ((xs (5 * t + 1)).toInt64) (32)) ||| ((xs (5 * t + 2)).toInt64 &&& 4294967295))) (xs (5 * t + 3))) g (n) (ns) (wd) (f)) [2, 3, 4, 0, 1] rfl
  have hD := hD.sub (ws' := lC h0 a0 a1 cB cI h1 b0 cM (wr_n (n) (xs (5 * t + 3))) (ns) (wd) (wr_F (n) (f) (((sh_L ((xs (5 * t + 1)).toInt64) (32)) ||| ((xs (5 * t + 2)).toInt64 &&& 4294967295))) (xs (5 * t + 3))) g (n) (ns) (wd) (f)) [2, 3, 4, 0, 1] (by decide) rfl
  generalize H1 = H at hP hS ⊢
  refine lv_aload_n hx hb dL_law_202 rfl (lv_at hl 2 rfl) ?_
  refine lv_aload_n hx hb dL_law_203 rfl (lv_at hl 0 rfl) ?_
  refine lv_iload_n hx hb dL_law_204 rfl (lv_at hl 3 rfl) ?_
  refine lv_iconst (v := 1) hx hb dL_law_205 (by decide) ?_
  refine lv_iadd hx hb dL_law_206 ?_
  refine q_ti (y := nI (5 * t + 1)) (nI_add _ 1) ?_
  refine q_sld (j := 5 * t + 1) hx hb hX hbl hbA hS rfl (by omega) (by omega) dL_law_207 ?_
  refine lv_i2l (v := (xs (5 * t + 1)).toInt64) hx hb dL_law_208 rfl ?_
  refine lv_bipush (v := 32) hx hb dL_law_209 (by decide) ?_
  refine lv_lshl (v := sh_L ((xs (5 * t + 1)).toInt64) (32)) hx hb dL_law_211 rfl ?_
  refine lv_aload_n hx hb dL_law_212 rfl (lv_at hl 0 rfl) ?_
  refine lv_iload_n hx hb dL_law_213 rfl (lv_at hl 3 rfl) ?_
  refine lv_iconst (v := 2) hx hb dL_law_214 (by decide) ?_
  refine lv_iadd hx hb dL_law_215 ?_
  refine q_ti (y := nI (5 * t + 2)) (nI_add _ 2) ?_
  refine q_sld (j := 5 * t + 2) hx hb hX hbl hbA hS rfl (by omega) (by omega) dL_law_216 ?_
  refine lv_i2l (v := (xs (5 * t + 2)).toInt64) hx hb dL_law_217 rfl ?_
  refine lv_ldc2 (v := 4294967295) hx hb hown (hts0 (.constantLong RL 13 4294967295) lw_k13) dL_law_218 ?_
  refine lv_land hx hb dL_law_221 ?_
  refine lv_lor hx hb dL_law_222 ?_
  refine lv_aload_n hx hb dL_law_223 rfl (lv_at hl 0 rfl) ?_
  refine lv_iload_n hx hb dL_law_224 rfl (lv_at hl 3 rfl) ?_
  refine lv_iconst (v := 3) hx hb dL_law_225 (by decide) ?_
  refine lv_iadd hx hb dL_law_226 ?_
  refine q_ti (y := nI (5 * t + 3)) (nI_add _ 3) ?_
  refine q_sld (j := 5 * t + 3) hx hb hX hbl hbA hS rfl (by omega) (by omega) dL_law_227 ?_
  have hPc := hP.sub (ws' := mC h1 b0 cM (n) (ns) (wd) (f)) [3, 4] rfl
  have hKc := hK.sub (tys' := mT cM) [2] rfl
  have hDc := hD.sub (ws' := mC h1 b0 cM (n) (ns) (wd) (f)) [3, 4] (by decide) rfl
  have hFc := va_free (wc := mC h1 b0 cM (n) (ns) (wd) (f)) hD hS hA [3, 4] rfl
  refine va_calli (va_runV (As := [.long (((sh_L ((xs (5 * t + 1)).toInt64) (32)) ||| ((xs (5 * t + 2)).toInt64 &&& 4294967295))), .int (xs (5 * t + 3))]) (rest := [.int (wr_ok (n) (xs (5 * t + 3)))]) ⟨hx, hb, hml, hown, htm⟩ (c_M_write l dC dI h1 b0 cM H.size (n) (ns) (wd) (f) (((sh_L ((xs (5 * t + 1)).toInt64) (32)) ||| ((xs (5 * t + 2)).toInt64 &&& 4294967295))) (xs (5 * t + 3)) (hn)) (cwV 2 htm gL_law_X1_write rfl rfl rfl (by decide +kernel) ⟨Nat.le_of_ble_eq_true rfl, Nat.le_of_ble_eq_true rfl⟩) (mi_pre hPc hKc hDc _) rfl rfl hl.1 rfl (lv_room (Nat.le_of_ble_eq_true rfl)) dL_law_228 ⟨Nat.le_of_ble_eq_true rfl, Nat.le_of_ble_eq_true rfl⟩) hS (fun q _ h => hFc q h) hFc (fun rr u tt H1 locs ht hvm hw hB hz1 hk1 hS => ?_)
  obtain ⟨u1, u2⟩ := u
  obtain ⟨hr1, hu1, hu2⟩ := hw
  dsimp only at hu1 hu2
  subst hu1 hu2 hr1
  obtain ⟨hP1, -, hD1⟩ := hB
  rw [ht] at hP1
  obtain ⟨hP, hD⟩ := va_join (wr := xC h0 a0 a1 cB cI (wr_n (n) (xs (5 * t + 3))) (ns) (wd) (wr_F (n) (f) (((sh_L ((xs (5 * t + 1)).toInt64) (32)) ||| ((xs (5 * t + 2)).toInt64 &&& 4294967295))) (xs (5 * t + 3))) g) (w1 := mC h1 b0 cM (wr_n (n) (xs (5 * t + 3))) (ns) (wd) (wr_F (n) (f) (((sh_L ((xs (5 * t + 1)).toInt64) (32)) ||| ((xs (5 * t + 2)).toInt64 &&& 4294967295))) (xs (5 * t + 3)))) hP hD [3, 4] [0, 1, 2] rfl rfl (by decide) (by decide) hk1 hFc hP1 hD1
  have hP := hP.sub (ws' := lC h0 a0 a1 cB cI h1 b0 cM (wr_n (n) (xs (5 * t + 3))) (ns) (wd) (wr_F (n) (f) (((sh_L ((xs (5 * t + 1)).toInt64) (32)) ||| ((xs (5 * t + 2)).toInt64 &&& 4294967295))) (xs (5 * t + 3))) g (wr_n (n) (xs (5 * t + 3))) (ns) (wd) (wr_F (n) (f) (((sh_L ((xs (5 * t + 1)).toInt64) (32)) ||| ((xs (5 * t + 2)).toInt64 &&& 4294967295))) (xs (5 * t + 3)))) [0, 1, 2, 3, 4] rfl
  have hD := hD.sub (ws' := lC h0 a0 a1 cB cI h1 b0 cM (wr_n (n) (xs (5 * t + 3))) (ns) (wd) (wr_F (n) (f) (((sh_L ((xs (5 * t + 1)).toInt64) (32)) ||| ((xs (5 * t + 2)).toInt64 &&& 4294967295))) (xs (5 * t + 3))) g (wr_n (n) (xs (5 * t + 3))) (ns) (wd) (wr_F (n) (f) (((sh_L ((xs (5 * t + 1)).toInt64) (32)) ||| ((xs (5 * t + 2)).toInt64 &&& 4294967295))) (xs (5 * t + 3)))) [0, 1, 2, 3, 4] (by decide) rfl
  generalize H1 = H at hP hS ⊢
  refine lv_icmp_eq (tgt := 746) hx hb dL_law_231 (by decide) (fun c_231 => ?_) (fun c_231 => absurd rfl c_231)
  refine lv_iinc (v := nI (5 * (t + 1))) (lv' := [(3, .int (nI (5 * (t + 1)))), (0, .ref b), (1, .ref h0), (2, .ref h1)]) hx hb dL_law_746 hl (k := 3) rfl (by rw [show 5 * (t + 1) = 5 * t + 5 by omega]; exact nI_add _ 5) (by decide) rfl (fun ls hl => ?_)
  refine lv_goto (tgt := 18) hx hb dL_law_749 (by decide) ?_
  exact ih (wr_n (n) (xs (5 * t + 3))) (ns) (wd) (wr_F (n) (f) (((sh_L ((xs (5 * t + 1)).toInt64) (32)) ||| ((xs (5 * t + 2)).toInt64 &&& 4294967295))) (xs (5 * t + 3))) (wr_le (hn)) _ _ hP hD hS ls (lv_sub hl [1, 2, 3, 0] rfl)
set_option maxHeartbeats 4000000 in
set_option maxRecDepth 100000 in
theorem law_case2 {p : Program} {l : Launch} {e : Env} {s : State} {m : MethodId} {below : List Frame} {meth : Method} {c : Code} {b L : Nat} {xs : Nat → Int32} (hL : L ≤ 2560) (C0 : lw_At p s m meth c b L xs) {dC : Nat → ClassId} {dI : Nat → Nat → Nat} {h0 a0 a1 : Nat} {cB cI : ClassId} {h1 b0 : Nat} {cM : ClassId} {g : Nat → Int32} (hg : ∀ i, i < 256 → g i = cr_it cr_r 8 (nI i)) (hK : va_K (dC, dI) vwCl (lT cB cI cM) s) (t : Nat) (ht5 : 5 * t + 5 ≤ L) (ih : ∀ (n : Nat) (ns : Int32) (wd : Int64) (f : Nat → Int32), n ≤ 65536 → ∀ (H : Heap) (locs : List Loc), va_P (dC, dI) vwCl (lC h0 a0 a1 cB cI h1 b0 cM n ns wd f g n ns wd f) H → va_D (fun q : Nat => s.heap.size ≤ q) (lC h0 a0 a1 cB cI h1 b0 cM n ns wd f g n ns wd f) → va_S (fun q : Nat => s.heap.size ≤ q) s.heap H locs → ∀ ls : Array Slot, lv_has ls 4 [(0, .ref b), (1, .ref h0), (2, .ref h1), (3, .int (nI (5 * (t + 1))))] → W p l e room_1 s m #[Value.ref b] below meth c H locs 5 131337 (lw_Z below #[Value.ref b] s) (F0 m 18 ls [])) : ∀ (n : Nat) (ns : Int32) (wd : Int64) (f : Nat → Int32), n ≤ 65536 → ∀ (H : Heap) (locs : List Loc), va_P (dC, dI) vwCl (lC h0 a0 a1 cB cI h1 b0 cM n ns wd f g n ns wd f) H → va_D (fun q : Nat => s.heap.size ≤ q) (lC h0 a0 a1 cB cI h1 b0 cM n ns wd f g n ns wd f) → va_S (fun q : Nat => s.heap.size ≤ q) s.heap H locs → ∀ ls : Array Slot, lv_has ls 4 [(0, .ref b), (1, .ref h0), (2, .ref h1), (3, .int (nI (5 * (t))))] → W p l e room_1 s m #[Value.ref b] below meth c H locs 5 131337 (lw_Z below #[Value.ref b] s) (F0 m 236 ls []) := by
  obtain ⟨hx, hb, hr, hml, hown0, hts0, hX, hbl, hlocks, hgv⟩ := id C0
  have hown : s.vm.findClass RL = some m.cls := hown0
  have hts : ∀ w ∈ wsL_law, w.before #[Value.ref b] s = true := fun w h => hts0 w (wsL_law_in w h)
  have htm : ∀ w ∈ wsLM, w.before #[Value.ref b] s = true := fun w h => hts0 w (wsLM_in w h)
  have hA : ∀ q : Nat, s.heap.size ≤ q → (fun q : Nat => s.heap.size ≤ q) q := fun _ h => h
  have hbA : ¬ (fun q : Nat => s.heap.size ≤ q) b := Nat.not_le.mpr hbl
  intro n ns wd f hn H locs hP hD hS ls hl
  refine lv_aload_n hx hb dL_law_236 rfl (lv_at hl 1 rfl) ?_
  refine lv_aload_n hx hb dL_law_237 rfl (lv_at hl 0 rfl) ?_
  refine lv_iload_n hx hb dL_law_238 rfl (lv_at hl 3 rfl) ?_
  refine lv_iconst (v := 1) hx hb dL_law_239 (by decide) ?_
  refine lv_iadd hx hb dL_law_240 ?_
  refine q_ti (y := nI (5 * t + 1)) (nI_add _ 1) ?_
  refine q_sld (j := 5 * t + 1) hx hb hX hbl hbA hS rfl (by omega) (by omega) dL_law_241 ?_
  refine lv_aload_n hx hb dL_law_242 rfl (lv_at hl 0 rfl) ?_
  refine lv_iload_n hx hb dL_law_243 rfl (lv_at hl 3 rfl) ?_
  refine lv_iconst (v := 2) hx hb dL_law_244 (by decide) ?_
  refine lv_iadd hx hb dL_law_245 ?_
  refine q_ti (y := nI (5 * t + 2)) (nI_add _ 2) ?_
  refine q_sld (j := 5 * t + 2) hx hb hX hbl hbA hS rfl (by omega) (by omega) dL_law_246 ?_
  have hPc := hP.sub (ws' := xC h0 a0 a1 cB cI (n) (ns) (wd) (f) g) [0, 1, 2] rfl
  have hKc := hK.sub (tys' := xT cB cI) [0, 1] rfl
  have hDc := hD.sub (ws' := xC h0 a0 a1 cB cI (n) (ns) (wd) (f) g) [0, 1, 2] (by decide) rfl
  have hFc := va_free (wc := xC h0 a0 a1 cB cI (n) (ns) (wd) (f) g) hD hS hA [0, 1, 2] rfl
  refine va_calli (va_runV (As := [.int (xs (5 * t + 1)), .int (xs (5 * t + 2))]) (rest := []) ⟨hx, hb, hml, hown, hts⟩ (c_X_again l dC dI h0 a0 a1 cB cI H.size (n) (ns) (wd) (f) g (xs (5 * t + 1)) (xs (5 * t + 2)) (hn)) (cwV 2 hts gL_law_X0_again rfl rfl rfl (by decide +kernel) ⟨Nat.le_of_ble_eq_true rfl, Nat.le_of_ble_eq_true rfl⟩) (xi_pre hPc hKc hDc _) rfl rfl hl.1 rfl (lv_room (Nat.le_of_ble_eq_true rfl)) dL_law_247 ⟨Nat.le_of_ble_eq_true rfl, Nat.le_of_ble_eq_true rfl⟩) hS (fun q _ h => hFc q h) hFc (fun rr u tt H1 locs ht hvm hw hB hz1 hk1 hS => ?_)
  obtain ⟨u1, u2⟩ := u
  obtain ⟨hr1, hu1, hu2⟩ := hw
  dsimp only at hu1 hu2
  subst hu1 hu2 hr1
  obtain ⟨hP1, -, hD1⟩ := hB
  rw [ht] at hP1
  obtain ⟨hP, hD⟩ := va_join (wr := mC h1 b0 cM (n) (ns) (wd) (f)) (w1 := xC h0 a0 a1 cB cI (ag_n (n) (xs (5 * t + 1)) (xs (5 * t + 2))) (ns) (wd) (ag_F (n) (f) (xs (5 * t + 1)) (xs (5 * t + 2))) g) hP hD [0, 1, 2] [3, 4] rfl rfl (by decide) (by decide) hk1 hFc hP1 hD1
  have hP := hP.sub (ws' := lC h0 a0 a1 cB cI h1 b0 cM (ag_n (n) (xs (5 * t + 1)) (xs (5 * t + 2))) (ns) (wd) (ag_F (n) (f) (xs (5 * t + 1)) (xs (5 * t + 2))) g (n) (ns) (wd) (f)) [2, 3, 4, 0, 1] rfl
  have hD := hD.sub (ws' := lC h0 a0 a1 cB cI h1 b0 cM (ag_n (n) (xs (5 * t + 1)) (xs (5 * t + 2))) (ns) (wd) (ag_F (n) (f) (xs (5 * t + 1)) (xs (5 * t + 2))) g (n) (ns) (wd) (f)) [2, 3, 4, 0, 1] (by decide) rfl
  generalize H1 = H at hP hS ⊢
  refine lv_aload_n hx hb dL_law_250 rfl (lv_at hl 2 rfl) ?_
  refine lv_aload_n hx hb dL_law_251 rfl (lv_at hl 0 rfl) ?_
  refine lv_iload_n hx hb dL_law_252 rfl (lv_at hl 3 rfl) ?_
  refine lv_iconst (v := 1) hx hb dL_law_253 (by decide) ?_
  refine lv_iadd hx hb dL_law_254 ?_
  refine q_ti (y := nI (5 * t + 1)) (nI_add _ 1) ?_
  refine q_sld (j := 5 * t + 1) hx hb hX hbl hbA hS rfl (by omega) (by omega) dL_law_255 ?_
  refine lv_aload_n hx hb dL_law_256 rfl (lv_at hl 0 rfl) ?_
  refine lv_iload_n hx hb dL_law_257 rfl (lv_at hl 3 rfl) ?_
  refine lv_iconst (v := 2) hx hb dL_law_258 (by decide) ?_
  refine lv_iadd hx hb dL_law_259 ?_
  refine q_ti (y := nI (5 * t + 2)) (nI_add _ 2) ?_
  refine q_sld (j := 5 * t + 2) hx hb hX hbl hbA hS rfl (by omega) (by omega) dL_law_260 ?_
  have hPc := hP.sub (ws' := mC h1 b0 cM (n) (ns) (wd) (f)) [3, 4] rfl
  have hKc := hK.sub (tys' := mT cM) [2] rfl
  have hDc := hD.sub (ws' := mC h1 b0 cM (n) (ns) (wd) (f)) [3, 4] (by decide) rfl
  have hFc := va_free (wc := mC h1 b0 cM (n) (ns) (wd) (f)) hD hS hA [3, 4] rfl
  refine va_calli (va_runV (As := [.int (xs (5 * t + 1)), .int (xs (5 * t + 2))]) (rest := [.int (ag_ok (n) (xs (5 * t + 1)) (xs (5 * t + 2)))]) ⟨hx, hb, hml, hown, htm⟩ (c_M_again l dC dI h1 b0 cM H.size (n) (ns) (wd) (f) (xs (5 * t + 1)) (xs (5 * t + 2)) (hn)) (cwV 2 htm gL_law_X1_again rfl rfl rfl (by decide +kernel) ⟨Nat.le_of_ble_eq_true rfl, Nat.le_of_ble_eq_true rfl⟩) (mi_pre hPc hKc hDc _) rfl rfl hl.1 rfl (lv_room (Nat.le_of_ble_eq_true rfl)) dL_law_261 ⟨Nat.le_of_ble_eq_true rfl, Nat.le_of_ble_eq_true rfl⟩) hS (fun q _ h => hFc q h) hFc (fun rr u tt H1 locs ht hvm hw hB hz1 hk1 hS => ?_)
  obtain ⟨u1, u2⟩ := u
  obtain ⟨hr1, hu1, hu2⟩ := hw
  dsimp only at hu1 hu2
  subst hu1 hu2 hr1
  obtain ⟨hP1, -, hD1⟩ := hB
  rw [ht] at hP1
  obtain ⟨hP, hD⟩ := va_join (wr := xC h0 a0 a1 cB cI (ag_n (n) (xs (5 * t + 1)) (xs (5 * t + 2))) (ns) (wd) (ag_F (n) (f) (xs (5 * t + 1)) (xs (5 * t + 2))) g) (w1 := mC h1 b0 cM (ag_n (n) (xs (5 * t + 1)) (xs (5 * t + 2))) (ns) (wd) (ag_F (n) (f) (xs (5 * t + 1)) (xs (5 * t + 2)))) hP hD [3, 4] [0, 1, 2] rfl rfl (by decide) (by decide) hk1 hFc hP1 hD1
  have hP := hP.sub (ws' := lC h0 a0 a1 cB cI h1 b0 cM (ag_n (n) (xs (5 * t + 1)) (xs (5 * t + 2))) (ns) (wd) (ag_F (n) (f) (xs (5 * t + 1)) (xs (5 * t + 2))) g (ag_n (n) (xs (5 * t + 1)) (xs (5 * t + 2))) (ns) (wd) (ag_F (n) (f) (xs (5 * t + 1)) (xs (5 * t + 2)))) [0, 1, 2, 3, 4] rfl
  have hD := hD.sub (ws' := lC h0 a0 a1 cB cI h1 b0 cM (ag_n (n) (xs (5 * t + 1)) (xs (5 * t + 2))) (ns) (wd) (ag_F (n) (f) (xs (5 * t + 1)) (xs (5 * t + 2))) g (ag_n (n) (xs (5 * t + 1)) (xs (5 * t + 2))) (ns) (wd) (ag_F (n) (f) (xs (5 * t + 1)) (xs (5 * t + 2)))) [0, 1, 2, 3, 4] (by decide) rfl
  generalize H1 = H at hP hS ⊢
  refine lv_icmp_eq (tgt := 746) hx hb dL_law_264 (by decide) (fun c_264 => ?_) (fun c_264 => absurd rfl c_264)
  refine lv_iinc (v := nI (5 * (t + 1))) (lv' := [(3, .int (nI (5 * (t + 1)))), (0, .ref b), (1, .ref h0), (2, .ref h1)]) hx hb dL_law_746 hl (k := 3) rfl (by rw [show 5 * (t + 1) = 5 * t + 5 by omega]; exact nI_add _ 5) (by decide) rfl (fun ls hl => ?_)
  refine lv_goto (tgt := 18) hx hb dL_law_749 (by decide) ?_
  exact ih (ag_n (n) (xs (5 * t + 1)) (xs (5 * t + 2))) (ns) (wd) (ag_F (n) (f) (xs (5 * t + 1)) (xs (5 * t + 2))) (ag_le (hn)) _ _ hP hD hS ls (lv_sub hl [1, 2, 3, 0] rfl)
set_option maxHeartbeats 4000000 in
set_option maxRecDepth 100000 in
theorem law_case3 {p : Program} {l : Launch} {e : Env} {s : State} {m : MethodId} {below : List Frame} {meth : Method} {c : Code} {b L : Nat} {xs : Nat → Int32} (hL : L ≤ 2560) (C0 : lw_At p s m meth c b L xs) {dC : Nat → ClassId} {dI : Nat → Nat → Nat} {h0 a0 a1 : Nat} {cB cI : ClassId} {h1 b0 : Nat} {cM : ClassId} {g : Nat → Int32} (hg : ∀ i, i < 256 → g i = cr_it cr_r 8 (nI i)) (hK : va_K (dC, dI) vwCl (lT cB cI cM) s) (t : Nat) (ht5 : 5 * t + 5 ≤ L) (ih : ∀ (n : Nat) (ns : Int32) (wd : Int64) (f : Nat → Int32), n ≤ 65536 → ∀ (H : Heap) (locs : List Loc), va_P (dC, dI) vwCl (lC h0 a0 a1 cB cI h1 b0 cM n ns wd f g n ns wd f) H → va_D (fun q : Nat => s.heap.size ≤ q) (lC h0 a0 a1 cB cI h1 b0 cM n ns wd f g n ns wd f) → va_S (fun q : Nat => s.heap.size ≤ q) s.heap H locs → ∀ ls : Array Slot, lv_has ls 4 [(0, .ref b), (1, .ref h0), (2, .ref h1), (3, .int (nI (5 * (t + 1))))] → W p l e room_1 s m #[Value.ref b] below meth c H locs 5 131337 (lw_Z below #[Value.ref b] s) (F0 m 18 ls [])) : ∀ (n : Nat) (ns : Int32) (wd : Int64) (f : Nat → Int32), n ≤ 65536 → ∀ (H : Heap) (locs : List Loc), va_P (dC, dI) vwCl (lC h0 a0 a1 cB cI h1 b0 cM n ns wd f g n ns wd f) H → va_D (fun q : Nat => s.heap.size ≤ q) (lC h0 a0 a1 cB cI h1 b0 cM n ns wd f g n ns wd f) → va_S (fun q : Nat => s.heap.size ≤ q) s.heap H locs → ∀ ls : Array Slot, lv_has ls 4 [(0, .ref b), (1, .ref h0), (2, .ref h1), (3, .int (nI (5 * (t))))] → W p l e room_1 s m #[Value.ref b] below meth c H locs 5 131337 (lw_Z below #[Value.ref b] s) (F0 m 269 ls []) := by
  obtain ⟨hx, hb, hr, hml, hown0, hts0, hX, hbl, hlocks, hgv⟩ := id C0
  have hown : s.vm.findClass RL = some m.cls := hown0
  have hts : ∀ w ∈ wsL_law, w.before #[Value.ref b] s = true := fun w h => hts0 w (wsL_law_in w h)
  have htm : ∀ w ∈ wsLM, w.before #[Value.ref b] s = true := fun w h => hts0 w (wsLM_in w h)
  have hA : ∀ q : Nat, s.heap.size ≤ q → (fun q : Nat => s.heap.size ≤ q) q := fun _ h => h
  have hbA : ¬ (fun q : Nat => s.heap.size ≤ q) b := Nat.not_le.mpr hbl
  intro n ns wd f hn H locs hP hD hS ls hl
  refine lv_aload_n hx hb dL_law_269 rfl (lv_at hl 1 rfl) ?_
  have hPc := hP.sub (ws' := xC h0 a0 a1 cB cI (n) (ns) (wd) (f) g) [0, 1, 2] rfl
  have hKc := hK.sub (tys' := xT cB cI) [0, 1] rfl
  refine q_V (As := []) (rest := []) ⟨hx, hb, hml, hown, hts⟩ (c_X_size l dC dI h0 a0 a1 cB cI (n) (ns) (wd) (f) g) (cwV 0 hts gL_law_X0_size rfl rfl rfl (by decide +kernel) ⟨Nat.le_of_ble_eq_true rfl, Nat.le_of_ble_eq_true rfl⟩) (xw_pre hPc hKc _) rfl hl.1 rfl (Nat.le_of_ble_eq_true rfl) dL_law_270 ⟨Nat.le_of_ble_eq_true rfl, Nat.le_of_ble_eq_true rfl⟩ ?_
  refine lv_aload_n hx hb dL_law_273 rfl (lv_at hl 2 rfl) ?_
  have hPc := hP.sub (ws' := mC h1 b0 cM (n) (ns) (wd) (f)) [3, 4] rfl
  have hKc := hK.sub (tys' := mT cM) [2] rfl
  refine q_V (As := []) (rest := [.int ((nI n))]) ⟨hx, hb, hml, hown, htm⟩ (c_M_size l dC dI h1 b0 cM (n) (ns) (wd) (f)) (cwV 0 htm gL_law_X1_size rfl rfl rfl (by decide +kernel) ⟨Nat.le_of_ble_eq_true rfl, Nat.le_of_ble_eq_true rfl⟩) (mw_pre hPc hKc _) rfl hl.1 rfl (Nat.le_of_ble_eq_true rfl) dL_law_274 ⟨Nat.le_of_ble_eq_true rfl, Nat.le_of_ble_eq_true rfl⟩ ?_
  refine lv_icmp_eq (tgt := 746) hx hb dL_law_277 (by decide) (fun c_277 => ?_) (fun c_277 => absurd rfl c_277)
  refine lv_iinc (v := nI (5 * (t + 1))) (lv' := [(3, .int (nI (5 * (t + 1)))), (0, .ref b), (1, .ref h0), (2, .ref h1)]) hx hb dL_law_746 hl (k := 3) rfl (by rw [show 5 * (t + 1) = 5 * t + 5 by omega]; exact nI_add _ 5) (by decide) rfl (fun ls hl => ?_)
  refine lv_goto (tgt := 18) hx hb dL_law_749 (by decide) ?_
  exact ih (n) (ns) (wd) (f) (hn) _ _ hP hD hS ls (lv_sub hl [1, 2, 3, 0] rfl)
set_option maxHeartbeats 4000000 in
set_option maxRecDepth 100000 in
theorem law_case4 {p : Program} {l : Launch} {e : Env} {s : State} {m : MethodId} {below : List Frame} {meth : Method} {c : Code} {b L : Nat} {xs : Nat → Int32} (hL : L ≤ 2560) (C0 : lw_At p s m meth c b L xs) {dC : Nat → ClassId} {dI : Nat → Nat → Nat} {h0 a0 a1 : Nat} {cB cI : ClassId} {h1 b0 : Nat} {cM : ClassId} {g : Nat → Int32} (hg : ∀ i, i < 256 → g i = cr_it cr_r 8 (nI i)) (hK : va_K (dC, dI) vwCl (lT cB cI cM) s) (t : Nat) (ht5 : 5 * t + 5 ≤ L) (ih : ∀ (n : Nat) (ns : Int32) (wd : Int64) (f : Nat → Int32), n ≤ 65536 → ∀ (H : Heap) (locs : List Loc), va_P (dC, dI) vwCl (lC h0 a0 a1 cB cI h1 b0 cM n ns wd f g n ns wd f) H → va_D (fun q : Nat => s.heap.size ≤ q) (lC h0 a0 a1 cB cI h1 b0 cM n ns wd f g n ns wd f) → va_S (fun q : Nat => s.heap.size ≤ q) s.heap H locs → ∀ ls : Array Slot, lv_has ls 4 [(0, .ref b), (1, .ref h0), (2, .ref h1), (3, .int (nI (5 * (t + 1))))] → W p l e room_1 s m #[Value.ref b] below meth c H locs 5 131337 (lw_Z below #[Value.ref b] s) (F0 m 18 ls [])) : ∀ (n : Nat) (ns : Int32) (wd : Int64) (f : Nat → Int32), n ≤ 65536 → ∀ (H : Heap) (locs : List Loc), va_P (dC, dI) vwCl (lC h0 a0 a1 cB cI h1 b0 cM n ns wd f g n ns wd f) H → va_D (fun q : Nat => s.heap.size ≤ q) (lC h0 a0 a1 cB cI h1 b0 cM n ns wd f g n ns wd f) → va_S (fun q : Nat => s.heap.size ≤ q) s.heap H locs → ∀ ls : Array Slot, lv_has ls 4 [(0, .ref b), (1, .ref h0), (2, .ref h1), (3, .int (nI (5 * (t))))] → W p l e room_1 s m #[Value.ref b] below meth c H locs 5 131337 (lw_Z below #[Value.ref b] s) (F0 m 282 ls []) := by
  obtain ⟨hx, hb, hr, hml, hown0, hts0, hX, hbl, hlocks, hgv⟩ := id C0
  have hown : s.vm.findClass RL = some m.cls := hown0
  have hts : ∀ w ∈ wsL_law, w.before #[Value.ref b] s = true := fun w h => hts0 w (wsL_law_in w h)
  have htm : ∀ w ∈ wsLM, w.before #[Value.ref b] s = true := fun w h => hts0 w (wsLM_in w h)
  have hA : ∀ q : Nat, s.heap.size ≤ q → (fun q : Nat => s.heap.size ≤ q) q := fun _ h => h
  have hbA : ¬ (fun q : Nat => s.heap.size ≤ q) b := Nat.not_le.mpr hbl
  intro n ns wd f hn H locs hP hD hS ls hl
  refine lv_aload_n hx hb dL_law_282 rfl (lv_at hl 1 rfl) ?_
  refine lv_aload_n hx hb dL_law_283 rfl (lv_at hl 0 rfl) ?_
  refine lv_iload_n hx hb dL_law_284 rfl (lv_at hl 3 rfl) ?_
  refine lv_iconst (v := 1) hx hb dL_law_285 (by decide) ?_
  refine lv_iadd hx hb dL_law_286 ?_
  refine q_ti (y := nI (5 * t + 1)) (nI_add _ 1) ?_
  refine q_sld (j := 5 * t + 1) hx hb hX hbl hbA hS rfl (by omega) (by omega) dL_law_287 ?_
  have hPc := hP.sub (ws' := xC h0 a0 a1 cB cI (n) (ns) (wd) (f) g) [0, 1, 2] rfl
  have hKc := hK.sub (tys' := xT cB cI) [0, 1] rfl
  refine q_V (As := [.int (xs (5 * t + 1))]) (rest := []) ⟨hx, hb, hml, hown, hts⟩ (c_X_byteAt l dC dI h0 a0 a1 cB cI (n) (ns) (wd) (f) g (xs (5 * t + 1)) (hn)) (cwV 1 hts gL_law_X0_byteAt rfl rfl rfl (by decide +kernel) ⟨Nat.le_of_ble_eq_true rfl, Nat.le_of_ble_eq_true rfl⟩) (xw_pre hPc hKc _) rfl hl.1 rfl (Nat.le_of_ble_eq_true rfl) dL_law_288 ⟨Nat.le_of_ble_eq_true rfl, Nat.le_of_ble_eq_true rfl⟩ ?_
  refine lv_aload_n hx hb dL_law_291 rfl (lv_at hl 2 rfl) ?_
  refine lv_aload_n hx hb dL_law_292 rfl (lv_at hl 0 rfl) ?_
  refine lv_iload_n hx hb dL_law_293 rfl (lv_at hl 3 rfl) ?_
  refine lv_iconst (v := 1) hx hb dL_law_294 (by decide) ?_
  refine lv_iadd hx hb dL_law_295 ?_
  refine q_ti (y := nI (5 * t + 1)) (nI_add _ 1) ?_
  refine q_sld (j := 5 * t + 1) hx hb hX hbl hbA hS rfl (by omega) (by omega) dL_law_296 ?_
  have hPc := hP.sub (ws' := mC h1 b0 cM (n) (ns) (wd) (f)) [3, 4] rfl
  have hKc := hK.sub (tys' := mT cM) [2] rfl
  refine q_V (As := [.int (xs (5 * t + 1))]) (rest := [.int ((by_at n f (xs (5 * t + 1))))]) ⟨hx, hb, hml, hown, htm⟩ (c_M_byteAt l dC dI h1 b0 cM (n) (ns) (wd) (f) (xs (5 * t + 1)) (hn)) (cwV 1 htm gL_law_X1_byteAt rfl rfl rfl (by decide +kernel) ⟨Nat.le_of_ble_eq_true rfl, Nat.le_of_ble_eq_true rfl⟩) (mw_pre hPc hKc _) rfl hl.1 rfl (Nat.le_of_ble_eq_true rfl) dL_law_297 ⟨Nat.le_of_ble_eq_true rfl, Nat.le_of_ble_eq_true rfl⟩ ?_
  refine lv_icmp_eq (tgt := 746) hx hb dL_law_300 (by decide) (fun c_300 => ?_) (fun c_300 => absurd rfl c_300)
  refine lv_iinc (v := nI (5 * (t + 1))) (lv' := [(3, .int (nI (5 * (t + 1)))), (0, .ref b), (1, .ref h0), (2, .ref h1)]) hx hb dL_law_746 hl (k := 3) rfl (by rw [show 5 * (t + 1) = 5 * t + 5 by omega]; exact nI_add _ 5) (by decide) rfl (fun ls hl => ?_)
  refine lv_goto (tgt := 18) hx hb dL_law_749 (by decide) ?_
  exact ih (n) (ns) (wd) (f) (hn) _ _ hP hD hS ls (lv_sub hl [1, 2, 3, 0] rfl)
set_option maxHeartbeats 4000000 in
set_option maxRecDepth 100000 in
theorem law_case5 {p : Program} {l : Launch} {e : Env} {s : State} {m : MethodId} {below : List Frame} {meth : Method} {c : Code} {b L : Nat} {xs : Nat → Int32} (hL : L ≤ 2560) (C0 : lw_At p s m meth c b L xs) {dC : Nat → ClassId} {dI : Nat → Nat → Nat} {h0 a0 a1 : Nat} {cB cI : ClassId} {h1 b0 : Nat} {cM : ClassId} {g : Nat → Int32} (hg : ∀ i, i < 256 → g i = cr_it cr_r 8 (nI i)) (hK : va_K (dC, dI) vwCl (lT cB cI cM) s) (t : Nat) (ht5 : 5 * t + 5 ≤ L) (ih : ∀ (n : Nat) (ns : Int32) (wd : Int64) (f : Nat → Int32), n ≤ 65536 → ∀ (H : Heap) (locs : List Loc), va_P (dC, dI) vwCl (lC h0 a0 a1 cB cI h1 b0 cM n ns wd f g n ns wd f) H → va_D (fun q : Nat => s.heap.size ≤ q) (lC h0 a0 a1 cB cI h1 b0 cM n ns wd f g n ns wd f) → va_S (fun q : Nat => s.heap.size ≤ q) s.heap H locs → ∀ ls : Array Slot, lv_has ls 4 [(0, .ref b), (1, .ref h0), (2, .ref h1), (3, .int (nI (5 * (t + 1))))] → W p l e room_1 s m #[Value.ref b] below meth c H locs 5 131337 (lw_Z below #[Value.ref b] s) (F0 m 18 ls [])) : ∀ (n : Nat) (ns : Int32) (wd : Int64) (f : Nat → Int32), n ≤ 65536 → ∀ (H : Heap) (locs : List Loc), va_P (dC, dI) vwCl (lC h0 a0 a1 cB cI h1 b0 cM n ns wd f g n ns wd f) H → va_D (fun q : Nat => s.heap.size ≤ q) (lC h0 a0 a1 cB cI h1 b0 cM n ns wd f g n ns wd f) → va_S (fun q : Nat => s.heap.size ≤ q) s.heap H locs → ∀ ls : Array Slot, lv_has ls 4 [(0, .ref b), (1, .ref h0), (2, .ref h1), (3, .int (nI (5 * (t))))] → W p l e room_1 s m #[Value.ref b] below meth c H locs 5 131337 (lw_Z below #[Value.ref b] s) (F0 m 305 ls []) := by
  obtain ⟨hx, hb, hr, hml, hown0, hts0, hX, hbl, hlocks, hgv⟩ := id C0
  have hown : s.vm.findClass RL = some m.cls := hown0
  have hts : ∀ w ∈ wsL_law, w.before #[Value.ref b] s = true := fun w h => hts0 w (wsL_law_in w h)
  have htm : ∀ w ∈ wsLM, w.before #[Value.ref b] s = true := fun w h => hts0 w (wsLM_in w h)
  have hA : ∀ q : Nat, s.heap.size ≤ q → (fun q : Nat => s.heap.size ≤ q) q := fun _ h => h
  have hbA : ¬ (fun q : Nat => s.heap.size ≤ q) b := Nat.not_le.mpr hbl
  intro n ns wd f hn H locs hP hD hS ls hl
  refine lv_aload_n hx hb dL_law_305 rfl (lv_at hl 1 rfl) ?_
  have hPc := hP.sub (ws' := xC h0 a0 a1 cB cI (n) (ns) (wd) (f) g) [0, 1, 2] rfl
  have hKc := hK.sub (tys' := xT cB cI) [0, 1] rfl
  refine q_V (As := []) (rest := []) ⟨hx, hb, hml, hown, hts⟩ (c_X_narrow l dC dI h0 a0 a1 cB cI (n) (ns) (wd) (f) g (hn)) (cwV 0 hts gL_law_X0_narrow rfl rfl rfl (by decide +kernel) ⟨Nat.le_of_ble_eq_true rfl, Nat.le_of_ble_eq_true rfl⟩) (xw_pre hPc hKc _) rfl hl.1 rfl (Nat.le_of_ble_eq_true rfl) dL_law_306 ⟨Nat.le_of_ble_eq_true rfl, Nat.le_of_ble_eq_true rfl⟩ ?_
  refine lv_aload_n hx hb dL_law_309 rfl (lv_at hl 2 rfl) ?_
  have hPc := hP.sub (ws' := mC h1 b0 cM (n) (ns) (wd) (f)) [3, 4] rfl
  have hKc := hK.sub (tys' := mT cM) [2] rfl
  refine q_V (As := []) (rest := [.int ((na_sum f 0 n ns))]) ⟨hx, hb, hml, hown, htm⟩ (c_M_narrow l dC dI h1 b0 cM (n) (ns) (wd) (f) (hn)) (cwV 0 htm gL_law_X1_narrow rfl rfl rfl (by decide +kernel) ⟨Nat.le_of_ble_eq_true rfl, Nat.le_of_ble_eq_true rfl⟩) (mw_pre hPc hKc _) rfl hl.1 rfl (Nat.le_of_ble_eq_true rfl) dL_law_310 ⟨Nat.le_of_ble_eq_true rfl, Nat.le_of_ble_eq_true rfl⟩ ?_
  refine lv_icmp_eq (tgt := 746) hx hb dL_law_313 (by decide) (fun c_313 => ?_) (fun c_313 => absurd rfl c_313)
  refine lv_iinc (v := nI (5 * (t + 1))) (lv' := [(3, .int (nI (5 * (t + 1)))), (0, .ref b), (1, .ref h0), (2, .ref h1)]) hx hb dL_law_746 hl (k := 3) rfl (by rw [show 5 * (t + 1) = 5 * t + 5 by omega]; exact nI_add _ 5) (by decide) rfl (fun ls hl => ?_)
  refine lv_goto (tgt := 18) hx hb dL_law_749 (by decide) ?_
  exact ih (n) (ns) (wd) (f) (hn) _ _ hP hD hS ls (lv_sub hl [1, 2, 3, 0] rfl)
