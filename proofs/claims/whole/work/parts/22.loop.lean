set_option maxHeartbeats 4000000 in
set_option maxRecDepth 100000 in
theorem law_loop {p : Program} {l : Launch} {e : Env} {s : State} {m : MethodId} {below : List Frame} {meth : Method} {c : Code} {b L : Nat} {xs : Nat → Int32} (hL : L ≤ 2560) (C0 : lw_At p s m meth c b L xs) {dC : Nat → ClassId} {dI : Nat → Nat → Nat} {h0 a0 a1 : Nat} {cB cI : ClassId} {h1 b0 : Nat} {cM : ClassId} {g : Nat → Int32} (hg : ∀ i, i < 256 → g i = cr_it cr_r 8 (nI i)) (hK : va_K (dC, dI) vwCl (lT cB cI cM) s) : ∀ (d t : Nat), L ≤ 5 * t + d → 5 * t ≤ L → ∀ (n : Nat) (ns : Int32) (wd : Int64) (f : Nat → Int32), n ≤ 65536 → ∀ (H : Heap) (locs : List Loc), va_P (dC, dI) vwCl (lC h0 a0 a1 cB cI h1 b0 cM n ns wd f g n ns wd f) H → va_D (fun q : Nat => s.heap.size ≤ q) (lC h0 a0 a1 cB cI h1 b0 cM n ns wd f g n ns wd f) → va_S (fun q : Nat => s.heap.size ≤ q) s.heap H locs → ∀ ls : Array Slot, lv_has ls 4 [(0, .ref b), (1, .ref h0), (2, .ref h1), (3, .int (nI (5 * (t))))] → W p l e room_1 s m #[Value.ref b] below meth c H locs 5 131337 (lw_Z below #[Value.ref b] s) (F0 m 18 ls []) := by
  obtain ⟨hx, hb, hr, hml, hown0, hts0, hX, hbl, hlocks, hgv⟩ := id C0
  have hown : s.vm.findClass RL = some m.cls := hown0
  have hts : ∀ w ∈ wsL_law, w.before #[Value.ref b] s = true := fun w h => hts0 w (wsL_law_in w h)
  have htm : ∀ w ∈ wsLM, w.before #[Value.ref b] s = true := fun w h => hts0 w (wsLM_in w h)
  have hA : ∀ q : Nat, s.heap.size ≤ q → (fun q : Nat => s.heap.size ≤ q) q := fun _ h => h
  have hbA : ¬ (fun q : Nat => s.heap.size ≤ q) b := Nat.not_le.mpr hbl
  intro d
  induction d with
  | zero =>
    intro t hd ht n ns wd f hn H locs hP hD hS ls hl
    refine lv_iload_n hx hb dL_law_18 rfl (lv_at hl 3 rfl) ?_
    refine lv_aload_n hx hb dL_law_19 rfl (lv_at hl 0 rfl) ?_
    refine va_slen hx hb hX hbl hbA hS dL_law_20 ?_
    refine lv_iconst (v := 5) hx hb dL_law_21 (by decide) ?_
    refine lv_isub hx hb dL_law_22 ?_
    refine lv_icmp_gt (tgt := 752) hx hb dL_law_23 (by decide) (fun c_23 => ?_) (fun c_23 => ?_)
    · refine lv_iconst (v := 1) hx hb dL_law_752 (by decide) ?_
      refine va_forget hS.2.2 ?_
      refine W.widen (k := 600000) (n := 7302250) (by omega) (by omega) ?_
      exact lw_ret hx hb hr hlocks dL_law_753
    · exact absurd (law_gt (by omega) (by omega) (by omega)) c_23
  | succ d ih =>
    intro t hd ht n ns wd f hn H locs hP hD hS ls hl
    refine lv_iload_n hx hb dL_law_18 rfl (lv_at hl 3 rfl) ?_
    refine lv_aload_n hx hb dL_law_19 rfl (lv_at hl 0 rfl) ?_
    refine va_slen hx hb hX hbl hbA hS dL_law_20 ?_
    refine lv_iconst (v := 5) hx hb dL_law_21 (by decide) ?_
    refine lv_isub hx hb dL_law_22 ?_
    refine lv_icmp_gt (tgt := 752) hx hb dL_law_23 (by decide) (fun c_23 => ?_) (fun c_23 => ?_)
    · refine lv_iconst (v := 1) hx hb dL_law_752 (by decide) ?_
      refine va_forget hS.2.2 ?_
      refine W.widen (k := 600000) (n := 7302250) (by omega) (by omega) ?_
      exact lw_ret hx hb hr hlocks dL_law_753
    · have ht5 : 5 * t + 5 ≤ L := law_le (by omega) (by omega) c_23
      refine lv_aload_n hx hb dL_law_26 rfl (lv_at hl 0 rfl) ?_
      refine lv_iload_n hx hb dL_law_27 rfl (lv_at hl 3 rfl) ?_
      refine q_sld (j := 5 * t) hx hb hX hbl hbA hS rfl (by omega) (by omega) dL_law_28 ?_
      refine lv_bipush (v := 15) hx hb dL_law_29 (by decide) ?_
      refine lv_iand hx hb dL_law_31 ?_
      obtain ⟨v, hv, ev⟩ := pk_andE (xs (5 * t)) (m := 15) 4 (by decide)
      refine q_ti (y := nI v) ev ?_
      have ih := ih (t + 1) (by omega) (by omega)
      have hv16 : v = 0 ∨ v = 1 ∨ v = 2 ∨ v = 3 ∨ v = 4 ∨ v = 5 ∨ v = 6 ∨ v = 7 ∨ v = 8 ∨ v = 9 ∨ v = 10 ∨ v = 11 ∨ v = 12 ∨ v = 13 ∨ v = 14 ∨ v = 15 := by omega
      rcases hv16 with rfl | rfl | rfl | rfl | rfl | rfl | rfl | rfl | rfl | rfl | rfl | rfl | rfl | rfl | rfl | rfl
      · refine lv_tableIn (off := 80) (tgt := 112) hx hb dL_law_32 (by decide) (by decide) (by decide) (by decide) ?_
        exact law_case0 hL C0 hg hK t ht5 ih n ns wd f hn _ _ hP hD hS ls hl
      · refine lv_tableIn (off := 141) (tgt := 173) hx hb dL_law_32 (by decide) (by decide) (by decide) (by decide) ?_
        exact law_case1 hL C0 hg hK t ht5 ih n ns wd f hn _ _ hP hD hS ls hl
      · refine lv_tableIn (off := 204) (tgt := 236) hx hb dL_law_32 (by decide) (by decide) (by decide) (by decide) ?_
        exact law_case2 hL C0 hg hK t ht5 ih n ns wd f hn _ _ hP hD hS ls hl
      · refine lv_tableIn (off := 237) (tgt := 269) hx hb dL_law_32 (by decide) (by decide) (by decide) (by decide) ?_
        exact law_case3 hL C0 hg hK t ht5 ih n ns wd f hn _ _ hP hD hS ls hl
      · refine lv_tableIn (off := 250) (tgt := 282) hx hb dL_law_32 (by decide) (by decide) (by decide) (by decide) ?_
        exact law_case4 hL C0 hg hK t ht5 ih n ns wd f hn _ _ hP hD hS ls hl
      · refine lv_tableIn (off := 273) (tgt := 305) hx hb dL_law_32 (by decide) (by decide) (by decide) (by decide) ?_
        exact law_case5 hL C0 hg hK t ht5 ih n ns wd f hn _ _ hP hD hS ls hl
      · refine lv_tableIn (off := 286) (tgt := 318) hx hb dL_law_32 (by decide) (by decide) (by decide) (by decide) ?_
        exact law_case6 hL C0 hg hK t ht5 ih n ns wd f hn _ _ hP hD hS ls hl
      · refine lv_tableIn (off := 300) (tgt := 332) hx hb dL_law_32 (by decide) (by decide) (by decide) (by decide) ?_
        exact law_case7 hL C0 hg hK t ht5 ih n ns wd f hn _ _ hP hD hS ls hl
      · refine lv_tableIn (off := 313) (tgt := 345) hx hb dL_law_32 (by decide) (by decide) (by decide) (by decide) ?_
        exact law_case8 hL C0 hg hK t ht5 ih n ns wd f hn _ _ hP hD hS ls hl
      · refine lv_tableIn (off := 356) (tgt := 388) hx hb dL_law_32 (by decide) (by decide) (by decide) (by decide) ?_
        exact law_case9 hL C0 hg hK t ht5 ih n ns wd f hn _ _ hP hD hS ls hl
      · refine lv_tableIn (off := 430) (tgt := 462) hx hb dL_law_32 (by decide) (by decide) (by decide) (by decide) ?_
        exact law_case10 hL C0 hg hK t ht5 ih n ns wd f hn _ _ hP hD hS ls hl
      · refine lv_tableIn (off := 463) (tgt := 495) hx hb dL_law_32 (by decide) (by decide) (by decide) (by decide) ?_
        exact law_case11 hL C0 hg hK t ht5 ih n ns wd f hn _ _ hP hD hS ls hl
      · refine lv_tableIn (off := 512) (tgt := 544) hx hb dL_law_32 (by decide) (by decide) (by decide) (by decide) ?_
        exact law_case12 hL C0 hg hK t ht5 ih n ns wd f hn _ _ hP hD hS ls hl
      · refine lv_tableIn (off := 585) (tgt := 617) hx hb dL_law_32 (by decide) (by decide) (by decide) (by decide) ?_
        exact law_case13 hL C0 hg hK t ht5 ih n ns wd f hn _ _ hP hD hS ls hl
      · refine lv_tableIn (off := 658) (tgt := 690) hx hb dL_law_32 (by decide) (by decide) (by decide) (by decide) ?_
        exact law_case14 hL C0 hg hK t ht5 ih n ns wd f hn _ _ hP hD hS ls hl
      · refine lv_tableIn (off := 681) (tgt := 713) hx hb dL_law_32 (by decide) (by decide) (by decide) (by decide) ?_
        exact law_case15 hL C0 hg hK t ht5 ih n ns wd f hn _ _ hP hD hS ls hl
