/-! THE CLAIM OUT OF ONE WALK OF THE LAW'S BODY. Your part is whole_start (and what it stands on); all else here is the same for every law, but numbers. -/
def R_law : String := "StreamSumsLaw"
def lw_P (b : Addr) (xs : List Int32) (args : Array Value) (s : State) : Prop := args = #[.ref b] ∧ s.IntsAt b xs ∧ xs.length ≤ 2560 ∧ (Jvm.Cond.and given_1 narrow_1).before args s = true
def lw_Q (_ : Array Value) (s : State) (o : Outcome) (t : State) : Prop := o = .returned (some (.int 1)) ∧ Framed s o t [] 600000 7302250
def lw_Z (below : List Frame) (a : Array Value) (s : State) : State → Prop := fun t => ∃ o, t.status = .running ∧ Ended t below o ∧ lw_Q a s o t
/-- the law's own end, with 1 on the stack, nothing written that was there before, its room as the claim has it -/
theorem lw_ret {p : Program} {l : Launch} {e : Env} {s : State} {m : MethodId} {below : List Frame} {meth : Method} {c : Code} {b : Nat} (hx : p.tables.exec = Jvm.exec) (hb : c.code = code) (hr : meth.sig.returnType = ret) (hlocks : meth.locks = false) {pc : Nat} {H : Heap} {ls : Array Slot} (hdg : decode code pc = .ok (.ireturn, 1)) : W p l e room_1 s m #[Value.ref b] below meth c H [] 600000 7302250 (lw_Z below #[Value.ref b] s) (F0 m pc ls [.int 1]) := by
  intro T hT X
  obtain ⟨fs, hret, hrun, hended, hW, hframe⟩ := X.leave (v := some (.int 1)) (hlocks := hlocks) (fun h => by rw [hr] at h; cases h)
  have hmeth' : T.vm.method? m = some meth := X.method'
  refine ⟨T.setFrames fs, ?_, .returned (some (.int 1)), hrun, hended, rfl, ⟨_, rfl⟩, hW, hframe⟩
  jvm_step X.here [X.here.top, hx, hb, hdg, hmeth', hr, ret, narrow_b1]
  (try refine ⟨rfl, ?_⟩); (try refine ⟨rfl, ?_⟩)
  first | (intro acts; rw [hret _ acts rfl rfl rfl]) | rw [hret _ _ rfl rfl rfl]
  exact Steps.refl _
/-- what holds at the law's entry: the machine, the code, the tables' words (any of lw_tbl by 'hts w (by decide +kernel)'), the script of L ints xs at the cell b, what the Statement gives of the start (any of its parts by flat_of_before) -/
def lw_At (p : Program) (s : State) (m : MethodId) (meth : Method) (c : Code) (b L : Nat) (xs : Nat → Int32) : Prop :=
  p.tables.exec = Jvm.exec ∧ c.code = code ∧ meth.sig.returnType = ret ∧ c.maxLocals = 4 ∧ s.vm.findClass R_law = some m.cls ∧ (∀ w ∈ lw_tbl, w.before #[Value.ref b] s = true) ∧ va_X b L xs s s.heap ∧ b < s.heap.size ∧ meth.locks = false ∧ (Jvm.Cond.and given_1 narrow_1).before #[Value.ref b] s = true
def wsLM_n : List Cond := [Cond.initialized RX1, Cond.instantiable RX1 4, Cond.methodLink RL 12 yX1_init, Cond.instanceMethod yX1_init, Cond.methodLink RL 19 yX1_begin, Cond.instanceMethod yX1_begin, Cond.selects RX1 yX1_begin yX1_begin, Cond.methodLink RL 24 yX1_write, Cond.instanceMethod yX1_write, Cond.selects RX1 yX1_write yX1_write, Cond.methodLink RL 29 yX1_again, Cond.instanceMethod yX1_again, Cond.selects RX1 yX1_again yX1_again, Cond.methodLink RL 34 yX1_size, Cond.instanceMethod yX1_size, Cond.selects RX1 yX1_size yX1_size, Cond.methodLink RL 39 yX1_byteAt, Cond.instanceMethod yX1_byteAt, Cond.selects RX1 yX1_byteAt yX1_byteAt, Cond.methodLink RL 43 yX1_narrow, Cond.instanceMethod yX1_narrow, Cond.selects RX1 yX1_narrow yX1_narrow, Cond.methodLink RL 48 yX1_wide, Cond.instanceMethod yX1_wide, Cond.selects RX1 yX1_wide yX1_wide, Cond.methodLink RL 52 yX1_poly, Cond.instanceMethod yX1_poly, Cond.selects RX1 yX1_poly yX1_poly, Cond.methodLink RL 57 yX1_narrowOf, Cond.instanceMethod yX1_narrowOf, Cond.selects RX1 yX1_narrowOf yX1_narrowOf, Cond.methodLink RL 62 yX1_wideOf, Cond.instanceMethod yX1_wideOf, Cond.selects RX1 yX1_wideOf yX1_wideOf, Cond.methodLink RL 67 yX1_polyOf, Cond.instanceMethod yX1_polyOf, Cond.selects RX1 yX1_polyOf yX1_polyOf, Cond.methodLink RL 72 yX1_masked, Cond.instanceMethod yX1_masked, Cond.selects RX1 yX1_masked yX1_masked, Cond.methodLink RL 77 yX1_joined, Cond.instanceMethod yX1_joined, Cond.selects RX1 yX1_joined yX1_joined, Cond.methodLink RL 81 yX1_cut, Cond.instanceMethod yX1_cut, Cond.selects RX1 yX1_cut yX1_cut, Cond.methodLink RL 85 yX1_forged, Cond.instanceMethod yX1_forged, Cond.selects RX1 yX1_forged yX1_forged, Cond.methodLink RL 89 yX1_mended, Cond.instanceMethod yX1_mended, Cond.selects RX1 yX1_mended yX1_mended]
def wsLM_c : List Cond := [Cond.code yX1_init cX1_init 1 none, Cond.code yX1_begin cX1_begin 4 none, Cond.code yX1_write cX1_write 5 (some .boolean), Cond.code yX1_again cX1_again 5 (some .boolean), Cond.code yX1_size cX1_size 1 (some .int), Cond.code yX1_byteAt cX1_byteAt 2 (some .int), Cond.code yX1_narrow cX1_narrow 1 (some .int), Cond.code yX1_wide cX1_wide 1 (some .long), Cond.code yX1_poly cX1_poly 1 (some .int), Cond.code yX1_narrowOf cX1_narrowOf 4 (some .int), Cond.code yX1_wideOf cX1_wideOf 5 (some .long), Cond.code yX1_polyOf cX1_polyOf 3 (some .int), Cond.code yX1_masked cX1_masked 3 (some .int), Cond.code yX1_joined cX1_joined 5 (some .int), Cond.code yX1_cut cX1_cut 5 (some .int), Cond.code yX1_forged cX1_forged 2 (some .int), Cond.code yX1_mended cX1_mended 5 (some .int)]
def wsLM : List Cond := wsLM_n ++ (wsLM_c ++ wsM)
set_option maxRecDepth 20000 in
theorem wsLM_in : ∀ w ∈ wsLM, w ∈ lw_tbl := fun w h => (goodIn_p wsLM [215, 234, 238, 242, 247, 251, 259, 291, 322, 283, 318, 337, 341, 346, 357, 367, 374, 29, 255, 360, 363, 370, 287, 311, 270, 274, 299, 350, 326, 332, 277, 263, 295, 353, 308, 305, 329] (by decide +kernel) (by decide +kernel) w h).1
theorem wsLM_m : ∀ w ∈ wsM, w ∈ wsLM := fun _ h => List.mem_append_right _ (List.mem_append_right _ h)
theorem wsLM_p {w : Cond} (h : w ∈ wsLM_n) : w ∈ wsLM := List.mem_append_left _ h
theorem wsLM_q {w : Cond} (h : w ∈ wsLM_c) : w ∈ wsLM := List.mem_append_right _ (List.mem_append_left _ h)
theorem gLM_init : GoodIn wsLM wsM_init := by
  intro w hw
  rcases List.mem_cons.mp hw with rfl | hw
  · exact ⟨wsLM_q (List.mem_of_getElem? (i := 0) rfl), Or.inl rfl⟩
  · exact ⟨wsLM_m w hw, good_of_word (List.all_eq_true.mp wsM_good w hw)⟩
theorem gL_law_X1_begin : GoodIn wsLM (wsV RL 19 RX1 yX1_begin wsM_begin) := gm_V wsLM_m (wsLM_p (by decide +kernel)) (wsLM_p (by decide +kernel)) (wsLM_p (by decide +kernel)) (wsLM_p (by decide +kernel)) (wsLM_q (List.mem_of_getElem? (i := 1) rfl))
theorem gL_law_X1_write : GoodIn wsLM (wsV RL 24 RX1 yX1_write wsM_write) := gm_V wsLM_m (wsLM_p (by decide +kernel)) (wsLM_p (by decide +kernel)) (wsLM_p (by decide +kernel)) (wsLM_p (by decide +kernel)) (wsLM_q (List.mem_of_getElem? (i := 2) rfl))
theorem gL_law_X1_again : GoodIn wsLM (wsV RL 29 RX1 yX1_again wsM_again) := gm_V wsLM_m (wsLM_p (by decide +kernel)) (wsLM_p (by decide +kernel)) (wsLM_p (by decide +kernel)) (wsLM_p (by decide +kernel)) (wsLM_q (List.mem_of_getElem? (i := 3) rfl))
theorem gL_law_X1_size : GoodIn wsLM (wsV RL 34 RX1 yX1_size wsM_size) := gm_V wsLM_m (wsLM_p (by decide +kernel)) (wsLM_p (by decide +kernel)) (wsLM_p (by decide +kernel)) (wsLM_p (by decide +kernel)) (wsLM_q (List.mem_of_getElem? (i := 4) rfl))
theorem gL_law_X1_byteAt : GoodIn wsLM (wsV RL 39 RX1 yX1_byteAt wsM_byteAt) := gm_V wsLM_m (wsLM_p (by decide +kernel)) (wsLM_p (by decide +kernel)) (wsLM_p (by decide +kernel)) (wsLM_p (by decide +kernel)) (wsLM_q (List.mem_of_getElem? (i := 5) rfl))
theorem gL_law_X1_narrow : GoodIn wsLM (wsV RL 43 RX1 yX1_narrow wsM_narrow) := gm_V wsLM_m (wsLM_p (by decide +kernel)) (wsLM_p (by decide +kernel)) (wsLM_p (by decide +kernel)) (wsLM_p (by decide +kernel)) (wsLM_q (List.mem_of_getElem? (i := 6) rfl))
theorem gL_law_X1_wide : GoodIn wsLM (wsV RL 48 RX1 yX1_wide wsM_wide) := gm_V wsLM_m (wsLM_p (by decide +kernel)) (wsLM_p (by decide +kernel)) (wsLM_p (by decide +kernel)) (wsLM_p (by decide +kernel)) (wsLM_q (List.mem_of_getElem? (i := 7) rfl))
theorem gL_law_X1_poly : GoodIn wsLM (wsV RL 52 RX1 yX1_poly wsM_poly) := gm_V wsLM_m (wsLM_p (by decide +kernel)) (wsLM_p (by decide +kernel)) (wsLM_p (by decide +kernel)) (wsLM_p (by decide +kernel)) (wsLM_q (List.mem_of_getElem? (i := 8) rfl))
theorem gL_law_X1_narrowOf : GoodIn wsLM (wsV RL 57 RX1 yX1_narrowOf wsM_narrowOf) := gm_V wsLM_m (wsLM_p (by decide +kernel)) (wsLM_p (by decide +kernel)) (wsLM_p (by decide +kernel)) (wsLM_p (by decide +kernel)) (wsLM_q (List.mem_of_getElem? (i := 9) rfl))
theorem gL_law_X1_wideOf : GoodIn wsLM (wsV RL 62 RX1 yX1_wideOf wsM_wideOf) := gm_V wsLM_m (wsLM_p (by decide +kernel)) (wsLM_p (by decide +kernel)) (wsLM_p (by decide +kernel)) (wsLM_p (by decide +kernel)) (wsLM_q (List.mem_of_getElem? (i := 10) rfl))
theorem gL_law_X1_polyOf : GoodIn wsLM (wsV RL 67 RX1 yX1_polyOf wsM_polyOf) := gm_V wsLM_m (wsLM_p (by decide +kernel)) (wsLM_p (by decide +kernel)) (wsLM_p (by decide +kernel)) (wsLM_p (by decide +kernel)) (wsLM_q (List.mem_of_getElem? (i := 11) rfl))
theorem gL_law_X1_masked : GoodIn wsLM (wsV RL 72 RX1 yX1_masked wsM_masked) := gm_V wsLM_m (wsLM_p (by decide +kernel)) (wsLM_p (by decide +kernel)) (wsLM_p (by decide +kernel)) (wsLM_p (by decide +kernel)) (wsLM_q (List.mem_of_getElem? (i := 12) rfl))
theorem gL_law_X1_joined : GoodIn wsLM (wsV RL 77 RX1 yX1_joined wsM_joined) := gm_V wsLM_m (wsLM_p (by decide +kernel)) (wsLM_p (by decide +kernel)) (wsLM_p (by decide +kernel)) (wsLM_p (by decide +kernel)) (wsLM_q (List.mem_of_getElem? (i := 13) rfl))
theorem gL_law_X1_cut : GoodIn wsLM (wsV RL 81 RX1 yX1_cut wsM_cut) := gm_V wsLM_m (wsLM_p (by decide +kernel)) (wsLM_p (by decide +kernel)) (wsLM_p (by decide +kernel)) (wsLM_p (by decide +kernel)) (wsLM_q (List.mem_of_getElem? (i := 14) rfl))
theorem gL_law_X1_forged : GoodIn wsLM (wsV RL 85 RX1 yX1_forged wsM_forged) := gm_V wsLM_m (wsLM_p (by decide +kernel)) (wsLM_p (by decide +kernel)) (wsLM_p (by decide +kernel)) (wsLM_p (by decide +kernel)) (wsLM_q (List.mem_of_getElem? (i := 15) rfl))
theorem gL_law_X1_mended : GoodIn wsLM (wsV RL 89 RX1 yX1_mended wsM_mended) := gm_V wsLM_m (wsLM_p (by decide +kernel)) (wsLM_p (by decide +kernel)) (wsLM_p (by decide +kernel)) (wsLM_p (by decide +kernel)) (wsLM_q (List.mem_of_getElem? (i := 16) rfl))
/-! the law's world and its own rows -/
abbrev lC (h0 a0 a1 : Nat) (cB cI : ClassId) (h1 b0 : Nat) (cM : ClassId) (n : Nat) (ns : Int32) (wd : Int64) (f g : Nat → Int32) (n2 : Nat) (ns2 : Int32) (wd2 : Int64) (f2 : Nat → Int32) : va_W := [(h0, .inr (0, [.ref a0, .ref a1, .int (nI n), .int ns, .long wd])), (a0, .inl (cB, 65536, .inl f)), (a1, .inl (cI, 256, .inl g)), (h1, .inr (1, [.ref b0, .int (nI n2), .int ns2, .long wd2])), (b0, .inl (cM, 65536, .inl f2))]
abbrev lT (cB cI cM : ClassId) : List (ClassId × FieldType) := [(cB, .byte), (cI, .int), (cM, .byte)]
theorem q_sld {p : Program} {l : Launch} {e : Env} {R : Room} {s : State} {m : MethodId} {args : Array Value} {below : List Frame} {meth : Method} {c : Code} {H H0 : Heap} {locs : List Loc} {cells slots : Nat} {Q : State → Prop} {cc : ByteArray} {pc : Nat} {ls : Array Slot} {rest : List Value} {A : Nat → Prop} (hexec : p.tables.exec = Jvm.exec) (hb : c.code = cc) {b L : Nat} {xs : Nat → Int32} (hX : va_X b L xs s H0) (hbl : b < H0.size) (hbA : ¬ A b) (hS : va_S A H0 H locs) {i : Int32} {j : Nat} (hi : i = nI j) (hj : j < L) (hL : L < 2 ^ 31) (hdg : decode cc pc = .ok (.iaload, 1))
    (kk : W p l e R s m args below meth c H locs cells slots Q (F0 m (pc + 1) ls (.int (xs j) :: rest))) : W p l e R s m args below meth c H locs cells slots Q (F0 m pc ls (.int i :: .ref b :: rest)) := by
  subst hi
  refine va_sld hexec hb hX hbl hbA hS (vp_in_nI hj hL) hdg ?_
  rw [nI_clamp (by omega)]
  exact kk
theorem wr_le {n : Nat} {k : Int32} (hn : n ≤ 65536) : wr_n n k ≤ 65536 := by
  unfold wr_n
  by_cases h : wr_ok n k = 0
  · rw [if_pos h]; exact hn
  · rw [if_neg h]
    unfold wr_ok at h
    by_cases h3 : 65536 < n + k.toNatClampNeg
    · rw [if_pos h3] at h
      exact absurd (by simp only [ite_self]) h
    · omega
theorem ag_le {n : Nat} {x y : Int32} (hn : n ≤ 65536) : ag_n n x y ≤ 65536 := by
  unfold ag_n
  by_cases h : ag_ok n x y = 0
  · rw [if_pos h]; exact hn
  · rw [if_neg h]
    unfold ag_ok at h
    by_cases h3 : 65536 < n + x.toNatClampNeg * y.toNatClampNeg
    · rw [if_pos h3] at h
      exact absurd (by simp only [ite_self]) h
    · omega
theorem law_gt {L t : Nat} (hL : L < 2 ^ 20) (h : L < 5 * t + 5) (ht : 5 * t < 2 ^ 20) : Int32.ofNat L - 5 < nI (5 * t) := by
  rw [Int32.lt_iff_toInt_lt, nI_toInt (by omega), show Int32.ofNat L - 5 = nI L - nI 5 from rfl, pk_sub_toInt (by omega) (by omega)]
  omega
theorem law_le {L t : Nat} (hL : L < 2 ^ 20) (ht : 5 * t < 2 ^ 20) (h : ¬ Int32.ofNat L - 5 < nI (5 * t)) : 5 * t + 5 ≤ L := by
  rw [Int32.lt_iff_toInt_lt, nI_toInt (by omega), show Int32.ofNat L - 5 = nI L - nI 5 from rfl, pk_sub_toInt (by omega) (by omega)] at h
  omega
theorem lw_k13 : Cond.constantLong RL 13 4294967295 ∈ lw_tbl := by decide +kernel
