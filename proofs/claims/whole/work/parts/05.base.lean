/-! the walk's own small rows -/
theorem q_lv {ls : Array Slot} {nL : Nat} {l l' : List (Nat × Value)} (h : lv_has ls nL l) (e : l = l') : lv_has ls nL l' := e ▸ h
section QQ
variable {p : Program} {l : Launch} {e : Env} {R : Room} {s : State} {m : MethodId} {args : Array Value} {below : List Frame} {meth : Method} {c : Code} {H : Heap} {locs : List Loc} {cells slots : Nat} {Q : State → Prop}
variable {cc bytes : ByteArray} {pc nL maxL index n : Nat} {ls : Array Slot} {rest st As : List Value} {Ts ws : List Cond} {own C : String} {y : MethodName} {ret : Option FieldType} {rm : Room} {Pc : Array Value → State → Prop} {r : Value} {b : Addr}
theorem q_ti {x : Int32} (y : Int32) (h : x = y) (k : W p l e R s m args below meth c H locs cells slots Q (F0 m pc ls (.int y :: rest))) : W p l e R s m args below meth c H locs cells slots Q (F0 m pc ls (.int x :: rest)) := by subst h; exact k
theorem q_tl {x : Int64} (y : Int64) (h : x = y) (k : W p l e R s m args below meth c H locs cells slots Q (F0 m pc ls (.long y :: rest))) : W p l e R s m args below meth c H locs cells slots Q (F0 m pc ls (.long x :: rest)) := by subst h; exact k
theorem q_S (S : CallFix p m c cc nL s args Ts own) (hM : Met l y ws rm (va_Pc As (fun _ => True)) (k2_QcV r) 0 0 (fun _ => False)) (cw : CallB R s args own index y bytes maxL ret ws rm 0 0 n ∧ (Cond.static y).before args s = true) (hn : As.length = n) (hsize : ls.size = nL) (hst : st = As.reverse ++ rest) (hW : (rest.map fun v => v.category).sum ≤ 8) (hdg : decode cc pc = .ok (.invokestatic index, 3)) (hf : cells ≤ R.cells ∧ slots ≤ R.slots) (kk : W p l e R s m args below meth c H locs cells slots Q (F0 m (pc + 3) ls (r :: rest))) : W p l e R s m args below meth c H locs cells slots Q (F0 m pc ls st) :=
  W.callV (W.runS (As := As) (rest := rest) (g := F0 m pc ls st) S hM cw ⟨fun _ _ _ _ q => q, fun _ _ _ => ⟨rfl, trivial⟩⟩ rfl hn hsize hst (lv_room hW) hdg hf) kk
theorem q_V (S : CallFix p m c cc nL s args Ts own) (hM : Met l y ws rm Pc (k2_QcV r) 0 0 (fun _ => False)) (cw : CallW R s args own C index y bytes maxL ret ws rm 0 0 n) (hp : PreV s H C b Pc As) (hn : As.length = n) (hsize : ls.size = nL) (hst : st = As.reverse ++ .ref b :: rest) (hW : (rest.map fun v => v.category).sum ≤ 8) (hdg : decode cc pc = .ok (.invokevirtual index, 3)) (hf : cells ≤ R.cells ∧ slots ≤ R.slots) (kk : W p l e R s m args below meth c H locs cells slots Q (F0 m (pc + 3) ls (r :: rest))) : W p l e R s m args below meth c H locs cells slots Q (F0 m pc ls st) :=
  W.callV (W.runV (As := As) (rest := rest) (g := F0 m pc ls st) S hM cw hp rfl hn hsize hst (lv_room hW) hdg hf) kk
variable {D : va_G} {cl : List vw_C} {tys : List (ClassId × FieldType)} {wd : va_W} {a : Nat}
theorem q_bald (hexec : p.tables.exec = Jvm.exec) (hb : c.code = cc) (hK : va_K D cl tys s) (hP : va_P D cl wd H) (q0 t0 : Nat) {cA : ClassId} {nn : Nat} {f : Nat → Int32} (ha : wd[q0]? = some (a, .inl (cA, nn, .inl f))) (ht : tys[t0]? = some (cA, .byte)) {i : Int32} {j : Nat} (hi : i = nI j) (hj : j < nn) (hn : nn < 2 ^ 31) (hdg : decode cc pc = .ok (.baload, 1))
    (kk : W p l e R s m args below meth c H locs cells slots Q (F0 m (pc + 1) ls (.int (f j) :: rest))) : W p l e R s m args below meth c H locs cells slots Q (F0 m pc ls (.int i :: .ref a :: rest)) := by
  subst hi
  refine va_bald hexec hb hK hP q0 t0 ha ht (vp_in_nI hj hn) hdg ?_
  rw [nI_clamp (by omega)]
  exact kk
theorem q_iald (hexec : p.tables.exec = Jvm.exec) (hb : c.code = cc) (hK : va_K D cl tys s) (hP : va_P D cl wd H) (q0 t0 : Nat) {cA : ClassId} {nn : Nat} {f : Nat → Int32} (ha : wd[q0]? = some (a, .inl (cA, nn, .inl f))) (ht : tys[t0]? = some (cA, .int)) {i : Int32} {j : Nat} (hi : i = nI j) (hj : j < nn) (hn : nn < 2 ^ 31) (hdg : decode cc pc = .ok (.iaload, 1))
    (kk : W p l e R s m args below meth c H locs cells slots Q (F0 m (pc + 1) ls (.int (f j) :: rest))) : W p l e R s m args below meth c H locs cells slots Q (F0 m pc ls (.int i :: .ref a :: rest)) := by
  subst hi
  refine va_iald hexec hb hK hP q0 t0 ha ht (vp_in_nI hj hn) hdg ?_
  rw [nI_clamp (by omega)]
  exact kk
end QQ
/-! the worlds: an object with its two rows, one of the reference with its row -/
abbrev xC (h0 a0 a1 : Nat) (cB cI : ClassId) (n : Nat) (ns : Int32) (wd : Int64) (f g : Nat → Int32) : va_W := [(h0, .inr (0, [.ref a0, .ref a1, .int (nI n), .int ns, .long wd])), (a0, .inl (cB, 65536, .inl f)), (a1, .inl (cI, 256, .inl g))]
abbrev xT (cB cI : ClassId) : List (ClassId × FieldType) := [(cB, .byte), (cI, .int)]
abbrev mC (h0 a0 : Nat) (cB : ClassId) (n : Nat) (ns : Int32) (wd : Int64) (f : Nat → Int32) : va_W := [(h0, .inr (1, [.ref a0, .int (nI n), .int ns, .long wd])), (a0, .inl (cB, 65536, .inl f))]
abbrev mT (cB : ClassId) : List (ClassId × FieldType) := [(cB, .byte)]
def xW (dC : Nat → ClassId) (dI : Nat → Nat → Nat) (h0 a0 a1 : Nat) (cB cI : ClassId) (n : Nat) (ns : Int32) (wd : Int64) (f g : Nat → Int32) : State → Prop := fun U => va_P (dC, dI) vwCl (xC h0 a0 a1 cB cI n ns wd f g) U.heap ∧ va_K (dC, dI) vwCl (xT cB cI) U
def mW (dC : Nat → ClassId) (dI : Nat → Nat → Nat) (h0 a0 : Nat) (cB : ClassId) (n : Nat) (ns : Int32) (wd : Int64) (f : Nat → Int32) : State → Prop := fun U => va_P (dC, dI) vwCl (mC h0 a0 cB n ns wd f) U.heap ∧ va_K (dC, dI) vwCl (mT cB) U
theorem xw_pre {dC : Nat → ClassId} {dI : Nat → Nat → Nat} {h0 a0 a1 : Nat} {cB cI : ClassId} {n : Nat} {ns : Int32} {wd : Int64} {f g : Nat → Int32} {s : State} {H : Heap} (hP : va_P (dC, dI) vwCl (xC h0 a0 a1 cB cI n ns wd f g) H) (hK : va_K (dC, dI) vwCl (xT cB cI) s) (As : List Value) : PreV s H RX0 h0 (va_Pc (.ref h0 :: As) (xW dC dI h0 a0 a1 cB cI n ns wd f g)) As :=
  ⟨fun a U g mk q => ⟨q.1, q.2.1, va_K.moved (u := U) (U := U.calling g mk a) (Vm.Alike.refl U.vm) q.2.2⟩, va_recv hK hP (ci := 0) (q0 := 0) rfl rfl, fun U hU hW => ⟨rfl, by rw [hU]; exact hP, va_K.moved hW.alike hK⟩⟩
theorem mw_pre {dC : Nat → ClassId} {dI : Nat → Nat → Nat} {h0 a0 : Nat} {cB : ClassId} {n : Nat} {ns : Int32} {wd : Int64} {f : Nat → Int32} {s : State} {H : Heap} (hP : va_P (dC, dI) vwCl (mC h0 a0 cB n ns wd f) H) (hK : va_K (dC, dI) vwCl (mT cB) s) (As : List Value) : PreV s H RX1 h0 (va_Pc (.ref h0 :: As) (mW dC dI h0 a0 cB n ns wd f)) As :=
  ⟨fun a U g mk q => ⟨q.1, q.2.1, va_K.moved (u := U) (U := U.calling g mk a) (Vm.Alike.refl U.vm) q.2.2⟩, va_recv hK hP (ci := 1) (q0 := 0) rfl rfl, fun U hU hW => ⟨rfl, by rw [hU]; exact hP, va_K.moved hW.alike hK⟩⟩
/-! one place, a part, where four bytes are -/
def by_at (n : Nat) (f : Nat → Int32) (k : Int32) : Int32 := if k < 0 then -1 else if nI n ≤ k then -1 else f k.toNatClampNeg &&& 255
theorem by_in {n : Nat} {f : Nat → Int32} {j : Nat} (hj : j < n) (hn : n < 2 ^ 31) : by_at n f (nI j) = f j &&& 255 := by
  unfold by_at
  rw [if_neg (nI_pos (by omega)), if_neg (nI_ge hj hn), nI_clamp (by omega)]
def pt_n (n : Nat) (x y : Int32) : Int32 := if x < 0 then 0 else if y < x then 0 else if nI n < y then 0 else 1
theorem pt_some {n : Nat} {x y : Int32} (hn : n ≤ 65536) (h : ¬ pt_n n x y = 0) : ∃ a b : Nat, x = nI a ∧ y = nI b ∧ a ≤ b ∧ b ≤ n := by
  unfold pt_n at h
  by_cases h1 : x < 0
  · rw [if_pos h1] at h; exact absurd rfl h
  · rw [if_neg h1] at h
    by_cases h2 : y < x
    · rw [if_pos h2] at h; exact absurd rfl h
    · rw [if_neg h2] at h
      by_cases h3 : nI n < y
      · rw [if_pos h3] at h; exact absurd rfl h
      · obtain ⟨a, ha, rfl⟩ := nI_of h1
        have h4 : ¬ y < 0 := fun q => h2 (by
          rw [Int32.lt_iff_toInt_lt] at q ⊢
          rw [nI_toInt ha]
          have : (0 : Int32).toInt = 0 := rfl
          omega)
        obtain ⟨b, hb, rfl⟩ := nI_of h4
        rw [nI_ltI hb ha] at h2
        rw [nI_ltI (by omega) hb] at h3
        exact ⟨a, b, rfl, rfl, by omega, by omega⟩
theorem me_some {n : Nat} {x : Int32} (hn : n ≤ 65536) (h0 : ¬ x < 0) (h : x ≤ nI n - 4) : ∃ k : Nat, x = nI k ∧ k + 4 ≤ n := by
  obtain ⟨k, hk, rfl⟩ := nI_of h0
  refine ⟨k, rfl, ?_⟩
  rw [Int32.le_iff_toInt_le, nI_toInt hk, show nI n - 4 = nI n - nI 4 from rfl, pk_sub_toInt (by omega) (by omega)] at h
  omega
/-! the answers of the public methods, one for both sides -/
def an_na (n : Nat) (f : Nat → Int32) (x y s : Int32) : Int32 := if pt_n n x y = 0 then na_sum f 0 0 s else na_sum f x.toNatClampNeg y.toNatClampNeg s
def an_wi (n : Nat) (f : Nat → Int32) (x y : Int32) (s : Int64) : Int64 := if pt_n n x y = 0 then wi_sum f 0 0 s else wi_sum f x.toNatClampNeg y.toNatClampNeg s
def an_po (n : Nat) (f : Nat → Int32) (x y : Int32) : Int32 := if pt_n n x y = 0 then 0 else cr_rg f x.toNatClampNeg (-1) (y.toNatClampNeg - x.toNatClampNeg) ^^^ (-1)
def an_ma (x b : Int32) : Int32 := if b = 0 then na_rt x 17 + (-1568478504) else na_rt (x - (-1568478504)) 15
def an_jo (a b : Int32) (n : Int64) : Int32 := cr_mul (cr_pw (cr_it cr_r 8 (-2147483648)) n.toBitVec.toNat) a ^^^ b
def an_cu (a b : Int32) (n : Int64) : Int32 := cr_mul (cr_pw (cr_it cr_b 8 (-2147483648)) n.toBitVec.toNat) (a ^^^ b)
def an_fo (n : Nat) (f : Nat → Int32) (sum : Int32) : Int32 := tu_m (cr_rg f 0 (-1) n ^^^ cr_it cr_b 32 (sum ^^^ (-1)))
def an_me (n : Nat) (f : Nat → Int32) (x sum : Int32) : Int32 := if x < 0 then 0 else if x ≤ nI n - 4 then tu_m (cr_rg f 0 (-1) x.toNatClampNeg ^^^ cr_it cr_b 32 (cr_bk f n (sum ^^^ (-1)) (n - (x.toNatClampNeg + 4)))) else 0
theorem cr_bitu (v : Int32) (k : Nat) (hk : k < 32) : sh_u v (nI k) &&& 1 = 0 ↔ bt v k = false := by
  rw [cr_bit0, bt_su k hk]; exact Iff.rfl
/-- a bit of a long, as the power loops read it -/
theorem lo_bit (x : Int64) (k : Nat) (hk : k < 64) : lg_cmp (sh_U x (nI k) &&& 1) 0 = 0 ↔ x.toBitVec.toNat / 2 ^ k % 2 = 0 := by
  rw [lg_cmp_eq]
  obtain ⟨N, hN, rfl⟩ := wb_of x
  rw [wb_tn hN]
  unfold sh_U
  rw [wb_bit hN hk]
  constructor
  · intro h
    have h1 : (lN (N / 2 ^ k % 2)).toBitVec.toNat = (0 : Int64).toBitVec.toNat := by rw [h]
    rw [wb_tn (by omega)] at h1
    exact h1
  · intro h
    rw [h]; rfl
theorem cr_r_t {r : Int32} (h : r &&& 1 = 0) : sh_u r 1 = cr_r r := by unfold cr_r; rw [if_pos h]
theorem cr_r_f {r : Int32} (h : ¬ r &&& 1 = 0) : sh_u r 1 ^^^ (-2097792136) = cr_r r := by unfold cr_r; rw [if_neg h]
theorem cr_b_t {r : Int32} (h : ¬ 0 ≤ r) : sh_l (r ^^^ (-2097792136)) 1 ||| 1 = cr_b r := by unfold cr_b; rw [if_pos (Int32.not_le.mp h)]
theorem cr_b_f {r : Int32} (h : 0 ≤ r) : sh_l r 1 = cr_b r := by unfold cr_b; rw [if_neg (Int32.not_lt.mpr h)]
theorem cr_ms_bit {u v : Int32} {j d : Nat} (hj : j + (d + 1) = 32) (h : ¬ sh_u v (nI d) &&& 1 = 0) : cr_ms u v j ^^^ cr_it cr_r j u = cr_ms u v (j + 1) := by
  have h1 : bt v (31 - j) = true := by
    rw [show 31 - j = d by omega]
    cases hb : bt v d
    · exact absurd ((cr_bitu v d (by omega)).mpr hb) h
    · rfl
  show _ = if bt v (31 - j) = true then _ else _
  rw [if_pos h1]
theorem cr_ms_nobit {u v : Int32} {j d : Nat} (hj : j + (d + 1) = 32) (h : sh_u v (nI d) &&& 1 = 0) : cr_ms u v j = cr_ms u v (j + 1) := by
  have h1 : ¬ bt v (31 - j) = true := by
    rw [show 31 - j = d by omega, (cr_bitu v d (by omega)).mp h]; decide
  show _ = if bt v (31 - j) = true then _ else _
  rw [if_neg h1]
theorem pw_sq (b : Int32) (j : Nat) : cr_mul (cr_pw b (2 ^ j)) (cr_pw b (2 ^ j)) = cr_pw b (2 ^ (j + 1)) := by
  rw [← cr_pw_add, show 2 ^ j + 2 ^ j = 2 ^ (j + 1) by rw [Nat.pow_succ]; omega]
theorem pw_bit {b : Int32} {ex : Int64} {j : Nat} (hj : j < 64) (h : ¬ lg_cmp (sh_U ex (nI j) &&& 1) 0 = 0) : cr_mul (cr_pw b (2 ^ j)) (cr_pw b (ex.toBitVec.toNat % 2 ^ j)) = cr_pw b (ex.toBitVec.toNat % 2 ^ (j + 1)) := by
  rw [lo_bit ex j hj] at h
  rw [← cr_pw_add, Nat.mod_pow_succ, show ex.toBitVec.toNat / 2 ^ j % 2 = 1 by omega, Nat.mul_one, Nat.add_comm]
theorem pw_nobit {b : Int32} {ex : Int64} {j : Nat} (hj : j < 64) (h : lg_cmp (sh_U ex (nI j) &&& 1) 0 = 0) : cr_pw b (ex.toBitVec.toNat % 2 ^ j) = cr_pw b (ex.toBitVec.toNat % 2 ^ (j + 1)) := by
  rw [lo_bit ex j hj] at h
  rw [Nat.mod_pow_succ, h, Nat.mul_zero, Nat.add_zero]
theorem pw_dbl (b : Int32) (k : Nat) : cr_mul (cr_pw b k) (cr_pw b k) = cr_pw b (2 * k) := by
  rw [← cr_pw_add, show k + k = 2 * k by omega]
theorem pw_half (N d : Nat) : N / 2 ^ (d + 1) = N / 2 ^ d / 2 := by rw [Nat.pow_succ, Nat.div_div_eq_div_mul]
theorem pw_dbit {b : Int32} {ex : Int64} {d : Nat} (hd : d < 64) (h : ¬ lg_cmp (sh_U ex (nI d) &&& 1) 0 = 0) : cr_mul (cr_pw b (2 * (ex.toBitVec.toNat / 2 ^ (d + 1)))) b = cr_pw b (ex.toBitVec.toNat / 2 ^ d) := by
  rw [lo_bit ex d hd] at h
  show cr_pw b (2 * (ex.toBitVec.toNat / 2 ^ (d + 1)) + 1) = _
  rw [pw_half, show 2 * (ex.toBitVec.toNat / 2 ^ d / 2) + 1 = ex.toBitVec.toNat / 2 ^ d by omega]
theorem pw_dnobit {b : Int32} {ex : Int64} {d : Nat} (hd : d < 64) (h : lg_cmp (sh_U ex (nI d) &&& 1) 0 = 0) : cr_pw b (2 * (ex.toBitVec.toNat / 2 ^ (d + 1))) = cr_pw b (ex.toBitVec.toNat / 2 ^ d) := by
  rw [lo_bit ex d hd] at h
  rw [pw_half, show 2 * (ex.toBitVec.toNat / 2 ^ d / 2) = ex.toBitVec.toNat / 2 ^ d by omega]
theorem xx_1 (a : Int32) : (a ^^^ (-1)) ^^^ (-1) = a := by rw [Int32.xor_assoc, Int32.xor_self, Int32.xor_zero]
theorem na_pc {a b : Nat} (hab : a ≤ b) : na_p a b + 4 * na_c a b ≤ b ∧ b < na_p a b + 4 * na_c a b + 4 ∧ a ≤ na_p a b ∧ na_c a b ≤ 3 := by
  unfold na_p na_c
  omega
theorem wi_pc {a b : Nat} (hab : a ≤ b) : wi_p a b + 8 * wi_c a b ≤ b ∧ b < wi_p a b + 8 * wi_c a b + 8 ∧ a ≤ wi_p a b ∧ wi_c a b ≤ 3 ∧ wi_p a b + 8 * wi_c a b + 4 * wi_d a b ≤ b ∧ b < wi_p a b + 8 * wi_c a b + 4 * wi_d a b + 4 := by
  unfold wi_p wi_c wi_d
  omega
theorem me_x {n k : Nat} {f : Nat → Int32} {sum : Int32} (hk : k + 4 ≤ n) (hn : n ≤ 65536) : tu_x (((cr_rg f 0 (-1) (k - 0) ^^^ (-1)) ^^^ (-1)) ^^^ cr_it cr_b 32 (an_cu sum (cr_rg f (k + 4) (-1) (n - (k + 4)) ^^^ (-1)) (lN (n - (k + 4))) ^^^ (-1))) = tu_m (cr_rg f 0 (-1) k ^^^ cr_it cr_b 32 (cr_bk f n (sum ^^^ (-1)) (n - (k + 4)))) := by
  have h := cr_cut_bk f n (n - (k + 4)) (by omega) sum
  rw [show n - (n - (k + 4)) = k + 4 by omega] at h
  unfold an_cu
  rw [tu_eq, xx_1, wb_tn (by omega), h]
  rfl
