/-! rows for the methods that write -/
section QW
variable {p : Program} {l : Launch} {e : Env} {R : Room} {s : State} {m : MethodId} {args : Array Value} {below : List Frame} {meth : Method} {c : Code} {H H0 : Heap} {locs : List Loc} {cells slots : Nat} {Q : State → Prop}
variable {cc : ByteArray} {pc : Nat} {ls : Array Slot} {rest : List Value} {D : va_G} {cl : List vw_C} {A : Nat → Prop} {a : Nat} {tys : List (ClassId × FieldType)} {wd : va_W}
theorem q_bast (hexec : p.tables.exec = Jvm.exec) (hb : c.code = cc) (hK : va_K D cl tys s) (hP : va_P D cl wd H) (hD : va_D A wd) (hS : va_S A H0 H locs) (q0 t0 : Nat) {cA : ClassId} {nn : Nat} {f : Nat → Int32} (ha : wd[q0]? = some (a, .inl (cA, nn, .inl f))) (ht : tys[t0]? = some (cA, .byte)) {i x y : Int32} {j : Nat} (hi : i = nI j) (hj : j < nn) (hn : nn < 2 ^ 31) (hy : vp_nar .byte x = y) (hdg : decode cc pc = .ok (.bastore, 1))
    (kk : ∀ (H1 : Heap) (locs1 : List Loc), va_P D cl (wd.set q0 (a, .inl (cA, nn, .inl (upd f j y)))) H1 → va_D A (wd.set q0 (a, .inl (cA, nn, .inl (upd f j y)))) → va_S A H0 H1 locs1 → W p l e R s m args below meth c H1 locs1 cells slots Q (F0 m (pc + 1) ls rest)) : W p l e R s m args below meth c H locs cells slots Q (F0 m pc ls (.int x :: .int i :: .ref a :: rest)) := by
  subst hi
  subst hy
  refine va_bast hexec hb hK hP hD hS q0 t0 ha ht (vp_in_nI hj hn) hdg (fun H1 locs1 h1 h2 h3 => ?_)
  rw [nI_clamp (by omega)] at h1 h2
  exact kk H1 locs1 h1 h2 h3
theorem q_iast (hexec : p.tables.exec = Jvm.exec) (hb : c.code = cc) (hK : va_K D cl tys s) (hP : va_P D cl wd H) (hD : va_D A wd) (hS : va_S A H0 H locs) (q0 t0 : Nat) {cA : ClassId} {nn : Nat} {f : Nat → Int32} (ha : wd[q0]? = some (a, .inl (cA, nn, .inl f))) (ht : tys[t0]? = some (cA, .int)) {i x : Int32} {j : Nat} (hi : i = nI j) (hj : j < nn) (hn : nn < 2 ^ 31) (hdg : decode cc pc = .ok (.iastore, 1))
    (kk : ∀ (H1 : Heap) (locs1 : List Loc), va_P D cl (wd.set q0 (a, .inl (cA, nn, .inl (upd f j x)))) H1 → va_D A (wd.set q0 (a, .inl (cA, nn, .inl (upd f j x)))) → va_S A H0 H1 locs1 → W p l e R s m args below meth c H1 locs1 cells slots Q (F0 m (pc + 1) ls rest)) : W p l e R s m args below meth c H locs cells slots Q (F0 m pc ls (.int x :: .int i :: .ref a :: rest)) := by
  subst hi
  refine va_iast hexec hb hK hP hD hS q0 t0 ha ht (vp_in_nI hj hn) hdg (fun H1 locs1 h1 h2 h3 => ?_)
  rw [nI_clamp (by omega)] at h1 h2
  exact kk H1 locs1 h1 h2 h3
end QW
def xI (dC : Nat → ClassId) (dI : Nat → Nat → Nat) (h0 a0 a1 : Nat) (cB cI : ClassId) (sz n : Nat) (ns : Int32) (wd : Int64) (f g : Nat → Int32) : State → Prop := fun U => U.heap.size = sz ∧ va_P (dC, dI) vwCl (xC h0 a0 a1 cB cI n ns wd f g) U.heap ∧ va_K (dC, dI) vwCl (xT cB cI) U ∧ va_D (fun _ => True) (xC h0 a0 a1 cB cI n ns wd f g)
def xO (dC : Nat → ClassId) (dI : Nat → Nat → Nat) (A : Nat → Prop) (h0 a0 a1 : Nat) (cB cI : ClassId) (n : Nat) (ns : Int32) (wd : Int64) (f g : Nat → Int32) : State → Prop := fun t => va_P (dC, dI) vwCl (xC h0 a0 a1 cB cI n ns wd f g) t.heap ∧ va_K (dC, dI) vwCl (xT cB cI) t ∧ va_D A (xC h0 a0 a1 cB cI n ns wd f g)
def mI (dC : Nat → ClassId) (dI : Nat → Nat → Nat) (h0 a0 : Nat) (cB : ClassId) (sz n : Nat) (ns : Int32) (wd : Int64) (f : Nat → Int32) : State → Prop := fun U => U.heap.size = sz ∧ va_P (dC, dI) vwCl (mC h0 a0 cB n ns wd f) U.heap ∧ va_K (dC, dI) vwCl (mT cB) U ∧ va_D (fun _ => True) (mC h0 a0 cB n ns wd f)
def mO (dC : Nat → ClassId) (dI : Nat → Nat → Nat) (A : Nat → Prop) (h0 a0 : Nat) (cB : ClassId) (n : Nat) (ns : Int32) (wd : Int64) (f : Nat → Int32) : State → Prop := fun t => va_P (dC, dI) vwCl (mC h0 a0 cB n ns wd f) t.heap ∧ va_K (dC, dI) vwCl (mT cB) t ∧ va_D A (mC h0 a0 cB n ns wd f)
theorem xi_pre {dC : Nat → ClassId} {dI : Nat → Nat → Nat} {A : Nat → Prop} {h0 a0 a1 : Nat} {cB cI : ClassId} {n : Nat} {ns : Int32} {wd : Int64} {f g : Nat → Int32} {s : State} {H : Heap} (hP : va_P (dC, dI) vwCl (xC h0 a0 a1 cB cI n ns wd f g) H) (hK : va_K (dC, dI) vwCl (xT cB cI) s) (hD : va_D A (xC h0 a0 a1 cB cI n ns wd f g)) (As : List Value) : PreV s H RX0 h0 (va_Pc (.ref h0 :: As) (xI dC dI h0 a0 a1 cB cI H.size n ns wd f g)) As :=
  ⟨fun a U g mk q => ⟨q.1, q.2.1, q.2.2.1, va_K.moved (u := U) (U := U.calling g mk a) (Vm.Alike.refl U.vm) q.2.2.2.1, q.2.2.2.2⟩, va_recv hK hP (ci := 0) (q0 := 0) rfl rfl, fun U hU hW => ⟨rfl, by rw [hU], by rw [hU]; exact hP, va_K.moved hW.alike hK, hD.weaken (fun _ _ _ _ => trivial)⟩⟩
theorem mi_pre {dC : Nat → ClassId} {dI : Nat → Nat → Nat} {A : Nat → Prop} {h0 a0 : Nat} {cB : ClassId} {n : Nat} {ns : Int32} {wd : Int64} {f : Nat → Int32} {s : State} {H : Heap} (hP : va_P (dC, dI) vwCl (mC h0 a0 cB n ns wd f) H) (hK : va_K (dC, dI) vwCl (mT cB) s) (hD : va_D A (mC h0 a0 cB n ns wd f)) (As : List Value) : PreV s H RX1 h0 (va_Pc (.ref h0 :: As) (mI dC dI h0 a0 cB H.size n ns wd f)) As :=
  ⟨fun a U g mk q => ⟨q.1, q.2.1, q.2.2.1, va_K.moved (u := U) (U := U.calling g mk a) (Vm.Alike.refl U.vm) q.2.2.2.1, q.2.2.2.2⟩, va_recv hK hP (ci := 1) (q0 := 0) rfl rfl, fun U hU hW => ⟨rfl, by rw [hU], by rw [hU]; exact hP, va_K.moved hW.alike hK, hD.weaken (fun _ _ _ _ => trivial)⟩⟩
/-! what write and again make of the row -/
def wr_b (ev : Int64) (j : Nat) : Int32 := (sh_U ev (56 - 8 * nI j)).toInt32.toInt8.toInt32
def wr_f (f : Nat → Int32) (n : Nat) (ev : Int64) : Nat → Nat → Int32
  | 0 => f
  | j + 1 => upd (wr_f f n ev j) (n + j) (wr_b ev j)
def wr_ok (n : Nat) (k : Int32) : Int32 := if k < 1 then 0 else if 8 < k then 0 else if 65536 < n + k.toNatClampNeg then 0 else 1
def wr_n (n : Nat) (k : Int32) : Nat := if wr_ok n k = 0 then n else n + k.toNatClampNeg
def wr_F (n : Nat) (f : Nat → Int32) (ev : Int64) (k : Int32) : Nat → Int32 := if wr_ok n k = 0 then f else wr_f f n ev k.toNatClampNeg
theorem wr_no {n : Nat} {k : Int32} (f : Nat → Int32) (ev : Int64) (h : wr_ok n k = 0) : (0 : Int32) = wr_ok n k ∧ n = wr_n n k ∧ f = wr_F n f ev k := by
  unfold wr_n wr_F
  rw [if_pos h, if_pos h, h]
  exact ⟨rfl, rfl, rfl⟩
theorem wr_k {k : Int32} (h1 : ¬ k < 1) (h2 : ¬ 8 < k) : ∃ K : Nat, k = nI K ∧ 1 ≤ K ∧ K ≤ 8 := by
  have h3 : ¬ k < 0 := fun q => h1 (by
    rw [Int32.lt_iff_toInt_lt] at q ⊢
    have e0 : (0 : Int32).toInt = 0 := rfl
    have e1 : (1 : Int32).toInt = 1 := rfl
    omega)
  obtain ⟨K, hK, rfl⟩ := nI_of h3
  rw [show (1 : Int32) = nI 1 from rfl, nI_ltI hK (by omega)] at h1
  rw [show (8 : Int32) = nI 8 from rfl, nI_ltI (by omega) hK] at h2
  exact ⟨K, rfl, by omega, by omega⟩
theorem wr_big {n : Nat} {K : Nat} (h1 : 1 ≤ K) (h8 : K ≤ 8) (h : 65536 < n + K) : wr_ok n (nI K) = 0 := by
  unfold wr_ok
  rw [nI_clamp (by omega), if_pos h]
  simp only [ite_self]
theorem wr_yes {n : Nat} {K : Nat} (f : Nat → Int32) (ev : Int64) (h1 : 1 ≤ K) (h8 : K ≤ 8) (h : n + K ≤ 65536) : (1 : Int32) = wr_ok n (nI K) ∧ n + K = wr_n n (nI K) ∧ wr_f f n ev K = wr_F n f ev (nI K) := by
  have e : wr_ok n (nI K) = 1 := by
    unfold wr_ok
    rw [if_neg (show ¬ nI K < 1 from nI_nlt (b := 1) h1 (by omega)), if_neg (show ¬ 8 < nI K from nI_nlt (a := 8) h8 (by omega)), nI_clamp (by omega), if_neg (by omega)]
  unfold wr_n wr_F
  rw [e, if_neg (by decide), if_neg (by decide), nI_clamp (by omega)]
  exact ⟨rfl, rfl, rfl⟩
def ag_f (f : Nat → Int32) (n w : Nat) : Nat → Nat → Int32
  | 0 => f
  | j + 1 => upd (ag_f f n w j) (n + j) (ag_f f n w j (n + j - w)).toInt8.toInt32
def ag_ok (n : Nat) (x y : Int32) : Int32 := if x < 1 then 0 else if nI n < x then 0 else if y < 0 then 0 else if 65536 < n + x.toNatClampNeg * y.toNatClampNeg then 0 else 1
def ag_n (n : Nat) (x y : Int32) : Nat := if ag_ok n x y = 0 then n else n + x.toNatClampNeg * y.toNatClampNeg
def ag_F (n : Nat) (f : Nat → Int32) (x y : Int32) : Nat → Int32 := if ag_ok n x y = 0 then f else ag_f f n x.toNatClampNeg (x.toNatClampNeg * y.toNatClampNeg)
theorem ag_no {n : Nat} {x y : Int32} (f : Nat → Int32) (h : ag_ok n x y = 0) : (0 : Int32) = ag_ok n x y ∧ n = ag_n n x y ∧ f = ag_F n f x y := by
  unfold ag_n ag_F
  rw [if_pos h, if_pos h, h]
  exact ⟨rfl, rfl, rfl⟩
theorem ag_k {n : Nat} {x y : Int32} (hn : n ≤ 65536) (h1 : ¬ x < 1) (h2 : ¬ nI n < x) (h3 : ¬ y < 0) : ∃ w k : Nat, x = nI w ∧ y = nI k ∧ 1 ≤ w ∧ w ≤ n ∧ k < 2 ^ 31 := by
  have h4 : ¬ x < 0 := fun q => h1 (by
    rw [Int32.lt_iff_toInt_lt] at q ⊢
    have e0 : (0 : Int32).toInt = 0 := rfl
    have e1 : (1 : Int32).toInt = 1 := rfl
    omega)
  obtain ⟨w, hw, rfl⟩ := nI_of h4
  obtain ⟨k, hk, rfl⟩ := nI_of h3
  rw [show (1 : Int32) = nI 1 from rfl, nI_ltI hw (by omega)] at h1
  rw [nI_ltI (by omega) hw] at h2
  exact ⟨w, k, rfl, rfl, by omega, by omega, hk⟩
theorem ag_big {n w k : Nat} (hw : w < 2 ^ 31) (hk : k < 2 ^ 31) (h : 65536 < n + w * k) : ag_ok n (nI w) (nI k) = 0 := by
  unfold ag_ok
  rw [nI_clamp hw, nI_clamp hk, if_pos h]
  simp only [ite_self]
theorem ag_yes {n w k : Nat} (f : Nat → Int32) (h1 : 1 ≤ w) (h2 : w ≤ n) (hk : k < 2 ^ 31) (hn : n ≤ 65536) (h : n + w * k ≤ 65536) : (1 : Int32) = ag_ok n (nI w) (nI k) ∧ n + w * k = ag_n n (nI w) (nI k) ∧ ag_f f n w (w * k) = ag_F n f (nI w) (nI k) := by
  have e : ag_ok n (nI w) (nI k) = 1 := by
    unfold ag_ok
    rw [if_neg (show ¬ nI w < 1 from nI_nlt (b := 1) h1 (by omega)), if_neg (nI_nlt h2 (by omega)), if_neg (nI_pos hk), nI_clamp (by omega), nI_clamp hk, if_neg (by omega)]
  unfold ag_n ag_F
  rw [e, if_neg (by decide), if_neg (by decide), nI_clamp (by omega), nI_clamp hk]
  exact ⟨rfl, rfl, rfl⟩
theorem ag_byte (y : Int32) : (y &&& 255).toInt8.toInt32 = y.toInt8.toInt32 := by
  congr 1
  apply Int8.toBitVec_inj.mp
  rw [Int32.toBitVec_toInt8, Int32.toBitVec_toInt8, Int32.toBitVec_and]
  apply BitVec.eq_of_getLsbD_eq
  intro i hi
  have h : bt 255 i = true := by rw [b_255, decide_eq_true hi]
  rw [BitVec.getLsbD_signExtend, BitVec.getLsbD_signExtend, BitVec.getLsbD_and]
  simp only [show i < 32 by omega, if_pos]
  unfold bt at h
  rw [h, Bool.and_true]
theorem ag_mul {w k : Nat} (hw : w ≤ 65536) (hk : k < 2 ^ 31) : (nI w).toInt64 * (nI k).toInt64 = lN (w * k) := by
  rw [nI_l (by omega), nI_l hk, lN_mul]
theorem ag_lt {w k : Nat} (hw : w ≤ 65536) (hk : k < 2 ^ 31) : w * k < 2 ^ 62 := by
  have h := Nat.mul_le_mul hw (Nat.le_of_lt hk)
  omega
