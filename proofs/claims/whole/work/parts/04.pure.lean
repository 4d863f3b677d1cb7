/-! pasted from kit/laws/BITS.to-paste: the families bt and wb -/
def bt (x : Int32) (i : Nat) : Bool := x.toBitVec.getLsbD i
theorem b_ext {x y : Int32} (h : ∀ i, i < 32 → bt x i = bt y i) : x = y := Int32.toBitVec_inj.mp (BitVec.eq_of_getLsbD_eq (fun i hi => h i hi))
theorem b_or (x y : Int32) (i : Nat) : bt (x ||| y) i = (bt x i || bt y i) := by unfold bt; rw [Int32.toBitVec_or, BitVec.getLsbD_or]
theorem b_and (x y : Int32) (i : Nat) : bt (x &&& y) i = (bt x i && bt y i) := by unfold bt; rw [Int32.toBitVec_and, BitVec.getLsbD_and]
theorem b_xor (x y : Int32) (i : Nat) : bt (x ^^^ y) i = (bt x i ^^ bt y i) := by unfold bt; rw [Int32.toBitVec_xor, BitVec.getLsbD_xor]
theorem b_big {x : Int32} {i : Nat} (h : 32 ≤ i) : bt x i = false := BitVec.getLsbD_of_ge _ _ h
theorem b_255 (i : Nat) : bt 255 i = decide (i < 8) := by
  rcases Nat.lt_or_ge i 32 with h | h
  · exact (by decide +kernel : ∀ i, i < 32 → bt 255 i = decide (i < 8)) i h
  · rw [b_big h, decide_eq_false (by omega)]
theorem b_65535 (i : Nat) : bt 65535 i = decide (i < 16) := by
  rcases Nat.lt_or_ge i 32 with h | h
  · exact (by decide +kernel : ∀ i, i < 32 → bt 65535 i = decide (i < 16)) i h
  · rw [b_big h, decide_eq_false (by omega)]
theorem b_m1 : ∀ i, i < 32 → bt (-1) i = true := by decide +kernel
theorem b_0 (i : Nat) : bt 0 i = false := BitVec.getLsbD_zero
theorem s_l : ∀ n, n < 32 → ((nI n &&& 31).toBitVec.smod 32).toNat = n := by decide +kernel
theorem s_u : ∀ n, n < 32 → (((nI n).toUInt32 &&& Int32.toUInt32 31).toBitVec % 32).toNat = n := by decide +kernel
theorem b_shl (n : Nat) (hn : n < 32) (x : Int32) {i : Nat} (hi : i < 32) : bt (x <<< (nI n &&& 31)) i = (decide (n ≤ i) && bt x (i - n)) := by
  unfold bt
  rw [Int32.toBitVec_shiftLeft]
  show (x.toBitVec <<< ((nI n &&& 31).toBitVec.smod 32).toNat).getLsbD i = _
  rw [s_l n hn, BitVec.getLsbD_shiftLeft]
  rcases Nat.lt_or_ge i n with h | h
  · simp [h, Nat.not_le.mpr h]
  · simp [hi, h, Nat.not_lt.mpr h]
theorem b_ushr (n : Nat) (hn : n < 32) (x : Int32) (i : Nat) : bt ((x.toUInt32 >>> ((nI n).toUInt32 &&& Int32.toUInt32 31)).toInt32) i = bt x (n + i) := by
  show (x.toUInt32 >>> ((nI n).toUInt32 &&& Int32.toUInt32 31)).toBitVec.getLsbD i = x.toUInt32.toBitVec.getLsbD (n + i)
  rw [UInt32.toBitVec_shiftRight]
  show (x.toUInt32.toBitVec >>> (((nI n).toUInt32 &&& Int32.toUInt32 31).toBitVec % 32).toNat).getLsbD i = _
  rw [s_u n hn, BitVec.getLsbD_ushiftRight]
theorem b_sshr (n : Nat) (hn : n < 32) (x : Int32) {i : Nat} (hi : i < 32) : bt (x >>> (nI n &&& 31)) i = if n + i < 32 then bt x (n + i) else bt x 31 := by
  unfold bt
  rw [Int32.toBitVec_shiftRight]
  show (x.toBitVec.sshiftRight ((nI n &&& 31).toBitVec.smod 32).toNat).getLsbD i = _
  rw [s_l n hn, BitVec.getLsbD_sshiftRight, BitVec.msb_eq_getLsbD_last]
  simp [hi]
theorem b_shl8 (x : Int32) {i : Nat} (hi : i < 32) : bt (x <<< ((8 : Int32) &&& 31)) i = (decide (8 ≤ i) && bt x (i - 8)) := b_shl 8 (by omega) x hi
theorem b_shl16 (x : Int32) {i : Nat} (hi : i < 32) : bt (x <<< ((16 : Int32) &&& 31)) i = (decide (16 ≤ i) && bt x (i - 16)) := b_shl 16 (by omega) x hi
theorem b_shl24 (x : Int32) {i : Nat} (hi : i < 32) : bt (x <<< ((24 : Int32) &&& 31)) i = (decide (24 ≤ i) && bt x (i - 24)) := b_shl 24 (by omega) x hi
theorem b_sshr8 (x : Int32) {i : Nat} (hi : i < 32) : bt (x >>> ((8 : Int32) &&& 31)) i = if 8 + i < 32 then bt x (8 + i) else bt x 31 := b_sshr 8 (by omega) x hi
/-! ===== lN n to 2^64: shifts, and, or, masks, one bit ===== -/
theorem wb_tb (n : Nat) : (lN n).toBitVec = BitVec.ofNat 64 n := rfl
theorem wb_inj {a b : Int64} (h : a.toBitVec = b.toBitVec) : a = b := Int64.toBitVec_inj.mp h
theorem wb_tn {n : Nat} (h : n < 2 ^ 64) : (lN n).toBitVec.toNat = n := by rw [wb_tb, BitVec.toNat_ofNat, Nat.mod_eq_of_lt h]
theorem wb_of (x : Int64) : ∃ n, n < 2 ^ 64 ∧ x = lN n := ⟨x.toBitVec.toNat, x.toBitVec.isLt, wb_inj (by rw [wb_tb]; simp)⟩
theorem wb_of32 (x : Int32) : ∃ n, n < 2 ^ 32 ∧ x = nI n := ⟨x.toBitVec.toNat, x.toBitVec.isLt, Int32.toBitVec_inj.mp (by show _ = BitVec.ofNat 32 _; simp)⟩
theorem wb_c : ∀ k, k < 64 → ((nI k).toInt64 &&& 63) = lN k := by decide +kernel
theorem wb_cu : ∀ k, k < 64 → ((nI k).toInt64.toUInt64 &&& Int64.toUInt64 63) = UInt64.ofNat k := by decide +kernel
theorem wb_sm : ∀ k, k < 64 → (BitVec.ofNat 64 k).smod 64 = BitVec.ofNat 64 k := by decide +kernel
theorem wb_pw {a b : Nat} (h : a ≤ b) : 2 ^ b = 2 ^ a * 2 ^ (b - a) := by rw [← Nat.pow_add]; congr 1; omega
theorem wb_lt2 {a b : Nat} (h : a < b) : 2 ^ a < 2 ^ b := Nat.pow_lt_pow_right (by decide) h
theorem wb_mod (n : Nat) : lN n = lN (n % 2 ^ 64) := wb_inj (by rw [wb_tb, wb_tb]; apply BitVec.eq_of_toNat_eq; rw [BitVec.toNat_ofNat, BitVec.toNat_ofNat, Nat.mod_mod])
theorem wb_shr {n k : Nat} (hn : n < 2 ^ 64) (hk : k < 64) : ((lN n).toUInt64 >>> ((nI k).toInt64.toUInt64 &&& Int64.toUInt64 63)).toInt64 = lN (n / 2 ^ k) := by
  rw [wb_cu k hk]
  apply wb_inj
  apply BitVec.eq_of_toNat_eq
  show ((lN n).toUInt64 >>> UInt64.ofNat k).toNat = (BitVec.ofNat 64 _).toNat
  have h1 : (UInt64.ofNat k).toNat = k := by
    show (BitVec.ofNat 64 k).toNat = k
    rw [BitVec.toNat_ofNat, Nat.mod_eq_of_lt (by omega)]
  have h2 : (lN n).toUInt64.toNat = n := wb_tn hn
  rw [UInt64.toNat_shiftRight, h1, h2, Nat.mod_eq_of_lt hk, Nat.shiftRight_eq_div_pow, BitVec.toNat_ofNat, Nat.mod_eq_of_lt (Nat.lt_of_le_of_lt (Nat.div_le_self _ _) hn)]
theorem wb_shl (n : Nat) {k : Nat} (hk : k < 64) : lN n <<< ((nI k).toInt64 &&& 63) = lN (n * 2 ^ k) := by
  rw [wb_c k hk]
  apply wb_inj
  rw [Int64.toBitVec_shiftLeft, wb_tb, wb_tb, wb_tb, wb_sm k hk]
  apply BitVec.eq_of_toNat_eq
  rw [BitVec.shiftLeft_eq', BitVec.toNat_shiftLeft, BitVec.toNat_ofNat, BitVec.toNat_ofNat, BitVec.toNat_ofNat, Nat.mod_eq_of_lt (show k < 2 ^ 64 by omega), Nat.shiftLeft_eq, Nat.mul_mod, Nat.mod_mod, ← Nat.mul_mod]
theorem wb_and {a b : Nat} (ha : a < 2 ^ 64) (hb : b < 2 ^ 64) : lN a &&& lN b = lN (a &&& b) := by
  apply wb_inj
  rw [Int64.toBitVec_and, wb_tb, wb_tb, wb_tb]
  apply BitVec.eq_of_toNat_eq
  rw [BitVec.toNat_and, BitVec.toNat_ofNat, BitVec.toNat_ofNat, BitVec.toNat_ofNat, Nat.mod_eq_of_lt ha, Nat.mod_eq_of_lt hb, Nat.mod_eq_of_lt (Nat.and_lt_two_pow _ hb)]
theorem wb_or {a b : Nat} (ha : a < 2 ^ 64) (hb : b < 2 ^ 64) : lN a ||| lN b = lN (a ||| b) := by
  apply wb_inj
  rw [Int64.toBitVec_or, wb_tb, wb_tb, wb_tb]
  apply BitVec.eq_of_toNat_eq
  rw [BitVec.toNat_or, BitVec.toNat_ofNat, BitVec.toNat_ofNat, BitVec.toNat_ofNat, Nat.mod_eq_of_lt ha, Nat.mod_eq_of_lt hb, Nat.mod_eq_of_lt (Nat.or_lt_two_pow ha hb)]
theorem wb_mask {n k : Nat} (hn : n < 2 ^ 64) (hk : k < 64) : lN n &&& lN (2 ^ k - 1) = lN (n % 2 ^ k) := by
  rw [wb_and hn (by have := wb_lt2 hk; omega), Nat.and_two_pow_sub_one_eq_mod]
theorem wb_a1 {n : Nat} (hn : n < 2 ^ 64) : lN n &&& 1 = lN (n % 2) := wb_mask (k := 1) hn (by decide)
theorem wb_bit {n k : Nat} (hn : n < 2 ^ 64) (hk : k < 64) : ((lN n).toUInt64 >>> ((nI k).toInt64.toUInt64 &&& Int64.toUInt64 63)).toInt64 &&& 1 = lN (n / 2 ^ k % 2) := by
  rw [wb_shr hn hk, wb_a1 (Nat.lt_of_le_of_lt (Nat.div_le_self _ _) hn)]
theorem wb_xor {q k : Nat} (hk : k < 63) (h : 2 ^ k ≤ q) (h2 : q < 2 ^ (k + 1)) : lN q ^^^ lN (2 ^ k) = lN (q - 2 ^ k) := by
  obtain ⟨r, rfl⟩ : ∃ r, q = 2 ^ k + r := ⟨q - 2 ^ k, by omega⟩
  have hr : r < 2 ^ k := by rw [Nat.pow_succ] at h2; omega
  have hx : (2 ^ k + r) ^^^ 2 ^ k = r := by
    apply Nat.eq_of_testBit_eq
    intro i
    rw [Nat.testBit_xor, Nat.testBit_two_pow]
    rcases Nat.lt_trichotomy i k with h | h | h
    · rw [Nat.testBit_two_pow_add_gt h]
      simp [show ¬ k = i by omega]
    · subst h
      rw [Nat.testBit_two_pow_add_eq]
      simp
    · have a1 : 2 ^ (k + 1) ≤ 2 ^ i := Nat.pow_le_pow_right (by decide) h
      rw [Nat.testBit_lt_two_pow (show 2 ^ k + r < 2 ^ i by omega), Nat.testBit_lt_two_pow (show r < 2 ^ i by omega)]
      simp [show ¬ k = i by omega]
  have b1 := wb_lt2 (show k + 1 < 64 by omega)
  have b2 := wb_lt2 (show k < 64 by omega)
  apply wb_inj
  rw [Int64.toBitVec_xor, wb_tb, wb_tb, wb_tb]
  apply BitVec.eq_of_toNat_eq
  rw [BitVec.toNat_xor, BitVec.toNat_ofNat, BitVec.toNat_ofNat, BitVec.toNat_ofNat, Nat.mod_eq_of_lt (by omega : 2 ^ k + r < 2 ^ 64), Nat.mod_eq_of_lt b2, hx, Nat.add_sub_cancel_left, Nat.mod_eq_of_lt (by omega)]
/-! shifts of Java, by name -/
def sh_l (x y : Int32) : Int32 := x <<< (y &&& 31)
def sh_u (x y : Int32) : Int32 := (x.toUInt32 >>> (y.toUInt32 &&& Int32.toUInt32 31)).toInt32
def sh_s (x y : Int32) : Int32 := x >>> (y &&& 31)
def sh_L (x : Int64) (y : Int32) : Int64 := x <<< (y.toInt64 &&& 63)
def sh_U (x : Int64) (y : Int32) : Int64 := (x.toUInt64 >>> (y.toInt64.toUInt64 &&& Int64.toUInt64 63)).toInt64
theorem bt_su (n : Nat) (hn : n < 32) (x : Int32) (i : Nat) : bt (sh_u x (nI n)) i = bt x (n + i) := b_ushr n hn x i
theorem bt_sl (n : Nat) (hn : n < 32) (x : Int32) {i : Nat} (hi : i < 32) : bt (sh_l x (nI n)) i = (decide (n ≤ i) && bt x (i - n)) := b_shl n hn x hi
theorem bt_su1 (x : Int32) (i : Nat) : bt (sh_u x 1) i = bt x (1 + i) := b_ushr 1 (by omega) x i
theorem bt_sl1 (x : Int32) {i : Nat} (hi : i < 32) : bt (sh_l x 1) i = (decide (1 ≤ i) && bt x (i - 1)) := b_shl 1 (by omega) x hi
theorem b_1 (i : Nat) : bt 1 i = decide (i = 0) := by
  rcases Nat.lt_or_ge i 32 with h | h
  · exact (by decide +kernel : ∀ i, i < 32 → bt 1 i = decide (i = 0)) i h
  · rw [b_big h, decide_eq_false (by omega)]
/-! the register: one to the right, one back -/
def cr_r (r : Int32) : Int32 := if r &&& 1 = 0 then sh_u r 1 else sh_u r 1 ^^^ (-2097792136)
def cr_b (r : Int32) : Int32 := if r < 0 then sh_l (r ^^^ (-2097792136)) 1 ||| 1 else sh_l r 1
theorem cr_bit0 (r : Int32) : r &&& 1 = 0 ↔ bt r 0 = false := by
  constructor
  · intro h
    have h1 : bt (r &&& 1) 0 = bt 0 0 := by rw [h]
    rw [b_and, b_1, b_0] at h1
    simpa using h1
  · intro h
    refine b_ext fun i hi => ?_
    rw [b_and, b_1, b_0]
    by_cases e : i = 0
    · subst e; rw [h]; rfl
    · simp [e]
theorem cr_rbit (r : Int32) (i : Nat) : bt (cr_r r) i = (bt r (1 + i) ^^ (bt r 0 && bt (-2097792136) i)) := by
  unfold cr_r
  by_cases h : r &&& 1 = 0
  · rw [if_pos h, bt_su1, (cr_bit0 r).mp h]; simp
  · have h0 : bt r 0 = true := by
      cases hb : bt r 0
      · exact absurd ((cr_bit0 r).mpr hb) h
      · rfl
    rw [if_neg h, b_xor, bt_su1, h0]; simp
theorem cr_neg (r : Int32) : r < 0 ↔ bt r 31 = true := by
  have h : bt r 31 = r.toBitVec.msb := (BitVec.msb_eq_getLsbD_last _).symm
  rw [h, BitVec.msb_eq_toInt, decide_eq_true_iff, Int32.lt_iff_toInt_lt]
  exact Iff.rfl
theorem cr_P31 : bt (-2097792136) 31 = true := by decide +kernel
theorem cr_bbit (r : Int32) (i : Nat) (hi : i < 32) : bt (cr_b r) i = if i = 0 then bt r 31 else (bt r (i - 1) ^^ (bt r 31 && bt (-2097792136) (i - 1))) := by
  unfold cr_b
  by_cases h : r < 0
  · have h31 := (cr_neg r).mp h
    rw [if_pos h, b_or, bt_sl1 _ hi, b_1, b_xor, h31]
    by_cases e : i = 0
    · simp [e]
    · simp [e, show 1 ≤ i by omega]
  · have h31 : bt r 31 = false := by
      cases hb : bt r 31
      · rfl
      · exact absurd ((cr_neg r).mpr hb) h
    rw [if_neg h, bt_sl1 _ hi, h31]
    by_cases e : i = 0
    · simp [e]
    · simp [e, show 1 ≤ i by omega]
theorem cr_rb (r : Int32) : cr_r (cr_b r) = r := by
  refine b_ext fun i hi => ?_
  rw [cr_rbit]
  rcases Nat.lt_or_ge (1 + i) 32 with h | h
  · rw [cr_bbit _ _ h, cr_bbit _ 0 (by omega), if_neg (by omega), if_pos rfl, show 1 + i - 1 = i by omega]
    cases bt r i <;> cases bt r 31 <;> cases bt (-2097792136) i <;> rfl
  · have e : i = 31 := by omega
    subst e
    rw [b_big (show 32 ≤ 1 + 31 by omega), cr_bbit _ 0 (by omega), if_pos rfl, cr_P31]
    simp
theorem cr_br (r : Int32) : cr_b (cr_r r) = r := by
  refine b_ext fun i hi => ?_
  have h31 : bt (cr_r r) 31 = bt r 0 := by
    rw [cr_rbit, b_big (show 32 ≤ 1 + 31 by omega), cr_P31]; simp
  rw [cr_bbit _ _ hi, h31]
  by_cases e : i = 0
  · rw [if_pos e, e]
  · rw [if_neg e, cr_rbit, show 1 + (i - 1) = i by omega]
    cases bt r i <;> cases bt r 0 <;> cases bt (-2097792136) (i - 1) <;> rfl
theorem cr_rx (a b : Int32) : cr_r (a ^^^ b) = cr_r a ^^^ cr_r b := by
  refine b_ext fun i hi => ?_
  rw [b_xor, cr_rbit, cr_rbit, cr_rbit, b_xor, b_xor]
  cases bt a (1 + i) <;> cases bt b (1 + i) <;> cases bt a 0 <;> cases bt b 0 <;> cases bt (-2097792136) i <;> rfl
theorem cr_bx (a b : Int32) : cr_b (a ^^^ b) = cr_b a ^^^ cr_b b := by
  have h := cr_rx (cr_b a) (cr_b b)
  rw [cr_rb, cr_rb] at h
  rw [← h, cr_br]
/-! iterates -/
def cr_it (f : Int32 → Int32) : Nat → Int32 → Int32
  | 0, a => a
  | n + 1, a => f (cr_it f n a)
theorem cr_it_s (f : Int32 → Int32) (n : Nat) (a : Int32) : cr_it f n (f a) = f (cr_it f n a) := by
  induction n with
  | zero => rfl
  | succ n ih => show f (cr_it f n (f a)) = f (f (cr_it f n a)); rw [ih]
theorem cr_it_add (f : Int32 → Int32) (m n : Nat) (a : Int32) : cr_it f (m + n) a = cr_it f m (cr_it f n a) := by
  induction m with
  | zero => rw [Nat.zero_add]; rfl
  | succ m ih => rw [Nat.succ_add]; show f (cr_it f (m + n) a) = f (cr_it f m (cr_it f n a)); rw [ih]
theorem cr_it_inv {f g : Int32 → Int32} (h : ∀ a, f (g a) = a) (n : Nat) (a : Int32) : cr_it f n (cr_it g n a) = a := by
  induction n with
  | zero => rfl
  | succ n ih =>
    show f (cr_it f n (g (cr_it g n a))) = a
    rw [← cr_it_s f n, h, ih]
/-- linear, and one with the step to the right -/
def cr_Lin (F : Int32 → Int32) : Prop := (∀ a b, F (a ^^^ b) = F a ^^^ F b) ∧ ∀ a, F (cr_r a) = cr_r (F a)
theorem cr_Lin.zero {F : Int32 → Int32} (h : cr_Lin F) : F 0 = 0 := by
  have h1 := h.1 0 0
  rw [Int32.xor_self, Int32.xor_self] at h1
  exact h1
theorem cr_Lin_r : cr_Lin cr_r := ⟨cr_rx, fun _ => rfl⟩
theorem cr_Lin_b : cr_Lin cr_b := ⟨cr_bx, fun a => by rw [cr_br, cr_rb]⟩
theorem cr_Lin.it {F : Int32 → Int32} (h : cr_Lin F) (n : Nat) : cr_Lin (cr_it F n) := by
  constructor
  · intro a b
    induction n with
    | zero => rfl
    | succ n ih => show F _ = F _ ^^^ F _; rw [ih, h.1]
  · intro a
    induction n with
    | zero => rfl
    | succ n ih => show F _ = cr_r (F _); rw [ih, h.2]
theorem cr_Lin.rit {F : Int32 → Int32} (h : cr_Lin F) (n : Nat) (a : Int32) : F (cr_it cr_r n a) = cr_it cr_r n (F a) := by
  induction n with
  | zero => rfl
  | succ n ih => show F (cr_r _) = cr_r _; rw [h.2, ih]
/-! products -/
def cr_ms (u v : Int32) : Nat → Int32
  | 0 => 0
  | j + 1 => if bt v (31 - j) = true then cr_ms u v j ^^^ cr_it cr_r j u else cr_ms u v j
theorem cr_ms_s (u v : Int32) (j : Nat) : cr_ms u v (j + 1) = if bt v (31 - j) = true then cr_ms u v j ^^^ cr_it cr_r j u else cr_ms u v j := rfl
def cr_mul (u v : Int32) : Int32 := cr_ms u v 32
theorem cr_Lin.ms {F : Int32 → Int32} (h : cr_Lin F) (u v : Int32) (j : Nat) : F (cr_ms u v j) = cr_ms (F u) v j := by
  induction j with
  | zero => exact h.zero
  | succ j ih =>
    rw [cr_ms_s, cr_ms_s]
    by_cases hv : bt v (31 - j) = true
    · rw [if_pos hv, if_pos hv, h.1, ih, h.rit]
    · rw [if_neg hv, if_neg hv, ih]
theorem cr_Lin.mul {F : Int32 → Int32} (h : cr_Lin F) (u v : Int32) : F (cr_mul u v) = cr_mul (F u) v := h.ms u v 32
theorem cr_ms_x (a b v : Int32) (j : Nat) : cr_ms (a ^^^ b) v j = cr_ms a v j ^^^ cr_ms b v j := by
  induction j with
  | zero => exact Int32.xor_self.symm
  | succ j ih =>
    rw [cr_ms_s, cr_ms_s, cr_ms_s]
    by_cases hv : bt v (31 - j) = true
    · rw [if_pos hv, if_pos hv, if_pos hv, ih, (cr_Lin_r.it j).1]
      refine b_ext fun i _ => ?_
      simp only [b_xor]
      cases bt (cr_ms a v j) i <;> cases bt (cr_ms b v j) i <;> cases bt (cr_it cr_r j a) i <;> cases bt (cr_it cr_r j b) i <;> rfl
    · rw [if_neg hv, if_neg hv, if_neg hv, ih]
theorem cr_Lin_mul (v : Int32) : cr_Lin (fun u => cr_mul u v) := ⟨fun a b => cr_ms_x a b v 32, fun a => (cr_Lin_r.ms a v 32).symm⟩
theorem cr_it1 : ∀ j, j < 32 → ∀ i, i < 32 → bt (cr_it cr_r j (-2147483648)) i = decide (i = 31 - j) := by decide +kernel
theorem cr_ms1 (v : Int32) : ∀ j, j ≤ 32 → ∀ i, i < 32 → bt (cr_ms (-2147483648) v j) i = (decide (32 ≤ i + j) && bt v i) := by
  intro j
  induction j with
  | zero => intro _ i hi; show bt 0 i = _; rw [b_0, decide_eq_false (by omega)]; rfl
  | succ j ih =>
    intro hj i hi
    have ih := ih (by omega) i hi
    rw [cr_ms_s]
    by_cases e : i = 31 - j
    · by_cases hv : bt v (31 - j) = true
      · rw [if_pos hv, b_xor, ih, cr_it1 j (by omega) i hi, decide_eq_false (show ¬ 32 ≤ i + j by omega), decide_eq_true e, decide_eq_true (show 32 ≤ i + (j + 1) by omega), e, hv]; rfl
      · rw [if_neg hv, ih, decide_eq_false (show ¬ 32 ≤ i + j by omega), decide_eq_true (show 32 ≤ i + (j + 1) by omega), e]
        cases hb : bt v (31 - j)
        · rfl
        · exact absurd hb hv
    · have hd : decide (32 ≤ i + (j + 1)) = decide (32 ≤ i + j) := by
        apply decide_eq_decide.mpr; omega
      by_cases hv : bt v (31 - j) = true
      · rw [if_pos hv, b_xor, ih, cr_it1 j (by omega) i hi, decide_eq_false e, hd]; simp
      · rw [if_neg hv, ih, hd]
theorem cr_mul1 (v : Int32) : cr_mul (-2147483648) v = v := by
  refine b_ext fun i hi => ?_
  unfold cr_mul
  rw [cr_ms1 v 32 (by omega) i hi, decide_eq_true (show 32 ≤ i + 32 by omega)]; rfl
theorem cr_comm (u v : Int32) : cr_mul u v = cr_mul v u := by
  have h : cr_mul (cr_mul (-2147483648) u) v = cr_mul (cr_mul (-2147483648) v) u := (cr_Lin_mul v).mul (-2147483648) u
  rwa [cr_mul1, cr_mul1] at h
theorem cr_asc (u v w : Int32) : cr_mul (cr_mul u v) w = cr_mul (cr_mul u w) v := (cr_Lin_mul w).mul u v
theorem cr_assoc (u v w : Int32) : cr_mul (cr_mul u v) w = cr_mul u (cr_mul v w) := by
  rw [cr_comm u (cr_mul v w), cr_asc v w u, cr_comm v u]
theorem cr_mr (u : Int32) : cr_mul u (-2147483648) = u := by rw [cr_comm, cr_mul1]
theorem cr_Lin.by1 {F : Int32 → Int32} (h : cr_Lin F) (u : Int32) : cr_mul (F (-2147483648)) u = F u := by
  have h1 := h.mul (-2147483648) u
  rw [cr_mul1] at h1
  exact h1.symm
/-! powers -/
def cr_pw (b : Int32) : Nat → Int32
  | 0 => -2147483648
  | n + 1 => cr_mul (cr_pw b n) b
theorem cr_pw_add (b : Int32) (m n : Nat) : cr_pw b (m + n) = cr_mul (cr_pw b m) (cr_pw b n) := by
  induction n with
  | zero => exact (cr_mr _).symm
  | succ n ih => show cr_mul (cr_pw b (m + n)) b = cr_mul (cr_pw b m) (cr_mul (cr_pw b n) b); rw [ih, cr_assoc]
theorem cr_pw_1 (b : Int32) : cr_pw b 1 = b := cr_mul1 b
theorem cr_pw_Lin {F : Int32 → Int32} (h : cr_Lin F) (n : Nat) (u : Int32) : cr_mul (cr_pw (F (-2147483648)) n) u = cr_it F n u := by
  induction n with
  | zero => exact cr_mul1 u
  | succ n ih =>
    show cr_mul (cr_mul (cr_pw (F (-2147483648)) n) (F (-2147483648))) u = F (cr_it F n u)
    rw [cr_asc, cr_comm, h.by1, ih]
/-! one byte -/
def cr_w (r b : Int32) : Int32 := cr_it cr_r 8 (r ^^^ b)
theorem cr_sp (r b : Int32) : cr_r (r ^^^ b) = cr_r (r ^^^ (b &&& 1)) ^^^ sh_u b 1 := by
  refine b_ext fun i hi => ?_
  rw [b_xor, cr_rbit, cr_rbit, bt_su1, b_xor, b_xor, b_xor, b_xor, b_and, b_and, b_1, b_1, decide_eq_true (rfl : (0 : Nat) = 0), decide_eq_false (show ¬ 1 + i = 0 by omega)]
  cases bt r (1 + i) <;> cases bt b (1 + i) <;> cases bt r 0 <;> cases bt b 0 <;> cases bt (-2097792136) i <;> rfl
def cr_wb (r b : Int32) : Nat → Int32
  | 0 => r
  | k + 1 => cr_r (cr_wb r b k ^^^ (sh_s b (nI k) &&& 1))
theorem cr_sb (b : Int32) (hb : ¬ b < 0) (k : Nat) (hk : k < 32) : sh_s b (nI k) = sh_u b (nI k) := by
  have h31 : bt b 31 = false := by
    cases h : bt b 31
    · rfl
    · exact absurd ((cr_neg b).mpr h) hb
  refine b_ext fun i hi => ?_
  rw [bt_su k hk]
  show bt (b >>> (nI k &&& 31)) i = _
  rw [b_sshr k hk b hi]
  by_cases h : k + i < 32
  · rw [if_pos h]
  · rw [if_neg h, h31, b_big (by omega)]
theorem cr_uu (b : Int32) (k : Nat) (hk : k + 1 < 32) : sh_u (sh_u b (nI k)) 1 = sh_u b (nI (k + 1)) := by
  refine b_ext fun i hi => ?_
  rw [bt_su1, bt_su k (by omega), bt_su (k + 1) hk, Nat.add_assoc]
theorem cr_wb_it (r b : Int32) (hb : ¬ b < 0) : ∀ k, k < 32 → cr_it cr_r k (r ^^^ b) = cr_wb r b k ^^^ sh_u b (nI k) := by
  intro k
  induction k with
  | zero =>
    intro _
    show r ^^^ b = r ^^^ sh_u b (nI 0)
    rw [show sh_u b (nI 0) = b from b_ext fun i _ => by rw [bt_su 0 (by omega), Nat.zero_add]]
  | succ k ih =>
    intro hk
    show cr_r (cr_it cr_r k (r ^^^ b)) = cr_r (cr_wb r b k ^^^ (sh_s b (nI k) &&& 1)) ^^^ _
    rw [ih (by omega), cr_sp (cr_wb r b k) (sh_u b (nI k)), cr_sb b hb k (by omega), cr_uu b k hk]
theorem cr_hi {b : Int32} (h : ∀ i, 8 ≤ i → bt b i = false) : sh_u b (nI 8) = 0 := by
  refine b_ext fun i hi => ?_
  rw [bt_su 8 (by omega), b_0, h _ (by omega)]
theorem cr_byte (x : Int32) : ∀ i, 8 ≤ i → bt (x &&& 255) i = false := by
  intro i hi
  rw [b_and, b_255, decide_eq_false (by omega), Bool.and_false]
theorem cr_bpos (x : Int32) : ¬ (x &&& 255) < 0 := by
  rw [cr_neg, cr_byte x 31 (by omega)]; decide
/-- the reference's byte, bit by bit -/
theorem cr_wb8 (r x : Int32) : cr_wb r (x &&& 255) 8 = cr_w r (x &&& 255) := by
  have h := cr_wb_it r (x &&& 255) (cr_bpos x) 8 (by omega)
  rw [cr_hi (cr_byte x), Int32.xor_zero] at h
  exact h.symm
theorem cr_wb0 (r : Int32) : cr_wb r 0 8 = cr_it cr_r 8 r := by
  have h := cr_wb_it r 0 (by decide) 8 (by omega)
  rw [cr_hi (fun i _ => b_0 i), Int32.xor_zero, Int32.xor_zero] at h
  exact h.symm
/-- a byte by the table of eight steps -/
theorem cr_lo (y : Int32) : ∀ k, k ≤ 8 → cr_it cr_r k y = cr_it cr_r k (y &&& 255) ^^^ sh_u (y &&& (-256)) (nI k) := by
  intro k
  have hm : ∀ i, i < 32 → bt (-256) i = decide (8 ≤ i) := by decide +kernel
  induction k with
  | zero =>
    intro _
    show y = (y &&& 255) ^^^ sh_u (y &&& (-256)) (nI 0)
    refine b_ext fun i hi => ?_
    rw [b_xor, bt_su 0 (by omega), Nat.zero_add, b_and, b_and, b_255, hm i hi]
    by_cases h : i < 8
    · rw [decide_eq_true h, decide_eq_false (show ¬ 8 ≤ i by omega)]; simp
    · rw [decide_eq_false h, decide_eq_true (show 8 ≤ i by omega)]; simp
  | succ k ih =>
    intro hk
    have hz : sh_u (y &&& (-256)) (nI k) &&& 1 = 0 := by
      rw [cr_bit0, bt_su k (by omega), b_and, hm _ (by omega), decide_eq_false (by omega), Bool.and_false]
    show cr_r (cr_it cr_r k y) = cr_r (cr_it cr_r k (y &&& 255)) ^^^ _
    rw [ih (by omega), cr_sp, hz, Int32.xor_zero, cr_uu _ k (by omega)]
theorem cr_tab (r x : Int32) : sh_u r 8 ^^^ cr_it cr_r 8 ((r ^^^ (x &&& 255)) &&& 255) = cr_w r (x &&& 255) := by
  unfold cr_w
  have hm : ∀ i, i < 32 → bt (-256) i = decide (8 ≤ i) := by decide +kernel
  rw [cr_lo (r ^^^ (x &&& 255)) 8 (by omega), Int32.xor_comm]
  congr 1
  refine b_ext fun i hi => ?_
  show bt (sh_u r (nI 8)) i = _
  rw [bt_su 8 (by omega), bt_su 8 (by omega), b_and, b_xor, cr_byte x (8 + i) (by omega)]
  by_cases h : 8 + i < 32
  · rw [hm _ h, decide_eq_true (show 8 ≤ 8 + i by omega)]; simp
  · rw [b_big (x := r) (show 32 ≤ 8 + i by omega)]; simp
/-! a row of bytes -/
def cr_by (f : Nat → Int32) (k : Nat) : Int32 := f k &&& 255
def cr_rg (f : Nat → Int32) (a : Nat) (r : Int32) : Nat → Int32
  | 0 => r
  | j + 1 => cr_w (cr_rg f a r j) (cr_by f (a + j))
theorem cr_w_x (r d b : Int32) : cr_w (r ^^^ d) b = cr_w r b ^^^ cr_it cr_r 8 d := by
  unfold cr_w
  rw [Int32.xor_assoc, Int32.xor_comm d b, ← Int32.xor_assoc, (cr_Lin_r.it 8).1]
theorem cr_rg_x (f : Nat → Int32) (a : Nat) (r d : Int32) (n : Nat) : cr_rg f a (r ^^^ d) n = cr_rg f a r n ^^^ cr_it (cr_it cr_r 8) n d := by
  induction n with
  | zero => rfl
  | succ n ih =>
    show cr_w _ _ = cr_w _ _ ^^^ cr_it cr_r 8 _
    rw [ih, cr_w_x]
theorem cr_rg_s (f : Nat → Int32) (a : Nat) (r : Int32) (n : Nat) : cr_rg f a r (n + 1) = cr_rg f (a + 1) (cr_w r (cr_by f a)) n := by
  induction n with
  | zero => rfl
  | succ n ih =>
    show cr_w (cr_rg f a r (n + 1)) _ = cr_w (cr_rg f (a + 1) _ n) _
    rw [ih, show a + (n + 1) = a + 1 + n by omega]
/-- the reference's way back: j bytes from the end e -/
def cr_bk (f : Nat → Int32) (e : Nat) (r : Int32) : Nat → Int32
  | 0 => r
  | j + 1 => cr_it cr_b 8 (cr_bk f e r j) ^^^ cr_by f (e - 1 - j)
theorem cr_bk_rg (f : Nat → Int32) (e : Nat) (r : Int32) : ∀ j, j ≤ e → cr_rg f (e - j) (cr_bk f e r j) j = r := by
  intro j
  induction j with
  | zero => intro _; rfl
  | succ j ih =>
    intro hj
    rw [cr_rg_s, show e - (j + 1) + 1 = e - j by omega]
    show cr_rg f (e - j) (cr_w (cr_it cr_b 8 (cr_bk f e r j) ^^^ cr_by f (e - 1 - j)) (cr_by f (e - (j + 1)))) j = r
    rw [show e - (j + 1) = e - 1 - j by omega]
    unfold cr_w
    rw [Int32.xor_assoc, Int32.xor_self, Int32.xor_zero, cr_it_inv cr_rb]
    exact ih (by omega)
theorem cr_x3 (a b c : Int32) : a ^^^ (b ^^^ c) = b ^^^ (a ^^^ c) := by rw [← Int32.xor_assoc, Int32.xor_comm a b, Int32.xor_assoc]
/-- what is cut off by a power, and what is come back to byte by byte, are the same -/
theorem cr_cut_bk (f : Nat → Int32) (e j : Nat) (hj : j ≤ e) (sum : Int32) : cr_mul (cr_pw (cr_it cr_b 8 (-2147483648)) j) (sum ^^^ (cr_rg f (e - j) (-1) j ^^^ (-1))) ^^^ (-1) = cr_bk f e (sum ^^^ (-1)) j := by
  have h := cr_bk_rg f e (sum ^^^ (-1)) j hj
  have hL : cr_Lin (cr_it cr_b 8) := cr_Lin_b.it 8
  rw [cr_pw_Lin hL]
  generalize hz : cr_bk f e (sum ^^^ (-1)) j = z at h ⊢
  have e1 : z = (-1) ^^^ ((-1) ^^^ z) := by rw [← Int32.xor_assoc, Int32.xor_self, Int32.zero_xor]
  rw [e1, cr_rg_x] at h
  have h2 : sum ^^^ (cr_rg f (e - j) (-1) j ^^^ (-1)) = cr_it (cr_it cr_r 8) j ((-1) ^^^ z) := by
    have h3 : cr_it (cr_it cr_r 8) j ((-1) ^^^ z) = cr_rg f (e - j) (-1) j ^^^ (cr_rg f (e - j) (-1) j ^^^ cr_it (cr_it cr_r 8) j ((-1) ^^^ z)) := by rw [← Int32.xor_assoc, Int32.xor_self, Int32.zero_xor]
    rw [h3, h]; exact cr_x3 _ _ _
  rw [h2, cr_it_inv (fun a => cr_it_inv cr_br 8 a), Int32.xor_comm, ← Int32.xor_assoc, Int32.xor_self, Int32.zero_xor]
/-! words -/
def lb (x : Int64) (i : Nat) : Bool := x.toBitVec.getLsbD i
theorem lb_ext {x y : Int64} (h : ∀ i, i < 64 → lb x i = lb y i) : x = y := Int64.toBitVec_inj.mp (BitVec.eq_of_getLsbD_eq (fun i hi => h i hi))
theorem lb_or (x y : Int64) (i : Nat) : lb (x ||| y) i = (lb x i || lb y i) := by unfold lb; rw [Int64.toBitVec_or, BitVec.getLsbD_or]
theorem lb_and (x y : Int64) (i : Nat) : lb (x &&& y) i = (lb x i && lb y i) := by unfold lb; rw [Int64.toBitVec_and, BitVec.getLsbD_and]
theorem lb_0 (i : Nat) : lb 0 i = false := BitVec.getLsbD_zero
theorem lb_m : ∀ i, i < 64 → lb 4294967295 i = decide (i < 32) := by decide +kernel
theorem lb_i (x : Int32) (i : Nat) (hi : i < 64) : lb x.toInt64 i = if i < 32 then bt x i else bt x 31 := by
  unfold lb bt
  rw [Int32.toBitVec_toInt64, BitVec.getLsbD_signExtend, BitVec.msb_eq_getLsbD_last, decide_eq_true hi]
  rfl
theorem bt_l (x : Int64) (i : Nat) (hi : i < 32) : bt x.toInt32 i = lb x i := by
  unfold lb bt
  rw [Int64.toBitVec_toInt32, BitVec.getLsbD_signExtend, decide_eq_true hi, Bool.true_and, if_pos (by omega)]
theorem lb_s : ∀ n, n < 64 → (((nI n).toInt64 &&& 63).toBitVec.smod 64).toNat = n := by decide +kernel
theorem lb_sL (n : Nat) (hn : n < 64) (x : Int64) {i : Nat} (hi : i < 64) : lb (sh_L x (nI n)) i = (decide (n ≤ i) && lb x (i - n)) := by
  unfold lb sh_L
  rw [Int64.toBitVec_shiftLeft]
  show (x.toBitVec <<< (((nI n).toInt64 &&& 63).toBitVec.smod 64).toNat).getLsbD i = _
  rw [lb_s n hn, BitVec.getLsbD_shiftLeft]
  rcases Nat.lt_or_ge i n with h | h
  · simp [h, Nat.not_le.mpr h]
  · simp [hi, h, Nat.not_lt.mpr h]
theorem lb_by (x : Int32) (i : Nat) (hi : i < 64) : lb (x &&& 255).toInt64 i = (decide (i < 8) && bt x i) := by
  rw [lb_i _ _ hi]
  by_cases h : i < 32
  · rw [if_pos h, b_and, b_255, Bool.and_comm]
  · rw [if_neg h, cr_byte x 31 (by omega), decide_eq_false (by omega), Bool.false_and]
/-- a word of four bytes -/
def wo_4 (f : Nat → Int32) (p : Nat) : Int32 := (((f p &&& 255) ||| sh_l (f (p + 1) &&& 255) 8) ||| sh_l (f (p + 2) &&& 255) 16) ||| sh_l (f (p + 3) &&& 255) 24
def wo_u (f : Nat → Int32) (p : Nat) : Int64 := (wo_4 f p).toInt64 &&& 4294967295
def wo_8 (f : Nat → Int32) (p : Nat) : Int64 := wo_u f p ||| sh_L (wo_u f (p + 4)) 32
/-- the reference's number -/
def wo_n (f : Nat → Int32) (p : Nat) : Nat → Int64
  | 0 => 0
  | k + 1 => wo_n f p k ||| sh_L (f (p + k) &&& 255).toInt64 (8 * nI k)
theorem wo_n_b (f : Nat → Int32) (p : Nat) : ∀ k, k ≤ 8 → ∀ i, i < 64 → lb (wo_n f p k) i = (decide (i < 8 * k) && bt (f (p + i / 8)) (i % 8)) := by
  intro k
  induction k with
  | zero => intro _ i _; show lb 0 i = _; rw [lb_0, decide_eq_false (by omega), Bool.false_and]
  | succ k ih =>
    intro hk i hi
    have e8 : (8 : Int32) * nI k = nI (8 * k) := pk_mul 8 k
    show lb (wo_n f p k ||| sh_L (f (p + k) &&& 255).toInt64 (8 * nI k)) i = _
    rw [lb_or, ih (by omega) i hi, e8, lb_sL (8 * k) (by omega) _ hi, lb_by (f (p + k)) (i - 8 * k) (by omega)]
    by_cases h1 : i < 8 * k
    · rw [decide_eq_true h1, decide_eq_true (show i < 8 * (k + 1) by omega), decide_eq_false (show ¬ 8 * k ≤ i by omega)]; simp
    · by_cases h2 : i < 8 * (k + 1)
      · have q1 : i / 8 = k := by omega
        have q2 : i % 8 = i - 8 * k := by omega
        rw [decide_eq_false h1, decide_eq_true h2, decide_eq_true (show 8 * k ≤ i by omega), decide_eq_true (show i - 8 * k < 8 by omega), q1, q2]; simp
      · rw [decide_eq_false h1, decide_eq_false h2, decide_eq_false (show ¬ i - 8 * k < 8 by omega)]; simp
theorem wo_4_b (f : Nat → Int32) (p i : Nat) (hi : i < 32) : bt (wo_4 f p) i = bt (f (p + i / 8)) (i % 8) := by
  unfold wo_4
  rw [b_or, b_or, b_or]
  show (((bt (f p &&& 255) i || bt (sh_l (f (p + 1) &&& 255) (nI 8)) i) || bt (sh_l (f (p + 2) &&& 255) (nI 16)) i) || bt (sh_l (f (p + 3) &&& 255) (nI 24)) i) = _
  rw [bt_sl 8 (by omega) _ hi, bt_sl 16 (by omega) _ hi, bt_sl 24 (by omega) _ hi, b_and, b_and, b_and, b_and, b_255, b_255, b_255, b_255]
  rcases (show i < 8 ∨ (8 ≤ i ∧ i < 16) ∨ (16 ≤ i ∧ i < 24) ∨ (24 ≤ i ∧ i < 32) by omega) with h | h | h | h
  · rw [show i / 8 = 0 by omega, show i % 8 = i by omega, decide_eq_true h, decide_eq_false (show ¬ 8 ≤ i by omega), decide_eq_false (show ¬ 16 ≤ i by omega), decide_eq_false (show ¬ 24 ≤ i by omega)]; simp
  · rw [show i / 8 = 1 by omega, show i % 8 = i - 8 by omega, decide_eq_false (show ¬ i < 8 by omega), decide_eq_true (show 8 ≤ i by omega), decide_eq_true (show i - 8 < 8 by omega), decide_eq_false (show ¬ 16 ≤ i by omega), decide_eq_false (show ¬ 24 ≤ i by omega)]; simp
  · rw [show i / 8 = 2 by omega, show i % 8 = i - 16 by omega, decide_eq_false (show ¬ i < 8 by omega), decide_eq_false (show ¬ i - 8 < 8 by omega), decide_eq_true (show 16 ≤ i by omega), decide_eq_true (show i - 16 < 8 by omega), decide_eq_false (show ¬ 24 ≤ i by omega)]; simp
  · rw [show i / 8 = 3 by omega, show i % 8 = i - 24 by omega, decide_eq_false (show ¬ i < 8 by omega), decide_eq_false (show ¬ i - 8 < 8 by omega), decide_eq_false (show ¬ i - 16 < 8 by omega), decide_eq_true (show 24 ≤ i by omega), decide_eq_true (show i - 24 < 8 by omega)]; simp
theorem wo_u_b (f : Nat → Int32) (p i : Nat) (hi : i < 64) : lb (wo_u f p) i = (decide (i < 32) && bt (f (p + i / 8)) (i % 8)) := by
  unfold wo_u
  rw [lb_and, lb_m i hi, lb_i _ _ hi]
  by_cases h : i < 32
  · rw [if_pos h, wo_4_b f p i h, decide_eq_true h]; simp
  · rw [decide_eq_false h]; simp
theorem wo_n4 (f : Nat → Int32) (p : Nat) : wo_n f p 4 = wo_u f p := by
  refine lb_ext fun i hi => ?_
  rw [wo_n_b f p 4 (by omega) i hi, wo_u_b f p i hi]
theorem wo_n4i (f : Nat → Int32) (p : Nat) : (wo_n f p 4).toInt32 = wo_4 f p := by
  refine b_ext fun i hi => ?_
  rw [bt_l _ _ hi, wo_n_b f p 4 (by omega) i (by omega), wo_4_b f p i hi, decide_eq_true (show i < 8 * 4 by omega), Bool.true_and]
theorem wo_n8 (f : Nat → Int32) (p : Nat) : wo_n f p 8 = wo_8 f p := by
  refine lb_ext fun i hi => ?_
  unfold wo_8
  rw [wo_n_b f p 8 (by omega) i hi, lb_or, wo_u_b f p i hi]
  show _ = (_ || lb (sh_L (wo_u f (p + 4)) (nI 32)) i)
  rw [lb_sL 32 (by omega) _ hi, wo_u_b f (p + 4) (i - 32) (by omega)]
  by_cases h : i < 32
  · rw [decide_eq_true h, decide_eq_true (show i < 8 * 8 by omega), decide_eq_false (show ¬ 32 ≤ i by omega)]; simp
  · rw [decide_eq_false h, decide_eq_true (show i < 8 * 8 by omega), decide_eq_true (show 32 ≤ i by omega), decide_eq_true (show i - 32 < 32 by omega), show p + 4 + (i - 32) / 8 = p + i / 8 by omega, show (i - 32) % 8 = i % 8 by omega]; simp
/-! the narrow sum -/
def na_rt (x k : Int32) : Int32 := sh_l x k ||| sh_u x (32 - k)
def na_ln (l w : Int32) : Int32 := na_rt (l + w * (-2048144777)) 13 * (-1640531535)
def na_fo (f : Nat → Int32) (a q : Nat) (s : Int32) : Nat → Int32
  | 0 => s
  | j + 1 => na_ln (na_fo f a q s j) (wo_4 f (a + 16 * j + 4 * q))
def na_la (f : Nat → Int32) (a b : Nat) (s : Int32) : Int32 :=
  na_rt (na_fo f a 0 (s + (-1640531535) + (-2048144777)) ((b - a) / 16)) 1 + na_rt (na_fo f a 1 (s + (-2048144777)) ((b - a) / 16)) 7 + na_rt (na_fo f a 2 s ((b - a) / 16)) 12 + na_rt (na_fo f a 3 (s - (-1640531535)) ((b - a) / 16)) 18
def na_w4 (f : Nat → Int32) (p : Nat) (h : Int32) : Nat → Int32
  | 0 => h
  | j + 1 => na_rt (na_w4 f p h j + wo_4 f (p + 4 * j) * (-1028477379)) 17 * 668265263
def na_w1 (f : Nat → Int32) (p : Nat) (h : Int32) : Nat → Int32
  | 0 => h
  | j + 1 => na_rt (na_w1 f p h j + (f (p + j) &&& 255) * 374761393) 11 * (-1640531535)
def na_s1 (h : Int32) : Int32 := (h ^^^ sh_u h 15) * (-2048144777)
def na_s2 (h : Int32) : Int32 := (h ^^^ sh_u h 13) * (-1028477379)
def na_s3 (h : Int32) : Int32 := h ^^^ sh_u h 16
def na_h0 (f : Nat → Int32) (a b : Nat) (s : Int32) : Int32 := if 16 ≤ b - a then na_la f a b s else s + 374761393
/-- where the words behind the lanes begin, how many there are, where the bytes begin -/
def na_p (a b : Nat) : Nat := b - (b - a) % 16
def na_c (a b : Nat) : Nat := (b - a) % 16 / 4
def na_sum (f : Nat → Int32) (a b : Nat) (s : Int32) : Int32 :=
  na_s3 (na_s2 (na_s1 (na_w1 f (na_p a b + 4 * na_c a b) (na_w4 f (na_p a b) (na_h0 f a b s + nI (b - a)) (na_c a b)) (b - (na_p a b + 4 * na_c a b)))))
/-! the wide sum -/
def wi_rt (x : Int64) (k : Int32) : Int64 := sh_L x k ||| sh_U x (64 - k)
def wi_ln (l w : Int64) : Int64 := wi_rt (l + w * (-4417276706812531889)) 31 * (-7046029288634856825)
def wi_fo (f : Nat → Int32) (a q : Nat) (s : Int64) : Nat → Int64
  | 0 => s
  | j + 1 => wi_ln (wi_fo f a q s j) (wo_8 f (a + 32 * j + 8 * q))
def wi_wl (h l : Int64) : Int64 := (h ^^^ wi_ln 0 l) * (-7046029288634856825) + (-8796714831421723037)
def wi_l4 (a b c d : Int64) : Int64 := wi_wl (wi_wl (wi_wl (wi_wl (wi_rt a 1 + wi_rt b 7 + wi_rt c 12 + wi_rt d 18) a) b) c) d
def wi_la (f : Nat → Int32) (a b : Nat) (s : Int64) : Int64 :=
  wi_l4 (wi_fo f a 0 (s + (-7046029288634856825) + (-4417276706812531889)) ((b - a) / 32)) (wi_fo f a 1 (s + (-4417276706812531889)) ((b - a) / 32)) (wi_fo f a 2 s ((b - a) / 32)) (wi_fo f a 3 (s - (-7046029288634856825)) ((b - a) / 32))
def wi_w8 (f : Nat → Int32) (p : Nat) (h : Int64) : Nat → Int64
  | 0 => h
  | j + 1 => wi_rt (wi_w8 f p h j ^^^ wi_ln 0 (wo_8 f (p + 8 * j))) 27 * (-7046029288634856825) + (-8796714831421723037)
def wi_w4 (f : Nat → Int32) (p : Nat) (h : Int64) : Int64 := wi_rt (h ^^^ wo_u f p * (-7046029288634856825)) 23 * (-4417276706812531889) + 1609587929392839161
def wi_w1 (f : Nat → Int32) (p : Nat) (h : Int64) : Nat → Int64
  | 0 => h
  | j + 1 => wi_rt (wi_w1 f p h j ^^^ (f (p + j) &&& 255).toInt64 * 2870177450012600261) 11 * (-7046029288634856825)
def wi_s1 (h : Int64) : Int64 := (h ^^^ sh_U h 33) * (-4417276706812531889)
def wi_s2 (h : Int64) : Int64 := (h ^^^ sh_U h 29) * 1609587929392839161
def wi_s3 (h : Int64) : Int64 := h ^^^ sh_U h 32
def wi_h0 (f : Nat → Int32) (a b : Nat) (s : Int64) : Int64 := if 32 ≤ b - a then wi_la f a b s else s + 2870177450012600261
def wi_p (a b : Nat) : Nat := b - (b - a) % 32
def wi_c (a b : Nat) : Nat := (b - a) % 32 / 8
def wi_d (a b : Nat) : Nat := (b - a) % 8 / 4
def wi_o (f : Nat → Int32) (p : Nat) (h : Int64) (d : Nat) : Int64 := if d = 0 then h else wi_w4 f p h
def wi_sum (f : Nat → Int32) (a b : Nat) (s : Int64) : Int64 :=
  wi_s3 (wi_s2 (wi_s1 (wi_w1 f (wi_p a b + 8 * wi_c a b + 4 * wi_d a b) (wi_o f (wi_p a b + 8 * wi_c a b) (wi_w8 f (wi_p a b) (wi_h0 f a b s + lN (b - a)) (wi_c a b)) (wi_d a b)) (b - (wi_p a b + 8 * wi_c a b + 4 * wi_d a b)))))
theorem wi_ln0 (w : Int64) : wi_ln 0 w = wi_rt (w * (-4417276706812531889)) 31 * (-7046029288634856825) := by unfold wi_ln; rw [Int64.zero_add]
/-! the four bytes turned round -/
def tu_x (w : Int32) : Int32 := ((sh_l w 24 ||| sh_l (w &&& 65280) 8) ||| (sh_u w 8 &&& 65280)) ||| sh_u w 24
def tu_m (w : Int32) : Int32 := ((sh_l w 24 ||| sh_l (sh_s w 8 &&& 255) 16) ||| sh_l (sh_s w 16 &&& 255) 8) ||| sh_u w 24
theorem b_65280 : ∀ i, i < 32 → bt 65280 i = (decide (8 ≤ i) && decide (i < 16)) := by decide +kernel
theorem tu_eq (w : Int32) : tu_x w = tu_m w := by
  unfold tu_x tu_m
  congr 1
  refine b_ext fun i hi => ?_
  rw [b_or, b_or, b_or, b_or]
  show ((bt (sh_l w (nI 24)) i || bt (sh_l (w &&& 65280) (nI 8)) i) || bt (sh_u w (nI 8) &&& 65280) i) = ((bt (sh_l w (nI 24)) i || bt (sh_l ((w >>> (nI 8 &&& 31)) &&& 255) (nI 16)) i) || bt (sh_l ((w >>> (nI 16 &&& 31)) &&& 255) (nI 8)) i)
  rw [bt_sl 24 (by omega) _ hi, bt_sl 8 (by omega) _ hi, bt_sl 16 (by omega) _ hi, bt_sl 8 (by omega) _ hi, b_and, b_and, b_and, b_and, b_255, b_255, bt_su 8 (by omega), b_65280 i hi, b_65280 (i - 8) (by omega), b_sshr 8 (by omega) w (i := i - 16) (by omega), b_sshr 16 (by omega) w (i := i - 8) (by omega)]
  rcases (show i < 8 ∨ (8 ≤ i ∧ i < 16) ∨ (16 ≤ i ∧ i < 24) ∨ (24 ≤ i ∧ i < 32) by omega) with h | h | h | h
  · simp [show ¬ 8 ≤ i by omega, show ¬ 16 ≤ i by omega, show ¬ 24 ≤ i by omega]
  · rw [if_pos (show 16 + (i - 8) < 32 by omega), show 16 + (i - 8) = 8 + i by omega]
    simp [show 8 ≤ i by omega, show i < 16 by omega, show ¬ 16 ≤ i by omega, show ¬ 24 ≤ i by omega, show ¬ 8 ≤ i - 8 by omega, show i - 8 < 8 by omega]
  · rw [if_pos (show 8 + (i - 16) < 32 by omega), show 8 + (i - 16) = i - 8 by omega]
    simp [show 8 ≤ i by omega, show ¬ i < 16 by omega, show 16 ≤ i by omega, show ¬ 24 ≤ i by omega, show 8 ≤ i - 8 by omega, show i - 8 < 16 by omega, show ¬ i - 8 < 8 by omega, show i - 16 < 8 by omega]
  · simp [show 8 ≤ i by omega, show ¬ i < 16 by omega, show 16 ≤ i by omega, show 24 ≤ i by omega, show ¬ i - 8 < 16 by omega, show ¬ i - 8 < 8 by omega, show ¬ i - 16 < 8 by omega]
