/-! Bits of a long, the row of bits, what a number needs. The families wb and uN are pasted from kit/laws/BITS.to-paste. -/
theorem wb_tb (n : Nat) : (lN n).toBitVec = BitVec.ofNat 64 n := rfl
theorem wb_inj {a b : Int64} (h : a.toBitVec = b.toBitVec) : a = b := Int64.toBitVec_inj.mp h
theorem wb_tn {n : Nat} (h : n < 2 ^ 64) : (lN n).toBitVec.toNat = n := by rw [wb_tb, BitVec.toNat_ofNat, Nat.mod_eq_of_lt h]
theorem wb_of (x : Int64) : ∃ n, n < 2 ^ 64 ∧ x = lN n := ⟨x.toBitVec.toNat, x.toBitVec.isLt, wb_inj (by rw [wb_tb]; simp)⟩
theorem wb_of32 (x : Int32) : ∃ n, n < 2 ^ 32 ∧ x = nI n := ⟨x.toBitVec.toNat, x.toBitVec.isLt, Int32.toBitVec_inj.mp (by show _ = BitVec.ofNat 32 _; simp)⟩
theorem wb_c : ∀ k, k < 64 → ((nI k).toInt64 &&& 63) = lN k := by decide +kernel
theorem wb_cu : ∀ k, k < 64 → ((nI k).toInt64.toUInt64 &&& Int64.toUInt64 63) = UInt64.ofNat k := by decide +kernel
theorem wb_sm : ∀ k, k < 64 → (BitVec.ofNat 64 k).smod 64 = BitVec.ofNat 64 k := by decide +kernel
theorem wb_pw {a b : Nat} (h : a ≤ b) : 2 ^ b = 2 ^ a * 2 ^ (b - a) := by rw [← Nat.pow_add]; congr 1; omega
theorem wb_lt2 {a b : Nat} (h : a < b) : 2 ^ a < 2 ^ b := Nat.pow_lt_pow_right (by decide) h
theorem wb_mod (n : Nat) : lN n = lN (n % 2 ^ 64) := wb_inj (by rw [wb_tb, wb_tb]; apply BitVec.eq_of_toNat_eq; rw [BitVec.toNat_ofNat, BitVec.toNat_ofNat, Nat.mod_mod])
theorem wb_shr {n k : Nat} (hn : n < 2 ^ 64) (hk : k < 64) : ((lN n).toUInt64 >>> ((nI k).toInt64.toUInt64 &&& Int64.toUInt64 63)).toInt64 = lN (n / 2 ^ k) := by
  rw [wb_cu k hk]
  apply wb_inj
  apply BitVec.eq_of_toNat_eq
  show ((lN n).toUInt64 >>> UInt64.ofNat k).toNat = (BitVec.ofNat 64 _).toNat
  have h1 : (UInt64.ofNat k).toNat = k := by
    show (BitVec.ofNat 64 k).toNat = k
    rw [BitVec.toNat_ofNat, Nat.mod_eq_of_lt (by omega)]
  have h2 : (lN n).toUInt64.toNat = n := wb_tn hn
  rw [UInt64.toNat_shiftRight, h1, h2, Nat.mod_eq_of_lt hk, Nat.shiftRight_eq_div_pow, BitVec.toNat_ofNat, Nat.mod_eq_of_lt (Nat.lt_of_le_of_lt (Nat.div_le_self _ _) hn)]
theorem wb_shl (n : Nat) {k : Nat} (hk : k < 64) : lN n <<< ((nI k).toInt64 &&& 63) = lN (n * 2 ^ k) := by
  rw [wb_c k hk]
  apply wb_inj
  rw [Int64.toBitVec_shiftLeft, wb_tb, wb_tb, wb_tb, wb_sm k hk]
  apply BitVec.eq_of_toNat_eq
  rw [BitVec.shiftLeft_eq', BitVec.toNat_shiftLeft, BitVec.toNat_ofNat, BitVec.toNat_ofNat, BitVec.toNat_ofNat, Nat.mod_eq_of_lt (show k < 2 ^ 64 by omega), Nat.shiftLeft_eq, Nat.mul_mod, Nat.mod_mod, ← Nat.mul_mod]
theorem wb_and {a b : Nat} (ha : a < 2 ^ 64) (hb : b < 2 ^ 64) : lN a &&& lN b = lN (a &&& b) := by
  apply wb_inj
  rw [Int64.toBitVec_and, wb_tb, wb_tb, wb_tb]
  apply BitVec.eq_of_toNat_eq
  rw [BitVec.toNat_and, BitVec.toNat_ofNat, BitVec.toNat_ofNat, BitVec.toNat_ofNat, Nat.mod_eq_of_lt ha, Nat.mod_eq_of_lt hb, Nat.mod_eq_of_lt (Nat.and_lt_two_pow _ hb)]
theorem wb_or {a b : Nat} (ha : a < 2 ^ 64) (hb : b < 2 ^ 64) : lN a ||| lN b = lN (a ||| b) := by
  apply wb_inj
  rw [Int64.toBitVec_or, wb_tb, wb_tb, wb_tb]
  apply BitVec.eq_of_toNat_eq
  rw [BitVec.toNat_or, BitVec.toNat_ofNat, BitVec.toNat_ofNat, BitVec.toNat_ofNat, Nat.mod_eq_of_lt ha, Nat.mod_eq_of_lt hb, Nat.mod_eq_of_lt (Nat.or_lt_two_pow ha hb)]
theorem wb_mask {n k : Nat} (hn : n < 2 ^ 64) (hk : k < 64) : lN n &&& lN (2 ^ k - 1) = lN (n % 2 ^ k) := by
  rw [wb_and hn (by have := wb_lt2 hk; omega), Nat.and_two_pow_sub_one_eq_mod]
theorem wb_a1 {n : Nat} (hn : n < 2 ^ 64) : lN n &&& 1 = lN (n % 2) := wb_mask (k := 1) hn (by decide)
theorem wb_bit {n k : Nat} (hn : n < 2 ^ 64) (hk : k < 64) : ((lN n).toUInt64 >>> ((nI k).toInt64.toUInt64 &&& Int64.toUInt64 63)).toInt64 &&& 1 = lN (n / 2 ^ k % 2) := by
  rw [wb_shr hn hk, wb_a1 (Nat.lt_of_le_of_lt (Nat.div_le_self _ _) hn)]
def uN (x : Int64) : Nat := x.toUInt64.toNat
theorem uN_lt (x : Int64) : uN x < 18446744073709551616 := x.toUInt64.toNat_lt
theorem uN_inj {x y : Int64} (h : uN x = uN y) : x = y := congrArg UInt64.toInt64 (UInt64.toNat_inj.mp h)
theorem uN_add (x y : Int64) : uN (x + y) = (uN x + uN y) % 18446744073709551616 := by
  show (x.toUInt64 + y.toUInt64).toNat = _
  exact UInt64.toNat_add _ _
theorem uN_mul (x y : Int64) : uN (x * y) = (uN x * uN y) % 18446744073709551616 := by
  show (x.toUInt64 * y.toUInt64).toNat = _
  exact UInt64.toNat_mul _ _
theorem uN_shl (x : Int64) : uN (x <<< ((1 : Int32).toInt64 &&& 63)) = (2 * uN x) % 18446744073709551616 := by
  have h : (((1 : Int32).toInt64 &&& 63).toBitVec.smod 64).toNat = 1 := by decide
  show (x.toBitVec <<< (((1 : Int32).toInt64 &&& 63).toBitVec.smod 64).toNat).toNat = _
  rw [h, BitVec.toNat_shiftLeft, Nat.shiftLeft_eq, Nat.mul_comm]
  rfl
theorem uN_shr (x : Int64) (s : UInt64) : uN (x.toUInt64 >>> s).toInt64 = uN x / 2 ^ (s.toNat % 64) := by
  show (x.toUInt64 >>> s).toNat = _
  rw [UInt64.toNat_shiftRight, Nat.shiftRight_eq_div_pow]
  rfl
theorem uN_s32 (x : Int64) : uN (x.toUInt64 >>> ((32 : Int32).toInt64.toUInt64 &&& Int64.toUInt64 63)).toInt64 = uN x / 4294967296 := by
  have h : ((32 : Int32).toInt64.toUInt64 &&& Int64.toUInt64 63).toNat % 64 = 32 := by decide
  rw [uN_shr, h]
theorem uN_s63 (x : Int64) : uN (x.toUInt64 >>> ((63 : Int32).toInt64.toUInt64 &&& Int64.toUInt64 63)).toInt64 = uN x / 9223372036854775808 := by
  have h : ((63 : Int32).toInt64.toUInt64 &&& Int64.toUInt64 63).toNat % 64 = 63 := by decide
  rw [uN_shr, h]
theorem uN_lo (x : Int64) : uN (x &&& 4294967295) = uN x % 4294967296 := by
  show (x.toUInt64 &&& Int64.toUInt64 4294967295).toNat = _
  rw [UInt64.toNat_and]
  exact Nat.and_two_pow_sub_one_eq_mod _ 32
theorem uN_bit (x : Int64) : (x &&& 1) = 0 ↔ uN x % 2 = 0 := by
  have h : uN (x &&& 1) = uN x % 2 := by
    show (x.toUInt64 &&& Int64.toUInt64 1).toNat = _
    rw [UInt64.toNat_and]
    exact Nat.and_two_pow_sub_one_eq_mod _ 1
  rw [← h]
  exact ⟨fun z => by rw [z]; rfl, fun z => uN_inj (z.trans rfl)⟩
theorem uN_or {x y : Int64} (hy : uN y < 2) : uN ((x <<< ((1 : Int32).toInt64 &&& 63)) ||| y) = (2 * uN x) % 18446744073709551616 + uN y := by
  have h1 : uN ((x <<< ((1 : Int32).toInt64 &&& 63)) ||| y) = uN (x <<< ((1 : Int32).toInt64 &&& 63)) ||| uN y := UInt64.toNat_or _ _
  have h2 : (2 * uN x) % 18446744073709551616 = 2 ^ 1 * (uN x % 9223372036854775808) := by omega
  rw [h1, uN_shl, h2]
  exact (Nat.two_pow_add_eq_or_of_lt (i := 1) hy _).symm
theorem nat_xor {a : Nat} (h : a < 18446744073709551616) : a ^^^ 2 ^ 63 = (a + 9223372036854775808) % 18446744073709551616 := by
  have h1 : (a ^^^ 2 ^ 63) % 2 ^ 63 = a % 2 ^ 63 := by rw [Nat.xor_mod_two_pow, Nat.mod_self, Nat.xor_zero]
  have h2 : (a ^^^ 2 ^ 63) / 2 ^ 63 = (a / 2 ^ 63) ^^^ 1 := by rw [Nat.xor_div_two_pow, Nat.div_self (Nat.two_pow_pos 63)]
  have h3 : a / 2 ^ 63 = 0 ∨ a / 2 ^ 63 = 1 := by omega
  generalize a ^^^ 2 ^ 63 = t at h1 h2
  rcases h3 with h3 | h3
  · rw [h3] at h2
    have h2 : t / 2 ^ 63 = 1 := h2
    omega
  · rw [h3] at h2
    have h2 : t / 2 ^ 63 = 0 := h2
    omega
theorem uN_xor (x : Int64) : uN (x ^^^ (-9223372036854775808)) = (uN x + 9223372036854775808) % 18446744073709551616 := by
  rw [← nat_xor (uN_lt x)]
  exact UInt64.toNat_xor _ _
theorem uN_int (x : Int64) : x.toInt = if 2 * uN x < 18446744073709551616 then (uN x : Int) else (uN x : Int) - 18446744073709551616 := BitVec.toInt_eq_toNat_cond _
theorem uN_le (x y : Int64) : (x ^^^ (-9223372036854775808)) ≤ (y ^^^ (-9223372036854775808)) ↔ uN x ≤ uN y := by
  have hx := uN_lt x
  have hy := uN_lt y
  rw [Int64.le_iff_toInt_le, uN_int, uN_int, uN_xor, uN_xor]
  omega
theorem uN_sk (x : Int64) {k : Nat} (hk : k < 64) : uN (x.toUInt64 >>> ((nI k).toInt64.toUInt64 &&& Int64.toUInt64 63)).toInt64 = uN x / 2 ^ k := by
  have h : ((nI k).toInt64.toUInt64 &&& Int64.toUInt64 63).toNat % 64 = k := by
    rw [nI_l (by omega), UInt64.toNat_and]
    have e : (lN k).toUInt64.toNat = k % 2 ^ 64 := rfl
    have e2 : (Int64.toUInt64 63).toNat = 2 ^ 6 - 1 := by decide
    rw [e, e2, Nat.and_two_pow_sub_one_eq_mod]
    omega
  rw [uN_shr, h]
/-! ===== own rows from here on ===== -/
/-- '>>>', '<<', '>>' of a long by an int -/
def xsh (x : Int64) (k : Int32) : Int64 := (x.toUInt64 >>> (k.toInt64.toUInt64 &&& Int64.toUInt64 63)).toInt64
def xsl (x : Int64) (k : Int32) : Int64 := x <<< (k.toInt64 &&& 63)
def xsr (x : Int64) (k : Int32) : Int64 := x >>> (k.toInt64 &&& 63)
/-- bit t of a long -/
def xb (x : Int64) (t : Nat) : Bool := x.toBitVec.getLsbD t
theorem xN (x : Int64) : x = lN (uN x) := wb_inj (by rw [wb_tb]; show _ = BitVec.ofNat 64 x.toBitVec.toNat; simp)
theorem uN_lN {n : Nat} (h : n < 2 ^ 64) : uN (lN n) = n := wb_tn h
theorem xb_t (x : Int64) (t : Nat) : (xb x t).toNat = uN x / 2 ^ t % 2 := by
  show (x.toBitVec.getLsbD t).toNat = _
  rw [← BitVec.testBit_toNat, Nat.toNat_testBit]
  rfl
theorem xsh_1 (x : Int64) {k : Nat} (hk : k < 64) : xsh x (nI k) &&& 1 = lN (xb x k).toNat := by
  rw [xb_t]
  have h := wb_bit (n := uN x) (k := k) (uN_lt x) hk
  rw [← xN x] at h
  exact h
theorem xsl_1 {k : Nat} (hk : k < 64) : xsl 1 (nI k) = lN (2 ^ k) := by
  have h := wb_shl 1 hk
  rw [Nat.one_mul] at h
  exact h
theorem xb_pow {k t : Nat} (ht : t < 64) : xb (lN (2 ^ k)) t = decide (k = t) := by
  show (BitVec.ofNat 64 (2 ^ k)).getLsbD t = _
  rw [BitVec.getLsbD_ofNat, Nat.testBit_two_pow]
  simp [ht]
theorem xb_or (x y : Int64) (t : Nat) : xb (x ||| y) t = (xb x t || xb y t) := by
  show (x ||| y).toBitVec.getLsbD t = _
  rw [Int64.toBitVec_or, BitVec.getLsbD_or]
  rfl
theorem xb_and (x y : Int64) (t : Nat) : xb (x &&& y) t = (xb x t && xb y t) := by
  show (x &&& y).toBitVec.getLsbD t = _
  rw [Int64.toBitVec_and, BitVec.getLsbD_and]
  rfl
theorem xb_not (x : Int64) {t : Nat} (ht : t < 64) : xb (x ^^^ (-1)) t = !xb x t := by
  show (x ^^^ (-1)).toBitVec.getLsbD t = _
  rw [Int64.toBitVec_xor, BitVec.getLsbD_xor]
  have h : (-1 : Int64).toBitVec = BitVec.allOnes 64 := by decide
  rw [h, BitVec.getLsbD_allOnes]
  simp [ht, xb]
/-- bit j of a row of longs -/
def xw (f : Nat → Int64) (j : Nat) : Bool := xb (f (j / 64)) (j % 64)
theorem xw_set (f : Nat → Int64) (i j : Nat) : xw (vp_updL f (i / 64) (f (i / 64) ||| lN (2 ^ (i % 64)))) j = va_up (xw f) i true j := by
  unfold xw vp_updL va_up
  by_cases hq : j / 64 = i / 64
  · rw [if_pos hq, xb_or, xb_pow (by omega)]
    by_cases he : j = i
    · subst he; simp
    · rw [if_neg he]
      have : ¬ i % 64 = j % 64 := by omega
      simp [this, hq]
  · rw [if_neg hq, if_neg (by intro h; subst h; exact hq rfl)]
theorem xw_clear (f : Nat → Int64) (i j : Nat) : xw (vp_updL f (i / 64) (f (i / 64) &&& (lN (2 ^ (i % 64)) ^^^ (-1)))) j = va_up (xw f) i false j := by
  unfold xw vp_updL va_up
  by_cases hq : j / 64 = i / 64
  · rw [if_pos hq, xb_and, xb_not _ (by omega), xb_pow (by omega)]
    by_cases he : j = i
    · subst he; simp
    · rw [if_neg he]
      have : ¬ i % 64 = j % 64 := by omega
      simp [this, hq]
  · rw [if_neg hq, if_neg (by intro h; subst h; exact hq rfl)]
/-- k bits from a on, the first the highest -/
def xv (β : Nat → Bool) (a : Nat) : Nat → Nat
  | 0 => 0
  | k + 1 => 2 * xv β a k + (β (a + k)).toNat
theorem xv_lt (β : Nat → Bool) (a : Nat) : ∀ k, xv β a k < 2 ^ k
  | 0 => by simp [xv]
  | k + 1 => by
    have h := xv_lt β a k
    have h2 : (β (a + k)).toNat < 2 := Bool.toNat_lt _
    rw [xv, Nat.pow_succ]
    omega
theorem xv_step {β : Nat → Bool} {a k : Nat} (hk : k < 64) : xsl (lN (xv β a k)) 1 ||| lN (β (a + k)).toNat = lN (xv β a (k + 1)) := by
  have h := xv_lt β a k
  have h2 : (β (a + k)).toNat < 2 := Bool.toNat_lt _
  have h3 : xv β a (k + 1) < 2 ^ 64 := Nat.lt_of_lt_of_le (xv_lt β a (k + 1)) (Nat.pow_le_pow_right (by decide) (by omega))
  have h4 : xv β a k < 2 ^ 63 := Nat.lt_of_lt_of_le h (Nat.pow_le_pow_right (by decide) (by omega))
  apply uN_inj
  rw [show xsl (lN (xv β a k)) 1 = (lN (xv β a k)) <<< ((1 : Int32).toInt64 &&& 63) from rfl, uN_or (by rw [uN_lN (by omega)]; exact h2), uN_lN (by omega), uN_lN (by omega), uN_lN h3, xv]
  omega
/-- the lowest k bits of x, the highest first, from n on -/
def xa (β : Nat → Bool) (n : Nat) (x : Int64) (k : Nat) : Nat → Bool := fun j => if n ≤ j ∧ j < n + k then xb x (n + k - 1 - j) else β j
theorem xa_0 (β : Nat → Bool) (n : Nat) (x : Int64) : xa β n x 0 = β := by
  funext j
  unfold xa
  rw [if_neg (by omega)]
theorem xa_succ (β : Nat → Bool) (n : Nat) (x : Int64) (r : Nat) : xa (va_up β n (xb x r)) (n + 1) x r = xa β n x (r + 1) := by
  funext j
  unfold xa va_up
  by_cases h1 : n + 1 ≤ j ∧ j < n + 1 + r
  · rw [if_pos h1, if_pos (by omega)]
    congr 1
    omega
  · rw [if_neg h1]
    by_cases h2 : j = n
    · subst h2
      rw [if_pos rfl, if_pos (by omega)]
      congr 1
      omega
    · rw [if_neg h2, if_neg (by omega)]
/-- how many bits a number needs -/
def nbl (n : Nat) : Nat := if n = 0 then 0 else n.log2 + 1
theorem nbl_le {n k : Nat} : nbl n ≤ k ↔ n < 2 ^ k := by
  unfold nbl
  by_cases h : n = 0
  · subst h
    simp [Nat.two_pow_pos]
  · rw [if_neg h, ← Nat.log2_lt h]
    omega
theorem nbl_lt {n k : Nat} : k < nbl n ↔ 2 ^ k ≤ n := by
  have := @nbl_le n k
  omega
theorem nbl_0 {n : Nat} : nbl n = 0 ↔ n = 0 := by
  have := @nbl_le n 0
  omega
theorem nbl_64 (x : Int64) : nbl (uN x) ≤ 64 := nbl_le.mpr (uN_lt x)
/-- nbl by its two bounds -/
theorem nbl_eq {n k : Nat} (h1 : n < 2 ^ k) (h2 : 0 < k → 2 ^ (k - 1) ≤ n) : nbl n = k := by
  have a := nbl_le.mpr h1
  rcases Nat.eq_zero_or_pos k with h | h
  · omega
  · have b := nbl_lt.mpr (h2 h)
    omega
theorem nbl_div {n e : Nat} (h : 2 ^ e ≤ n) : nbl n = e + nbl (n / 2 ^ e) := by
  have h0 : 0 < 2 ^ e := Nat.two_pow_pos e
  have h1 : 0 < n / 2 ^ e := Nat.div_pos h h0
  have h2 : 0 < nbl (n / 2 ^ e) := by
    rw [Nat.pos_iff_ne_zero]
    intro z
    rw [nbl_0] at z
    omega
  refine nbl_eq ?_ (fun _ => ?_)
  · have := nbl_le.mp (Nat.le_refl (nbl (n / 2 ^ e)))
    rw [Nat.pow_add, Nat.mul_comm]
    exact (Nat.div_lt_iff_lt_mul h0).mp this
  · have := nbl_lt.mp (show nbl (n / 2 ^ e) - 1 < nbl (n / 2 ^ e) by omega)
    rw [show e + nbl (n / 2 ^ e) - 1 = (nbl (n / 2 ^ e) - 1) + e by omega, Nat.pow_add]
    exact (Nat.le_div_iff_mul_le h0).mp this
/-- a number with sign, its sign taken off -/
def xav (v : Int64) : Int64 := if v < 0 then v ^^^ (-1) else v
theorem uN_not (x : Int64) : uN (x ^^^ (-1)) = 18446744073709551615 - uN x := by
  show (x ^^^ (-1)).toBitVec.toNat = 18446744073709551615 - x.toBitVec.toNat
  have h : (-1 : Int64).toBitVec = BitVec.allOnes 64 := by decide
  rw [Int64.toBitVec_xor, h, BitVec.xor_allOnes, BitVec.toNat_not]
theorem xneg (v : Int64) : v < 0 ↔ 9223372036854775808 ≤ uN v := by
  have := uN_lt v
  rw [Int64.lt_iff_toInt_lt, uN_int, Int64.toInt_zero]
  split <;> omega
theorem xav_lt (v : Int64) : uN (xav v) < 2 ^ 63 := by
  have := uN_lt v
  have h := xneg v
  unfold xav
  split
  · rename_i g
    have := h.mp g
    rw [uN_not]
    omega
  · rename_i g
    have : ¬ 9223372036854775808 ≤ uN v := fun z => g (h.mpr z)
    omega
/-- how many bytes a number of this kind needs -/
def nb (kind : Int32) (v : Int64) : Nat := max 1 (((if kind = 1 then 1 + nbl (uN (xav v)) else nbl (uN v)) + 7) / 8)
theorem nb_1 (kind : Int32) (v : Int64) : 1 ≤ nb kind v := Nat.le_max_left _ _
theorem nb_8 (kind : Int32) (v : Int64) : nb kind v ≤ 8 := by
  have h1 := nbl_64 v
  have h2 : nbl (uN (xav v)) ≤ 63 := nbl_le.mpr (xav_lt v)
  unfold nb
  split <;> omega
theorem nx_or (a b : Nat) : nI a ||| nI b = nI (a ||| b) := by
  apply Int32.toBitVec_inj.mp
  show BitVec.ofNat 32 a ||| BitVec.ofNat 32 b = BitVec.ofNat 32 (a ||| b)
  apply BitVec.eq_of_getLsbD_eq
  intro i hi
  rw [BitVec.getLsbD_or, BitVec.getLsbD_ofNat, BitVec.getLsbD_ofNat, BitVec.getLsbD_ofNat, Nat.testBit_or]
  simp [hi]
theorem or_15 {k : Nat} (h : k < 32768) : 32768 ||| k = 32768 + k := (Nat.two_pow_add_eq_or_of_lt (i := 15) h 1).symm
theorem or_6 {k : Nat} (h : k < 64) : 192 ||| k = 192 + k := (Nat.two_pow_add_eq_or_of_lt (i := 6) h 3).symm
theorem xmin {q j : Nat} (hq : q < 2 ^ 31) (hj : j < 2 ^ 31) : (if nI j < nI q then nI j else nI q) = nI (min q j) := by
  by_cases hc : j < q
  · rw [if_pos ((nI_ltI hj hq).mpr hc), Nat.min_eq_right (by omega)]
  · rw [if_neg (fun z => hc ((nI_ltI hj hq).mp z)), Nat.min_eq_left (by omega)]
theorem xmin4 {k : Nat} (h : k < 2 ^ 31) : (if (4 : Int32) < nI k then (4 : Int32) else nI k) = nI (min 4 k) := by
  show (if nI 4 < nI k then nI 4 else nI k) = nI (min 4 k)
  rw [Nat.min_comm]
  exact xmin h (by decide)
theorem xsh_0 (x : Int64) {k : Nat} (hk : k < 64) : xsh x (nI k) = 0 ↔ nbl (uN x) ≤ k := by
  have h : uN (xsh x (nI k)) = uN x / 2 ^ k := uN_sk x hk
  rw [nbl_le]
  have h0 : 0 < 2 ^ k := Nat.two_pow_pos k
  constructor
  · intro z
    rw [z] at h
    have h : 0 = uN x / 2 ^ k := h
    exact Nat.lt_of_div_eq_zero h0 h.symm
  · intro z
    apply uN_inj
    rw [h, Nat.div_eq_of_lt z]
    rfl
theorem xsr_int (x : Int64) {k : Nat} (hk : k < 64) : (xsr x (nI k)).toInt = x.toInt / 2 ^ k := by
  show (x >>> ((nI k).toInt64 &&& 63)).toInt = _
  rw [wb_c k hk]
  show (x.toBitVec.sshiftRight ((lN k).toBitVec.smod 64).toNat).toInt = _
  rw [wb_tb, wb_sm k hk, BitVec.toNat_ofNat, Nat.mod_eq_of_lt (by omega), BitVec.toInt_sshiftRight, Int.shiftRight_eq_div_pow]
  simp
theorem xav_int (x : Int64) : (uN (xav x) : Int) = if x.toInt < 0 then -x.toInt - 1 else x.toInt := by
  have h := uN_lt x
  have hn := xneg x
  rw [Int64.lt_iff_toInt_lt, Int64.toInt_zero] at hn
  have hi := uN_int x
  unfold xav
  by_cases hc : x < 0
  · have hc' : x.toInt < 0 := by rw [Int64.lt_iff_toInt_lt, Int64.toInt_zero] at hc; exact hc
    rw [if_pos hc, if_pos hc', uN_not]
    split at hi <;> omega
  · have hc' : ¬ x.toInt < 0 := by rw [Int64.lt_iff_toInt_lt, Int64.toInt_zero] at hc; exact hc
    rw [if_neg hc, if_neg hc']
    split at hi <;> omega
theorem xsr_iff (x : Int64) {k : Nat} (hk : k < 64) : (xsr x (nI k) = 0 ∨ xsr x (nI k) = -1) ↔ nbl (uN (xav x)) ≤ k := by
  rw [nbl_le, ← Int64.toInt_inj, ← Int64.toInt_inj, xsr_int x hk]
  have e0 : (0 : Int64).toInt = 0 := by decide
  have e1 : (-1 : Int64).toInt = -1 := by decide
  rw [e0, e1]
  have hv := xav_int x
  have hp : (0 : Int) < 2 ^ k := Int.pow_pos (by decide)
  have hc : ((2 ^ k : Nat) : Int) = 2 ^ k := by simp
  have hlt : uN (xav x) < 2 ^ k ↔ (uN (xav x) : Int) < 2 ^ k := by rw [← hc]; omega
  rw [hlt, hv]
  generalize (2 : Int) ^ k = P at hp
  generalize x.toInt = X
  constructor
  · rintro (z | z)
    · have h1 := Int.emod_add_mul_ediv X P
      have h2 := Int.emod_nonneg X (show P ≠ 0 by omega)
      have h3 := Int.emod_lt_of_pos X hp
      rw [z] at h1
      split <;> omega
    · have h1 := Int.emod_add_mul_ediv X P
      have h2 := Int.emod_nonneg X (show P ≠ 0 by omega)
      have h3 := Int.emod_lt_of_pos X hp
      rw [z] at h1
      split <;> omega
  · intro z
    by_cases hX : X < 0
    · rw [if_pos hX] at z
      right
      have a1 := (Int.le_ediv_iff_mul_le (a := -1) (b := X) hp).mpr (by omega)
      have a2 := (Int.ediv_lt_iff_lt_mul (a := X) (b := 0) hp).mpr (by omega)
      omega
    · rw [if_neg hX] at z
      left
      exact Int.ediv_eq_zero_of_lt (by omega) z
theorem vp_nz (b : Bool) : vp_nar .boolean (nI b.toNat) = nI b.toNat := by cases b <;> decide
