/-! longs and ints as the program handles them -/
section ZWRD
theorem zL_add (a b : Nat) : lN a + lN b = lN (a + b) := by rw [lN_z, lN_z, lN_z, jZ_add]; rfl
theorem zL_sub {a b : Nat} (h : b ≤ a) : lN a - lN b = lN (a - b) := by rw [lN_z, lN_z, lN_z, jZ_sub]; congr 1; omega
theorem zL_mul (a b : Nat) : lN a * lN b = lN (a * b) := by rw [lN_z, lN_z, lN_z, jZ_mul]; congr 1
theorem zN_add (a b : Nat) : nI a + nI b = nI (a + b) := by rw [nI_z, nI_z, nI_z, iZ_add]; rfl
theorem zN_sub {a b : Nat} (h : b ≤ a) : nI a - nI b = nI (a - b) := by rw [nI_z, nI_z, nI_z, iZ_sub]; congr 1; omega
theorem zN_mul (a b : Nat) : nI a * nI b = nI (a * b) := by rw [nI_z, nI_z, nI_z, iZ_mul]; congr 1
theorem zL_lt {a b : Nat} (ha : a < 9223372036854775808) (hb : b < 9223372036854775808) : lN a < lN b ↔ a < b := by rw [lN_z, lN_z, jZ_lt (by omega) (by omega)]; omega
theorem zL_le {a b : Nat} (ha : a < 9223372036854775808) (hb : b < 9223372036854775808) : lN a ≤ lN b ↔ a ≤ b := by rw [lN_z, lN_z, jZ_le (by omega) (by omega)]; omega
theorem zN_lt {a b : Nat} (ha : a < 2147483648) (hb : b < 2147483648) : nI a < nI b ↔ a < b := by rw [nI_z, nI_z, iZ_lt (by omega) (by omega)]; omega
theorem zN_le {a b : Nat} (ha : a < 2147483648) (hb : b < 2147483648) : nI a ≤ nI b ↔ a ≤ b := by rw [nI_z, nI_z, iZ_le (by omega) (by omega)]; omega
theorem zN_eq {a b : Nat} (ha : a < 2147483648) (hb : b < 2147483648) : nI a = nI b ↔ a = b := by rw [nI_z, nI_z, iZ_eq (by omega) (by omega)]; omega
theorem zL_eq0 {a : Nat} (ha : a < 18446744073709551616) : lN a = lN 0 ↔ a = 0 := lN_inj ha (by decide)
theorem zL_neq (n : Nat) (h : n < 18446744073709551616) (h0 : 0 < n) : -(lN n) = lN (18446744073709551616 - n) := by
  rw [lN_z, lN_z, jZ_neg, ← jZ_wrap ((18446744073709551616 - n : Nat) : Int)]; congr 1; omega
/-- booleans as ints -/
def bI (b : Bool) : Int32 := if b then nI 1 else nI 0
theorem bI_0 (b : Bool) : (bI b = nI 0) = (b = false) := by cases b <;> simp [bI] <;> decide
theorem bI_n0 (b : Bool) : (¬ bI b = nI 0) = (b = true) := by cases b <;> simp [bI] <;> decide
theorem bI_t : bI true = nI 1 := rfl
theorem bI_f : bI false = nI 0 := rfl
theorem bI_z (b : Bool) : bI b = 0 ∨ bI b = 1 := by cases b <;> decide
theorem bI_ite (p : Prop) [Decidable p] : (if p then nI 1 else nI 0) = bI (decide p) := by by_cases h : p <;> simp [h, bI]
theorem zrz_1 : (nI 1 = 0 ∨ nI 1 = 1) = True := eq_true (Or.inr rfl)
theorem zrz_0 : (nI 0 = 0 ∨ nI 0 = 1) = True := eq_true (Or.inl rfl)
theorem zrz_b (b : Bool) : (bI b = 0 ∨ bI b = 1) = True := eq_true (bI_z b)
def zbo (x : Int32) : Bool := decide (¬ x = nI 0)
theorem zbo_1 : zbo (nI 1) = true := by decide
theorem zbo_0 : zbo (nI 0) = false := by decide
theorem zbo_b (b : Bool) : zbo (bI b) = b := by cases b <;> decide
theorem zbo_e (x : Int32) : (x = nI 0) = (zbo x = false) := by unfold zbo; simp
theorem va_rf_inj {a b : Option Nat} : (va_rf a = va_rf b) = (a = b) := by
  apply propext
  constructor
  · intro h
    cases a <;> cases b <;> simp [va_rf] at h ⊢
    exact h
  · intro h; rw [h]
/-- bits from a place on -/
theorem nat_hi (n k s : Nat) : n &&& ((2 ^ k - 1) * 2 ^ s) = n / 2 ^ s % 2 ^ k * 2 ^ s := by
  rw [← Nat.and_two_pow_sub_one_eq_mod, ← Nat.shiftLeft_eq, ← Nat.shiftLeft_eq, ← Nat.shiftRight_eq_div_pow]
  apply Nat.eq_of_testBit_eq
  intro i
  simp only [Nat.testBit_and, Nat.testBit_shiftLeft, Nat.testBit_shiftRight]
  by_cases h : s ≤ i
  · simp [h, show s + (i - s) = i by omega]
  · simp [h]
theorem nat_lo (n s : Nat) : n &&& (2 ^ s - 1) = n % 2 ^ s := Nat.and_two_pow_sub_one_eq_mod n s
/-- the lowest bit -/
theorem nat_low {k j w : Nat} (h : 2 ^ k * (2 * j + 1) < 2 ^ (k + w + 1)) : (2 ^ k * (2 * j + 1)) &&& (2 ^ (k + w + 1) - 2 ^ k * (2 * j + 1)) = 2 ^ k := by
  have hj : j < 2 ^ w := by
    rw [show k + w + 1 = k + (w + 1) by omega, Nat.pow_add] at h
    have := Nat.lt_of_mul_lt_mul_left h
    rw [Nat.pow_succ] at this; omega
  have e : 2 ^ (k + w + 1) - 2 ^ k * (2 * j + 1) = 2 ^ k * (2 * (2 ^ w - (j + 1)) + 1) := by
    rw [show k + w + 1 = k + (w + 1) by omega, Nat.pow_add, ← Nat.mul_sub, Nat.pow_succ]; congr 1; omega
  rw [e, Nat.mul_comm, Nat.mul_comm (2 ^ k), ← Nat.shiftLeft_eq, ← Nat.shiftLeft_eq]
  apply Nat.eq_of_testBit_eq
  intro i
  rw [Nat.testBit_and, Nat.testBit_shiftLeft, Nat.testBit_shiftLeft, Nat.testBit_two_pow]
  by_cases h1 : k ≤ i
  · obtain ⟨i, rfl⟩ : ∃ x, i = k + x := ⟨i - k, by omega⟩
    rw [show k + i - k = i by omega]
    cases i with
    | zero => simp [Nat.testBit_zero]
    | succ i =>
      rw [Nat.testBit_succ, Nat.testBit_succ, show (2 * j + 1) / 2 = j by omega, show (2 * (2 ^ w - (j + 1)) + 1) / 2 = 2 ^ w - (j + 1) by omega, Nat.testBit_two_pow_sub_succ hj]
      simp
      exact fun h _ => h
  · simp [h1]; omega
def ztz : Nat → Nat → Nat
  | 0, _ => 0
  | f + 1, n => if n % 2 = 1 then 0 else ztz f (n / 2) + 1
theorem ztz_s : ∀ (f n : Nat), 0 < n → n < 2 ^ f → ∃ j, n = 2 ^ ztz f n * (2 * j + 1)
  | 0, n, h, h2 => by simp at h2; omega
  | f + 1, n, h, h2 => by
    unfold ztz
    by_cases h1 : n % 2 = 1
    · rw [if_pos h1]; exact ⟨n / 2, by omega⟩
    · rw [if_neg h1]
      obtain ⟨j, hj⟩ := ztz_s f (n / 2) (by omega) (by rw [Nat.pow_succ] at h2; omega)
      refine ⟨j, ?_⟩
      rw [Nat.pow_succ, Nat.mul_right_comm, ← hj]; omega
/-- how often 2 divides a number -/
def ztw (n : Nat) : Nat := ztz 64 n
theorem ztw_s {n : Nat} (h : 0 < n) (h2 : n < 18446744073709551616) : ∃ j, n = 2 ^ ztw n * (2 * j + 1) := ztz_s 64 n h h2
theorem ztw_lt {n : Nat} (h : 0 < n) (h2 : n < 18446744073709551616) : ztw n < 64 := by
  obtain ⟨j, hj⟩ := ztw_s h h2
  have h3 : 2 ^ ztw n ≤ n := by rw (occs := .pos [2]) [hj]; exact Nat.le_mul_of_pos_right _ (by omega)
  exact (Nat.pow_lt_pow_iff_right (by decide : 1 < 2)).mp (Nat.lt_of_le_of_lt h3 h2)
theorem zL_low {n : Nat} (h : 0 < n) (h2 : n < 18446744073709551616) : lN n &&& -(lN n) = lN (2 ^ ztw n) := by
  obtain ⟨j, hj⟩ := ztw_s h h2
  have ht := ztw_lt h h2
  rw [zL_neq n h2 h]
  refine g_and (by omega) (by omega) ?_
  have := nat_low (k := ztw n) (j := j) (w := 63 - ztw n) (by rw [← hj, show ztw n + (63 - ztw n) + 1 = 64 by omega]; exact h2)
  rw [← hj, show ztw n + (63 - ztw n) + 1 = 64 by omega] at this
  exact this
theorem zbl_2p (k : Nat) : zbl (2 ^ k) = k + 1 := zbl_eq (Nat.le_refl _) (Nat.pow_lt_pow_right (by decide) (by omega))
theorem un_neg {x : Int64} : x < 0 ↔ 9223372036854775808 ≤ un x := by
  have := lN_neg (un_lt x); rw [lN_un] at this; exact this
theorem zN_32 {n : Nat} : (lN n).toInt32 = nI n := by rw [lN_z, jZ_32, nI_z]
theorem zN_64 {n : Nat} (h : n < 2147483648) : (nI n).toInt64 = lN n := by rw [nI_z, lN_z, iZ_64 (by omega) (by omega)]
theorem zN_tn {n : Nat} (h : n < 4294967296) : (nI n).toBitVec.toNat = n := Nat.mod_eq_of_lt h
theorem zN_and {a b : Nat} (ha : a < 4294967296) (hb : b < 4294967296) : nI a &&& nI b = nI (a &&& b) := by
  apply Int32.toBitVec_inj.mp
  rw [Int32.toBitVec_and]
  apply BitVec.eq_of_toNat_eq
  rw [BitVec.toNat_and, zN_tn ha, zN_tn hb, zN_tn (Nat.and_lt_two_pow (n := 32) a hb)]
theorem zN_mask {a k : Nat} (ha : a < 4294967296) (hk : k < 32) : nI a &&& nI (2 ^ k - 1) = nI (a % 2 ^ k) := by
  have := Nat.pow_lt_pow_right (show 1 < 2 by decide) hk
  rw [zN_and ha (by omega), nat_lo]
theorem zLsh {n k : Nat} (hk : k < 64) : lN n <<< ((nI k).toInt64 &&& 63) = lN (n * 2 ^ k) := wb_shl n hk
theorem zLsr {n k : Nat} (hn : n < 18446744073709551616) (hk : k < 64) : ((lN n).toUInt64 >>> ((nI k).toInt64.toUInt64 &&& Int64.toUInt64 63)).toInt64 = lN (n / 2 ^ k) := wb_shr hn hk
theorem zLsr' (x : Int64) {k : Nat} (hk : k < 64) : (x.toUInt64 >>> ((nI k).toInt64.toUInt64 &&& Int64.toUInt64 63)).toInt64 = lN (un x / 2 ^ k) := by
  have := wb_shr (un_lt x) hk; rw [lN_un] at this; exact this
theorem zfE_0 (x : Int64) : zfE (un x) = 2047 ∨ zfE (un x) ≠ 2047 := by omega
end ZWRD
