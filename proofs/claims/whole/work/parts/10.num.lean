/-! numbers: 32 and 64 bits as whole numbers (families wb_, g_, pf_, lN_ begin as the kit's rows to paste) -/
/-! ===== lN n to 2^64: shifts, and, or, masks, one bit ===== -/
theorem wb_tb (n : Nat) : (lN n).toBitVec = BitVec.ofNat 64 n := rfl
theorem wb_inj {a b : Int64} (h : a.toBitVec = b.toBitVec) : a = b := Int64.toBitVec_inj.mp h
theorem wb_tn {n : Nat} (h : n < 2 ^ 64) : (lN n).toBitVec.toNat = n := by rw [wb_tb, BitVec.toNat_ofNat, Nat.mod_eq_of_lt h]
theorem wb_of (x : Int64) : ∃ n, n < 2 ^ 64 ∧ x = lN n := ⟨x.toBitVec.toNat, x.toBitVec.isLt, wb_inj (by rw [wb_tb]; simp)⟩
theorem wb_of32 (x : Int32) : ∃ n, n < 2 ^ 32 ∧ x = nI n := ⟨x.toBitVec.toNat, x.toBitVec.isLt, Int32.toBitVec_inj.mp (by show _ = BitVec.ofNat 32 _; simp)⟩
theorem wb_c : ∀ k, k < 64 → ((nI k).toInt64 &&& 63) = lN k := by decide +kernel
theorem wb_cu : ∀ k, k < 64 → ((nI k).toInt64.toUInt64 &&& Int64.toUInt64 63) = UInt64.ofNat k := by decide +kernel
theorem wb_sm : ∀ k, k < 64 → (BitVec.ofNat 64 k).smod 64 = BitVec.ofNat 64 k := by decide +kernel
theorem wb_pw {a b : Nat} (h : a ≤ b) : 2 ^ b = 2 ^ a * 2 ^ (b - a) := by rw [← Nat.pow_add]; congr 1; omega
theorem wb_lt2 {a b : Nat} (h : a < b) : 2 ^ a < 2 ^ b := Nat.pow_lt_pow_right (by decide) h
theorem wb_mod (n : Nat) : lN n = lN (n % 2 ^ 64) := wb_inj (by rw [wb_tb, wb_tb]; apply BitVec.eq_of_toNat_eq; rw [BitVec.toNat_ofNat, BitVec.toNat_ofNat, Nat.mod_mod])
theorem wb_shr {n k : Nat} (hn : n < 2 ^ 64) (hk : k < 64) : ((lN n).toUInt64 >>> ((nI k).toInt64.toUInt64 &&& Int64.toUInt64 63)).toInt64 = lN (n / 2 ^ k) := by
  rw [wb_cu k hk]
  apply wb_inj
  apply BitVec.eq_of_toNat_eq
  show ((lN n).toUInt64 >>> UInt64.ofNat k).toNat = (BitVec.ofNat 64 _).toNat
  have h1 : (UInt64.ofNat k).toNat = k := by
    show (BitVec.ofNat 64 k).toNat = k
    rw [BitVec.toNat_ofNat, Nat.mod_eq_of_lt (by omega)]
  have h2 : (lN n).toUInt64.toNat = n := wb_tn hn
  rw [UInt64.toNat_shiftRight, h1, h2, Nat.mod_eq_of_lt hk, Nat.shiftRight_eq_div_pow, BitVec.toNat_ofNat, Nat.mod_eq_of_lt (Nat.lt_of_le_of_lt (Nat.div_le_self _ _) hn)]
theorem wb_shl (n : Nat) {k : Nat} (hk : k < 64) : lN n <<< ((nI k).toInt64 &&& 63) = lN (n * 2 ^ k) := by
  rw [wb_c k hk]
  apply wb_inj
  rw [Int64.toBitVec_shiftLeft, wb_tb, wb_tb, wb_tb, wb_sm k hk]
  apply BitVec.eq_of_toNat_eq
  rw [BitVec.shiftLeft_eq', BitVec.toNat_shiftLeft, BitVec.toNat_ofNat, BitVec.toNat_ofNat, BitVec.toNat_ofNat, Nat.mod_eq_of_lt (show k < 2 ^ 64 by omega), Nat.shiftLeft_eq, Nat.mul_mod, Nat.mod_mod, ← Nat.mul_mod]
theorem wb_and {a b : Nat} (ha : a < 2 ^ 64) (hb : b < 2 ^ 64) : lN a &&& lN b = lN (a &&& b) := by
  apply wb_inj
  rw [Int64.toBitVec_and, wb_tb, wb_tb, wb_tb]
  apply BitVec.eq_of_toNat_eq
  rw [BitVec.toNat_and, BitVec.toNat_ofNat, BitVec.toNat_ofNat, BitVec.toNat_ofNat, Nat.mod_eq_of_lt ha, Nat.mod_eq_of_lt hb, Nat.mod_eq_of_lt (Nat.and_lt_two_pow _ hb)]
theorem wb_or {a b : Nat} (ha : a < 2 ^ 64) (hb : b < 2 ^ 64) : lN a ||| lN b = lN (a ||| b) := by
  apply wb_inj
  rw [Int64.toBitVec_or, wb_tb, wb_tb, wb_tb]
  apply BitVec.eq_of_toNat_eq
  rw [BitVec.toNat_or, BitVec.toNat_ofNat, BitVec.toNat_ofNat, BitVec.toNat_ofNat, Nat.mod_eq_of_lt ha, Nat.mod_eq_of_lt hb, Nat.mod_eq_of_lt (Nat.or_lt_two_pow ha hb)]
theorem wb_mask {n k : Nat} (hn : n < 2 ^ 64) (hk : k < 64) : lN n &&& lN (2 ^ k - 1) = lN (n % 2 ^ k) := by
  rw [wb_and hn (by have := wb_lt2 hk; omega), Nat.and_two_pow_sub_one_eq_mod]
theorem wb_a1 {n : Nat} (hn : n < 2 ^ 64) : lN n &&& 1 = lN (n % 2) := wb_mask (k := 1) hn (by decide)
theorem wb_bit {n k : Nat} (hn : n < 2 ^ 64) (hk : k < 64) : ((lN n).toUInt64 >>> ((nI k).toInt64.toUInt64 &&& Int64.toUInt64 63)).toInt64 &&& 1 = lN (n / 2 ^ k % 2) := by
  rw [wb_shr hn hk, wb_a1 (Nat.lt_of_le_of_lt (Nat.div_le_self _ _) hn)]
theorem wb_xor {q k : Nat} (hk : k < 63) (h : 2 ^ k ≤ q) (h2 : q < 2 ^ (k + 1)) : lN q ^^^ lN (2 ^ k) = lN (q - 2 ^ k) := by
  obtain ⟨r, rfl⟩ : ∃ r, q = 2 ^ k + r := ⟨q - 2 ^ k, by omega⟩
  have hr : r < 2 ^ k := by rw [Nat.pow_succ] at h2; omega
  have hx : (2 ^ k + r) ^^^ 2 ^ k = r := by
    apply Nat.eq_of_testBit_eq
    intro i
    rw [Nat.testBit_xor, Nat.testBit_two_pow]
    rcases Nat.lt_trichotomy i k with h | h | h
    · rw [Nat.testBit_two_pow_add_gt h]
      simp [show ¬ k = i by omega]
    · subst h
      rw [Nat.testBit_two_pow_add_eq]
      simp
    · have a1 : 2 ^ (k + 1) ≤ 2 ^ i := Nat.pow_le_pow_right (by decide) h
      rw [Nat.testBit_lt_two_pow (show 2 ^ k + r < 2 ^ i by omega), Nat.testBit_lt_two_pow (show r < 2 ^ i by omega)]
      simp [show ¬ k = i by omega]
  have b1 := wb_lt2 (show k + 1 < 64 by omega)
  have b2 := wb_lt2 (show k < 64 by omega)
  apply wb_inj
  rw [Int64.toBitVec_xor, wb_tb, wb_tb, wb_tb]
  apply BitVec.eq_of_toNat_eq
  rw [BitVec.toNat_xor, BitVec.toNat_ofNat, BitVec.toNat_ofNat, BitVec.toNat_ofNat, Nat.mod_eq_of_lt (by omega : 2 ^ k + r < 2 ^ 64), Nat.mod_eq_of_lt b2, hx, Nat.add_sub_cancel_left, Nat.mod_eq_of_lt (by omega)]
/-! ===== lN: masks, 'or' of parts that don't overlap is a sum ===== -/
theorem u_tn {n : Nat} (h : n < 2 ^ 64) : (UInt64.ofNat n).toNat = n := Nat.mod_eq_of_lt h
theorem g_and {a b c : Nat} (ha : a < 2 ^ 64) (hb : b < 2 ^ 64) (hc : a &&& b = c) : lN a &&& lN b = lN c := by
  subst hc
  have h : UInt64.ofNat a &&& UInt64.ofNat b = UInt64.ofNat (a &&& b) := UInt64.toNat_inj.mp (by rw [UInt64.toNat_and, u_tn ha, u_tn hb, u_tn (Nat.and_lt_two_pow a hb)])
  have h2 := congrArg UInt64.toInt64 h
  exact h2
theorem g_and1 {a : Nat} (ha : a < 2 ^ 64) : lN a &&& 1 = lN (a % 2) := g_and (b := 1) ha (by decide) (Nat.and_two_pow_sub_one_eq_mod a 1)
theorem g_mask {a s p : Nat} (hp : 2 ^ s = p) (hs : s < 64) (ha : a < 2 ^ 64) : lN a &&& lN (p - 1) = lN (a % p) := by
  subst hp
  have := Nat.pow_lt_pow_right (show 1 < 2 by decide) hs
  exact g_and ha (by omega) (Nat.and_two_pow_sub_one_eq_mod a s)
theorem g_or {k p a b : Nat} (hp : 2 ^ k = p) (ha : a < p) (h : b * p + a < 2 ^ 64) : lN (b * p) ||| lN a = lN (b * p + a) := by
  subst hp
  have h1 : b * 2 ^ k ||| a = b * 2 ^ k + a := by rw [← Nat.shiftLeft_eq, Nat.shiftLeft_add_eq_or_of_lt ha]
  have h3 : UInt64.ofNat (b * 2 ^ k) ||| UInt64.ofNat a = UInt64.ofNat (b * 2 ^ k + a) := UInt64.toNat_inj.mp (by rw [UInt64.toNat_or, u_tn (by omega), u_tn (by omega), u_tn h, h1])
  have h2 := congrArg UInt64.toInt64 h3
  exact h2
theorem g_or' {k p a b : Nat} (hp : 2 ^ k = p) (ha : a < p) (h : a + b * p < 2 ^ 64) : lN a ||| lN (b * p) = lN (a + b * p) := by
  rw [Int64.or_comm, g_or hp ha (by omega), Nat.add_comm]
theorem g_ushr {a k p : Nat} {y : UInt64} (hy : y = UInt64.ofNat k) (hk : k < 64) (hp : 2 ^ k = p) (ha : a < 2 ^ 64) : ((lN a).toUInt64 >>> y).toInt64 = lN (a / p) := by
  subst hy hp
  have h : UInt64.ofNat a >>> UInt64.ofNat k = UInt64.ofNat (a / 2 ^ k) := UInt64.toNat_inj.mp (by rw [UInt64.toNat_shiftRight, u_tn ha, u_tn (by omega), u_tn (Nat.lt_of_le_of_lt (Nat.div_le_self _ _) ha), Nat.mod_eq_of_lt hk, Nat.shiftRight_eq_div_pow])
  have h2 := congrArg UInt64.toInt64 h
  exact h2
theorem g_shl {a k p : Nat} {y : Int64} (hy : y.toBitVec.smod 64 = BitVec.ofNat 64 k) (hk : k < 64) (hp : 2 ^ k = p) (ha : a < 2 ^ 64) : lN a <<< y = lN (a * p) := by
  subst hp
  apply Int64.toBitVec_inj.mp
  rw [Int64.toBitVec_shiftLeft, hy]
  apply BitVec.eq_of_toNat_eq
  have hb : (lN a).toBitVec.toNat = a := Nat.mod_eq_of_lt ha
  have hk' : (BitVec.ofNat 64 k).toNat = k := Nat.mod_eq_of_lt (by omega)
  have h : ((lN a).toBitVec <<< BitVec.ofNat 64 k).toNat = (a * 2 ^ k) % 2 ^ 64 := by simp only [BitVec.shiftLeft_eq', BitVec.toNat_shiftLeft, hb, hk', Nat.shiftLeft_eq]
  exact h
/-! ===== lN to 2^62 under >> and >>> ===== -/
theorem pf_lI {a : Nat} (h : a < 2 ^ 63) : (lN a).toInt = (a : Int) := lg_ofNat_toInt h
theorem pf_shr {a d : Nat} {D : Int64} (hD : (D.toBitVec.smod 64).toNat = d) (h : a < 2 ^ 62) : lN a >>> D = lN (a / 2 ^ d) := by
  have hd : a / 2 ^ d ≤ a := Nat.div_le_self _ _
  apply Int64.toInt_inj.mp
  have e : (lN a >>> D).toInt = (lN a).toInt >>> d := by
    rw [← hD]
    exact BitVec.toInt_sshiftRight ..
  rw [e, Int.shiftRight_eq_div_pow, pf_lI (by omega), pf_lI (by omega)]
  rfl
theorem pf_ushr {a d : Nat} {D : UInt64} (hD : D.toNat % 64 = d) (h : a < 2 ^ 62) : ((lN a).toUInt64 >>> D).toInt64 = lN (a / 2 ^ d) := by
  have hd : a / 2 ^ d ≤ a := Nat.div_le_self _ _
  have e : (lN a).toUInt64 >>> D = UInt64.ofNat (a / 2 ^ d) := UInt64.toNat_inj.mp (by
    rw [UInt64.toNat_shiftRight, hD, Nat.shiftRight_eq_div_pow, UInt64.toNat_ofNat']
    show (UInt64.ofNat a).toNat / 2 ^ d = _
    rw [UInt64.toNat_ofNat', Nat.mod_eq_of_lt (by omega), Nat.mod_eq_of_lt (by omega)])
  rw [e]
  rfl
theorem pf_andw (x : Int64) : ∃ m, m < 2 ^ 32 ∧ x &&& 4294967295 = lN m := ⟨x.toBitVec.toNat % 2 ^ 32, Nat.mod_lt _ (by decide), Int64.toBitVec_inj.mp (BitVec.eq_of_toNat_eq (by
  show (x.toBitVec &&& 4294967295#64).toNat = (BitVec.ofNat 64 (x.toBitVec.toNat % 2 ^ 32)).toNat
  rw [BitVec.toNat_and, show (4294967295#64).toNat = 2 ^ 32 - 1 from by decide, Nat.and_two_pow_sub_one_eq_mod, BitVec.toNat_ofNat]
  omega))⟩
/-! ===== unsigned comparison by xor with the least ===== -/
theorem lN_bv (n : Nat) : (lN n).toBitVec = BitVec.ofNat 64 n := rfl
theorem lN_nat {n : Nat} (h : n < 2 ^ 64) : (lN n).toBitVec.toNat = n := by rw [lN_bv, BitVec.toNat_ofNat]; exact Nat.mod_eq_of_lt h
theorem lN_xor (a b : Nat) : lN a ^^^ lN b = lN (a ^^^ b) := by
  apply Int64.toBitVec_inj.mp; rw [Int64.toBitVec_xor, lN_bv, lN_bv, lN_bv]; apply BitVec.eq_of_getLsbD_eq; intro i hi; simp [BitVec.getLsbD_ofNat, Nat.testBit_xor, hi]
theorem lN_ti {m : Nat} (h : m < 2 ^ 64) : (lN m).toInt = if m < 2 ^ 63 then (m : Int) else (m : Int) - 2 ^ 64 := by
  have c := BitVec.toInt_eq_toNat_cond (lN m).toBitVec
  rw [lN_nat h] at c
  show (lN m).toBitVec.toInt = _
  rw [c]
  split <;> split <;> omega
theorem xor63 {x : Nat} (h : x < 2 ^ 63) : x ^^^ 2 ^ 63 = 2 ^ 63 + x := by
  apply Nat.eq_of_testBit_eq
  intro i
  rw [Nat.testBit_xor, Nat.testBit_two_pow]
  rcases Nat.lt_trichotomy i 63 with z | z | z
  · rw [Nat.testBit_two_pow_add_gt z, decide_eq_false (by omega)]; simp
  · subst z; rw [Nat.testBit_two_pow_add_eq]; simp
  · have hp : 2 ^ 64 ≤ 2 ^ i := Nat.pow_le_pow_right (by decide) z
    rw [Nat.testBit_lt_two_pow (show x < 2 ^ i by omega), Nat.testBit_lt_two_pow (show 2 ^ 63 + x < 2 ^ i by omega), decide_eq_false (by omega)]; rfl
theorem xorS {a : Nat} (h : a < 2 ^ 64) : (lN a ^^^ (-9223372036854775808)).toInt = (a : Int) - 2 ^ 63 := by
  rw [show (-9223372036854775808 : Int64) = lN (2 ^ 63) from by decide +kernel, lN_xor]
  rcases Nat.lt_or_ge a (2 ^ 63) with z | z
  · rw [xor63 z, lN_ti (by omega), if_neg (by omega)]; omega
  · obtain ⟨x, rfl⟩ : ∃ x, a = 2 ^ 63 + x := ⟨a - 2 ^ 63, by omega⟩
    rw [← xor63 (by omega), Nat.xor_assoc, Nat.xor_self, Nat.xor_zero, lN_ti (by omega), if_pos (by omega), xor63 (by omega)]; omega
theorem ultL {a b : Nat} (ha : a < 2 ^ 64) (hb : b < 2 ^ 64) : ((lN b ^^^ (-9223372036854775808)) ≤ (lN a ^^^ (-9223372036854775808))) ↔ b ≤ a := by
  rw [Int64.le_iff_toInt_le, xorS ha, xorS hb]; omega
/-! ===== own: ints ===== -/
def iZ (z : Int) : Int32 := Int32.ofInt z
def jZ (z : Int) : Int64 := Int64.ofInt z
theorem nI_z (n : Nat) : nI n = iZ n := Int32.ofInt_eq_ofNat.symm
theorem lN_z (n : Nat) : lN n = jZ n := Int64.ofInt_eq_ofNat.symm
theorem iZ_t {z : Int} (h1 : -2147483648 ≤ z) (h2 : z < 2147483648) : (iZ z).toInt = z := Int32.toInt_ofInt_of_le (by omega) (by omega)
theorem jZ_t {z : Int} (h1 : -9223372036854775808 ≤ z) (h2 : z < 9223372036854775808) : (jZ z).toInt = z := Int64.toInt_ofInt_of_le (by omega) (by omega)
theorem iZ_of (x : Int32) : iZ x.toInt = x := Int32.ofInt_toInt x
theorem jZ_of (x : Int64) : jZ x.toInt = x := Int64.ofInt_toInt x
theorem iZ_add (a b : Int) : iZ a + iZ b = iZ (a + b) := (Int32.ofInt_add a b).symm
theorem iZ_sub (a b : Int) : iZ a - iZ b = iZ (a - b) := (Int32.ofInt_sub a b).symm
theorem iZ_mul (a b : Int) : iZ a * iZ b = iZ (a * b) := (Int32.ofInt_mul a b).symm
theorem iZ_neg (a : Int) : - iZ a = iZ (-a) := (Int32.ofInt_neg a).symm
theorem jZ_add (a b : Int) : jZ a + jZ b = jZ (a + b) := (Int64.ofInt_add a b).symm
theorem jZ_sub (a b : Int) : jZ a - jZ b = jZ (a - b) := (Int64.ofInt_sub a b).symm
theorem jZ_mul (a b : Int) : jZ a * jZ b = jZ (a * b) := (Int64.ofInt_mul a b).symm
theorem jZ_neg (a : Int) : - jZ a = jZ (-a) := (Int64.ofInt_neg a).symm
theorem iZ_lt {a b : Int} (h1 : -2147483648 ≤ a ∧ a < 2147483648) (h2 : -2147483648 ≤ b ∧ b < 2147483648) : iZ a < iZ b ↔ a < b := by
  rw [Int32.lt_iff_toInt_lt, iZ_t h1.1 h1.2, iZ_t h2.1 h2.2]
theorem iZ_le {a b : Int} (h1 : -2147483648 ≤ a ∧ a < 2147483648) (h2 : -2147483648 ≤ b ∧ b < 2147483648) : iZ a ≤ iZ b ↔ a ≤ b := by
  rw [Int32.le_iff_toInt_le, iZ_t h1.1 h1.2, iZ_t h2.1 h2.2]
theorem iZ_eq {a b : Int} (h1 : -2147483648 ≤ a ∧ a < 2147483648) (h2 : -2147483648 ≤ b ∧ b < 2147483648) : iZ a = iZ b ↔ a = b := by
  rw [← Int32.toInt_inj, iZ_t h1.1 h1.2, iZ_t h2.1 h2.2]
theorem jZ_lt {a b : Int} (h1 : -9223372036854775808 ≤ a ∧ a < 9223372036854775808) (h2 : -9223372036854775808 ≤ b ∧ b < 9223372036854775808) : jZ a < jZ b ↔ a < b := by
  rw [Int64.lt_iff_toInt_lt, jZ_t h1.1 h1.2, jZ_t h2.1 h2.2]
theorem jZ_le {a b : Int} (h1 : -9223372036854775808 ≤ a ∧ a < 9223372036854775808) (h2 : -9223372036854775808 ≤ b ∧ b < 9223372036854775808) : jZ a ≤ jZ b ↔ a ≤ b := by
  rw [Int64.le_iff_toInt_le, jZ_t h1.1 h1.2, jZ_t h2.1 h2.2]
theorem jZ_eq {a b : Int} (h1 : -9223372036854775808 ≤ a ∧ a < 9223372036854775808) (h2 : -9223372036854775808 ≤ b ∧ b < 9223372036854775808) : jZ a = jZ b ↔ a = b := by
  rw [← Int64.toInt_inj, jZ_t h1.1 h1.2, jZ_t h2.1 h2.2]
theorem iZ_wrap (z : Int) : iZ (z - 4294967296) = iZ z := Int32.toInt_inj.mp (by show (Int32.ofInt _).toInt = (Int32.ofInt _).toInt; rw [Int32.toInt_ofInt, Int32.toInt_ofInt]; simp only [Int32.size, Int.bmod_def]; omega)
theorem jZ_wrap (z : Int) : jZ (z - 18446744073709551616) = jZ z := Int64.toInt_inj.mp (by show (Int64.ofInt _).toInt = (Int64.ofInt _).toInt; rw [Int64.toInt_ofInt, Int64.toInt_ofInt]; simp only [Int64.size, Int.bmod_def]; omega)
theorem iZ_m1 : nI 4294967295 = iZ (-1) := by decide
theorem iZ_64 {z : Int} (h1 : -2147483648 ≤ z) (h2 : z < 2147483648) : (iZ z).toInt64 = jZ z := Int32.toInt64_ofInt (by show -2147483648 ≤ z; omega) (by show z ≤ 2147483647; omega)
theorem jZ_32 (z : Int) : (jZ z).toInt32 = iZ z := Int64.toInt32_ofInt
theorem iZ_in {z : Int} {n : Nat} (h1 : 0 ≤ z) (h2 : z < n) (hn : n < 2147483648) : vp_in (iZ z) n := by
  obtain ⟨k, rfl⟩ := Int.eq_ofNat_of_zero_le h1
  rw [← nI_z]
  exact vp_in_nI (by omega) (by omega)
theorem zix_nI {n : Nat} (h : n < 2147483648) : zix (nI n) = n := nI_clamp (by omega)
theorem zix_iZ {z : Int} (h1 : 0 ≤ z) (h2 : z < 2147483648) : zix (iZ z) = z.toNat := by
  obtain ⟨k, rfl⟩ := Int.eq_ofNat_of_zero_le h1
  rw [← nI_z, zix_nI (by omega)]
  simp
/-- unsigned -/
def un (x : Int64) : Nat := x.toBitVec.toNat
theorem un_lt (x : Int64) : un x < 2 ^ 64 := x.toBitVec.isLt
theorem lN_un (x : Int64) : lN (un x) = x := Int64.toBitVec_inj.mp (by rw [wb_tb]; simp [un])
theorem un_lN {n : Nat} (h : n < 2 ^ 64) : un (lN n) = n := wb_tn h
theorem lN_inj {a b : Nat} (ha : a < 2 ^ 64) (hb : b < 2 ^ 64) : lN a = lN b ↔ a = b := ⟨fun h => by rw [← un_lN ha, h, un_lN hb], fun h => by rw [h]⟩
theorem lN_s {n : Nat} (h1 : 2 ^ 63 ≤ n) : lN n = jZ ((n : Int) - 18446744073709551616) := by rw [jZ_wrap, lN_z]
theorem lN_neg {n : Nat} (h : n < 2 ^ 64) : lN n < 0 ↔ 2 ^ 63 ≤ n := by
  by_cases h1 : 2 ^ 63 ≤ n
  · rw [lN_s h1, show (0 : Int64) = jZ 0 from rfl, jZ_lt (by omega) (by omega)]; omega
  · rw [lN_z, show (0 : Int64) = jZ 0 from rfl, jZ_lt (by omega) (by omega)]; omega
theorem lN_shl {n : Nat} {z : Int} (h1 : 0 ≤ z) (h2 : z < 64) : lN n <<< ((iZ z).toInt64 &&& 63) = lN (n * 2 ^ z.toNat) := by
  obtain ⟨k, rfl⟩ := Int.eq_ofNat_of_zero_le h1
  rw [← nI_z, wb_shl n (by omega)]; simp
theorem lN_shr {n : Nat} {z : Int} (hn : n < 2 ^ 64) (h1 : 0 ≤ z) (h2 : z < 64) : ((lN n).toUInt64 >>> ((iZ z).toInt64.toUInt64 &&& Int64.toUInt64 63)).toInt64 = lN (n / 2 ^ z.toNat) := by
  obtain ⟨k, rfl⟩ := Int.eq_ofNat_of_zero_le h1
  rw [← nI_z, wb_shr hn (by omega)]; simp
-- comparisons of longs
theorem zlc_eq (x y : Int64) : (lg_cmp x y = nI 0) = (x = y) := by
  rw [nI_0]; apply propext
  unfold lg_cmp
  by_cases h1 : x > y
  · rw [if_pos h1]; exact ⟨fun h => absurd h (by decide), fun h => by rw [h] at h1; rw [gt_iff_lt, Int64.lt_iff_toInt_lt] at h1; omega⟩
  · rw [if_neg h1]
    by_cases h2 : x = y
    · simp [h2]
    · simp [h2]
theorem zlc_cases (x y : Int64) : (lg_cmp x y = 1 ∧ y < x) ∨ (lg_cmp x y = 0 ∧ x = y) ∨ (lg_cmp x y = -1 ∧ x < y) := by
  unfold lg_cmp
  by_cases h1 : x > y
  · rw [if_pos h1]; exact Or.inl ⟨rfl, h1⟩
  · rw [if_neg h1]
    by_cases h2 : x = y
    · rw [if_pos h2]; exact Or.inr (Or.inl ⟨rfl, h2⟩)
    · rw [if_neg h2]
      refine Or.inr (Or.inr ⟨rfl, ?_⟩)
      rw [gt_iff_lt, Int64.lt_iff_toInt_lt] at h1
      rw [Int64.lt_iff_toInt_lt]
      have : x.toInt ≠ y.toInt := fun h => h2 (Int64.toInt_inj.mp h)
      omega
theorem zlc_lt (x y : Int64) : (lg_cmp x y < nI 0) = (x < y) := by
  rw [nI_0]; apply propext
  rcases zlc_cases x y with ⟨h, g⟩ | ⟨h, g⟩ | ⟨h, g⟩
  · rw [h]; exact ⟨fun z => absurd z (by decide), fun z => by rw [Int64.lt_iff_toInt_lt] at z g; omega⟩
  · rw [h]; exact ⟨fun z => absurd z (by decide), fun z => by rw [g, Int64.lt_iff_toInt_lt] at z; omega⟩
  · rw [h]; exact ⟨fun _ => g, fun _ => by decide⟩
theorem zlc_ge (x y : Int64) : (nI 0 ≤ lg_cmp x y) = (y ≤ x) := by
  rw [nI_0]; apply propext
  rcases zlc_cases x y with ⟨h, g⟩ | ⟨h, g⟩ | ⟨h, g⟩
  · rw [h]; exact ⟨fun z => by rw [Int64.lt_iff_toInt_lt] at g; rw [Int64.le_iff_toInt_le]; omega, fun _ => by decide⟩
  · rw [h]; exact ⟨fun z => by rw [g, Int64.le_iff_toInt_le]; omega, fun _ => by decide⟩
  · rw [h]; exact ⟨fun z => absurd z (by decide), fun z => by rw [Int64.lt_iff_toInt_lt] at g; rw [Int64.le_iff_toInt_le] at z; omega⟩
theorem zlc_gt (x y : Int64) : (nI 0 < lg_cmp x y) = (y < x) := by
  rw [nI_0]; apply propext
  rcases zlc_cases x y with ⟨h, g⟩ | ⟨h, g⟩ | ⟨h, g⟩
  · rw [h]; exact ⟨fun _ => g, fun _ => by decide⟩
  · rw [h]; exact ⟨fun z => absurd z (by decide), fun z => by rw [g, Int64.lt_iff_toInt_lt] at z; omega⟩
  · rw [h]; exact ⟨fun z => absurd z (by decide), fun z => by rw [Int64.lt_iff_toInt_lt] at g z; omega⟩
theorem zlc_le (x y : Int64) : (lg_cmp x y ≤ nI 0) = (x ≤ y) := by
  rw [nI_0]; apply propext
  rcases zlc_cases x y with ⟨h, g⟩ | ⟨h, g⟩ | ⟨h, g⟩
  · rw [h]; exact ⟨fun z => absurd z (by decide), fun z => by rw [Int64.lt_iff_toInt_lt] at g; rw [Int64.le_iff_toInt_le] at z; omega⟩
  · rw [h]; exact ⟨fun z => by rw [g, Int64.le_iff_toInt_le]; omega, fun _ => by decide⟩
  · rw [h]; exact ⟨fun z => by rw [Int64.lt_iff_toInt_lt] at g; rw [Int64.le_iff_toInt_le]; omega, fun _ => by decide⟩
/-! ===== own: reading behind writing ===== -/
theorem zI_sI {S : zS} {a k b j : Nat} {v : Int32} : zI (zsI S a k v) b j = if b = a ∧ j = k then v else zI S b j := rfl
theorem zJ_sJ {S : zS} {a k b j : Nat} {v : Int64} : zJ (zsJ S a k v) b j = if b = a ∧ j = k then v else zJ S b j := rfl
theorem zD_sD {S : zS} {a k b j : Nat} {v : UInt64} : zD (zsD S a k v) b j = if b = a ∧ j = k then v else zD S b j := rfl
theorem zR_sR {S : zS} {a k b j : Nat} {v : Option Nat} : zR (zsR S a k v) b j = if b = a ∧ j = k then v else zR S b j := rfl
theorem zJ_sI {S : zS} {a k : Nat} {v : Int32} : zJ (zsI S a k v) = zJ S := rfl
theorem zD_sI {S : zS} {a k : Nat} {v : Int32} : zD (zsI S a k v) = zD S := rfl
theorem zR_sI {S : zS} {a k : Nat} {v : Int32} : zR (zsI S a k v) = zR S := rfl
theorem zSh_sI {S : zS} {a k : Nat} {v : Int32} : zSh (zsI S a k v) = zSh S := rfl
theorem zNx_sI {S : zS} {a k : Nat} {v : Int32} : zNx (zsI S a k v) = zNx S := rfl
theorem zI_sJ {S : zS} {a k : Nat} {v : Int64} : zI (zsJ S a k v) = zI S := rfl
theorem zD_sJ {S : zS} {a k : Nat} {v : Int64} : zD (zsJ S a k v) = zD S := rfl
theorem zR_sJ {S : zS} {a k : Nat} {v : Int64} : zR (zsJ S a k v) = zR S := rfl
theorem zSh_sJ {S : zS} {a k : Nat} {v : Int64} : zSh (zsJ S a k v) = zSh S := rfl
theorem zNx_sJ {S : zS} {a k : Nat} {v : Int64} : zNx (zsJ S a k v) = zNx S := rfl
theorem zI_sD {S : zS} {a k : Nat} {v : UInt64} : zI (zsD S a k v) = zI S := rfl
theorem zJ_sD {S : zS} {a k : Nat} {v : UInt64} : zJ (zsD S a k v) = zJ S := rfl
theorem zR_sD {S : zS} {a k : Nat} {v : UInt64} : zR (zsD S a k v) = zR S := rfl
theorem zSh_sD {S : zS} {a k : Nat} {v : UInt64} : zSh (zsD S a k v) = zSh S := rfl
theorem zNx_sD {S : zS} {a k : Nat} {v : UInt64} : zNx (zsD S a k v) = zNx S := rfl
theorem zI_sR {S : zS} {a k : Nat} {v : Option Nat} : zI (zsR S a k v) = zI S := rfl
theorem zJ_sR {S : zS} {a k : Nat} {v : Option Nat} : zJ (zsR S a k v) = zJ S := rfl
theorem zD_sR {S : zS} {a k : Nat} {v : Option Nat} : zD (zsR S a k v) = zD S := rfl
theorem zSh_sR {S : zS} {a k : Nat} {v : Option Nat} : zSh (zsR S a k v) = zSh S := rfl
theorem zNx_sR {S : zS} {a k : Nat} {v : Option Nat} : zNx (zsR S a k v) = zNx S := rfl
/-- nothing but the cells of F has changed -/
def zFr (F : Nat → Prop) (S S' : zS) : Prop := zSh S' = zSh S ∧ zNx S' = zNx S ∧ ∀ b, ¬ F b → zI S' b = zI S b ∧ zJ S' b = zJ S b ∧ zD S' b = zD S b ∧ zR S' b = zR S b
theorem zFr.refl {F : Nat → Prop} {S : zS} : zFr F S S := ⟨rfl, rfl, fun _ _ => ⟨rfl, rfl, rfl, rfl⟩⟩
theorem zFr.trans {F : Nat → Prop} {S S1 S2 : zS} (h : zFr F S S1) (h2 : zFr F S1 S2) : zFr F S S2 :=
  ⟨h2.1.trans h.1, h2.2.1.trans h.2.1, fun b hb => ⟨(h2.2.2 b hb).1.trans (h.2.2 b hb).1, (h2.2.2 b hb).2.1.trans (h.2.2 b hb).2.1, (h2.2.2 b hb).2.2.1.trans (h.2.2 b hb).2.2.1, (h2.2.2 b hb).2.2.2.trans (h.2.2 b hb).2.2.2⟩⟩
theorem zFr.mono {F F' : Nat → Prop} {S S' : zS} (h : zFr F S S') (hF : ∀ b, F b → F' b) : zFr F' S S' := ⟨h.1, h.2.1, fun b hb => h.2.2 b (fun q => hb (hF b q))⟩
theorem zFr.sI {F : Nat → Prop} {S S' : zS} {a k : Nat} {v : Int32} (h : zFr F S S') (ha : F a) : zFr F S (zsI S' a k v) := ⟨h.1, h.2.1, fun b hb => ⟨(zup_ne (by intro e; subst e; exact hb ha)).trans (h.2.2 b hb).1, (h.2.2 b hb).2.1, (h.2.2 b hb).2.2.1, (h.2.2 b hb).2.2.2⟩⟩
theorem zFr.sJ {F : Nat → Prop} {S S' : zS} {a k : Nat} {v : Int64} (h : zFr F S S') (ha : F a) : zFr F S (zsJ S' a k v) := ⟨h.1, h.2.1, fun b hb => ⟨(h.2.2 b hb).1, (zup_ne (by intro e; subst e; exact hb ha)).trans (h.2.2 b hb).2.1, (h.2.2 b hb).2.2.1, (h.2.2 b hb).2.2.2⟩⟩
theorem zFr.sD {F : Nat → Prop} {S S' : zS} {a k : Nat} {v : UInt64} (h : zFr F S S') (ha : F a) : zFr F S (zsD S' a k v) := ⟨h.1, h.2.1, fun b hb => ⟨(h.2.2 b hb).1, (h.2.2 b hb).2.1, (zup_ne (by intro e; subst e; exact hb ha)).trans (h.2.2 b hb).2.2.1, (h.2.2 b hb).2.2.2⟩⟩
theorem zFr.sR {F : Nat → Prop} {S S' : zS} {a k : Nat} {v : Option Nat} (h : zFr F S S') (ha : F a) : zFr F S (zsR S' a k v) := ⟨h.1, h.2.1, fun b hb => ⟨(h.2.2 b hb).1, (h.2.2 b hb).2.1, (h.2.2 b hb).2.2.1, (zup_ne (by intro e; subst e; exact hb ha)).trans (h.2.2 b hb).2.2.2⟩⟩
