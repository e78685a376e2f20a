/-! the class's exact sums: numbers by digits with a sign; clear, carry -/
section ZTOT
theorem zN_shr {n k : Nat} (hn : n < 2147483648) (hk : k < 32) : nI n >>> (nI k &&& 31) = nI (n / 2 ^ k) := by
  have h0 : ∀ k, k < 32 → ((nI k &&& 31).toBitVec.smod 32).toNat = k := by decide +kernel
  have h1 : (nI n >>> (nI k &&& 31)).toInt = (nI n).toInt >>> k := by
    conv => rhs; rw [← h0 k hk]
    exact BitVec.toInt_sshiftRight ..
  have h2 : (nI n).toInt = n := by rw [nI_z]; exact iZ_t (by omega) (by omega)
  have h4 := Nat.div_le_self n (2 ^ k)
  have h3 : (nI (n / 2 ^ k)).toInt = ((n / 2 ^ k : Nat) : Int) := by
    generalize n / 2 ^ k = q at h4 ⊢
    rw [nI_z]; exact iZ_t (by omega) (by omega)
  apply Int32.toInt_inj.mp
  rw [h1, h2, h3, Int.shiftRight_eq_div_pow]
  simp
theorem zN_m31 {n : Nat} (h : n < 4294967296) : nI n &&& nI 31 = nI (n % 32) := zN_mask (k := 5) h (by decide)
theorem un_jZ (z : Int) : un (jZ z) = (z % 18446744073709551616).toNat := by
  have h1 : (jZ z).toBitVec = BitVec.ofInt 64 z := rfl
  unfold un
  rw [h1, BitVec.toNat_ofInt]; rfl
theorem jZ_low (z : Int) : jZ z &&& lN 4294967295 = jZ (z % 4294967296) := by
  have h := zand_low (n := un (jZ z)) (un_lt _)
  rw [lN_un, un_jZ] at h
  have e : ((z % 18446744073709551616).toNat % 4294967296 : Nat) = (z % 4294967296).toNat := by omega
  rw [h, e, lN_z]
  congr 1; omega
theorem jZ_shr {z : Int} (h1 : -9223372036854775808 ≤ z) (h2 : z < 9223372036854775808) : jZ z >>> ((nI 32).toInt64 &&& 63) = jZ (z / 4294967296) := by
  have h0 : (((nI 32).toInt64 &&& 63).toBitVec.smod 64).toNat = 32 := by decide +kernel
  have e : (jZ z >>> ((nI 32).toInt64 &&& 63)).toInt = (jZ z).toInt >>> 32 := by
    conv => rhs; rw [← h0]
    exact BitVec.toInt_sshiftRight ..
  apply Int64.toInt_inj.mp
  rw [e, jZ_t h1 h2, Int.shiftRight_eq_div_pow, jZ_t (by omega) (by omega)]
  rfl
theorem jZN_mul (s : Int) (n : Nat) : jZ s * lN n = jZ (s * n) := by rw [lN_z, jZ_mul]
theorem lNm1 : lN 18446744073709551615 = jZ (-1) := by decide +kernel
theorem lNj1 : lN 1 = jZ 1 := rfl
theorem lNj0 : lN 0 = jZ 0 := rfl
/-- digits with signs -/
def zsv (f : Nat → Int) (n : Nat) : Int := zsmI n fun k => f k * 2 ^ (32 * k)
theorem zsv_s (f : Nat → Int) (n : Nat) : zsv f (n + 1) = zsv f n + f n * 2 ^ (32 * n) := rfl
theorem zsv_congr {f g : Nat → Int} {n : Nat} (h : ∀ k, k < n → f k = g k) : zsv f n = zsv g n := zsmI_congr fun k hk => by rw [h k hk]
theorem zip32 (n : Nat) : (2 : Int) ^ (32 * (n + 1)) = 2 ^ (32 * n) * 4294967296 := by rw [show 32 * (n + 1) = 32 * n + 32 by omega, Int.pow_add]; rfl
theorem zip_pos (n : Nat) : (0 : Int) < 2 ^ n := Int.pow_pos (by decide)
/-- the digits above are multiples -/
theorem zsv_top (f : Nat → Int) (k : Nat) : ∀ m, ∃ z, zsv f (k + m) = zsv f k + 2 ^ (32 * k) * z
  | 0 => ⟨0, by simp⟩
  | m + 1 => by
    obtain ⟨z, hz⟩ := zsv_top f k m
    refine ⟨z + f (k + m) * 2 ^ (32 * m), ?_⟩
    rw [show k + (m + 1) = k + m + 1 by omega, zsv_s, hz, Nat.mul_add, Int.pow_add]
    grind
theorem zsv_z {f : Nat → Int} {n : Nat} (h : ∀ k, k < n → f k = 0) : zsv f n = 0 := by
  rw [zsv_congr (g := fun _ => 0) h]
  have := zsmI_lin 0 0 (fun _ => 0) (fun _ => 0) n
  simp only [Int.zero_mul, Int.add_zero] at this
  unfold zsv
  simp only [Int.zero_mul]; exact this
theorem zsv_hi {f : Nat → Int} {k n : Nat} (h : k ≤ n) (hz : ∀ i, k ≤ i → i < n → f i = 0) : zsv f n = zsv f k := by
  obtain ⟨m, rfl⟩ : ∃ m, n = k + m := ⟨n - k, by omega⟩
  clear h
  induction m with
  | zero => rfl
  | succ m ih => rw [show k + (m + 1) = k + m + 1 by omega, zsv_s, ih (fun i h1 h2 => hz i h1 (by omega)), hz (k + m) (by omega) (by omega)]; simp
/-- a digit of any number -/
def zio (V : Int) (k : Nat) : Int := V / 2 ^ (32 * k) % 4294967296
theorem zio_b (V : Int) (k : Nat) : 0 ≤ zio V k ∧ zio V k < 4294967296 := ⟨Int.emod_nonneg _ (by decide), Int.emod_lt_of_pos _ (by decide)⟩
theorem zio_mod (V z : Int) {k h : Nat} (hk : k < h) : zio (V + 2 ^ (32 * h) * z) k = zio V k := by
  unfold zio
  obtain ⟨m, rfl⟩ : ∃ m, h = k + 1 + m := ⟨h - k - 1, by omega⟩
  rw [show 32 * (k + 1 + m) = 32 * k + (32 + 32 * m) by omega, Int.pow_add, Int.mul_assoc, Int.add_mul_ediv_left _ _ (Int.ne_of_gt (zip_pos _)), Int.pow_add, Int.mul_assoc, show (2 : Int) ^ 32 = 4294967296 from rfl, Int.add_mul_emod_self_left]
theorem zsv_zio (V : Int) : ∀ n, zsv (zio V) n = V % 2 ^ (32 * n)
  | 0 => by simp [zsv, zsmI, Int.emod_one]
  | n + 1 => by
    rw [zsv_s, zsv_zio V n, zip32]
    unfold zio
    have p := zip_pos (32 * n)
    generalize (2 : Int) ^ (32 * n) = P at p ⊢
    have h1 := Int.emod_add_mul_ediv V P
    have h2 := Int.emod_add_mul_ediv (V / P) 4294967296
    have b1 := Int.emod_nonneg V (Int.ne_of_gt p)
    have b2 := Int.emod_lt_of_pos V p
    have b3 := Int.emod_nonneg (V / P) (show (4294967296 : Int) ≠ 0 by decide)
    have b4 := Int.emod_lt_of_pos (V / P) (show (0 : Int) < 4294967296 by decide)
    generalize V / P % 4294967296 = r at *
    generalize V / P / 4294967296 = q at *
    generalize V % P = s at *
    generalize V / P = t at *
    have e : V = s + r * P + P * 4294967296 * q := by rw [← h1, ← h2]; grind
    have e2 : (s + r * P + P * 4294967296 * q) % (P * 4294967296) = s + r * P := by
      rw [Int.add_mul_emod_self_left]
      refine Int.emod_eq_of_lt (Int.add_nonneg b1 (Int.mul_nonneg b3 (Int.le_of_lt p))) ?_
      have h5 : r * P ≤ 4294967295 * P := Int.mul_le_mul_of_nonneg_right (by omega) (Int.le_of_lt p)
      have h6 : P * 4294967296 = 4294967295 * P + P := by grind
      omega
    rw [e, e2]
end ZTOT
