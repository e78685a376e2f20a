/-! rounding of a whole number with a little more; the fields of a double -/
section ZRND
theorem zrn_d (up : Bool) {N D d m ρ : Nat} (hD : 0 < D) (hd : 0 < d) (hm : N / D = m) (hr : N % D = ρ) :
    zrn up N (D * 2 ^ d) = m / 2 ^ d + (if (if up then ρ ≠ 0 ∨ m % 2 ^ d ≠ 0 else 2 ^ (d - 1) < m % 2 ^ d ∨ (m % 2 ^ d = 2 ^ (d - 1) ∧ (ρ ≠ 0 ∨ m / 2 ^ d % 2 ≠ 0))) then 1 else 0) := by
  have e1 : N / (D * 2 ^ d) = m / 2 ^ d := by rw [← hm, Nat.div_div_eq_div_mul]
  have e2 : N % (D * 2 ^ d) = ρ + D * (m % 2 ^ d) := by rw [Nat.mod_mul, hm, hr]
  have hρ : ρ < D := by rw [← hr]; exact Nat.mod_lt _ hD
  obtain ⟨d, rfl⟩ : ∃ k, d = k + 1 := ⟨d - 1, by omega⟩
  unfold zrn
  cases up
  · simp only [Bool.false_eq_true, if_false, Nat.add_sub_cancel]
    unfold FP.Core.nearest
    rw [e1, e2]
    have e3 : D * 2 ^ (d + 1) = 2 * (D * 2 ^ d) := by rw [Nat.pow_succ]; ac_rfl
    rw [e3]
    generalize m / 2 ^ (d + 1) = x
    generalize m % 2 ^ (d + 1) = r
    generalize 2 ^ d = h
    rcases Nat.lt_trichotomy r h with c | c | c
    · have : D * (r + 1) ≤ D * h := Nat.mul_le_mul_left D c
      rw [Nat.mul_add, Nat.mul_one] at this
      rw [if_pos (by omega), if_neg (by omega)]
      rfl
    · subst c
      by_cases h0 : ρ = 0
      · rw [if_neg (by omega), if_neg (by omega), h0]
        by_cases h1 : x % 2 = 0
        · rw [if_neg (by omega), h1]
        · rw [if_pos (by omega)]; omega
      · rw [if_neg (by omega), if_pos (by omega), if_pos (by omega)]
    · have : D * (h + 1) ≤ D * r := Nat.mul_le_mul_left D c
      rw [Nat.mul_add, Nat.mul_one] at this
      rw [if_neg (by omega), if_pos (by omega), if_pos (by omega)]
  · simp only [if_true]
    rw [e1, e2]
    by_cases h0 : ρ = 0
    · by_cases h1 : m % 2 ^ (d + 1) = 0
      · rw [h0, h1, if_pos (by simp), if_neg (by simp)]
      · rw [if_neg (by intro h; rcases Nat.mul_eq_zero.mp (by omega : D * (m % 2 ^ (d + 1)) = 0) with h | h <;> omega), if_pos (Or.inr h1)]
    · rw [if_neg (by omega), if_pos (Or.inl h0)]
def zun (m : Nat) (sc : Int) : Int := if sc + zbl m - 1 < -1022 then -1074 else sc + zbl m - 1 - 52
def zkp (m : Nat) (d : Int) : Nat := if 63 < d then 0 else if 0 < d then m / 2 ^ d.toNat else m * 2 ^ (-d).toNat
def znx (m : Nat) (more : Bool) (d : Int) (up : Bool) : Bool :=
  if 63 < d then up else if 0 < d then
    (if up then more || decide (m % 2 ^ d.toNat ≠ 0) else decide (2 ^ (d.toNat - 1) < m % 2 ^ d.toNat) || (decide (m % 2 ^ d.toNat = 2 ^ (d.toNat - 1)) && (more || decide (m / 2 ^ d.toNat % 2 ≠ 0))))
  else up && more
/-- what `rounded` answers, without sign -/
def zrR (m : Nat) (more : Bool) (sc : Int) (up : Bool) : Nat :=
  if m = 0 then 0 else if 1023 < sc + zbl m - 1 then 9218868437227405312
  else (zun m sc + 1074).toNat * 4503599627370496 + zkp m (zun m sc - sc) + (if znx m more (zun m sc - sc) up then 1 else 0)
theorem zbl_54 {m : Nat} (h : 2 ^ 54 ≤ m) : 55 ≤ zbl m := by
  have := zbl_lt m
  have : 2 ^ 54 < 2 ^ zbl m := by omega
  have := (Nat.pow_lt_pow_iff_right (by decide : 1 < 2)).mp this
  omega
theorem zbl_up {m k : Nat} (h : m < 2 ^ k) : zbl m ≤ k := by
  by_cases h0 : m = 0
  · subst h0; unfold zbl; simp
  · have h1 := zbl_le (by omega : 0 < m)
    have h2 := zbl_pos (by omega : 0 < m)
    have : 2 ^ (zbl m - 1) < 2 ^ k := by omega
    have := (Nat.pow_lt_pow_iff_right (by decide : 1 < 2)).mp this
    omega
theorem zrR_eq {A B m : Nat} {sc : Int} {more up : Bool} (hB : 0 < B) (h63 : m < 2 ^ 63) (hm : A / B = m) (hr : more = true ↔ A % B ≠ 0) (h55 : more = true → 2 ^ 54 ≤ m) : zrR m more sc up = zrb up A B sc := by
  have hAB := Nat.div_add_mod A B
  rw [hm] at hAB
  by_cases h0 : m = 0
  · have hmo : more = false := by
      cases more
      · rfl
      · have := h55 rfl; omega
    have : A % B = 0 := by
      by_cases h : A % B = 0
      · exact h
      · rw [hr.mpr h] at hmo; exact absurd hmo (by decide)
    have hA : A = 0 := by rw [h0, Nat.mul_zero] at hAB; omega
    unfold zrR zrb
    rw [if_pos h0, if_pos hA]
  · have hA : A ≠ 0 := by rintro rfl; rw [Nat.zero_div] at hm; exact h0 hm.symm
    have hN : FP.Core.unitsNum A sc sc = A := by unfold FP.Core.unitsNum; rw [Int.sub_self]; simp
    have hDD : FP.Core.unitsDen B sc sc = B := by unfold FP.Core.unitsDen; rw [Int.sub_self]; simp
    have hq := zqu_rep (A := A) (B := B) (m := m) (e := sc) (sc := sc) (by omega) hB (by rw [hN, hDD, hm]) (by omega)
    have hq2 : zqu A B sc = zun m sc := by unfold zun; rw [hq]; split <;> omega
    unfold zrR zrb
    rw [if_neg h0, if_neg hA, hq2]
    have hun : zun m sc = -1074 ∧ sc + zbl m - 1 < -1022 ∨ zun m sc = sc + zbl m - 1 - 52 ∧ -1022 ≤ sc + zbl m - 1 := by unfold zun; split <;> omega
    by_cases ht : 1023 < sc + zbl m - 1
    · rw [if_pos ht, if_neg (by omega)]
    · rw [if_neg ht, if_pos (show zun m sc ≤ 971 by omega), Nat.add_assoc]
      congr 1
      have hp := FP.Core.unitsDen_pos hB sc (zun m sc)
      rw [zrn_congr (B' := B * 2 ^ (zun m sc - sc).toNat) (A' := A * 2 ^ (sc - zun m sc).toNat) hp (Nat.mul_pos hB (Nat.two_pow_pos _)) (by have := zunits_at (A := A) (B := B) (e := sc) (sc := sc) (q := zun m sc); rw [hN, hDD] at this; exact this)]
      have hbl : zbl m ≤ 63 := zbl_up h63
      unfold zkp znx
      by_cases hd : 0 < zun m sc - sc
      · rw [show (sc - zun m sc).toNat = 0 by omega, Nat.pow_zero, Nat.mul_one, zrn_d up hB (by omega) hm rfl]
        by_cases hd2 : 63 < zun m sc - sc
        · rw [if_pos hd2, if_pos hd2]
          generalize he : (zun m sc - sc).toNat = d
          have h2 : 2 ^ 63 ≤ 2 ^ (d - 1) := Nat.pow_le_pow_right (by decide) (by omega)
          have h3 : 2 ^ (d - 1) ≤ 2 ^ d := Nat.pow_le_pow_right (by decide) (by omega)
          rw [Nat.div_eq_of_lt (by omega), Nat.mod_eq_of_lt (by omega : m < 2 ^ d)]
          cases up
          · rw [if_neg (by decide), if_neg (by simp; omega)]
          · rw [if_pos rfl, if_pos (by simp; omega)]
        · rw [if_neg hd2, if_pos hd, if_neg hd2, if_pos hd]
          congr 1
          generalize (zun m sc - sc).toNat = d
          cases up
          · cases more
            · have : A % B = 0 := by
                by_cases h : A % B = 0
                · exact h
                · exact absurd (hr.mpr h) (by decide)
              simp [this]
            · have : A % B ≠ 0 := hr.mp rfl
              simp [this]
          · cases more
            · have : A % B = 0 := by
                by_cases h : A % B = 0
                · exact h
                · exact absurd (hr.mpr h) (by decide)
              simp [this]
            · have : A % B ≠ 0 := hr.mp rfl
              simp [this]
      · have hmo : more = false := by
          cases more
          · rfl
          · have := zbl_54 (h55 rfl); omega
        have hz : A % B = 0 := by
          by_cases h : A % B = 0
          · exact h
          · rw [hr.mpr h] at hmo; exact absurd hmo (by decide)
        have hA2 : A = m * B := by rw [hz] at hAB; rw [Nat.mul_comm]; omega
        have hn63 : ¬ 63 < zun m sc - sc := by omega
        rw [if_neg hn63, if_neg hd, if_neg hn63, if_neg hd, hmo]
        rw [show (zun m sc - sc).toNat = 0 by omega, Nat.pow_zero, Nat.mul_one, show (-(zun m sc - sc)).toNat = (sc - zun m sc).toNat by congr 1; omega]
        generalize 2 ^ (sc - zun m sc).toNat = P
        have hx : A * P = m * P * B := by rw [hA2]; ac_rfl
        have h1 : A * P / B = m * P := by rw [hx]; exact Nat.mul_div_cancel _ hB
        have h2 : A * P % B = 0 := by rw [hx]; exact Nat.mul_mod_left _ _
        have h3 : zrn up (A * P) B = m * P := by
          unfold zrn
          cases up
          · rw [if_neg (by decide), hx]; exact FP.Core.nearest_exact _ hB
          · rw [if_pos rfl, h1, h2]; rfl
        rw [h3]
        simp
theorem zrR_lt {m : Nat} {more up : Bool} {sc : Int} (h63 : m < 2 ^ 63) (h55 : more = true → 2 ^ 54 ≤ m) : zrR m more sc up ≤ 9218868437227405312 := by
  cases more
  · rw [zrR_eq (A := m) (B := 1) (by decide) h63 (Nat.div_one m) (by simp [Nat.mod_one]) h55]
    exact zrb_le _ _ (by decide) _
  · rw [zrR_eq (A := 2 * m + 1) (B := 2) (by decide) h63 (by omega) (by simp) h55]
    exact zrb_le _ _ (by decide) _
/-- moved by powers of two -/
theorem zrb_mv {up : Bool} {A B i k : Nat} {e e' : Int} (hB : 0 < B) (h : e' + i - k = e) : zrb up (A * 2 ^ i) (B * 2 ^ k) e' = zrb up A B e := by
  refine zrb_congr (Nat.mul_pos hB (Nat.two_pow_pos _)) hB ?_
  have h1 : i + (e' - e).toNat = k + (e - e').toNat := by omega
  calc A * 2 ^ i * B * 2 ^ (e' - e).toNat = A * B * 2 ^ (i + (e' - e).toNat) := by rw [Nat.pow_add]; ac_rfl
    _ = A * (B * 2 ^ k) * 2 ^ (e - e').toNat := by rw [h1, Nat.pow_add]; ac_rfl
/-! the fields -/
def zfE (n : Nat) : Nat := n / 4503599627370496 % 2048
/-- the mantissa -/
def zmt (n : Nat) : Nat := if zfE n = 0 then n % 4503599627370496 else n % 4503599627370496 + 4503599627370496
/-- the power of its last digit -/
def zsc (n : Nat) : Int := (if zfE n = 0 then 1 else (zfE n : Int)) - 1075
def zsg (n : Nat) : Bool := decide (9223372036854775808 ≤ n)
theorem zfE_lt (n : Nat) : zfE n < 2048 := Nat.mod_lt _ (by decide)
theorem zmt_lt (n : Nat) : zmt n < 9007199254740992 := by unfold zmt; split <;> omega
theorem zsc_ge (n : Nat) : -1074 ≤ zsc n := by unfold zsc; split <;> omega
theorem zsc_le {n : Nat} (h : zfE n ≠ 2047) : zsc n ≤ 971 := by have := zfE_lt n; unfold zsc; split <;> omega
theorem zsc_lt (n : Nat) : zsc n ≤ 972 := by have := zfE_lt n; unfold zsc; split <;> omega
theorem zmt_norm {n : Nat} (h : -1074 < zsc n) : 4503599627370496 ≤ zmt n := by
  unfold zsc at h; unfold zmt
  split at h
  · omega
  · rw [if_neg (by assumption)]; omega
theorem zdec {n : Nat} (h : n < 18446744073709551616) (hf : zfE n ≠ 2047) : FP.Core.decode FP.Core.b64 n = .fin (zsg n) (zmt n) (zsc n) := by
  have hs : FP.Core.fieldS FP.Core.b64 n = zsg n := by
    unfold FP.Core.fieldS zsg
    rw [b64_tails, b64_exps, Nat.div_div_eq_div_mul]
    by_cases hh : 9223372036854775808 ≤ n
    · rw [show n / (4503599627370496 * 2048) = 1 by omega]; simp [hh]
    · rw [show n / (4503599627370496 * 2048) = 0 by omega]; simp [hh]
  have he : FP.Core.fieldE FP.Core.b64 n = zfE n := by unfold FP.Core.fieldE zfE; rw [b64_tails, b64_exps]
  have ht : FP.Core.fieldT FP.Core.b64 n = n % 4503599627370496 := by unfold FP.Core.fieldT; rw [b64_tails]
  unfold FP.Core.decode
  rw [hs, he, ht, b64_exps, b64_tails, b64_qmin]
  rw [if_neg (by omega)]
  unfold zmt zsc
  by_cases h0 : zfE n = 0
  · rw [if_pos h0, if_pos h0, if_pos h0]; rfl
  · rw [if_neg h0, if_neg h0, if_neg h0, Nat.add_comm 4503599627370496]
    congr 1
    omega
end ZRND
