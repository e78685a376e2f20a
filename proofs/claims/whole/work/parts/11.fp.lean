/-! doubles by their bits, as whole numbers: rounding to the nearest and up, in one form -/
section ZFP
theorem b64_tails : FP.Core.b64.tails = 4503599627370496 := by decide
theorem b64_exps : FP.Core.b64.exps = 2048 := by decide
theorem b64_qmin : FP.Core.b64.qmin = -1074 := by decide
theorem b64_qmax : FP.Core.b64.qmax = 971 := by decide
theorem b64_p : FP.Core.b64.p = 53 := rfl
theorem b64_good : FP.Core.Good FP.Core.b64 := FP.Core.good_b64
/-- the whole number that a ratio is rounded to: the nearest, or the least not below it -/
def zrn (up : Bool) (x y : Nat) : Nat := if up then x / y + (if x % y = 0 then 0 else 1) else FP.Core.nearest x y
theorem zrn_le {up : Bool} {x y M : Nat} (hy : 0 < y) (h : x ≤ M * y) : zrn up x y ≤ M := by
  unfold zrn
  split
  · by_cases h0 : x % y = 0
    · rw [if_pos h0]; exact Nat.le_trans (Nat.le_refl _) ((Nat.div_le_iff_le_mul_add_pred hy).mpr (by rw [Nat.mul_comm]; omega))
    · rw [if_neg h0]
      have h1 : x / y < M := (Nat.div_lt_iff_lt_mul hy).mpr (by
        rcases Nat.lt_or_ge x (M * y) with h2 | h2
        · exact h2
        · have : x = M * y := by omega
          exact absurd (by rw [this]; exact Nat.mul_mod_left _ _) h0)
      omega
  · exact FP.Core.nearest_le hy h
theorem zrn_ge {up : Bool} {x y M : Nat} (hy : 0 < y) (h : M * y ≤ x) : M ≤ zrn up x y := by
  have h1 : M ≤ x / y := (Nat.le_div_iff_mul_le hy).mpr h
  unfold zrn
  split
  · omega
  · exact FP.Core.nearest_ge hy h
theorem zrn_scale (up : Bool) (x y k : Nat) (hk : 0 < k) : zrn up (x * k) (y * k) = zrn up x y := by
  unfold zrn
  split
  · rw [Nat.mul_div_mul_right _ _ hk, Nat.mul_mod_mul_right]
    have : x % y * k = 0 ↔ x % y = 0 := by
      constructor
      · intro h
        rcases Nat.mul_eq_zero.mp h with h | h
        · exact h
        · omega
      · intro h; rw [h, Nat.zero_mul]
    simp only [this]
  · exact FP.Core.nearest_scale x y k hk
theorem zrn_congr {up : Bool} {A B A' B' : Nat} (hB : 0 < B) (hB' : 0 < B') (h : A * B' = A' * B) : zrn up A B = zrn up A' B' := by
  rw [← zrn_scale up A B B' hB', h, Nat.mul_comm B B', zrn_scale up A' B' B hB]
/-- the exponent of the last digit that is kept -/
def zqu (A B : Nat) (e : Int) : Int := FP.Core.quantum FP.Core.b64 A B e
/-- a positive ratio A / B * 2^e rounded: the bits, without sign -/
def zrb (up : Bool) (A B : Nat) (e : Int) : Nat :=
  if A = 0 then 0 else if zqu A B e ≤ 971 then (zqu A B e + 1074).toNat * 4503599627370496 + zrn up (FP.Core.unitsNum A e (zqu A B e)) (FP.Core.unitsDen B e (zqu A B e)) else 9218868437227405312
theorem zqu_ge (A B : Nat) (e : Int) : -1074 ≤ zqu A B e := by have := FP.Core.quantum_ge FP.Core.b64 A B e; rw [b64_qmin] at this; exact this
theorem zqu_bd {up : Bool} {A B : Nat} {e : Int} (hA : 0 < A) (hB : 0 < B) : zrn up (FP.Core.unitsNum A e (zqu A B e)) (FP.Core.unitsDen B e (zqu A B e)) ≤ 9007199254740992 ∧ (zqu A B e = -1074 ∨ 4503599627370496 ≤ zrn up (FP.Core.unitsNum A e (zqu A B e)) (FP.Core.unitsDen B e (zqu A B e))) := by
  have hp := FP.Core.unitsDen_pos hB e (zqu A B e)
  constructor
  · refine zrn_le hp (Nat.le_of_lt ?_)
    have := (FP.Core.units_below A B e (zqu A B e) 53).mpr (FP.Core.quantum_below (f := FP.Core.b64) hA hB e)
    exact this
  · rcases FP.Core.quantum_not_below (f := FP.Core.b64) hA hB e with h | h
    · exact Or.inl (by rw [b64_qmin] at h; exact h)
    · refine Or.inr (zrn_ge hp ?_)
      rw [show ((FP.Core.b64.p : Int) - 1) = ((52 : Nat) : Int) from rfl, ← FP.Core.units_below] at h
      exact Nat.le_of_not_lt h
/-- the bits of a significand at an exponent -/
theorem zen_0 (s c T : Nat) : (s * 2048 + 0) * T + c = s * (2048 * T) + (0 * T + c) := by rw [Nat.add_zero, Nat.zero_mul, Nat.zero_add, Nat.mul_assoc]
theorem zen_1 (s c T a : Nat) (h : T ≤ c) : (s * 2048 + (a + 1)) * T + (c - T) = s * (2048 * T) + (a * T + c) := by
  rw [Nat.add_mul, Nat.add_mul, Nat.one_mul, Nat.mul_assoc]; omega
theorem zen_2 (s T : Nat) : (s * 2048 + 2047) * T + 0 = s * (2048 * T) + 2047 * T := by rw [Nat.add_mul, Nat.mul_assoc, Nat.add_zero]
theorem zen_3 (s T a : Nat) : (s * 2048 + (a + 1 + 1)) * T + (T - T) = s * (2048 * T) + (a * T + 2 * T) := by
  rw [Nat.add_mul, Nat.add_mul, Nat.add_mul, Nat.one_mul, Nat.mul_assoc, Nat.sub_self, Nat.two_mul]; omega
theorem zen_4 (s T : Nat) : (s * 2048 + 2047) * T + 0 = s * (2048 * T) + (2045 * T + 2 * T) := by rw [zen_2, ← Nat.add_mul]
theorem zenc_settle {s : Bool} {c : Nat} {q : Int} (h1 : -1074 ≤ q) (h2 : c ≤ 9007199254740992) (h3 : q = -1074 ∨ 4503599627370496 ≤ c) : FP.Core.encode FP.Core.b64 (FP.Core.settle FP.Core.b64 s c q) = s.toNat * 9223372036854775808 + (if q ≤ 971 then (q + 1074).toNat * 4503599627370496 + c else 9218868437227405312) := by
  unfold FP.Core.settle FP.Core.bound
  rw [show (2 : Nat) ^ FP.Core.b64.p = 9007199254740992 from by decide, b64_qmax, b64_tails]
  by_cases hc : c < 9007199254740992
  · rw [if_pos hc]
    by_cases hq : q ≤ 971
    · rw [if_pos hq, if_pos hq]
      simp only [FP.Core.encode, FP.Core.assemble, b64_tails, b64_exps, b64_qmin]
      by_cases hT : c < 4503599627370496
      · rw [if_pos hT]
        have : q = -1074 := by omega
        rw [show (q + 1074).toNat = 0 by omega]
        exact zen_0 _ _ _
      · rw [if_neg hT, show (q - -1074).toNat = (q + 1074).toNat by omega]
        exact zen_1 _ _ _ _ (Nat.le_of_not_lt hT)
    · rw [if_neg hq, if_neg hq]
      simp only [FP.Core.encode, FP.Core.assemble, b64_tails, b64_exps]
      exact zen_2 _ _
  · have hc2 : c = 9007199254740992 := by omega
    rw [if_neg hc, hc2]
    by_cases hq : q + 1 ≤ 971
    · rw [if_pos hq, if_pos (by omega)]
      simp only [FP.Core.encode, FP.Core.assemble, b64_tails, b64_exps, b64_qmin]
      rw [if_neg (by decide), show (q + 1 - -1074).toNat = (q + 1074).toNat + 1 by omega]
      exact zen_3 _ _ _
    · rw [if_neg hq]
      simp only [FP.Core.encode, FP.Core.assemble, b64_tails, b64_exps]
      by_cases h7 : q ≤ 971
      · rw [if_pos h7, show (q + 1074).toNat = 2045 by omega]
        exact zen_4 _ _
      · rw [if_neg h7]
        exact zen_2 _ _
theorem zen_5 (s T : Nat) : (s * 2048 + 0) * T + 0 = s * (2048 * T) + 0 := by rw [Nat.add_zero, Nat.add_zero, Nat.mul_assoc]; rfl
/-- to the nearest it is the model's rounding -/
theorem zrb_round (s : Bool) (A : Nat) {B : Nat} (hB : 0 < B) (e : Int) : FP.Core.encode FP.Core.b64 (FP.Core.roundRatio FP.Core.b64 s A B e) = s.toNat * 9223372036854775808 + zrb false A B e := by
  unfold FP.Core.roundRatio zrb
  by_cases hA : A = 0
  · rw [if_pos hA, if_pos hA]
    simp only [FP.Core.encode, FP.Core.assemble, b64_tails, b64_exps]
    rw [if_pos (by decide)]
    exact zen_5 _ _
  · rw [if_neg hA, if_neg hA]
    unfold FP.Core.roundAt
    obtain ⟨h1, h2⟩ := zqu_bd (up := false) (A := A) (B := B) (e := e) (by omega) hB
    exact zenc_settle (zqu_ge A B e) h1 h2
theorem zrb_le (up : Bool) (A : Nat) {B : Nat} (hB : 0 < B) (e : Int) : zrb up A B e ≤ 9218868437227405312 := by
  unfold zrb
  split
  · omega
  · split
    · obtain ⟨h1, h2⟩ := zqu_bd (up := up) (A := A) (B := B) (e := e) (by omega) hB
      omega
    · omega
/-- the same value written otherwise -/
theorem zqu_congr {A B A' B' : Nat} {e e' : Int} (hA : 0 < A) (hB : 0 < B) (hA' : 0 < A') (hB' : 0 < B') (h : A * B' * 2 ^ (e - e').toNat = A' * B * 2 ^ (e' - e).toNat) : zqu A B e = zqu A' B' e' := by
  have hc := FP.Core.below_congr hB hB' h
  refine (FP.Core.quantum_eq hA' hB' (FP.Core.quantum_ge _ A B e) ?_ ?_).symm
  · have := FP.Core.quantum_below (f := FP.Core.b64) hA hB e
    rw [show FP.Core.quantum FP.Core.b64 A B e - e + (FP.Core.b64.p : Int) = (FP.Core.quantum FP.Core.b64 A B e + FP.Core.b64.p) - e by omega, hc] at this
    rw [show FP.Core.quantum FP.Core.b64 A B e - e' + (FP.Core.b64.p : Int) = (FP.Core.quantum FP.Core.b64 A B e + FP.Core.b64.p) - e' by omega]
    exact this
  · rcases FP.Core.quantum_not_below (f := FP.Core.b64) hA hB e with h2 | h2
    · exact Or.inl h2
    · refine Or.inr fun h3 => h2 ?_
      rw [show FP.Core.quantum FP.Core.b64 A B e - e' + ((FP.Core.b64.p : Int) - 1) = (FP.Core.quantum FP.Core.b64 A B e + ((FP.Core.b64.p : Int) - 1)) - e' by omega, ← hc] at h3
      rw [show FP.Core.quantum FP.Core.b64 A B e - e + ((FP.Core.b64.p : Int) - 1) = (FP.Core.quantum FP.Core.b64 A B e + ((FP.Core.b64.p : Int) - 1)) - e by omega]
      exact h3
theorem zunits_congr {A B A' B' : Nat} {e e' q : Int} (h : A * B' * 2 ^ (e - e').toNat = A' * B * 2 ^ (e' - e).toNat) : FP.Core.unitsNum A e q * FP.Core.unitsDen B' e' q = FP.Core.unitsNum A' e' q * FP.Core.unitsDen B e q := by
  unfold FP.Core.unitsNum FP.Core.unitsDen
  have e1 : (e - q).toNat + (q - e').toNat + (e' - e).toNat = (e' - q).toNat + (q - e).toNat + (e - e').toNat := by omega
  have p : 0 < 2 ^ (e - e').toNat * 2 ^ (e' - e).toNat := Nat.mul_pos (Nat.two_pow_pos _) (Nat.two_pow_pos _)
  refine Nat.eq_of_mul_eq_mul_right (Nat.two_pow_pos (e' - e).toNat) ?_
  calc A * 2 ^ (e - q).toNat * (B' * 2 ^ (q - e').toNat) * 2 ^ (e' - e).toNat
      = A * B' * 2 ^ ((e - q).toNat + (q - e').toNat + (e' - e).toNat) := by rw [Nat.pow_add, Nat.pow_add]; ac_rfl
    _ = A * B' * 2 ^ (e - e').toNat * 2 ^ ((e' - q).toNat + (q - e).toNat) := by rw [e1, Nat.pow_add _ _ (e - e').toNat]; ac_rfl
    _ = A' * B * 2 ^ (e' - e).toNat * 2 ^ ((e' - q).toNat + (q - e).toNat) := by rw [h]
    _ = A' * 2 ^ (e' - q).toNat * (B * 2 ^ (q - e).toNat) * 2 ^ (e' - e).toNat := by rw [Nat.pow_add]; ac_rfl
theorem zrb_congr {up : Bool} {A B A' B' : Nat} {e e' : Int} (hB : 0 < B) (hB' : 0 < B') (h : A * B' * 2 ^ (e - e').toNat = A' * B * 2 ^ (e' - e).toNat) : zrb up A B e = zrb up A' B' e' := by
  have hz : A = 0 ↔ A' = 0 := by
    have p1 := Nat.two_pow_pos (e - e').toNat
    have p2 := Nat.two_pow_pos (e' - e).toNat
    constructor
    · rintro rfl
      rw [Nat.zero_mul, Nat.zero_mul] at h
      rcases Nat.mul_eq_zero.mp h.symm with h | h
      · rcases Nat.mul_eq_zero.mp h with h | h
        · exact h
        · omega
      · omega
    · rintro rfl
      rw [Nat.zero_mul, Nat.zero_mul] at h
      rcases Nat.mul_eq_zero.mp h with h | h
      · rcases Nat.mul_eq_zero.mp h with h | h
        · exact h
        · omega
      · omega
  unfold zrb
  by_cases hA : A = 0
  · rw [if_pos hA, if_pos (hz.mp hA)]
  · have hA' : ¬ A' = 0 := fun h => hA (hz.mpr h)
    rw [if_neg hA, if_neg hA', zqu_congr (by omega) hB (by omega) hB' h]
    rw [zrn_congr (FP.Core.unitsDen_pos hB _ _) (FP.Core.unitsDen_pos hB' _ _) (zunits_congr h)]
/-- how many binary digits -/
def zbl (n : Nat) : Nat := if n = 0 then 0 else n.log2 + 1
theorem zbl_lt (n : Nat) : n < 2 ^ zbl n := by
  unfold zbl
  split
  · omega
  · exact Nat.lt_log2_self
theorem zbl_le {n : Nat} (h : 0 < n) : 2 ^ (zbl n - 1) ≤ n := by
  unfold zbl
  rw [if_neg (by omega)]
  exact Nat.log2_self_le (by omega)
theorem zbl_pos {n : Nat} (h : 0 < n) : 0 < zbl n := by unfold zbl; rw [if_neg (by omega)]; omega
theorem zbl_eq {n k : Nat} (h1 : 2 ^ k ≤ n) (h2 : n < 2 ^ (k + 1)) : zbl n = k + 1 := by
  have hn : 0 < n := Nat.lt_of_lt_of_le (Nat.two_pow_pos _) h1
  have a := zbl_lt n
  have b := zbl_le hn
  have c := zbl_pos hn
  have d1 : k < zbl n := (Nat.pow_lt_pow_iff_right (by decide : 1 < 2)).mp (Nat.lt_of_le_of_lt h1 a)
  have d2 : zbl n - 1 < k + 1 := (Nat.pow_lt_pow_iff_right (by decide : 1 < 2)).mp (Nat.lt_of_le_of_lt b h2)
  omega
/-- a value between m and m + 1 at the exponent sc: its quantum -/
theorem zqu_rep {A B m : Nat} {e sc : Int} (hA : 0 < A) (hB : 0 < B) (hm : FP.Core.unitsNum A e sc / FP.Core.unitsDen B e sc = m) (h0 : 0 < m) : zqu A B e = max (-1074) (sc + zbl m - 53) := by
  have hd := FP.Core.unitsDen_pos hB e sc
  have h1 : FP.Core.unitsNum A e sc < 2 ^ zbl m * FP.Core.unitsDen B e sc := by
    have := zbl_lt m
    have h2 : FP.Core.unitsNum A e sc < (m + 1) * FP.Core.unitsDen B e sc := by rw [← hm]; exact Nat.lt_mul_of_div_lt (Nat.lt_succ_self _) hd
    exact Nat.lt_of_lt_of_le h2 (Nat.mul_le_mul_right _ this)
  have h2 : ¬ FP.Core.unitsNum A e sc < 2 ^ (zbl m - 1) * FP.Core.unitsDen B e sc := by
    have := zbl_le h0
    have h3 : m * FP.Core.unitsDen B e sc ≤ FP.Core.unitsNum A e sc := by rw [← hm]; exact Nat.div_mul_le_self _ _
    exact Nat.not_lt.mpr (Nat.le_trans (Nat.mul_le_mul_right _ this) h3)
  rw [FP.Core.units_below] at h1 h2
  have hb := zbl_pos h0
  refine FP.Core.quantum_eq hA hB (by rw [b64_qmin]; omega) ?_ ?_
  · rw [b64_p]
    exact FP.Core.below_mono (by omega) h1
  · rw [b64_qmin, b64_p]
    by_cases hq : sc + zbl m - 53 ≤ -1074
    · exact Or.inl (by omega)
    · refine Or.inr fun h3 => h2 ?_
      exact FP.Core.below_mono (by omega) h3
theorem zunits_at {A B : Nat} {e sc q : Int} : FP.Core.unitsNum A e q * (FP.Core.unitsDen B e sc * 2 ^ (q - sc).toNat) = FP.Core.unitsNum A e sc * 2 ^ (sc - q).toNat * FP.Core.unitsDen B e q := by
  unfold FP.Core.unitsNum FP.Core.unitsDen
  have e1 : (e - q).toNat + (sc - e).toNat + (q - sc).toNat = (e - sc).toNat + (sc - q).toNat + (q - e).toNat := by omega
  calc A * 2 ^ (e - q).toNat * (B * 2 ^ (sc - e).toNat * 2 ^ (q - sc).toNat)
      = A * B * 2 ^ ((e - q).toNat + (sc - e).toNat + (q - sc).toNat) := by rw [Nat.pow_add, Nat.pow_add]; ac_rfl
    _ = A * B * 2 ^ ((e - sc).toNat + (sc - q).toNat + (q - e).toNat) := by rw [e1]
    _ = A * 2 ^ (e - sc).toNat * 2 ^ (sc - q).toNat * (B * 2 ^ (q - e).toNat) := by rw [Nat.pow_add, Nat.pow_add]; ac_rfl
end ZFP
