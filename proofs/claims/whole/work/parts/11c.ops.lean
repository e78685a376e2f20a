/-! the operations on doubles by whole numbers -/
section ZOPS
theorem zsumSign_ne {s t : Bool} {v : Int} (h : v ≠ 0) : FP.Core.sumSign s t v = decide (v < 0) := by unfold FP.Core.sumSign; rw [if_neg h]
theorem zround_fin (s : Bool) (c : Nat) (q : Int) : FP.Core.encode FP.Core.b64 (FP.Core.round FP.Core.b64 (.fin s c q)) = s.toNat * 9223372036854775808 + zrb false c 1 q := zrb_round s c (by decide) q
theorem zadd_bits {a b : Nat} (ha : a < 18446744073709551616) (hb : b < 18446744073709551616) (fa : zfE a ≠ 2047) (fb : zfE b ≠ 2047) :
    FP.Core.add FP.Core.b64 a b = (FP.Core.sumSign (zsg a) (zsg b) (FP.Core.sumUnits (zsg a) (zmt a) (zsc a) (zsg b) (zmt b) (zsc b) (min (zsc a) (zsc b)))).toNat * 9223372036854775808 + zrb false (FP.Core.sumUnits (zsg a) (zmt a) (zsc a) (zsg b) (zmt b) (zsc b) (min (zsc a) (zsc b))).natAbs 1 (min (zsc a) (zsc b)) := by
  unfold FP.Core.add
  rw [zdec ha fa, zdec hb fb]
  exact zround_fin _ _ _
theorem zmul_bits {a b : Nat} (ha : a < 18446744073709551616) (hb : b < 18446744073709551616) (fa : zfE a ≠ 2047) (fb : zfE b ≠ 2047) :
    FP.Core.mul FP.Core.b64 a b = (zsg a != zsg b).toNat * 9223372036854775808 + zrb false (zmt a * zmt b) 1 (zsc a + zsc b) := by
  unfold FP.Core.mul
  rw [zdec ha fa, zdec hb fb]
  exact zround_fin _ _ _
theorem zdiv_bits {a b : Nat} (ha : a < 18446744073709551616) (hb : b < 18446744073709551616) (fa : zfE a ≠ 2047) (fb : zfE b ≠ 2047) (h0 : zmt b ≠ 0) :
    FP.Core.div FP.Core.b64 a b = (zsg a != zsg b).toNat * 9223372036854775808 + zrb false (zmt a) (zmt b) (zsc a - zsc b) := by
  unfold FP.Core.div
  rw [zdec ha fa, zdec hb fb]
  unfold FP.Core.quotient
  simp only
  rw [if_neg h0]
  exact zrb_round _ _ (by omega) _
theorem zsigT (c : Nat) : FP.Core.signed true c = -(c : Int) := rfl
theorem zsigF (c : Nat) : FP.Core.signed false c = (c : Int) := rfl
theorem zsig_add (s : Bool) (x y : Nat) : (FP.Core.signed s x + FP.Core.signed s y).natAbs = x + y := by cases s <;> simp only [zsigT, zsigF] <;> omega
theorem zsig_add_s (s : Bool) {x y : Nat} (h : 0 < x + y) : decide (FP.Core.signed s x + FP.Core.signed s y < 0) = s := by
  cases s
  · simp only [zsigF]; exact decide_eq_false (by omega)
  · simp only [zsigT]; exact decide_eq_true (by omega)
theorem zsig_sub {s t : Bool} (h : ¬ s = t) {x y : Nat} (hyx : y ≤ x) : (FP.Core.signed s x + FP.Core.signed t y).natAbs = x - y := by
  cases s <;> cases t <;> simp only [zsigT, zsigF] <;> first | omega | exact absurd rfl h
theorem zsig_sub_s {s t : Bool} (h : ¬ s = t) {x y : Nat} (hyx : y ≤ x) (h0 : FP.Core.signed s x + FP.Core.signed t y ≠ 0) : decide (FP.Core.signed s x + FP.Core.signed t y < 0) = s := by
  cases s <;> cases t <;> simp only [zsigT, zsigF] at h0 ⊢
  · exact absurd rfl h
  · exact decide_eq_false (by omega)
  · exact decide_eq_true (by omega)
  · exact absurd rfl h
/-- size against size -/
theorem zmag_le {a b : Nat} (h : b % 9223372036854775808 ≤ a % 9223372036854775808) : zsc b ≤ zsc a ∧ zmt b ≤ zmt a * 2 ^ (zsc a - zsc b).toNat := by
  have ea : zfE a = a % 9223372036854775808 / 4503599627370496 := by unfold zfE; omega
  have eb : zfE b = b % 9223372036854775808 / 4503599627370496 := by unfold zfE; omega
  have ta : a % 9223372036854775808 % 4503599627370496 = a % 4503599627370496 := by omega
  have tb : b % 9223372036854775808 % 4503599627370496 = b % 4503599627370496 := by omega
  have hsc : zsc b ≤ zsc a := by
    unfold zsc
    split <;> split <;> omega
  refine ⟨hsc, ?_⟩
  by_cases hk : zsc a = zsc b
  · rw [hk, Int.sub_self]
    show _ ≤ zmt a * 1
    rw [Nat.mul_one]
    unfold zsc at hk
    unfold zmt
    split <;> split <;> simp_all <;> omega
  · have h1 := zmt_norm (n := a) (by have := zsc_ge b; omega)
    have h2 := zmt_lt b
    have h3 : 2 ^ 1 ≤ 2 ^ (zsc a - zsc b).toNat := Nat.pow_le_pow_right (by decide) (by omega)
    have h4 : zmt a * 2 ^ 1 ≤ zmt a * 2 ^ (zsc a - zsc b).toNat := Nat.mul_le_mul_left _ h3
    omega
theorem zmt_0 {a : Nat} : zmt a = 0 ↔ a % 9223372036854775808 = 0 := by
  unfold zmt zfE
  split <;> omega
/-- what `plus` makes of the larger a and the smaller b -/
theorem zplus_eq {a b : Nat} (ha : a < 18446744073709551616) (hb : b < 18446744073709551616) (fa : zfE a ≠ 2047) (fb : zfE b ≠ 2047) (hab : b % 9223372036854775808 ≤ a % 9223372036854775808) (h0 : zmt a ≠ 0) {k kept T : Nat} {lost : Bool} (hk : k = (zsc a - zsc b).toNat) (hkept : kept = zmt b * 512 / 2 ^ k) (hlost : lost = decide (zmt b * 512 % 2 ^ k ≠ 0))
    (hT : T = if zsg a = zsg b then zmt a * 512 + kept else zmt a * 512 - kept - lost.toNat) :
    kept + lost.toNat ≤ zmt a * 512 ∧ T < 2 ^ 63 ∧ (lost = true → 2 ^ 54 ≤ T) ∧ FP.Core.add FP.Core.b64 a b = if T = 0 then 0 else (zsg a).toNat * 9223372036854775808 + zrR T lost (zsc a - 9) false := by
  obtain ⟨hsc, hle⟩ := zmag_le hab
  have hma := zmt_lt a
  have hmb := zmt_lt b
  have hp := Nat.two_pow_pos k
  rw [← hk] at hle
  have hdm := Nat.div_add_mod (zmt b * 512) (2 ^ k)
  have hml := Nat.mod_lt (zmt b * 512) hp
  have hkle : kept ≤ zmt b * 512 := by rw [hkept]; exact Nat.div_le_self _ _
  have hc : kept + lost.toNat ≤ zmt a * 512 := by
    have h1 : zmt b * 512 ≤ zmt a * 512 * 2 ^ k := by
      have := Nat.mul_le_mul_right 512 hle
      calc zmt b * 512 ≤ zmt a * 2 ^ k * 512 := this
        _ = zmt a * 512 * 2 ^ k := by ac_rfl
    rw [hkept]
    by_cases hl : zmt b * 512 % 2 ^ k = 0
    · rw [hlost, decide_eq_false (by simpa using hl)]
      exact Nat.div_le_of_le_mul (by rw [Nat.mul_comm (2 ^ k)]; exact h1)
    · rw [hlost, decide_eq_true hl]
      have : zmt b * 512 / 2 ^ k < zmt a * 512 := by
        refine Nat.lt_of_not_le fun h => ?_
        have := Nat.mul_le_mul_right (2 ^ k) h
        rw [Nat.mul_comm (zmt b * 512 / 2 ^ k)] at this
        omega
      show _ + 1 ≤ _
      omega
  have hT63 : T < 2 ^ 63 := by rw [hT]; split <;> omega
  have hlk : lost = true → 2 ^ 61 ≤ zmt a * 512 ∧ kept < 2 ^ 52 := by
    intro h
    rw [hlost] at h
    have h := of_decide_eq_true h
    have hk10 : 10 ≤ k := by
      refine Nat.le_of_not_lt fun h9 => h ?_
      have : zmt b * 512 = zmt b * 2 ^ (9 - k) * 2 ^ k := by rw [Nat.mul_assoc, ← Nat.pow_add, show 9 - k + k = 9 by omega]
      rw [this]; exact Nat.mul_mod_left _ _
    have h1 := zmt_norm (n := a) (by have := zsc_ge b; omega)
    refine ⟨by omega, ?_⟩
    have h2 : 2 ^ 10 ≤ 2 ^ k := Nat.pow_le_pow_right (by decide) hk10
    have h3 : zmt b * 512 / 2 ^ k ≤ zmt b * 512 / 2 ^ 10 := Nat.div_le_div_left h2 (by decide)
    omega
  have h55 : lost = true → 2 ^ 54 ≤ T := by
    intro h
    obtain ⟨h1, h2⟩ := hlk h
    have : lost.toNat = 1 := by rw [h]; rfl
    rw [hT]; split <;> omega
  refine ⟨hc, hT63, h55, ?_⟩
  rw [zadd_bits ha hb fa fb, show min (zsc a) (zsc b) = zsc b by omega]
  have hu : FP.Core.sumUnits (zsg a) (zmt a) (zsc a) (zsg b) (zmt b) (zsc b) (zsc b) = FP.Core.signed (zsg a) (zmt a * 2 ^ k) + FP.Core.signed (zsg b) (zmt b) := by
    unfold FP.Core.sumUnits FP.Core.inUnits
    rw [← hk, Int.sub_self]
    show _ + FP.Core.signed (zsg b) (zmt b * 1) = _
    rw [Nat.mul_one]
  rw [hu]
  have hpa : zmt a ≤ zmt a * 2 ^ k := Nat.le_mul_of_pos_right _ hp
  generalize hv : FP.Core.signed (zsg a) (zmt a * 2 ^ k) + FP.Core.signed (zsg b) (zmt b) = v
  have key : ∀ W : Nat, v.natAbs = W → W * 512 / 2 ^ k = T → (lost = true ↔ W * 512 % 2 ^ k ≠ 0) → zrb false v.natAbs 1 (zsc b) = zrR T lost (zsc a - 9) false := by
    intro W h1 h2 h3
    rw [h1, zrR_eq (A := W * 512) (B := 2 ^ k) hp hT63 h2 h3 h55]
    have := zrb_mv (up := false) (A := W) (B := 1) (i := 9) (k := k) (e := zsc b) (e' := zsc a - 9) (by decide) (by omega)
    rw [Nat.one_mul] at this
    exact this.symm
  by_cases hs : zsg a = zsg b
  · rw [if_pos hs] at hT
    have hvW : v.natAbs = zmt a * 2 ^ k + zmt b := by
      rw [← hv, ← hs]; exact zsig_add _ _ _
    have hv0 : v ≠ 0 := by omega
    have hsv : decide (v < 0) = zsg a := by
      rw [← hv, ← hs]; exact zsig_add_s _ (by omega)
    have e0 : (zmt a * 2 ^ k + zmt b) * 512 = zmt b * 512 + 2 ^ k * (zmt a * 512) := by rw [Nat.add_mul, Nat.add_comm]; congr 1; ac_rfl
    rw [zsumSign_ne hv0, hsv, if_neg (by omega), key _ hvW]
    · rw [e0, Nat.add_mul_div_left _ _ hp, ← hkept, hT, Nat.add_comm]
    · rw [e0, Nat.add_mul_mod_self_left, hlost]; exact decide_eq_true_iff
  · rw [if_neg hs] at hT
    have hvW : v.natAbs = zmt a * 2 ^ k - zmt b := by
      rw [← hv]; exact zsig_sub hs hle
    have hsv : v ≠ 0 → decide (v < 0) = zsg a := by
      intro h; rw [← hv] at h ⊢; exact zsig_sub_s hs hle h
    have e0 : (zmt a * 2 ^ k - zmt b) * 512 = 2 ^ k * (zmt a * 512) - zmt b * 512 := by rw [Nat.sub_mul]; congr 1; ac_rfl
    have e1 : (zmt a * 2 ^ k - zmt b) * 512 = 2 ^ k * T + (if zmt b * 512 % 2 ^ k = 0 then 0 else 2 ^ k - zmt b * 512 % 2 ^ k) := by
      rw [e0, hT]
      by_cases hl : zmt b * 512 % 2 ^ k = 0
      · have : lost.toNat = 0 := by rw [hlost, decide_eq_false (by simpa using hl)]; rfl
        rw [if_pos hl, this, Nat.sub_zero, Nat.mul_sub, hkept]
        omega
      · have : lost.toNat = 1 := by rw [hlost, decide_eq_true hl]; rfl
        have hx : 2 ^ k * (kept + 1) ≤ 2 ^ k * (zmt a * 512) := Nat.mul_le_mul_left _ (by omega)
        rw [if_neg hl, this, Nat.sub_sub, Nat.mul_sub, Nat.mul_add, Nat.mul_one, hkept]
        rw [Nat.mul_add, Nat.mul_one, hkept] at hx
        omega
    have e2 : (if zmt b * 512 % 2 ^ k = 0 then 0 else 2 ^ k - zmt b * 512 % 2 ^ k) < 2 ^ k := by split <;> omega
    have e3 : (zmt a * 2 ^ k - zmt b) * 512 / 2 ^ k = T := by
      rw [e1, Nat.mul_add_div hp, Nat.div_eq_of_lt e2, Nat.add_zero]
    have e4 : lost = true ↔ (zmt a * 2 ^ k - zmt b) * 512 % 2 ^ k ≠ 0 := by
      rw [e1, Nat.mul_add_mod, Nat.mod_eq_of_lt e2, hlost, decide_eq_true_iff]
      constructor
      · intro h; rw [if_neg h]; omega
      · intro h h0; rw [if_pos h0] at h; exact h rfl
    by_cases hT0 : T = 0
    · have hl : lost = false := by
        cases lost
        · rfl
        · have := h55 rfl; omega
      have hW0 : v.natAbs = 0 := by
        rw [hvW]
        have h5 : ¬ (zmt a * 2 ^ k - zmt b) * 512 % 2 ^ k ≠ 0 := fun h => by rw [e4.mpr h] at hl; exact absurd hl (by decide)
        have h6 := Nat.div_add_mod ((zmt a * 2 ^ k - zmt b) * 512) (2 ^ k)
        rw [e3, hT0, Nat.mul_zero] at h6
        omega
      have hv0 : v = 0 := by omega
      rw [if_pos hT0, hv0]
      have : FP.Core.sumSign (zsg a) (zsg b) 0 = false := by
        unfold FP.Core.sumSign; rw [if_pos rfl]
        revert hs; cases zsg a <;> cases zsg b <;> simp
      rw [this]
      unfold zrb
      rw [if_pos (show Int.natAbs 0 = 0 from rfl)]
      rfl
    · have hv0 : v ≠ 0 := by
        intro h
        have : (zmt a * 2 ^ k - zmt b) = 0 := by rw [← hvW, h]; rfl
        rw [this, Nat.zero_mul, Nat.zero_div] at e3
        omega
      rw [zsumSign_ne hv0, hsv hv0, if_neg hT0, key _ hvW e3 e4]
theorem zplus_zero {a b : Nat} (ha : a % 9223372036854775808 = 0) (hb : b % 9223372036854775808 = 0) (ha2 : a < 18446744073709551616) (hb2 : b < 18446744073709551616) : FP.Core.add FP.Core.b64 a b = a &&& b := by
  have h1 : a = 0 ∨ a = 9223372036854775808 := by omega
  have h2 : b = 0 ∨ b = 9223372036854775808 := by omega
  rcases h1 with rfl | rfl <;> rcases h2 with rfl | rfl <;> decide +kernel
theorem zadd_comm (a b : Nat) : FP.Core.add FP.Core.b64 a b = FP.Core.add FP.Core.b64 b a := by unfold FP.Core.add; rw [FP.Core.exactSum_comm]
/-- the mantissa with its highest bit at 52 -/
def zfm (n : Nat) : Nat := zmt n * 2 ^ (53 - zbl (zmt n))
def zfsc (n : Nat) : Int := zsc n - (53 - zbl (zmt n) : Nat)
theorem zmt_bl (n : Nat) : zbl (zmt n) ≤ 53 := zbl_up (zmt_lt n)
theorem zfm_0 {n : Nat} : zfm n = 0 ↔ zmt n = 0 := by
  unfold zfm
  constructor
  · intro h
    rcases Nat.mul_eq_zero.mp h with h | h
    · exact h
    · have := Nat.two_pow_pos (53 - zbl (zmt n)); omega
  · intro h; rw [h, Nat.zero_mul]
theorem zfm_lt (n : Nat) : zfm n < 9007199254740992 := by
  unfold zfm
  have h1 := zbl_lt (zmt n)
  have h2 := zmt_bl n
  have h3 := (Nat.mul_lt_mul_right (Nat.two_pow_pos (53 - zbl (zmt n)))).mpr h1
  rw [← Nat.pow_add, show zbl (zmt n) + (53 - zbl (zmt n)) = 53 by omega] at h3
  exact h3
theorem zfm_ge {n : Nat} (h : zmt n ≠ 0) : 4503599627370496 ≤ zfm n := by
  unfold zfm
  have h1 := zbl_le (by omega : 0 < zmt n)
  have h4 := zbl_pos (by omega : 0 < zmt n)
  have h2 := zmt_bl n
  have h3 := Nat.mul_le_mul_right (2 ^ (53 - zbl (zmt n))) h1
  rw [← Nat.pow_add, show zbl (zmt n) - 1 + (53 - zbl (zmt n)) = 52 by omega] at h3
  exact h3
theorem zfsc_ge (n : Nat) : -1127 ≤ zfsc n := by unfold zfsc; have := zsc_ge n; omega
theorem zfsc_le (n : Nat) : zfsc n ≤ 972 := by unfold zfsc; have := zsc_lt n; omega
theorem ztimes_eq {a b : Nat} (ha : a < 18446744073709551616) (hb : b < 18446744073709551616) (fa : zfE a ≠ 2047) (fb : zfE b ≠ 2047) {H : Nat} {more : Bool} (hH : H = zfm a * 1024 * (zfm b * 1024) / 2 ^ 64) (hm : more = decide (zfm a * 1024 * (zfm b * 1024) % 2 ^ 64 ≠ 0)) :
    H < 2 ^ 63 ∧ (more = true → 2 ^ 54 ≤ H) ∧ FP.Core.mul FP.Core.b64 a b = (zsg a != zsg b).toNat * 9223372036854775808 + zrR H more (zfsc a + zfsc b - 20 + 64) false := by
  have h1 := zfm_lt a
  have h2 := zfm_lt b
  have hb1 : zfm a * 1024 * (zfm b * 1024) ≤ 9223372036854775808 * 9223372036854775808 := Nat.mul_le_mul (by omega) (by omega)
  have hH63 : H < 2 ^ 63 := by rw [hH]; omega
  have h55 : more = true → 2 ^ 54 ≤ H := by
    intro h
    rw [hm] at h
    have h := of_decide_eq_true h
    have n1 : zmt a ≠ 0 := fun h0 => h (by rw [zfm_0.mpr h0]; simp)
    have n2 : zmt b ≠ 0 := fun h0 => h (by rw [zfm_0.mpr h0]; simp)
    have g1 := zfm_ge n1
    have g2 := zfm_ge n2
    have hb2 : 4611686018427387904 * 4611686018427387904 ≤ zfm a * 1024 * (zfm b * 1024) := Nat.mul_le_mul (by omega) (by omega)
    rw [hH]; omega
  refine ⟨hH63, h55, ?_⟩
  rw [zmul_bits ha hb fa fb, zrR_eq (A := zfm a * 1024 * (zfm b * 1024)) (B := 2 ^ 64) (by decide) hH63 hH.symm (by rw [hm]; exact decide_eq_true_iff) h55]
  congr 1
  have e : zfm a * 1024 * (zfm b * 1024) = zmt a * zmt b * 2 ^ ((53 - zbl (zmt a)) + (53 - zbl (zmt b)) + 20) := by
    unfold zfm
    rw [Nat.pow_add, Nat.pow_add, show (2 : Nat) ^ 20 = 1024 * 1024 from rfl]; ac_rfl
  have := zrb_mv (up := false) (A := zmt a * zmt b) (B := 1) (i := (53 - zbl (zmt a)) + (53 - zbl (zmt b)) + 20) (k := 64) (e := zsc a + zsc b) (e' := zfsc a + zfsc b - 20 + 64) (by decide) (by unfold zfsc; omega)
  rw [Nat.one_mul] at this
  rw [e, this]
theorem zover_eq {a b : Nat} (ha : a < 18446744073709551616) (hb : b < 18446744073709551616) (fa : zfE a ≠ 2047) (fb : zfE b ≠ 2047) (h0 : zmt b ≠ 0) {H : Nat} {more : Bool} (hH : H = zfm a * 2 ^ 60 / zfm b) (hm : more = decide (zfm a * 2 ^ 60 % zfm b ≠ 0)) :
    H < 2 ^ 63 ∧ (more = true → 2 ^ 54 ≤ H) ∧ FP.Core.div FP.Core.b64 a b = (zsg a != zsg b).toNat * 9223372036854775808 + zrR H more (zfsc a - zfsc b - 60) false := by
  have h1 := zfm_lt a
  have h2 := zfm_lt b
  have g2 := zfm_ge h0
  have hH63 : H < 2 ^ 63 := by
    rw [hH]
    refine (Nat.div_lt_iff_lt_mul (by omega)).mpr ?_
    have : 2 ^ 63 * 4503599627370496 ≤ 2 ^ 63 * zfm b := Nat.mul_le_mul_left _ g2
    omega
  have h55 : more = true → 2 ^ 54 ≤ H := by
    intro h
    rw [hm] at h
    have h := of_decide_eq_true h
    have n1 : zmt a ≠ 0 := fun h0 => h (by rw [zfm_0.mpr h0]; simp)
    have g1 := zfm_ge n1
    rw [hH]
    refine (Nat.le_div_iff_mul_le (by omega)).mpr ?_
    exact Nat.le_trans (Nat.mul_le_mul_left _ (Nat.le_of_lt h2)) (Nat.le_trans (show 2 ^ 54 * 9007199254740992 ≤ 4503599627370496 * 2 ^ 60 by decide) (Nat.mul_le_mul_right _ g1))
  refine ⟨hH63, h55, ?_⟩
  rw [zdiv_bits ha hb fa fb h0, zrR_eq (A := zfm a * 2 ^ 60) (B := zfm b) (by omega) hH63 hH.symm (by rw [hm]; exact decide_eq_true_iff) h55]
  congr 1
  have e : zfm a * 2 ^ 60 = zmt a * 2 ^ ((53 - zbl (zmt a)) + 60) := by unfold zfm; rw [Nat.pow_add]; ac_rfl
  have := zrb_mv (up := false) (A := zmt a) (B := zmt b) (i := (53 - zbl (zmt a)) + 60) (k := 53 - zbl (zmt b)) (e := zsc a - zsc b) (e' := zfsc a - zfsc b - 60) (by omega) (by unfold zfsc; omega)
  rw [e]; unfold zfm; rw [this]
end ZOPS
