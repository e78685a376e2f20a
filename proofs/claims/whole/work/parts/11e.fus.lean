/-! a number whose lowest bit tells that more is below it -/
section ZJAM
/-- R stands for A / B: it is it, or it is odd and less than 1 away -/
def zjam (A B R : Nat) : Prop := A = R * B ∨ (R % 2 = 1 ∧ A < (R + 1) * B ∧ (R - 1) * B < A ∧ A ≠ R * B)
theorem zrb_jam {up : Bool} {A B R : Nat} {e : Int} (hB : 0 < B) (h : zjam A B R) (hR : 2 ^ 55 ≤ R) : zrb up A B e = zrb up R 1 e := by
  rcases h with h | ⟨h1, h2, h3, h4⟩
  · exact zrb_congr hB (by decide) (by rw [h, Int.sub_self]; simp)
  · obtain ⟨j, hj⟩ : ∃ j, zbl R = j + 55 := by
      have := zbl_lt R
      have := (Nat.pow_lt_pow_iff_right (by decide : 1 < 2)).mp (Nat.lt_of_le_of_lt hR this)
      exact ⟨zbl R - 55, by omega⟩
    have hj1 : 1 ≤ j := by
      have := zbl_lt R
      have := (Nat.pow_lt_pow_iff_right (by decide : 1 < 2)).mp (Nat.lt_of_le_of_lt hR this)
      omega
    have hlt := zbl_lt R
    have hle := zbl_le (by have := Nat.two_pow_pos 55; omega : 0 < R)
    rw [hj] at hlt hle
    rw [show j + 55 - 1 = 54 + j by omega, Nat.pow_add] at hle
    rw [Nat.add_comm, Nat.pow_add] at hlt
    have hpj := Nat.two_pow_pos j
    have hm1 : 2 ^ 54 ≤ R / 2 ^ j := (Nat.le_div_iff_mul_le hpj).mpr hle
    have hm2 : R / 2 ^ j < 2 ^ 55 := (Nat.div_lt_iff_lt_mul hpj).mpr hlt
    -- the odd number leaves an odd rest
    obtain ⟨i, rfl⟩ : ∃ i, j = i + 1 := ⟨j - 1, by omega⟩
    have hrm : R % 2 ^ (i + 1) % 2 = 1 := by
      rw [Nat.mod_mod_of_dvd _ (Nat.pow_dvd_pow 2 (by omega : 1 ≤ i + 1))]; exact h1
    have hdm := Nat.div_add_mod R (2 ^ (i + 1))
    have hml := Nat.mod_lt R hpj
    have hev : 2 ^ (i + 1) % 2 = 0 := by rw [Nat.pow_succ]; omega
    have c1 : R % 2 ^ (i + 1) + 1 ≤ 2 ^ (i + 1) := hml
    generalize hq : R / 2 ^ (i + 1) = m at *
    generalize hr : R % 2 ^ (i + 1) = r at *
    have e1 : zrR m true (e + (i + 1 : Nat)) up = zrb up A (B * 2 ^ (i + 1)) (e + (i + 1 : Nat)) := by
      have g1 : B * 2 ^ (i + 1) * m ≤ (R - 1) * B := by
        have : B * 2 ^ (i + 1) * m = (2 ^ (i + 1) * m) * B := by ac_rfl
        rw [this]; exact Nat.mul_le_mul_right _ (by omega)
      have g2 : (R + 1) * B ≤ B * 2 ^ (i + 1) * (m + 1) := by
        have : B * 2 ^ (i + 1) * (m + 1) = (2 ^ (i + 1) * m + 2 ^ (i + 1)) * B := by rw [Nat.mul_add, Nat.add_mul, Nat.mul_one]; congr 1 <;> ac_rfl
        rw [this]; exact Nat.mul_le_mul_right _ (by omega)
      have hdiv : A / (B * 2 ^ (i + 1)) = m := by
        refine Nat.div_eq_of_lt_le ?_ ?_
        · rw [Nat.mul_comm]; omega
        · rw [Nat.mul_comm]; omega
      refine zrR_eq (Nat.mul_pos hB hpj) (by omega) hdiv ?_ (fun _ => hm1)
      refine ⟨fun _ h0 => ?_, fun _ => rfl⟩
      have := Nat.div_add_mod A (B * 2 ^ (i + 1))
      rw [hdiv, h0] at this
      omega
    have e2 : zrR m true (e + (i + 1 : Nat)) up = zrb up R (1 * 2 ^ (i + 1)) (e + (i + 1 : Nat)) := by
      refine zrR_eq (Nat.mul_pos (by decide) hpj) (by omega) (by rw [Nat.one_mul]; exact hq) ?_ (fun _ => hm1)
      rw [Nat.one_mul, hr]
      refine ⟨fun _ h0 => by omega, fun _ => rfl⟩
    have f1 := zrb_mv (up := up) (A := A) (B := B) (i := 0) (k := i + 1) (e := e) (e' := e + (i + 1 : Nat)) hB (by omega)
    have f2 := zrb_mv (up := up) (A := R) (B := 1) (i := 0) (k := i + 1) (e := e) (e' := e + (i + 1 : Nat)) (by decide) (by omega)
    rw [Nat.pow_zero, Nat.mul_one] at f1 f2
    rw [← f1, ← f2, ← e1, ← e2]
theorem zrb_tiny {A B k : Nat} {e : Int} (hB : 0 < B) (h : A ≤ B * 2 ^ k) (hk : e + k ≤ -1076) : zrb false A B e = 0 := by
  unfold zrb
  by_cases h0 : A = 0
  · rw [if_pos h0]
  · rw [if_neg h0]
    have hq : zqu A B e = -1074 := by
      have hge := zqu_ge A B e
      have : FP.Core.quantum FP.Core.b64 A B e = -1074 := by
        refine FP.Core.quantum_eq (by omega) hB (by rw [b64_qmin]; omega) ?_ (Or.inl (by rw [b64_qmin]))
        rw [b64_p]
        have h1 : FP.Core.unitsNum A e (e - 0) < 2 ^ (k + 1) * FP.Core.unitsDen B e (e - 0) := by
          unfold FP.Core.unitsNum FP.Core.unitsDen
          rw [Int.sub_zero, Int.sub_self]
          show A * 1 < 2 ^ (k + 1) * (B * 1)
          rw [Nat.mul_one, Nat.mul_one, Nat.pow_succ]
          have := Nat.mul_pos hB (Nat.two_pow_pos k)
          have e1 : 2 ^ k * 2 * B = B * 2 ^ k + B * 2 ^ k := by rw [Nat.mul_assoc, Nat.mul_comm 2 B, ← Nat.mul_assoc, Nat.mul_comm (2 ^ k) B]; omega
          omega
        rw [FP.Core.units_below] at h1
        exact FP.Core.below_mono (by omega) h1
      exact this
    rw [hq, if_pos (by decide)]
    have hn : zrn false (FP.Core.unitsNum A e (-1074)) (FP.Core.unitsDen B e (-1074)) = 0 := by
      unfold zrn
      rw [if_neg (by decide)]
      unfold FP.Core.unitsNum FP.Core.unitsDen FP.Core.nearest
      rw [show (e - -1074).toNat = 0 by omega, Nat.pow_zero, Nat.mul_one]
      obtain ⟨w, hw⟩ : ∃ w, (-1074 - e).toNat = k + 2 + w := ⟨(-1074 - e).toNat - (k + 2), by omega⟩
      rw [hw]
      have h2 : B * 2 ^ (k + 2 + w) = B * 2 ^ k * 2 ^ w * 4 := by rw [Nat.pow_add, Nat.pow_add, show (2 : Nat) ^ 2 = 4 from rfl]; ac_rfl
      have h3 : B * 2 ^ k ≤ B * 2 ^ k * 2 ^ w := Nat.le_mul_of_pos_right _ (Nat.two_pow_pos w)
      have h4 : 2 * A < B * 2 ^ (k + 2 + w) := by rw [h2]; omega
      rw [Nat.mod_eq_of_lt (by omega), if_pos h4, Nat.div_eq_of_lt (by omega)]
    rw [hn]
    decide
/-- jam of a number shifted down -/
def zjm (C d : Nat) : Nat := if C % 2 ^ d = 0 then C / 2 ^ d else C / 2 ^ d / 2 * 2 + 1
theorem zjm_lt {C d k : Nat} (h : C < 2 ^ (k + 1) * 2 ^ d) : zjm C d < 2 ^ (k + 1) := by
  have h1 : C / 2 ^ d < 2 ^ (k + 1) := (Nat.div_lt_iff_lt_mul (Nat.two_pow_pos d)).mpr h
  unfold zjm
  split
  · exact h1
  · rw [Nat.pow_succ] at h1 ⊢; omega
theorem zjm_le (C d : Nat) : zjm C d ≤ C / 2 ^ d + 1 := by unfold zjm; split <;> omega
/-- beside an even number -/
theorem zjam_add {E C d : Nat} (hE : E % 2 = 0) : zjam (E * 2 ^ d + C) (2 ^ d) (E + zjm C d) := by
  have hp := Nat.two_pow_pos d
  have hdm := Nat.div_add_mod C (2 ^ d)
  have hml := Nat.mod_lt C hp
  unfold zjm zjam
  by_cases h : C % 2 ^ d = 0
  · left
    rw [if_pos h, Nat.add_mul, Nat.mul_comm (C / 2 ^ d)]; omega
  · right
    rw [if_neg h]
    generalize C / 2 ^ d = n at *
    generalize hr : C % 2 ^ d = r at *
    have e0 : ∀ x y : Nat, (E + x) * 2 ^ d = E * 2 ^ d + 2 ^ d * x := fun x _ => by rw [Nat.add_mul, Nat.mul_comm x]
    have b1 : 2 ^ d * (n / 2 * 2) ≤ 2 ^ d * n := Nat.mul_le_mul_left _ (by omega)
    have b2 : 2 ^ d * (n + 1) ≤ 2 ^ d * (n / 2 * 2 + 2) := Nat.mul_le_mul_left _ (by omega)
    rw [Nat.mul_add, Nat.mul_one] at b2
    refine ⟨by omega, ?_, ?_, ?_⟩
    · rw [show E + (n / 2 * 2 + 1) + 1 = E + (n / 2 * 2 + 2) by omega, e0 _ 0]; omega
    · rw [show E + (n / 2 * 2 + 1) - 1 = E + (n / 2 * 2) by omega, e0 _ 0]; omega
    · rw [e0 _ 0]
      intro h5
      have h6 : 2 ^ d * n + r = 2 ^ d * (n / 2 * 2 + 1) := by omega
      rcases Nat.mod_two_eq_zero_or_one n with hn | hn
      · rw [show n / 2 * 2 + 1 = n + 1 by omega, Nat.mul_add, Nat.mul_one] at h6; omega
      · rw [show n / 2 * 2 + 1 = n by omega] at h6; omega
theorem zjam_sub {E C d : Nat} (hE : E % 2 = 0) (h : zjm C d ≤ E) : C ≤ E * 2 ^ d ∧ zjam (E * 2 ^ d - C) (2 ^ d) (E - zjm C d) := by
  have hp := Nat.two_pow_pos d
  have hdm := Nat.div_add_mod C (2 ^ d)
  have hml := Nat.mod_lt C hp
  unfold zjm at h
  unfold zjm zjam
  by_cases h0 : C % 2 ^ d = 0
  · rw [if_pos h0] at h
    have h2 : 2 ^ d * (C / 2 ^ d) ≤ 2 ^ d * E := Nat.mul_le_mul_left _ h
    rw [Nat.mul_comm E]
    refine ⟨by omega, Or.inl ?_⟩
    rw [if_pos h0, Nat.sub_mul, Nat.mul_comm (C / 2 ^ d), Nat.mul_comm E]; omega
  · rw [if_neg h0] at h
    rw [if_neg h0]
    generalize C / 2 ^ d = n at *
    generalize hr : C % 2 ^ d = r at *
    obtain ⟨D, rfl⟩ : ∃ D, E = n / 2 * 2 + 2 + D := ⟨E - (n / 2 * 2 + 2), by omega⟩
    have e0 : ∀ x : Nat, x * 2 ^ d = 2 ^ d * x := fun x => Nat.mul_comm _ _
    have b1 : 2 ^ d * (n / 2 * 2) ≤ 2 ^ d * n := Nat.mul_le_mul_left _ (by omega)
    have b2 : 2 ^ d * (n + 1) ≤ 2 ^ d * (n / 2 * 2 + 2) := Nat.mul_le_mul_left _ (by omega)
    rw [Nat.mul_add, Nat.mul_one] at b2
    have e1 : (n / 2 * 2 + 2 + D) * 2 ^ d = 2 ^ d * (n / 2 * 2 + 2) + 2 ^ d * D := by rw [e0, Nat.mul_add]
    have e2 : 2 ^ d * (n / 2 * 2 + 2) = 2 ^ d * (n / 2 * 2) + 2 ^ d * 2 := by rw [Nat.mul_add]
    refine ⟨by omega, Or.inr ⟨by omega, ?_, ?_, ?_⟩⟩
    · rw [show n / 2 * 2 + 2 + D - (n / 2 * 2 + 1) + 1 = D + 2 by omega, e0 (D + 2), Nat.mul_add]; omega
    · rw [show n / 2 * 2 + 2 + D - (n / 2 * 2 + 1) - 1 = D by omega, e0 D]; omega
    · rw [show n / 2 * 2 + 2 + D - (n / 2 * 2 + 1) = D + 1 by omega, e0 (D + 1), Nat.mul_add, Nat.mul_one]
      intro h5
      have h6 : 2 ^ d * n + r = 2 ^ d * (n / 2 * 2) + 2 ^ d := by omega
      rcases Nat.mod_two_eq_zero_or_one n with hn | hn
      · rw [show n / 2 * 2 = n by omega] at h6; omega
      · have : n = n / 2 * 2 + 1 := by omega
        rw [this, Nat.mul_add, Nat.mul_one] at h6
        rw [show (n / 2 * 2 + 1) / 2 * 2 = n / 2 * 2 by omega] at h6
        omega
theorem zjam_bus {E C d : Nat} (hE : E % 2 = 0) (h : E < zjm C d) : E * 2 ^ d ≤ C ∧ zjam (C - E * 2 ^ d) (2 ^ d) (zjm C d - E) := by
  have hp := Nat.two_pow_pos d
  have hdm := Nat.div_add_mod C (2 ^ d)
  have hml := Nat.mod_lt C hp
  unfold zjm at h
  unfold zjm zjam
  have e0 : ∀ x : Nat, x * 2 ^ d = 2 ^ d * x := fun x => Nat.mul_comm _ _
  by_cases h0 : C % 2 ^ d = 0
  · rw [if_pos h0] at h
    have h2 : 2 ^ d * E ≤ 2 ^ d * (C / 2 ^ d) := Nat.mul_le_mul_left _ (by omega)
    rw [Nat.mul_comm E]
    refine ⟨by omega, Or.inl ?_⟩
    rw [if_pos h0, Nat.sub_mul, Nat.mul_comm (C / 2 ^ d), Nat.mul_comm E]; omega
  · rw [if_neg h0] at h
    rw [if_neg h0]
    generalize C / 2 ^ d = n at *
    generalize hr : C % 2 ^ d = r at *
    obtain ⟨D, hD⟩ : ∃ D, n / 2 * 2 = E + D := ⟨n / 2 * 2 - E, by omega⟩
    have b1 : 2 ^ d * (n / 2 * 2) ≤ 2 ^ d * n := Nat.mul_le_mul_left _ (by omega)
    have b2 : 2 ^ d * (n + 1) ≤ 2 ^ d * (n / 2 * 2 + 2) := Nat.mul_le_mul_left _ (by omega)
    rw [Nat.mul_add, Nat.mul_one] at b2
    have e1 : 2 ^ d * (n / 2 * 2) = 2 ^ d * E + 2 ^ d * D := by rw [hD, Nat.mul_add]
    have e2 : 2 ^ d * (n / 2 * 2 + 2) = 2 ^ d * (n / 2 * 2) + 2 ^ d * 2 := by rw [Nat.mul_add]
    rw [e0 E]
    refine ⟨by omega, Or.inr ⟨by omega, ?_, ?_, ?_⟩⟩
    · rw [show n / 2 * 2 + 1 - E + 1 = D + 2 by omega, e0 (D + 2), Nat.mul_add]; omega
    · rw [show n / 2 * 2 + 1 - E - 1 = D by omega, e0 D]; omega
    · rw [show n / 2 * 2 + 1 - E = D + 1 by omega, e0 (D + 1), Nat.mul_add, Nat.mul_one]
      intro h5
      have h6 : 2 ^ d * n + r = 2 ^ d * (n / 2 * 2) + 2 ^ d := by omega
      rcases Nat.mod_two_eq_zero_or_one n with hn | hn
      · rw [show n / 2 * 2 = n by omega] at h6; omega
      · have : n = n / 2 * 2 + 1 := by omega
        rw [this, Nat.mul_add, Nat.mul_one] at h6
        rw [show (n / 2 * 2 + 1) / 2 * 2 = n / 2 * 2 by omega] at h6
        omega
end ZJAM
