/-! a * b + c by two numbers of 127 bits: the whole -/
section ZFMA2
theorem zfma_fin {A k R : Nat} {e : Int} (hj : zjam A (2 ^ k) R) (h : A = R * 2 ^ k ∨ 2 ^ 55 ≤ R ∨ (A ≤ 2 ^ k * 2 ^ 105 ∧ R ≤ 2 ^ 106 ∧ e + 106 ≤ -1076)) : zrb false A (2 ^ k) e = zrb false R 1 e := by
  rcases h with h | h | ⟨h1, h2, h3⟩
  · exact zrb_ex h
  · exact zrb_jam (Nat.two_pow_pos k) hj h
  · rw [zrb_tiny (Nat.two_pow_pos k) h1 (by omega), zrb_tiny (k := 106) (by decide) (by rw [Nat.one_mul]; exact h2) (by omega)]
theorem zjm_ex {C k : Nat} (h : C % 2 ^ k = 0) : C = zjm C k * 2 ^ k := by
  rw [zjm_0 h, Nat.mul_comm]
  have := Nat.div_add_mod C (2 ^ k)
  omega
theorem zdvd_ex {c i k : Nat} (h : k ≤ i) : c * 2 ^ i % 2 ^ k = 0 := by
  rw [show i = k + (i - k) by omega, Nat.pow_add, ← Nat.mul_assoc, Nat.mul_right_comm]
  exact Nat.mul_mod_left _ _
/-- an exact one stays exact -/
theorem zfR_ex {s t : Bool} {E C k : Nat} (h : C % 2 ^ k = 0) : (FP.Core.signed s (E * 2 ^ k) + FP.Core.signed t C).natAbs = zfR s t E (zjm C k) * 2 ^ k := by
  have hC := zjm_ex h
  generalize zjm C k = C' at *
  subst hC
  have hp := Nat.two_pow_pos k
  unfold zfR
  by_cases hst : s = t
  · subst hst; rw [if_pos rfl, zsig_add, Nat.add_mul]
  · rw [if_neg hst]
    by_cases hle : C' ≤ E
    · rw [if_pos hle, zsig_sub hst (Nat.mul_le_mul_right _ hle), Nat.sub_mul]
    · rw [if_neg hle, Int.add_comm, zsig_sub (fun h => hst h.symm) (Nat.mul_le_mul_right _ (by omega)), Nat.sub_mul]
theorem zfR_comm (s t : Bool) (P C : Nat) : zfR s t P C = zfR t s C P := by
  unfold zfR
  by_cases h : s = t
  · rw [if_pos h, if_pos h.symm, Nat.add_comm]
  · have h' : ¬ t = s := fun e => h e.symm
    rw [if_neg h, if_neg h']
    by_cases h1 : C ≤ P
    · rw [if_pos h1]
      by_cases h2 : P ≤ C
      · rw [if_pos h2]; omega
      · rw [if_neg h2]
    · rw [if_neg h1, if_pos (by omega)]
theorem zfS_comm {s t : Bool} {P C : Nat} (h0 : zfR s t P C ≠ 0) : zfS s t P C = zfS t s C P := by
  unfold zfS; unfold zfR at h0
  by_cases h : s = t
  · rw [if_pos h, if_pos h.symm, h]
  · have h' : ¬ t = s := fun e => h e.symm
    rw [if_neg h] at h0
    rw [if_neg h, if_neg h']
    by_cases h1 : C ≤ P
    · rw [if_pos h1] at h0
      rw [if_pos h1, if_neg (show ¬ P ≤ C by omega)]
    · rw [if_neg h1, if_pos (show P ≤ C by omega)]
def zfP (a b : Nat) : Nat := zfm a * 1024 * (zfm b * 1024)
def zfC (c : Nat) : Nat := zfm c * 512 * 18446744073709551616
theorem zfP_lt (a b : Nat) : zfP a b < 2 ^ 126 := by
  have h1 := zfm_lt a
  have h2 := zfm_lt b
  have : zfP a b ≤ 9007199254740991 * 1024 * (9007199254740991 * 1024) := Nat.mul_le_mul (Nat.mul_le_mul_right _ (by omega)) (Nat.mul_le_mul_right _ (by omega))
  exact Nat.lt_of_le_of_lt this (by decide)
theorem zfP_ge {a b : Nat} (h1 : zmt a ≠ 0) (h2 : zmt b ≠ 0) : 2 ^ 124 ≤ zfP a b := by
  have : 4503599627370496 * 1024 * (4503599627370496 * 1024) ≤ zfP a b := Nat.mul_le_mul (Nat.mul_le_mul_right _ (zfm_ge h1)) (Nat.mul_le_mul_right _ (zfm_ge h2))
  exact Nat.le_trans (by decide) this
theorem zfC_lt (c : Nat) : zfC c < 2 ^ 126 := by
  have h1 := zfm_lt c
  have : zfC c ≤ 9007199254740991 * 512 * 18446744073709551616 := Nat.mul_le_mul_right _ (Nat.mul_le_mul_right _ (by omega))
  exact Nat.lt_of_le_of_lt this (by decide)
theorem zfC_ge {c : Nat} (h1 : zmt c ≠ 0) : 2 ^ 125 ≤ zfC c := by
  have : 4503599627370496 * 512 * 18446744073709551616 ≤ zfC c := Nat.mul_le_mul_right _ (Nat.mul_le_mul_right _ (zfm_ge h1))
  exact Nat.le_trans (by decide) this
theorem zfP_w (a b : Nat) : zfP a b = zmt a * zmt b * 2 ^ ((53 - zbl (zmt a)) + (53 - zbl (zmt b)) + 20) := by
  unfold zfP zfm
  rw [Nat.pow_add, Nat.pow_add, show (2 : Nat) ^ 20 = 1024 * 1024 from rfl]; ac_rfl
theorem zfC_w (c : Nat) : zfC c = zmt c * 2 ^ ((53 - zbl (zmt c)) + 73) := by
  unfold zfC zfm
  rw [Nat.pow_add, show (2 : Nat) ^ 73 = 512 * 18446744073709551616 from rfl]; ac_rfl
theorem zfP_20 (a b : Nat) : zfP a b = zfm a * zfm b * 2 ^ 20 := by
  unfold zfP; rw [show (2 : Nat) ^ 20 = 1024 * 1024 from rfl]; ac_rfl
theorem zfC_73 (c : Nat) : zfC c = zfm c * 2 ^ 73 := by
  unfold zfC; rw [show (2 : Nat) ^ 73 = 512 * 18446744073709551616 from rfl]; ac_rfl
theorem zjm_sm {N i j k : Nat} (h : N < 2 ^ (i + j)) (hk : j ≤ k) : zjm N k ≤ 2 ^ i := by
  have h1 : N / 2 ^ k < 2 ^ i := by
    refine (Nat.div_lt_iff_lt_mul (Nat.two_pow_pos k)).mpr (Nat.lt_of_lt_of_le h ?_)
    rw [← Nat.pow_add]; exact Nat.pow_le_pow_right (by decide) (by omega)
  have := zjm_le N k
  omega
/-- what `fused` answers -/
def zfOut (s t : Bool) (P C : Nat) (sc : Int) : Nat := if zfR s t P C = 0 then 0 else (zfS s t P C).toNat * 9223372036854775808 + zrb false (zfR s t P C) 1 sc
theorem zfma_1 {a b c k : Nat} (ha : a < 18446744073709551616) (hb : b < 18446744073709551616) (hc : c < 18446744073709551616) (fa : zfE a ≠ 2047) (fb : zfE b ≠ 2047) (fc : zfE c ≠ 2047) (na : zmt a ≠ 0) (nb : zmt b ≠ 0)
    (hk : zfsc a + zfsc b - 20 - (zfsc c - 73) = k) : FP.Core.fma FP.Core.b64 a b c = zfOut (zsg a != zsg b) (zsg c) (zfP a b) (zjm (zfC c) k) (zfsc a + zfsc b - 20) := by
  rw [zfma_bits ha hb hc fa fb fc]
  have hmb := zmt_bl a
  generalize hst : (zsg a != zsg b) = s
  generalize zsg c = t
  generalize he : min (zsc a + zsc b) (zsc c) = e
  have hsc : FP.Core.sumUnits s (zmt a * zmt b) (zsc a + zsc b) t (zmt c) (zsc c) e = FP.Core.signed s (zmt a * zmt b * 2 ^ (zsc a + zsc b - e).toNat) + FP.Core.signed t (zmt c * 2 ^ (zsc c - e).toNat) := rfl
  rw [hsc]
  obtain ⟨f1, f2⟩ := zfma_scale (s := s) (t := t) (X1 := zfP a b * 2 ^ k) (X2 := zfC c) (Y1 := zmt a * zmt b * 2 ^ (zsc a + zsc b - e).toNat) (Y2 := zmt c * 2 ^ (zsc c - e).toNat) (x := (zsc c - e).toNat) (y := (53 - zbl (zmt c)) + 73) (k := k) (e := e) (e' := zfsc a + zfsc b - 20)
    (by
      rw [zfP_w, Nat.mul_assoc, Nat.mul_assoc, Nat.mul_assoc (zmt a * zmt b), ← Nat.pow_add, ← Nat.pow_add, ← Nat.pow_add]
      congr 2
      unfold zfsc at hk
      omega)
    (by rw [zfC_w]; ac_rfl)
    (by unfold zfsc at hk ⊢; omega)
  have hP := zfP_ge na nb
  have hev : zfP a b % 2 = 0 := by rw [zfP_20]; omega
  obtain ⟨j1, j2, j3⟩ := zfma_jam (s := s) (t := t) (E := zfP a b) (C := zfC c) (k := k) hev (fun _ => by have := Nat.two_pow_pos 124; omega)
  unfold zfOut
  by_cases hR : zfR s t (zfP a b) (zjm (zfC c) k) = 0
  · rw [if_pos hR, f2, (j2 hR).1, ← f1, (j2 hR).2]
    unfold zrb
    rw [if_pos rfl]
    rfl
  · rw [if_neg hR, f2, j3 hR, ← f1]
    congr 1
    refine zfma_fin j1 ?_
    by_cases hex : zfC c % 2 ^ k = 0
    · exact Or.inl (zfR_ex hex)
    · refine Or.inr (Or.inl ?_)
      have hk73 : 73 < k := Nat.lt_of_not_le fun h => hex (by rw [zfC_73]; exact zdvd_ex h)
      have hs := zjm_sm (N := zfC c) (i := 52) (j := 74) (zfC_lt c) hk73
      unfold zfR
      have q1 : (2 : Nat) ^ 55 + 2 ^ 52 ≤ 2 ^ 124 := by decide
      split
      · omega
      · split <;> omega
theorem zfma_2 {a b c k : Nat} (ha : a < 18446744073709551616) (hb : b < 18446744073709551616) (hc : c < 18446744073709551616) (fa : zfE a ≠ 2047) (fb : zfE b ≠ 2047) (fc : zfE c ≠ 2047) (na : zmt a ≠ 0) (nb : zmt b ≠ 0)
    (hk : zfsc c - 73 - (zfsc a + zfsc b - 20) = k) : FP.Core.fma FP.Core.b64 a b c = zfOut (zsg a != zsg b) (zsg c) (zjm (zfP a b) k) (zfC c) (zfsc c - 73) := by
  rw [zfma_bits ha hb hc fa fb fc]
  have hmb := zmt_bl c
  generalize hst : (zsg a != zsg b) = s
  generalize zsg c = t
  generalize he : min (zsc a + zsc b) (zsc c) = e
  have hsc : FP.Core.sumUnits s (zmt a * zmt b) (zsc a + zsc b) t (zmt c) (zsc c) e = FP.Core.signed t (zmt c * 2 ^ (zsc c - e).toNat) + FP.Core.signed s (zmt a * zmt b * 2 ^ (zsc a + zsc b - e).toNat) := Int.add_comm _ _
  have hss : ∀ v, FP.Core.sumSign s t v = FP.Core.sumSign t s v := fun v => by unfold FP.Core.sumSign; rw [Bool.and_comm]
  rw [hsc, hss]
  obtain ⟨f1, f2⟩ := zfma_scale (s := t) (t := s) (X1 := zfC c * 2 ^ k) (X2 := zfP a b) (Y1 := zmt c * 2 ^ (zsc c - e).toNat) (Y2 := zmt a * zmt b * 2 ^ (zsc a + zsc b - e).toNat) (x := (zsc a + zsc b - e).toNat) (y := (53 - zbl (zmt a)) + (53 - zbl (zmt b)) + 20) (k := k) (e := e) (e' := zfsc c - 73)
    (by
      rw [zfC_w, Nat.mul_assoc, Nat.mul_assoc, Nat.mul_assoc (zmt c), ← Nat.pow_add, ← Nat.pow_add, ← Nat.pow_add]
      congr 2
      unfold zfsc at hk
      omega)
    (by rw [zfP_w]; ac_rfl)
    (by unfold zfsc at hk ⊢; omega)
  have hP := zfP_ge na nb
  have hev : zfC c % 2 = 0 := by rw [zfC_73]; omega
  have hPk : zfP a b = 0 → False := fun h => by rw [h] at hP; exact absurd hP (by decide)
  obtain ⟨j1, j2, j3⟩ := zfma_jam (s := t) (t := s) (E := zfC c) (C := zfP a b) (k := k) hev (fun _ => by have := Nat.two_pow_pos 124; omega)
  unfold zfOut
  rw [zfR_comm s t]
  by_cases hR : zfR t s (zfC c) (zjm (zfP a b) k) = 0
  · rw [if_pos hR, f2, (j2 hR).1, ← f1, (j2 hR).2]
    unfold zrb
    rw [if_pos rfl]
    rfl
  · rw [if_neg hR, f2, j3 hR, ← f1, zfS_comm (s := s) (by rw [zfR_comm]; exact hR)]
    congr 1
    refine zfma_fin j1 ?_
    by_cases hex : zfP a b % 2 ^ k = 0
    · exact Or.inl (zfR_ex hex)
    · refine Or.inr ?_
      have hk20 : 20 < k := Nat.lt_of_not_le fun h => hex (by rw [zfP_20]; exact zdvd_ex h)
      have hs := zjm_sm (N := zfP a b) (i := 105) (j := 21) (zfP_lt a b) hk20
      by_cases hc0 : zmt c = 0
      · right
        have hC : zfC c = 0 := by unfold zfC; rw [zfm_0.mpr hc0]
        have hscc : zfsc c - 73 = -1200 := by
          have hb0 : zbl (zmt c) = 0 := by rw [hc0]; rfl
          have : zsc c = -1074 := by
            have h1 := zmt_0.mp hc0
            unfold zsc zfE
            rw [if_pos (by omega)]; rfl
          unfold zfsc; rw [hb0, this]; rfl
        refine ⟨?_, ?_, by omega⟩
        · rw [hC, Nat.zero_mul]
          have h2 : (FP.Core.signed t 0 + FP.Core.signed s (zfP a b)).natAbs = zfP a b := by
            cases s <;> cases t <;> simp only [zsigT, zsigF] <;> omega
          rw [h2]
          refine Nat.le_of_lt (Nat.lt_of_lt_of_le (zfP_lt a b) ?_)
          rw [← Nat.pow_add]; exact Nat.pow_le_pow_right (by decide) (by omega)
        · rw [hC]; unfold zfR
          have q1 : (2 : Nat) ^ 105 ≤ 2 ^ 106 := by decide
          split
          · omega
          · split <;> omega
      · left
        have hC := zfC_ge hc0
        unfold zfR
        have q1 : (2 : Nat) ^ 55 + 2 ^ 105 ≤ 2 ^ 125 := by decide
        split
        · omega
        · split <;> omega
end ZFMA2
