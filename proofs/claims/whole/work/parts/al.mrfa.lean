/-! the model's refine: sums that never are a zero with a sign -/
section ZMRA
theorem zrb_pos {A : Nat} {e : Int} (hA : 0 < A) (he : -1074 ≤ e) (up : Bool) : 0 < zrb up A 1 e := by
  have hq := zqu_ge A 1 e
  unfold zrb
  rw [if_neg (by omega)]
  split
  · by_cases h3 : zqu A 1 e = -1074
    · have e1 : FP.Core.unitsNum A e (-1074) = A * 2 ^ (e + 1074).toNat := by unfold FP.Core.unitsNum; rw [show e - -1074 = e + 1074 by omega]
      have e2 : FP.Core.unitsDen 1 e (-1074) = 1 := by unfold FP.Core.unitsDen; rw [show ((-1074 : Int) - e).toNat = 0 by omega]
      have hp : 1 ≤ A * 2 ^ (e + 1074).toNat := Nat.mul_pos hA (Nat.two_pow_pos _)
      have q := zrn_ge (up := up) (x := FP.Core.unitsNum A e (zqu A 1 e)) (y := FP.Core.unitsDen 1 e (zqu A 1 e)) (M := 1) (by rw [h3, e2]; decide) (by rw [h3, e1, e2]; omega)
      omega
    · omega
  · omega
theorem zUz_k {x : UInt64} (h : x.toNat ≠ 9223372036854775808) : zUz x = x := by
  apply UInt64.toNat_inj.mp
  rw [zUz_n]; unfold zuz; rw [if_neg h]
theorem zUz_m {x : UInt64} (h : zUz x = x) : x.toNat ≠ 9223372036854775808 := fun h2 => by
  have e : (zUz x).toNat = x.toNat := by rw [h]
  rw [zUz_n, h2] at e
  exact absurd e (by decide)
theorem zdadd_z {c y : UInt64} (hc : zUf c = true) (hz : zUz c = c) : FP.dadd c (zUz y) = FP.dadd c y := by
  by_cases hy : y.toNat = 9223372036854775808
  · have e1 : y = FP.Core.dzeroNeg := UInt64.toNat_inj.mp hy
    have e2 : zUz y = 0 := UInt64.toNat_inj.mp (by rw [zUz_n, hy]; rfl)
    rw [e2, e1]
    have q1 : FP.dadd c FP.Core.dzeroNeg = c := FP.Core.dadd_zeroNeg (zUo_val (zUo_f hc))
    have q2 : FP.dadd c 0 = c := FP.Core.dadd_zero (zUo_val (zUo_f hc)) fun q => zUz_m hz (by rw [q]; rfl)
    rw [q1, q2]
  · rw [zUz_k hy]
theorem zdadd_k {c y : UInt64} (hc : zUf c = true) (hy : zUf y = true) (hz : zUz c = c) : zUz (FP.dadd c y) = FP.dadd c y := by
  refine zUz_k fun h => ?_
  have fa := hc
  have fb := hy
  rw [zUf_t] at fa fb
  rw [zdadd_n hc hy, zadd_bits (zu_lt c) (zu_lt y) fa fb] at h
  have s1 := zsc_ge c.toNat
  have s2 := zsc_ge y.toNat
  obtain ⟨v, hv⟩ : ∃ v, FP.Core.sumUnits (zsg c.toNat) (zmt c.toNat) (zsc c.toNat) (zsg y.toNat) (zmt y.toNat) (zsc y.toNat) (min (zsc c.toNat) (zsc y.toNat)) = v := ⟨_, rfl⟩
  rw [hv] at h
  have hle := zrb_le false v.natAbs (B := 1) (by decide) (min (zsc c.toNat) (zsc y.toNat))
  by_cases h0 : v = 0
  · have hm := zUz_m hz
    have e1 : FP.Core.sumSign (zsg c.toNat) (zsg y.toNat) v = false := by
      rw [h0]
      unfold FP.Core.sumSign
      rw [if_pos rfl]
      cases hs : zsg c.toNat with
      | false => rfl
      | true =>
        cases ht : zsg y.toNat with
        | false => rfl
        | true =>
          rw [hs, ht] at hv
          unfold FP.Core.sumUnits FP.Core.inUnits at hv
          rw [zsigT, zsigT] at hv
          have p1 := Nat.two_pow_pos (zsc c.toNat - min (zsc c.toNat) (zsc y.toNat)).toNat
          have m0 : zmt c.toNat = 0 := by
            refine Nat.eq_zero_of_not_pos fun q => ?_
            have q2 := Nat.mul_pos q p1
            omega
          rw [zmt_0] at m0
          have : zsg c.toNat = decide (9223372036854775808 ≤ c.toNat) := rfl
          rw [hs] at this
          have h2 := of_decide_eq_true this.symm
          have := zu_lt c
          omega
    rw [e1] at h
    have h : 0 * 9223372036854775808 + _ = _ := h
    omega
  · have hp := zrb_pos (A := v.natAbs) (e := min (zsc c.toNat) (zsc y.toNat)) (by omega) (by omega) false
    cases hb : FP.Core.sumSign (zsg c.toNat) (zsg y.toNat) v with
    | false => rw [hb] at h; have h : 0 * 9223372036854775808 + _ = _ := h; omega
    | true => rw [hb] at h; have h : 1 * 9223372036854775808 + _ = _ := h; omega
end ZMRA
