/-! the model's doubles beside the class's: sums with a product, differences -/
section ZMAR
theorem zdec_inf {x : UInt64} (o : zUo x) (h : zUf x = false) : ∃ s, FP.Core.decode FP.Core.b64 x.toNat = .inf s := by
  have hl := zu_lt x
  unfold zUo at o
  have hf : ¬ x.toNat % 9223372036854775808 < 9218868437227405312 := fun q => by rw [(zUf_m x).mpr q] at h; cases h
  have e1 : FP.Core.fieldE FP.Core.b64 x.toNat = x.toNat / 4503599627370496 % 2048 := rfl
  have e2 : FP.Core.fieldT FP.Core.b64 x.toNat = x.toNat % 4503599627370496 := rfl
  refine ⟨FP.Core.fieldS FP.Core.b64 x.toNat, ?_⟩
  unfold FP.Core.decode
  rw [e1, e2, b64_exps, if_pos (by omega), if_pos (by omega)]
theorem zenc_inf (s : Bool) : FP.Core.encode FP.Core.b64 (.inf s) = s.toNat * 9223372036854775808 + 9218868437227405312 := by cases s <;> decide
theorem zinf_o {x : UInt64} {s : Bool} (h : x.toNat = s.toNat * 9223372036854775808 + 9218868437227405312) : zUo x ∧ zUf x = false := by
  refine ⟨zUo_b h (Nat.le_refl _), ?_⟩
  cases hf : zUf x with
  | false => rfl
  | true =>
    rw [zUf_m] at hf
    cases s
    · rw [h, show false.toNat = 0 from rfl] at hf; omega
    · rw [h, show true.toNat = 1 from rfl] at hf; omega
theorem zdadd_inf {a b : UInt64} (ha : zUf a = true) (ob : zUo b) (hb : zUf b = false) : zUo (FP.dadd a b) ∧ zUf (FP.dadd a b) = false := by
  obtain ⟨s, hs⟩ := zdec_inf ob hb
  refine zinf_o (s := s) ?_
  show (UInt64.ofNat (FP.Core.add FP.Core.b64 a.toNat b.toNat)).toNat = _
  unfold FP.Core.add
  rw [zdec (zu_lt a) (zUf_zE ha), hs]
  show (UInt64.ofNat (FP.Core.encode FP.Core.b64 (.inf s))).toNat = _
  rw [zenc_inf, zu_of (zout_lt s (Nat.le_refl _))]
theorem zdsub_inf {a b : UInt64} (ha : zUf a = true) (ob : zUo b) (hb : zUf b = false) : zUo (FP.dsub a b) ∧ zUf (FP.dsub a b) = false := by
  obtain ⟨s, hs⟩ := zdec_inf ob hb
  refine zinf_o (s := !s) ?_
  show (UInt64.ofNat (FP.Core.sub FP.Core.b64 a.toNat b.toNat)).toNat = _
  unfold FP.Core.sub
  rw [zdec (zu_lt a) (zUf_zE ha), hs]
  show (UInt64.ofNat (FP.Core.encode FP.Core.b64 (.inf (!s)))).toNat = _
  rw [zenc_inf, zu_of (zout_lt (!s) (Nat.le_refl _))]
theorem zUng_f {x : UInt64} : zUf (zUng x) = zUf x := by
  have h := zng_mag (zu_lt x)
  have e : (zUf (zUng x) = true) ↔ (zUf x = true) := by rw [zUf_m, zUf_m, zUng_n, h]
  cases h1 : zUf (zUng x) <;> cases h2 : zUf x
  · rfl
  · rw [h1, h2] at e; exact absurd (e.mpr rfl) (by decide)
  · rw [h1, h2] at e; exact absurd (e.mp rfl) (by decide)
  · rfl
theorem zUng_ng (x : UInt64) : zUng (zUng x) = x := by
  apply UInt64.toNat_inj.mp
  rw [zUng_n, zUng_n, zng_ng (zu_lt x)]
theorem zdsub_e {a b : UInt64} (ha : zUf a = true) (hb : zUf b = true) : FP.dsub a b = FP.dadd a (zUng b) := by
  show UInt64.ofNat (FP.Core.sub FP.Core.b64 a.toNat b.toNat) = UInt64.ofNat (FP.Core.add FP.Core.b64 a.toNat (zUng b).toNat)
  unfold FP.Core.sub FP.Core.add
  have hb2 : zUf (zUng b) = true := by rw [zUng_f]; exact hb
  rw [zdec (zu_lt a) (zUf_zE ha), zdec (zu_lt b) (zUf_zE hb), zdec (zu_lt (zUng b)) (zUf_zE hb2), zUng_n, zng_sg (zu_lt b), zng_mt (zu_lt b)]
  have : zsc (zng b.toNat) = zsc b.toNat := by unfold zsc; rw [zng_E (zu_lt b)]
  rw [this]; rfl
/-- t less a * b, as the model does it -/
def zlsM (fu : Bool) (t a b : UInt64) : UInt64 := if fu = true then FP.dfma (zUng a) b t else FP.dsub t (FP.dmul a b)
theorem zUls_t {t a b : UInt64} : zUls true t a b = FP.dfma (zUng a) b t := by
  show UInt64.ofNat (zlss true t.toNat a.toNat b.toNat) = UInt64.ofNat (FP.Core.fma FP.Core.b64 (zUng a).toNat b.toNat t.toNat)
  rw [zUng_n]; rfl
theorem zUls_f {t a b : UInt64} (ha : zUf a = true) (hb : zUf b = true) : zUls false t a b = if zUf (FP.dmul a b) = true then FP.dadd t (zUng (FP.dmul a b)) else FP.dmul a b := by
  show UInt64.ofNat (zlss false t.toNat a.toNat b.toNat) = _
  have hm := zdmul_n ha hb
  unfold zlss
  rw [← hm, if_neg (by decide)]
  by_cases h : zUf (FP.dmul a b) = true
  · rw [if_pos h, if_neg (zUf_zE h), ← zUng_n]; rfl
  · rw [if_neg h, if_pos (by
      rw [zUf_t] at h; exact Classical.not_not.mp h)]
    exact UInt64.ofNat_toNat
theorem zls_m {fu : Bool} {t a b : UInt64} (ht : zUf t = true) (ha : zUf a = true) (hb : zUf b = true) : zUo (zlsM fu t a b) ∧ zUf (zlsM fu t a b) = zUf (zUls fu t a b) ∧ (zUf (zlsM fu t a b) = true → zlsM fu t a b = zUls fu t a b) := by
  unfold zlsM
  cases fu
  · rw [if_neg (by decide), zUls_f ha hb]
    by_cases h : zUf (FP.dmul a b) = true
    · rw [if_pos h, zdsub_e ht h]
      exact ⟨zdadd_o ht (by rw [zUng_f]; exact h), rfl, fun _ => rfl⟩
    · have h' : zUf (FP.dmul a b) = false := by cases q : zUf (FP.dmul a b) with | true => exact absurd q h | false => rfl
      obtain ⟨q1, q2⟩ := zdsub_inf ht (zdmul_o ha hb) h'
      rw [if_neg h]
      exact ⟨q1, q2.trans h'.symm, fun q => by rw [q2] at q; cases q⟩
  · rw [if_pos rfl, zUls_t]
    exact ⟨zdfma_o (by rw [zUng_f]; exact ha) hb ht, rfl, fun _ => rfl⟩
/-- s and a * b, as the model does it -/
def zplM (fu : Bool) (s a b : UInt64) : UInt64 := if fu = true then FP.dfma a b s else FP.dadd s (FP.dmul a b)
theorem zdmul_ng {a b : UInt64} (ha : zUf a = true) (hb : zUf b = true) : FP.dmul (zUng a) b = zUng (FP.dmul a b) := by
  have ha2 : zUf (zUng a) = true := by rw [zUng_f]; exact ha
  apply UInt64.toNat_inj.mp
  rw [zUng_n, zdmul_n ha2 hb, zdmul_n ha hb, zmul_bits (zu_lt _) (zu_lt b) (zUf_zE ha2) (zUf_zE hb), zmul_bits (zu_lt a) (zu_lt b) (zUf_zE ha) (zUf_zE hb), zUng_n, zng_sg (zu_lt a), zng_mt (zu_lt a)]
  have : zsc (zng a.toNat) = zsc a.toNat := by unfold zsc; rw [zng_E (zu_lt a)]
  rw [this]
  have lt := zrb_le false (zmt a.toNat * zmt b.toNat) (B := 1) (by decide) (zsc a.toNat + zsc b.toNat)
  generalize zrb false (zmt a.toNat * zmt b.toNat) 1 (zsc a.toNat + zsc b.toNat) = z at *
  unfold zng
  cases zsg a.toNat <;> cases zsg b.toNat
  · show 1 * _ + z = if 0 * _ + z < _ then 0 * _ + z + _ else 0 * _ + z - _
    rw [if_pos (by omega)]; omega
  · show 0 * _ + z = if 1 * _ + z < _ then 1 * _ + z + _ else 1 * _ + z - _
    rw [if_neg (by omega)]; omega
  · show 0 * _ + z = if 1 * _ + z < _ then 1 * _ + z + _ else 1 * _ + z - _
    rw [if_neg (by omega)]; omega
  · show 1 * _ + z = if 0 * _ + z < _ then 0 * _ + z + _ else 0 * _ + z - _
    rw [if_pos (by omega)]; omega
theorem zpl_m {fu : Bool} {s a b : UInt64} (hs : zUf s = true) (ha : zUf a = true) (hb : zUf b = true) : zUo (zplM fu s a b) ∧ zUf (zplM fu s a b) = zUf (zUls fu s (zUng a) b) ∧ (zUf (zplM fu s a b) = true → zplM fu s a b = zUls fu s (zUng a) b) := by
  have ha2 : zUf (zUng a) = true := by rw [zUng_f]; exact ha
  unfold zplM
  cases fu
  · rw [if_neg (by decide), zUls_f ha2 hb, zdmul_ng ha hb, zUng_f, zUng_ng]
    by_cases h : zUf (FP.dmul a b) = true
    · rw [if_pos h]
      exact ⟨zdadd_o hs h, rfl, fun _ => rfl⟩
    · have h' : zUf (FP.dmul a b) = false := by cases q : zUf (FP.dmul a b) with | true => exact absurd q h | false => rfl
      obtain ⟨q1, q2⟩ := zdadd_inf hs (zdmul_o ha hb) h'
      rw [if_neg h, zUng_f]
      exact ⟨q1, q2.trans h'.symm, fun q => by rw [q2] at q; cases q⟩
  · rw [if_pos rfl, zUls_t, zUng_ng]
    exact ⟨zdfma_o ha hb hs, rfl, fun _ => rfl⟩
end ZMAR
