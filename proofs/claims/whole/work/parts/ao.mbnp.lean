/-! the model's bound: sums that only grow -/
section ZMBP
theorem zUi {x : UInt64} (o : zUo x) (h : x.toNat < 9223372036854775808) (hf : zUf x = false) : x.toNat = 9218868437227405312 := by
  unfold zUo at o
  have hn : ¬ x.toNat % 9223372036854775808 < 9218868437227405312 := fun q => by rw [(zUf_m x).mpr q] at hf; cases hf
  omega
theorem zky_p {x : UInt64} (h : x.toNat < 9223372036854775808) : zky x = (x.toNat : Int) := by
  have q := zky_nat h
  rw [show UInt64.ofNat x.toNat = x from UInt64.toNat_inj.mp (zu_of (by omega))] at q
  exact q
theorem zUnx_o {x : UInt64} (o : zUo x) (h : x.toNat < 9223372036854775808) : zUo (zUnx x) := by
  unfold zUnx
  split
  · rename_i h2
    rw [zUf_m] at h2
    unfold zUo
    rw [zu_of (by omega)]; omega
  · exact o
theorem zUnx_i {x : UInt64} (hf : zUf x = false) : zUnx x = x := by unfold zUnx; rw [hf]; rfl
theorem zdadd_i {t y : UInt64} (ht : t.toNat = 9218868437227405312) (hy : zUf y = true) : FP.dadd t y = t := by
  apply UInt64.toNat_inj.mp
  show (UInt64.ofNat (FP.Core.add FP.Core.b64 t.toNat y.toNat)).toNat = _
  unfold FP.Core.add
  rw [zdec (zu_lt y) (zUf_zE hy), ht, show FP.Core.decode FP.Core.b64 9218868437227405312 = .inf false by decide]
  show (UInt64.ofNat (FP.Core.encode FP.Core.b64 (.inf false))).toNat = _
  rw [zenc_inf, zu_of (by decide)]
  rfl
def zsuR (R z : Option UInt64) (t : UInt64) : Prop := (zUo t ∧ t.toNat < 9223372036854775808) ∧ ((zUf t = true ∧ z = R) ∨ (zUf t = false ∧ R = none))
theorem zsuR_t {gi : Nat → UInt64} {j c : Nat} {R : Option UInt64} {t : UInt64} (h : zsuR R (zeu (zsbf gi) j c t) t) (hj : j < c) (hg : zUf (gi j) = true) : (zUo (FP.dadd t (zUab (gi j))) ∧ (FP.dadd t (zUab (gi j))).toNat < 9223372036854775808) ∧ zsuR R (zeu (zsbf gi) (j + 1) c (zUnx (FP.dadd t (zUab (gi j))))) (zUnx (FP.dadd t (zUab (gi j)))) := by
  obtain ⟨⟨o, l⟩, h⟩ := h
  have fg := zUab_f hg
  rcases h with ⟨hf, he⟩ | ⟨hf, he⟩
  · have a1 := zdadd_o hf fg
    have a2 := zdadd_pos hf fg l (zUab_lt _)
    refine ⟨⟨a1, a2⟩, ⟨zUnx_o a1 a2, zUnx_lt a2⟩, ?_⟩
    cases hb : zUf (zUnx (FP.dadd t (zUab (gi j)))) with
    | true => exact Or.inl ⟨rfl, by rw [← he]; exact (zeu_s (f := zsbf gi) hj (if_pos hb)).symm⟩
    | false => exact Or.inr ⟨rfl, by rw [← he]; exact zeu_n (f := zsbf gi) hj (if_neg (by rw [hb]; decide))⟩
  · have e := zdadd_i (zUi o l hf) fg
    rw [e, zUnx_i hf]
    exact ⟨⟨o, l⟩, ⟨o, l⟩, Or.inr ⟨hf, he⟩⟩
theorem zsuR_m {c r i : Nat} {g : Nat → Nat → UInt64} {R : Option UInt64} {m t : UInt64} (h : zsuR R (zeu (zsbF c g) i r m) m) (hi : i < r) (ht : zsuR (zeu (zsbf (g i)) 0 c 0) (some t) t) : zsuR R (zeu (zsbF c g) (i + 1) r (if (t.toNat : Int) ≤ m.toNat then m else t)) (if (t.toNat : Int) ≤ m.toNat then m else t) := by
  obtain ⟨⟨o, l⟩, h⟩ := h
  obtain ⟨⟨o', l'⟩, ht⟩ := ht
  have ed : (if (t.toNat : Int) ≤ m.toNat then m else t) = zmxU m t := by
    unfold zmxU
    by_cases h1 : t.toNat < m.toNat
    · rw [if_pos (by omega), if_pos h1]
    · rw [if_neg h1]
      by_cases h2 : t.toNat = m.toNat
      · rw [if_pos (by omega)]; exact (UInt64.toNat_inj.mp h2).symm
      · rw [if_neg (by omega)]
  rw [ed]
  rcases h with ⟨hf, he⟩ | ⟨hf, he⟩
  · rcases ht with ⟨tf, te⟩ | ⟨tf, te⟩
    · refine ⟨?_, Or.inl ⟨?_, ?_⟩⟩
      · unfold zmxU; split
        · exact ⟨o, l⟩
        · exact ⟨o', l'⟩
      · unfold zmxU; split <;> assumption
      · rw [← he]; exact (zeu_s (f := zsbF c g) hi (by unfold zsbF; rw [← te])).symm
    · have et : zmxU m t = t := by
        unfold zmxU
        have h1 := zUi o' l' tf
        rw [zUf_m] at hf
        rw [if_neg (by omega)]
      rw [et]
      exact ⟨⟨o', l'⟩, Or.inr ⟨tf, by rw [← he]; exact zeu_n (f := zsbF c g) hi (by unfold zsbF; rw [te])⟩⟩
  · have hm := zUi o l hf
    have et : zmxU m t = m := by
      unfold zmxU
      by_cases h1 : t.toNat < m.toNat
      · rw [if_pos h1]
      · rw [if_neg h1]
        apply UInt64.toNat_inj.mp
        unfold zUo at o'
        omega
    rw [et]
    exact ⟨⟨o, l⟩, Or.inr ⟨hf, he⟩⟩
theorem zdmul_pos {a b : UInt64} (ha : zUf a = true) (hb : zUf b = true) (sa : a.toNat < 9223372036854775808) (sb : b.toNat < 9223372036854775808) : (FP.dmul a b).toNat < 9223372036854775808 := by
  have fa := ha
  have fb := hb
  rw [zUf_t] at fa fb
  rw [zdmul_n ha hb, zmul_bits (zu_lt a) (zu_lt b) fa fb]
  have e1 : zsg a.toNat = false := decide_eq_false (by omega)
  have e2 : zsg b.toNat = false := decide_eq_false (by omega)
  rw [e1, e2]
  have hle := zrb_le false (zmt a.toNat * zmt b.toNat) (B := 1) (by decide) (zsc a.toNat + zsc b.toNat)
  show 0 * 9223372036854775808 + _ < _
  omega
theorem zddiv_pos {a b : UInt64} (ha : zUf a = true) (hb : zUf b = true) (hn : zUn b = true) (sa : a.toNat < 9223372036854775808) (sb : b.toNat < 9223372036854775808) : (FP.ddiv a b).toNat < 9223372036854775808 := by
  have fa := ha
  have fb := hb
  rw [zUf_t] at fa fb
  have n0 : zmt b.toNat ≠ 0 := (by rw [zUn_t] at hn; exact hn)
  rw [zddiv_n ha hb hn, zdiv_bits (zu_lt a) (zu_lt b) fa fb n0]
  have e1 : zsg a.toNat = false := decide_eq_false (by omega)
  have e2 : zsg b.toNat = false := decide_eq_false (by omega)
  rw [e1, e2]
  have hle := zrb_le false (zmt a.toNat) (B := zmt b.toNat) (by omega) (zsc a.toNat - zsc b.toNat)
  show 0 * 9223372036854775808 + _ < _
  omega
end ZMBP
