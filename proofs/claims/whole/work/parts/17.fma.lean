/-! a * b + c rounded once, by two numbers of 127 bits of which one is jammed -/
section ZFMA
theorem zfma_bits {a b c : Nat} (ha : a < 18446744073709551616) (hb : b < 18446744073709551616) (hc : c < 18446744073709551616) (fa : zfE a ≠ 2047) (fb : zfE b ≠ 2047) (fc : zfE c ≠ 2047) :
    FP.Core.fma FP.Core.b64 a b c = (FP.Core.sumSign (zsg a != zsg b) (zsg c) (FP.Core.sumUnits (zsg a != zsg b) (zmt a * zmt b) (zsc a + zsc b) (zsg c) (zmt c) (zsc c) (min (zsc a + zsc b) (zsc c)))).toNat * 9223372036854775808 + zrb false (FP.Core.sumUnits (zsg a != zsg b) (zmt a * zmt b) (zsc a + zsc b) (zsg c) (zmt c) (zsc c) (min (zsc a + zsc b) (zsc c))).natAbs 1 (min (zsc a + zsc b) (zsc c)) := by
  unfold FP.Core.fma
  rw [zdec ha fa, zdec hb fb, zdec hc fc]
  exact zround_fin _ _ _
theorem zsig_mul (s : Bool) (x k : Nat) : FP.Core.signed s (x * k) = FP.Core.signed s x * (k : Int) := FP.Core.signed_mul s x k
theorem zfma_scale {s t : Bool} {X1 X2 Y1 Y2 x y k : Nat} {e e' : Int} (h1 : X1 * 2 ^ x = Y1 * 2 ^ y) (h2 : X2 * 2 ^ x = Y2 * 2 ^ y) (he : e' + y - (k + x : Nat) = e) :
    zrb false (FP.Core.signed s X1 + FP.Core.signed t X2).natAbs (2 ^ k) e' = zrb false (FP.Core.signed s Y1 + FP.Core.signed t Y2).natAbs 1 e ∧ FP.Core.sumSign s t (FP.Core.signed s Y1 + FP.Core.signed t Y2) = FP.Core.sumSign s t (FP.Core.signed s X1 + FP.Core.signed t X2) := by
  have hv : (FP.Core.signed s X1 + FP.Core.signed t X2) * (2 ^ x : Nat) = (FP.Core.signed s Y1 + FP.Core.signed t Y2) * (2 ^ y : Nat) := by
    rw [Int.add_mul, Int.add_mul, ← zsig_mul, ← zsig_mul, ← zsig_mul, ← zsig_mul, h1, h2]
  generalize FP.Core.signed s X1 + FP.Core.signed t X2 = v at hv ⊢
  generalize FP.Core.signed s Y1 + FP.Core.signed t Y2 = w at hv ⊢
  have px := Nat.two_pow_pos x
  have py := Nat.two_pow_pos y
  have ha : v.natAbs * 2 ^ x = w.natAbs * 2 ^ y := by
    have := congrArg Int.natAbs hv
    rw [Int.natAbs_mul, Int.natAbs_mul, Int.natAbs_natCast, Int.natAbs_natCast] at this
    exact this
  constructor
  · have f1 := zrb_mv (up := false) (A := v.natAbs) (B := 2 ^ k) (i := x) (k := x) (e := e') (e' := e') (Nat.two_pow_pos k) (by omega)
    have f2 := zrb_mv (up := false) (A := w.natAbs) (B := 1) (i := y) (k := k + x) (e := e) (e' := e') (by decide) he
    rw [← f1, ← f2, ha, Nat.one_mul, Nat.pow_add]
  · have h0 : v = 0 ↔ w = 0 := by
      constructor
      · rintro rfl
        rw [Int.zero_mul] at hv
        rcases Int.mul_eq_zero.mp hv.symm with h | h <;> omega
      · rintro rfl
        rw [Int.zero_mul] at hv
        rcases Int.mul_eq_zero.mp hv with h | h <;> omega
    have hn : v < 0 ↔ w < 0 := by
      have qx : (0 : Int) < (2 ^ x : Nat) := by omega
      have qy : (0 : Int) < (2 ^ y : Nat) := by omega
      constructor
      · intro h
        refine Int.lt_of_not_ge fun h' => ?_
        have a1 := Int.mul_neg_of_neg_of_pos h qx
        have a2 := Int.mul_nonneg h' (Int.le_of_lt qy)
        omega
      · intro h
        refine Int.lt_of_not_ge fun h' => ?_
        have a1 := Int.mul_neg_of_neg_of_pos h qy
        have a2 := Int.mul_nonneg h' (Int.le_of_lt qx)
        omega
    unfold FP.Core.sumSign
    by_cases hz : v = 0
    · rw [if_pos hz, if_pos (h0.mp hz)]
    · rw [if_neg hz, if_neg (fun h => hz (h0.mpr h))]
      exact decide_eq_decide.mpr hn.symm
/-- the sum or difference, and its sign -/
def zfR (s t : Bool) (P C : Nat) : Nat := if s = t then P + C else if C ≤ P then P - C else C - P
def zfS (s t : Bool) (P C : Nat) : Bool := if s = t then s else if C ≤ P then s else t
theorem zrb_ex {A k R : Nat} {e : Int} (h : A = R * 2 ^ k) : zrb false A (2 ^ k) e = zrb false R 1 e := by
  have := zrb_mv (up := false) (A := R) (B := 1) (i := k) (k := k) (e := e) (e' := e) (by decide) (by omega)
  rw [Nat.one_mul] at this
  rw [h]; exact this
/-- E beside C shifted down by k, E even: signs and sizes -/
theorem zfma_jam {s t : Bool} {E C k : Nat} (hE : E % 2 = 0) (hpos : s = t → 0 < E + C) :
    zjam (FP.Core.signed s (E * 2 ^ k) + FP.Core.signed t C).natAbs (2 ^ k) (zfR s t E (zjm C k)) ∧ (zfR s t E (zjm C k) = 0 → FP.Core.sumSign s t (FP.Core.signed s (E * 2 ^ k) + FP.Core.signed t C) = false ∧ (FP.Core.signed s (E * 2 ^ k) + FP.Core.signed t C).natAbs = 0) ∧ (zfR s t E (zjm C k) ≠ 0 → FP.Core.sumSign s t (FP.Core.signed s (E * 2 ^ k) + FP.Core.signed t C) = zfS s t E (zjm C k)) := by
  have hp := Nat.two_pow_pos k
  have hEk : E ≤ E * 2 ^ k := Nat.le_mul_of_pos_right _ hp
  have jam0 : ∀ {A R : Nat}, zjam A (2 ^ k) R → R = 0 → A = 0 := by
    intro A R h h0
    rcases h with h | ⟨h, _⟩
    · rw [h, h0, Nat.zero_mul]
    · omega
  have jam1 : ∀ {A R : Nat}, zjam A (2 ^ k) R → R ≠ 0 → A ≠ 0 := by
    intro A R h h0 hA
    rcases h with h | ⟨_, _, h, _⟩
    · rw [hA] at h
      rcases Nat.mul_eq_zero.mp h.symm with h | h <;> omega
    · omega
  by_cases hst : s = t
  · subst hst
    unfold zfR zfS
    rw [if_pos rfl, if_pos rfl, zsig_add]
    have hj := zjam_add (E := E) (C := C) (d := k) hE
    have hpos := hpos rfl
    refine ⟨hj, fun h0 => ?_, fun h0 => ?_⟩
    · have := jam0 hj h0; omega
    · have := jam1 hj h0
      rw [zsumSign_ne (by intro h; have := congrArg Int.natAbs h; rw [zsig_add] at this; simp at this; omega)]
      exact zsig_add_s _ (by omega)
  · unfold zfR zfS
    rw [if_neg hst, if_neg hst]
    have hss : (s && t) = false := by revert hst; cases s <;> cases t <;> simp
    by_cases hle : zjm C k ≤ E
    · rw [if_pos hle, if_pos hle]
      obtain ⟨hC, hj⟩ := zjam_sub (d := k) hE hle
      have hna := zsig_sub hst hC
      rw [hna]
      refine ⟨hj, fun h0 => ?_, fun h0 => ?_⟩
      · have h1 := jam0 hj h0
        have hv : FP.Core.signed s (E * 2 ^ k) + FP.Core.signed t C = 0 := by omega
        refine ⟨?_, h1⟩
        rw [hv]; unfold FP.Core.sumSign; rw [if_pos rfl]; exact hss
      · have h1 := jam1 hj h0
        have hv : FP.Core.signed s (E * 2 ^ k) + FP.Core.signed t C ≠ 0 := by intro h; rw [h] at hna; simp at hna; omega
        rw [zsumSign_ne hv]; exact zsig_sub_s hst hC hv
    · rw [if_neg hle, if_neg hle]
      obtain ⟨hC, hj⟩ := zjam_bus (d := k) hE (Nat.lt_of_not_le hle)
      have hts : ¬ t = s := fun h => hst h.symm
      have hna := zsig_sub hts hC
      rw [Int.add_comm] at hna
      rw [hna]
      refine ⟨hj, fun h0 => by omega, fun h0 => ?_⟩
      have h1 := jam1 hj h0
      have hv : FP.Core.signed t C + FP.Core.signed s (E * 2 ^ k) ≠ 0 := by intro h; rw [Int.add_comm] at h; rw [h] at hna; simp at hna; omega
      rw [Int.add_comm, zsumSign_ne hv]; exact zsig_sub_s hts hC hv
end ZFMA
