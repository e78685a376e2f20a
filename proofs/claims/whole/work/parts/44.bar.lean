/-! elimination without fractions: the table column by column, and that every division goes up -/
section ZBAR
/-- rows r and i exchanged -/
theorem zbar_swap {m r i : Nat} {ε : Int} {W A : Nat → Nat → Int} (hr : r < m) (hi : i < m) (hri : r ≠ i) :
    (-ε) * zdet m (zco (zco W r (W i)) i (W r)) = ε * zdet m W ∧ ∀ t j, t < m → zTof m (-ε) (zco (zco W r (W i)) i (W r)) A t j = if t = r then zTof m ε W A i j else if t = i then zTof m ε W A r j else zTof m ε W A t j := by
  have e0 : zco (zco W r (W r)) i (W i) = W := by rw [zco_id, zco_id]
  constructor
  · rw [zdet_ex hr hi hri W (W i) (W r), e0]; grind
  · intro t j ht
    unfold zTof
    by_cases h1 : t = r
    · subst h1
      rw [if_pos rfl, zco_com hri, zco_set, ← zco_com hri, zdet_ex ht hi hri W (A j) (W t), zco_id]; grind
    · by_cases h2 : t = i
      · subst h2
        rw [if_neg h1, if_pos rfl, zco_set, zdet_ex hr ht hri W (W t) (A j), zco_com hri, zco_id]; grind
      · rw [if_neg h1, if_neg h2]
        have : zco (zco (zco W r (W i)) i (W r)) t (A j) = zco (zco (zco W t (A j)) r (W i)) i (W r) := by
          rw [zco_com (fun e => h2 e.symm), zco_com (fun e => h1 e.symm)]
        rw [this]
        have q := zdet_ex hr hi hri (zco W t (A j)) (W i) (W r)
        have e1 : zco (zco (zco W t (A j)) r (W r)) i (W i) = zco W t (A j) := by
          have : zco (zco W t (A j)) r (W r) = zco W t (A j) := by rw [zco_com h1, zco_id]
          rw [this, zco_com h2, zco_id]
        rw [q, e1]; grind
/-- the first place from i on, of n, at which f holds; else i + n -/
def zfp (f : Nat → Bool) : Nat → Nat → Nat
  | 0, i => i
  | n + 1, i => if f i = true then i else zfp f n (i + 1)
theorem zfp_s {f : Nat → Bool} : ∀ {n i : Nat}, i ≤ zfp f n i ∧ zfp f n i ≤ i + n ∧ (∀ k, i ≤ k → k < zfp f n i → f k = false) ∧ (zfp f n i < i + n → f (zfp f n i) = true)
  | 0, i => ⟨Nat.le_refl _, Nat.le_refl _, fun k h1 h2 => absurd h2 (by show ¬ k < i; omega), fun h => absurd h (by show ¬ i < i + 0; omega)⟩
  | n + 1, i => by
    unfold zfp
    by_cases h : f i = true
    · rw [if_pos h]; exact ⟨Nat.le_refl _, by omega, fun k h1 h2 => by omega, fun _ => h⟩
    · rw [if_neg h]
      obtain ⟨q1, q2, q3, q4⟩ := zfp_s (f := f) (n := n) (i := i + 1)
      refine ⟨by omega, by omega, fun k h1 h2 => ?_, fun h1 => q4 (by omega)⟩
      by_cases h3 : k = i
      · rw [h3]; exact Bool.not_eq_true _ ▸ h
      · exact q3 k (by omega) h2
theorem zfp_eq {f : Nat → Bool} {n i p : Nat} (h1 : i ≤ p) (h2 : p ≤ i + n) (h3 : ∀ k, i ≤ k → k < p → f k = false) (h4 : p < i + n → f p = true) : zfp f n i = p := by
  obtain ⟨q1, q2, q3, q4⟩ := zfp_s (f := f) (n := n) (i := i)
  rcases Nat.lt_trichotomy (zfp f n i) p with h | h | h
  · have := h3 _ q1 h; rw [q4 (by omega)] at this; exact absurd this (by decide)
  · exact h
  · have := q3 _ h1 h; rw [h4 (by omega)] at this; exact absurd this (by decide)
def zbsw (U : Nat → Nat → Int) (r p : Nat) : Nat → Nat → Int := fun i j => if i = r then U p j else if i = p then U r j else U i j
/-- the row with the pivot of column c; m if there is none -/
def zbp (m c : Nat) (U : Nat → Nat → Int) (r : Nat) : Nat := zfp (fun i => decide (U i c ≠ 0)) (m - r) r
/-- numbers, rank, the pivot before, whether turned -/
abbrev zBz : Type := (Nat → Nat → Int) × Nat × Int × Bool
def zbel (V : Nat → Nat → Int) (r c : Nat) (d : Int) : Nat → Nat → Int := fun i j => if i = r then V r j else (V r c * V i j - V i c * V r j) / d
def zbst (m c : Nat) (s : zBz) : zBz :=
  if zbp m c s.1 s.2.1 < m then (zbel (zbsw s.1 s.2.1 (zbp m c s.1 s.2.1)) s.2.1 c s.2.2.1, s.2.1 + 1, zbsw s.1 s.2.1 (zbp m c s.1 s.2.1) s.2.1 c, s.2.2.2 ^^ decide (zbp m c s.1 s.2.1 ≠ s.2.1)) else s
def zbz (m : Nat) (A : Nat → Nat → Int) : Nat → zBz
  | 0 => (fun i j => A j i, 0, 1, false)
  | c + 1 => zbst m c (zbz m A c)
def zbsg (b : Bool) : Int := if b then -1 else 1
/-- what holds of a table -/
def zbok (m : Nat) (B : Nat) (A W : Nat → Nat → Int) (s : zBz) : Prop :=
  s.2.1 ≤ m ∧ s.2.2.1 ≠ 0 ∧ s.2.2.1 = zbsg s.2.2.2 * zdet m W ∧ (∀ i j, i < m → s.1 i j = zTof m (zbsg s.2.2.2) W A i j) ∧ (∀ j i, i < m → s.2.2.1 * A j i = zsmI m fun t => zTof m (zbsg s.2.2.2) W A t j * W t i) ∧ ∀ t i, t < m → i < m → (W t i).natAbs ≤ B
theorem zsmI_sw {f g : Nat → Int} {m r i : Nat} (hr : r < m) (hi : i < m) (hri : r ≠ i) (h1 : f r = g i) (h2 : f i = g r) (h3 : ∀ k, k < m → k ≠ r → k ≠ i → f k = g k) : zsmI m f = zsmI m g := by
  have e := zsmI_lin 1 (-1) f g m
  have e2 : (zsmI m fun k => 1 * f k + -1 * g k) = 0 := by
    rcases Nat.lt_or_gt_of_ne hri with h | h
    · rw [zsmI_two (t := r) (s := i) h (fun k hk a b => by rw [h3 k hk a b]; omega), if_pos hr, if_pos hi, h1, h2]; omega
    · rw [zsmI_two (t := i) (s := r) h (fun k hk a b => by rw [h3 k hk b a]; omega), if_pos hi, if_pos hr, h1, h2]; omega
  omega
theorem zbok_swap {m B r i : Nat} {A W U : Nat → Nat → Int} {k : Nat} {d : Int} {sw : Bool} (hr : r < m) (hi : i < m) (hri : r ≠ i) (h : zbok m B A W (U, k, d, sw)) : zbok m B A (zco (zco W r (W i)) i (W r)) (zbsw U r i, k, d, !sw) := by
  obtain ⟨h1, h2, h3, h4, h5, h6⟩ := h
  dsimp only at h1 h2 h3 h4 h5 h6
  have es : zbsg (!sw) = - zbsg sw := by cases sw <;> rfl
  obtain ⟨q1, q2⟩ := zbar_swap (ε := zbsg sw) (W := W) (A := A) hr hi hri
  refine ⟨h1, h2, ?_, ?_, ?_, ?_⟩
  · show d = zbsg (!sw) * _
    rw [es, q1]; exact h3
  · intro t j ht
    show zbsw U r i t j = zTof m (zbsg (!sw)) _ A t j
    rw [es, q2 t j ht]
    unfold zbsw
    split
    · exact h4 i j hi
    · split
      · exact h4 r j hr
      · exact h4 t j ht
  · intro j x hx
    show d * A j x = zsmI m fun t => zTof m (zbsg (!sw)) _ A t j * _
    rw [es, h5 j x hx]
    refine zsmI_sw hr hi hri ?_ ?_ ?_
    · rw [q2 i j hi, if_neg (fun e => hri e.symm), if_pos rfl, zco_e]
    · rw [q2 r j hr, if_pos rfl, zco_n hri, zco_e]
    · intro t ht a b
      rw [q2 t j ht, if_neg a, if_neg b, zco_n b, zco_n a]
  · intro t x ht hx
    unfold zco
    split
    · exact h6 r x hr hx
    · split
      · exact h6 i x hi hx
      · exact h6 t x ht hx
/-- a pivot at r, c: every division goes up -/
theorem zbok_el {m B r c : Nat} {A W U : Nat → Nat → Int} {d : Int} {sw : Bool} (hr : r < m) (hA : ∀ j i, i < m → (A j i).natAbs ≤ B) (hp : U r c ≠ 0) (h : zbok m B A W (U, r, d, sw)) :
    (∀ i j, i < m → i ≠ r → d * zbel U r c d i j = U r c * U i j - U i c * U r j) ∧ zbok m B A (zco W r (A c)) (zbel U r c d, r + 1, U r c, sw) := by
  obtain ⟨h1, h2, h3, h4, h5, h6⟩ := h
  dsimp only at h1 h2 h3 h4 h5 h6
  obtain ⟨q1, q2⟩ := zbar_step (c := c) hr h3 h5
  obtain ⟨q3, q4⟩ := zbar_keep (c := c) hr h2 h3 h5
  have ex : ∀ i j, i < m → i ≠ r → d * zTof m (zbsg sw) (zco W r (A c)) A i j = U r c * U i j - U i c * U r j := fun i j hi hir => by
    rw [q2 i j hi hir, h4 r c hr, h4 i j hi, h4 i c hi, h4 r j hr]
  have eq : ∀ i j, i < m → zbel U r c d i j = zTof m (zbsg sw) (zco W r (A c)) A i j := fun i j hi => by
    unfold zbel
    by_cases hir : i = r
    · rw [if_pos hir, hir, q1, h4 r j hr]
    · rw [if_neg hir, ← ex i j hi hir]
      exact Int.mul_ediv_cancel_left _ h2
  refine ⟨fun i j hi hir => by rw [eq i j hi, ex i j hi hir], Nat.succ_le_of_lt hr, hp, ?_, eq, ?_, ?_⟩
  · show U r c = _
    rw [h4 r c hr, q3]
  · intro j i hi
    show U r c * A j i = _
    rw [h4 r c hr]; exact q4 j i hi
  · intro t i ht hi
    unfold zco
    split
    · exact hA c i hi
    · exact h6 t i ht hi
theorem zbz_ok {m B : Nat} {A : Nat → Nat → Int} (hB : 1 ≤ B) (hA : ∀ j i, i < m → (A j i).natAbs ≤ B) : ∀ c, ∃ W, zbok m B A W (zbz m A c)
  | 0 => by
    have e : ∀ i j, i < m → zTof m 1 zunt A i j = A j i := fun i j hi => by
      unfold zTof
      have e1 : zdet m (zco zunt i (A j)) = zdet m (zco zunt i (fun x => zsmI m fun s => A j s * zunt s x)) := by
        refine zdet_congr m fun t x ht hx => ?_
        unfold zco
        split
        · show A j x = zsmI m fun s => A j s * zunt s x
          rw [zsmI_one (t := x) (fun k hk h => by unfold zunt; rw [if_neg h, Int.mul_zero]), if_pos hx]; unfold zunt; rw [if_pos rfl, Int.mul_one]
        · rfl
      rw [e1, zdet_sum hi, zsmI_one (t := i) (fun k hk h => by rw [zdet_0 (t := i) (s := k) hi hk (fun e => h e.symm) (by rw [zco_e, zco_n h]), Int.mul_zero]), if_pos hi, zco_id, zdet_unt]
      omega
    refine ⟨zunt, Nat.zero_le _, by show (1 : Int) ≠ 0; decide, ?_, fun i j hi => (e i j hi).symm, ?_, ?_⟩
    · show (1 : Int) = zbsg false * _
      rw [zdet_unt]; rfl
    · intro j i hi
      show 1 * A j i = zsmI m fun t => zTof m 1 zunt A t j * zunt t i
      rw [zsmI_one (t := i) (fun k hk h => by unfold zunt; rw [if_neg h, Int.mul_zero]), if_pos hi, e i j hi]
      unfold zunt; rw [if_pos rfl]; omega
    · intro t i _ _
      unfold zunt; split
      · exact hB
      · exact Nat.zero_le _
  | c + 1 => by
    obtain ⟨W, hW⟩ := zbz_ok hB hA c
    show ∃ W, zbok m B A W (zbst m c (zbz m A c))
    generalize zbz m A c = s at hW ⊢
    obtain ⟨U, r, d, sw⟩ := s
    unfold zbst
    dsimp only
    by_cases hp : zbp m c U r < m
    · rw [if_pos hp]
      obtain ⟨p1, p2, p3, p4⟩ := zfp_s (f := fun i => decide (U i c ≠ 0)) (n := m - r) (i := r)
      change r ≤ zbp m c U r at p1
      change _ → decide (U (zbp m c U r) c ≠ 0) = true at p4
      have hr : r < m := by omega
      have hpv := of_decide_eq_true (p4 (by show zbp m c U r < _; omega))
      generalize zbp m c U r = p at hp p1 hpv ⊢
      by_cases he : p = r
      · subst he
        have e1 : zbsw U p p = U := by
          funext i j; unfold zbsw
          by_cases hi : i = p
          · rw [if_pos hi, hi]
          · rw [if_neg hi, if_neg hi]
        rw [e1, decide_eq_false (by simp), Bool.xor_false]
        exact ⟨_, (zbok_el hr hA hpv hW).2⟩
      · rw [decide_eq_true he, Bool.xor_true]
        have q := zbok_swap hr hp (fun e => he e.symm) hW
        have hpv' : zbsw U r p r c ≠ 0 := by unfold zbsw; rw [if_pos rfl]; exact hpv
        exact ⟨_, (zbok_el hr hA hpv' q).2⟩
    · rw [if_neg hp]; exact ⟨W, hW⟩
theorem zbok_bd {m B : Nat} {A W : Nat → Nat → Int} {s : zBz} (hA : ∀ j i, i < m → (A j i).natAbs ≤ B) (h : zbok m B A W s) (i j : Nat) (hi : i < m) : (s.1 i j).natAbs ≤ m ^ m * B ^ m := by
  obtain ⟨h1, h2, h3, h4, h5, h6⟩ := h
  rw [h4 i j hi]
  unfold zTof
  rw [Int.natAbs_mul, show (zbsg s.2.2.2).natAbs = 1 by unfold zbsg; split <;> rfl, Nat.one_mul]
  refine zdet_bd m _ fun t x ht hx => ?_
  unfold zco
  split
  · exact hA j x hx
  · exact h6 t x ht hx
end ZBAR
