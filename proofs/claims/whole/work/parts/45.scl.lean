/-! elimination without fractions: pivots' columns; the table of a scaled matrix -/
section ZSCL
theorem zfp_congr {f g : Nat → Bool} : ∀ {n i : Nat}, (∀ k, i ≤ k → k < i + n → f k = g k) → zfp f n i = zfp g n i
  | 0, _, _ => rfl
  | n + 1, i, h => by
    unfold zfp
    rw [h i (by omega) (by omega), zfp_congr (fun k h1 h2 => h k (by omega) (by omega))]
theorem zbp_ge {m c r : Nat} {U : Nat → Nat → Int} : r ≤ zbp m c U r := (zfp_s (f := fun i => decide (U i c ≠ 0)) (n := m - r) (i := r)).1
theorem zbp_nz {m c r : Nat} {U : Nat → Nat → Int} (h : zbp m c U r < m) : U (zbp m c U r) c ≠ 0 := by
  obtain ⟨p1, p2, p3, p4⟩ := zfp_s (f := fun i => decide (U i c ≠ 0)) (n := m - r) (i := r)
  exact of_decide_eq_true (p4 (by unfold zbp at h; omega))
theorem zbsw_self {U : Nat → Nat → Int} {p : Nat} : zbsw U p p = U := by
  funext i j; unfold zbsw
  by_cases hi : i = p
  · rw [if_pos hi, hi]
  · rw [if_neg hi, if_neg hi]
theorem zbz_ex {m B : Nat} {A : Nat → Nat → Int} (hB : 1 ≤ B) (hA : ∀ j i, i < m → (A j i).natAbs ≤ B) (c : Nat) : (zbz m A c).2.2.1 ≠ 0 ∧ (zbp m c (zbz m A c).1 (zbz m A c).2.1 < m → ∀ i j, i < m → i ≠ (zbz m A c).2.1 →
    (zbz m A c).2.2.1 * zbel (zbsw (zbz m A c).1 (zbz m A c).2.1 (zbp m c (zbz m A c).1 (zbz m A c).2.1)) (zbz m A c).2.1 c (zbz m A c).2.2.1 i j = zbsw (zbz m A c).1 (zbz m A c).2.1 (zbp m c (zbz m A c).1 (zbz m A c).2.1) (zbz m A c).2.1 c * zbsw (zbz m A c).1 (zbz m A c).2.1 (zbp m c (zbz m A c).1 (zbz m A c).2.1) i j - zbsw (zbz m A c).1 (zbz m A c).2.1 (zbp m c (zbz m A c).1 (zbz m A c).2.1) i c * zbsw (zbz m A c).1 (zbz m A c).2.1 (zbp m c (zbz m A c).1 (zbz m A c).2.1) (zbz m A c).2.1 j) := by
  obtain ⟨W, hW⟩ := zbz_ok hB hA c
  generalize zbz m A c = s at hW ⊢
  obtain ⟨U, r, d, sw⟩ := s
  refine ⟨hW.2.1, fun hp => ?_⟩
  dsimp only at hp ⊢
  have p1 := zbp_ge (m := m) (c := c) (r := r) (U := U)
  have hpv := zbp_nz hp
  have hr : r < m := by omega
  generalize zbp m c U r = p at hp p1 hpv ⊢
  by_cases he : p = r
  · subst he
    rw [zbsw_self]
    exact (zbok_el hr hA hpv hW).1
  · have q := zbok_swap hr hp (fun e => he e.symm) hW
    have hpv' : zbsw U r p r c ≠ 0 := by unfold zbsw; rw [if_pos rfl]; exact hpv
    exact (zbok_el hr hA hpv' q).1
/-- the columns of the pivots -/
def zbpc (m : Nat) (A : Nat → Nat → Int) : Nat → Nat → Nat
  | 0 => fun _ => 0
  | c + 1 => if zbp m c (zbz m A c).1 (zbz m A c).2.1 < m then fun t => if t = (zbz m A c).2.1 then c else zbpc m A c t else zbpc m A c
theorem zbz_piv {m B : Nat} {A : Nat → Nat → Int} (hB : 1 ≤ B) (hA : ∀ j i, i < m → (A j i).natAbs ≤ B) : ∀ c, (zbz m A c).2.1 ≤ m ∧ ∀ t, t < (zbz m A c).2.1 → (zbz m A c).1 t (zbpc m A c t) = (zbz m A c).2.2.1 ∧ zbpc m A c t < c ∧ ∀ i, i < m → i ≠ t → (zbz m A c).1 i (zbpc m A c t) = 0
  | 0 => ⟨Nat.zero_le _, fun t h => absurd h (Nat.not_lt_zero _)⟩
  | c + 1 => by
    obtain ⟨ihm, ih⟩ := zbz_piv hB hA c
    obtain ⟨hd, hex⟩ := zbz_ex hB hA c
    have e1 : zbz m A (c + 1) = zbst m c (zbz m A c) := rfl
    have e2 : zbpc m A (c + 1) = if zbp m c (zbz m A c).1 (zbz m A c).2.1 < m then fun t => if t = (zbz m A c).2.1 then c else zbpc m A c t else zbpc m A c := rfl
    rw [e1, e2]
    generalize zbpc m A c = pc at ih ⊢
    generalize zbz m A c = s at ih hd hex ihm ⊢
    obtain ⟨U, r, d, sw⟩ := s
    unfold zbst
    dsimp only at ih hd hex ihm ⊢
    by_cases hp : zbp m c U r < m
    · rw [if_pos hp, if_pos hp]
      have hex := hex hp
      have p1 := zbp_ge (m := m) (c := c) (r := r) (U := U)
      have hpv := zbp_nz hp
      generalize zbp m c U r = p at hp p1 hpv hex ⊢
      refine ⟨show r + 1 ≤ m by omega, fun t ht => ?_⟩
      change t < r + 1 at ht
      show zbel (zbsw U r p) r c d t _ = zbsw U r p r c ∧ _ ∧ ∀ i, i < m → i ≠ t → zbel (zbsw U r p) r c d i _ = 0
      by_cases h1 : t = r
      · rw [if_pos h1]
        refine ⟨?_, by omega, fun i hi hit => ?_⟩
        · unfold zbel; rw [if_pos h1]
        · unfold zbel
          rw [if_neg (by omega), Int.mul_comm, Int.sub_self, Int.zero_ediv]
      · rw [if_neg h1]
        obtain ⟨q1, q2, q3⟩ := ih t (by omega)
        have vr : zbsw U r p r (pc t) = 0 := by unfold zbsw; rw [if_pos rfl]; exact q3 p hp (by omega)
        refine ⟨?_, by omega, fun i hi hit => ?_⟩
        · have e := hex t (pc t) (by omega) h1
          have vt : zbsw U r p t (pc t) = d := by unfold zbsw; rw [if_neg h1, if_neg (by omega)]; exact q1
          rw [vr, vt, Int.mul_zero, Int.sub_zero, Int.mul_comm (zbsw U r p r c)] at e
          exact Int.eq_of_mul_eq_mul_left hd e
        · have vi : zbsw U r p i (pc t) = 0 := by
            unfold zbsw
            split
            · exact q3 p hp (by omega)
            · split
              · exact q3 r (by omega) (by omega)
              · exact q3 i hi hit
          unfold zbel
          split
          · exact vr
          · rw [vi, vr, Int.mul_zero, Int.mul_zero, Int.sub_self, Int.zero_ediv]
    · rw [if_neg hp, if_neg hp]
      refine ⟨ihm, fun t ht => ?_⟩
      obtain ⟨q1, q2, q3⟩ := ih t ht
      exact ⟨q1, by omega, q3⟩
def zkap (r i : Nat) : Nat := if i < r then r - 1 else r
/-- columns j times 2 to e j (s for those that are gone through) -/
theorem zbz_scl {m B s n : Nat} {A A' : Nat → Nat → Int} {e : Nat → Nat} (hB : 1 ≤ B) (hA : ∀ j i, i < m → (A j i).natAbs ≤ B) (hs : ∀ j i, i < m → A' j i = 2 ^ e j * A j i) (he : ∀ c, c < n → e c = s) :
    ∀ c, c ≤ n → (zbz m A' c).2.1 = (zbz m A c).2.1 ∧ (zbz m A' c).2.2.1 = 2 ^ (s * (zbz m A c).2.1) * (zbz m A c).2.2.1 ∧ (zbz m A' c).2.2.2 = (zbz m A c).2.2.2 ∧ ∀ i j, i < m → (zbz m A' c).1 i j = 2 ^ (s * zkap (zbz m A c).2.1 i + e j) * (zbz m A c).1 i j
  | 0, _ => by
    refine ⟨rfl, ?_, rfl, fun i j hi => ?_⟩
    · show (1 : Int) = 2 ^ (s * 0) * 1
      simp
    · show A' j i = 2 ^ (s * zkap 0 i + e j) * A j i
      rw [hs j i hi]; unfold zkap; rw [if_neg (by omega), Nat.mul_zero, Nat.zero_add]
  | c + 1, hc => by
    obtain ⟨i1, i2, i3, i4⟩ := zbz_scl hB hA hs he c (by omega)
    obtain ⟨hd, hex⟩ := zbz_ex hB hA c
    have e1 : zbz m A (c + 1) = zbst m c (zbz m A c) := rfl
    have e2 : zbz m A' (c + 1) = zbst m c (zbz m A' c) := rfl
    rw [e1, e2]
    have hec := he c (by omega)
    generalize zbz m A c = s1 at i1 i2 i3 i4 hd hex ⊢
    generalize zbz m A' c = s2 at i1 i2 i3 i4 ⊢
    obtain ⟨U, r, d, sw⟩ := s1
    obtain ⟨U', r', d', sw'⟩ := s2
    dsimp only at i1 i2 i3 i4 hd hex
    subst i1
    subst i3
    have p2 : ∀ k : Nat, (2 : Int) ^ k ≠ 0 := fun k => by have := Int.pow_pos (n := 2) (m := k) (by decide); omega
    have ep : zbp m c U' r' = zbp m c U r' := by
      unfold zbp
      refine zfp_congr fun k h1 h2 => ?_
      rw [i4 k c (by omega)]
      refine decide_eq_decide.mpr ?_
      constructor
      · intro h h3; exact h (by rw [h3, Int.mul_zero])
      · intro h h3
        rcases Int.mul_eq_zero.mp h3 with h3 | h3
        · exact p2 _ h3
        · exact h h3
    unfold zbst
    dsimp only
    rw [ep]
    by_cases hp : zbp m c U r' < m
    · rw [if_pos hp, if_pos hp]
      have hex := hex hp
      have p1 := zbp_ge (m := m) (c := c) (r := r') (U := U)
      generalize zbp m c U r' = p at hp p1 hex ⊢
      have hV : ∀ i j, i < m → zbsw U' r' p i j = 2 ^ (s * zkap r' i + e j) * zbsw U r' p i j := fun i j hi => by
        unfold zbsw
        by_cases h1 : i = r'
        · rw [if_pos h1, if_pos h1, i4 p j hp]
          unfold zkap; rw [if_neg (by omega), if_neg (by omega)]
        · rw [if_neg h1, if_neg h1]
          by_cases h2 : i = p
          · rw [if_pos h2, if_pos h2, i4 r' j (by omega)]
            unfold zkap; rw [if_neg (by omega), if_neg (by omega)]
          · rw [if_neg h2, if_neg h2]; exact i4 i j hi
      have hrr : zkap r' r' = r' := by unfold zkap; rw [if_neg (by omega)]
      refine ⟨rfl, ?_, rfl, fun i j hi => ?_⟩
      · show zbsw U' r' p r' c = 2 ^ (s * (r' + 1)) * zbsw U r' p r' c
        rw [hV r' c (by omega), hrr, hec, Nat.mul_succ]
      · show zbel (zbsw U' r' p) r' c d' i j = 2 ^ (s * zkap (r' + 1) i + e j) * zbel (zbsw U r' p) r' c d i j
        by_cases h1 : i = r'
        · subst h1
          have : zkap (i + 1) i = i := by unfold zkap; rw [if_pos (by omega)]; omega
          rw [this]
          unfold zbel
          rw [if_pos rfl, if_pos rfl, hV i j hi, hrr]
        · have ek : zkap (r' + 1) i = zkap r' i + 1 := by
            unfold zkap
            by_cases h2 : i < r'
            · rw [if_pos (by omega), if_pos h2]; omega
            · rw [if_neg (by omega), if_neg h2]
          have q := hex i j hi h1
          have e5 : zbel (zbsw U' r' p) r' c d' i j = (zbsw U' r' p r' c * zbsw U' r' p i j - zbsw U' r' p i c * zbsw U' r' p r' j) / d' := by unfold zbel; rw [if_neg h1]
          rw [e5, hV r' c (by omega), hV i j hi, hV i c hi, hV r' j (by omega), hrr, hec, i2, ek]
          generalize zbel (zbsw U r' p) r' c d i j = x at q ⊢
          have e6 : (2 : Int) ^ (s * r' + s) * zbsw U r' p r' c * (2 ^ (s * zkap r' i + e j) * zbsw U r' p i j) - 2 ^ (s * zkap r' i + s) * zbsw U r' p i c * (2 ^ (s * r' + e j) * zbsw U r' p r' j) = 2 ^ (s * r') * d * (2 ^ (s * (zkap r' i + 1) + e j) * x) := by
            have q2 : zbsw U r' p r' c * zbsw U r' p i j = d * x + zbsw U r' p i c * zbsw U r' p r' j := by omega
            rw [show s * (zkap r' i + 1) + e j = s * zkap r' i + s + e j by rw [Nat.mul_succ]]
            simp only [Int.pow_add]
            grind
          rw [e6]
          exact Int.mul_ediv_cancel_left _ (Int.mul_ne_zero (p2 _) hd)
    · rw [if_neg hp, if_neg hp]
      exact ⟨rfl, i2, rfl, i4⟩
end ZSCL
