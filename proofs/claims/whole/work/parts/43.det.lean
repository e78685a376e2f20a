/-! determinants: columns W t (t < m) of m numbers; by the last row -/
section ZDET
def zsmI : Nat → (Nat → Int) → Int
  | 0, _ => 0
  | n + 1, f => zsmI n f + f n
theorem zsmI_congr {f g : Nat → Int} : ∀ {n : Nat}, (∀ k, k < n → f k = g k) → zsmI n f = zsmI n g
  | 0, _ => rfl
  | n + 1, h => by unfold zsmI; rw [zsmI_congr (fun k hk => h k (by omega)), h n (by omega)]
theorem zsmI_lin (a b : Int) (f g : Nat → Int) : ∀ n, zsmI n (fun k => a * f k + b * g k) = a * zsmI n f + b * zsmI n g
  | 0 => by simp [zsmI]
  | n + 1 => by unfold zsmI; rw [zsmI_lin a b f g n]; grind
theorem zsmI_mul (a : Int) (f : Nat → Int) : ∀ n, zsmI n (fun k => a * f k) = a * zsmI n f
  | 0 => by simp [zsmI]
  | n + 1 => by unfold zsmI; rw [zsmI_mul a f n]; grind
theorem zsmI_two {f : Nat → Int} {t s : Nat} (hts : t < s) : ∀ {n : Nat}, (∀ k, k < n → k ≠ t → k ≠ s → f k = 0) → zsmI n f = (if t < n then f t else 0) + (if s < n then f s else 0)
  | 0, _ => by simp [zsmI]
  | n + 1, h => by
    unfold zsmI
    rw [zsmI_two hts (fun k hk => h k (by omega))]
    by_cases h1 : n = t
    · rw [if_neg (by omega), if_neg (by omega), if_pos (by omega), if_neg (by omega), h1]; omega
    · by_cases h2 : n = s
      · rw [if_pos (show t < n by omega), if_neg (by omega), if_pos (by omega), if_pos (by omega), h2]; omega
      · rw [h n (by omega) h1 h2]
        by_cases h3 : t < n
        · by_cases h4 : s < n
          · rw [if_pos h3, if_pos h4, if_pos (by omega), if_pos (by omega)]; omega
          · rw [if_pos h3, if_neg h4, if_pos (by omega), if_neg (by omega)]; omega
        · rw [if_neg h3, if_neg (by omega), if_neg (by omega), if_neg (by omega)]; omega
theorem zsmI_one {f : Nat → Int} {t : Nat} : ∀ {n : Nat}, (∀ k, k < n → k ≠ t → f k = 0) → zsmI n f = if t < n then f t else 0
  | 0, _ => by simp [zsmI]
  | n + 1, h => by
    unfold zsmI
    rw [zsmI_one (fun k hk => h k (by omega))]
    by_cases h1 : n = t
    · rw [if_neg (by omega), if_pos (by omega), h1]; omega
    · rw [h n (by omega) h1]
      by_cases h3 : t < n
      · rw [if_pos h3, if_pos (by omega)]; omega
      · rw [if_neg h3, if_neg (by omega)]; omega
def zdel (j : Nat) (W : Nat → Nat → Int) : Nat → Nat → Int := fun t => if t < j then W t else W (t + 1)
def zco (W : Nat → Nat → Int) (t : Nat) (u : Nat → Int) : Nat → Nat → Int := fun s => if s = t then u else W s
def zsgn (k : Nat) : Int := if k % 2 = 0 then 1 else -1
theorem zsgn_s (k : Nat) : zsgn (k + 1) = - zsgn k := by unfold zsgn; split <;> split <;> omega
def zdet : Nat → (Nat → Nat → Int) → Int
  | 0, _ => 1
  | m + 1, W => zsmI (m + 1) fun j => zsgn (m + j) * W j m * zdet m (zdel j W)
theorem zdet_u (m : Nat) (W : Nat → Nat → Int) : zdet (m + 1) W = zsmI (m + 1) fun j => zsgn (m + j) * W j m * zdet m (zdel j W) := rfl
theorem zco_e {W : Nat → Nat → Int} {t : Nat} {u : Nat → Int} : zco W t u t = u := if_pos rfl
theorem zco_n {W : Nat → Nat → Int} {t s : Nat} {u : Nat → Int} (h : s ≠ t) : zco W t u s = W s := if_neg h
theorem zdet_congr : ∀ (m : Nat) {W V : Nat → Nat → Int}, (∀ t i, t < m → i < m → W t i = V t i) → zdet m W = zdet m V
  | 0, _, _, _ => rfl
  | m + 1, W, V, h => by
    rw [zdet_u, zdet_u]
    refine zsmI_congr fun j hj => ?_
    rw [h j m hj (by omega), zdet_congr m (W := zdel j W) (V := zdel j V) (fun t i ht hi => ?_)]
    unfold zdel
    split
    · exact h t i (by omega) (by omega)
    · exact h (t + 1) i (by omega) (by omega)
theorem zdel_co_e {W : Nat → Nat → Int} {t : Nat} {u : Nat → Int} : zdel t (zco W t u) = zdel t W := by
  funext s; unfold zdel
  split
  · exact zco_n (by omega)
  · exact zco_n (by omega)
theorem zdel_co_l {W : Nat → Nat → Int} {t j : Nat} {u : Nat → Int} (h : t < j) : zdel j (zco W t u) = zco (zdel j W) t u := by
  funext s
  show (if s < j then (if s = t then u else W s) else (if s + 1 = t then u else W (s + 1))) = if s = t then u else if s < j then W s else W (s + 1)
  by_cases h1 : s = t
  · rw [if_pos (by omega), if_pos h1, if_pos h1]
  · by_cases h2 : s < j
    · rw [if_pos h2, if_neg h1, if_neg h1, if_pos h2]
    · rw [if_neg h2, if_neg (by omega), if_neg h1, if_neg h2]
theorem zdel_co_g {W : Nat → Nat → Int} {t j : Nat} {u : Nat → Int} (h : j ≤ t) : zdel j (zco W (t + 1) u) = zco (zdel j W) t u := by
  funext s
  show (if s < j then (if s = t + 1 then u else W s) else (if s + 1 = t + 1 then u else W (s + 1))) = if s = t then u else if s < j then W s else W (s + 1)
  by_cases h1 : s = t
  · rw [if_neg (by omega), if_pos (by omega), if_pos h1]
  · by_cases h2 : s < j
    · rw [if_pos h2, if_neg (by omega), if_neg h1, if_pos h2]
    · rw [if_neg h2, if_neg (by omega), if_neg h1, if_neg h2]
theorem zdet_lin : ∀ (m : Nat) (W : Nat → Nat → Int) (t : Nat) (a b : Int) (u v : Nat → Int), t < m → zdet m (zco W t (fun i => a * u i + b * v i)) = a * zdet m (zco W t u) + b * zdet m (zco W t v)
  | 0, _, _, _, _, _, _, h => by omega
  | m + 1, W, t, a, b, u, v, h => by
    rw [zdet_u, zdet_u, zdet_u, ← zsmI_lin]
    refine zsmI_congr fun j hj => ?_
    rcases Nat.lt_trichotomy j t with h1 | h1 | h1
    · obtain ⟨t, rfl⟩ : ∃ x, t = x + 1 := ⟨t - 1, by omega⟩
      rw [zco_n (by omega), zco_n (by omega), zco_n (by omega), zdel_co_g (by omega), zdel_co_g (by omega), zdel_co_g (by omega), zdet_lin m _ t a b u v (by omega)]
      grind
    · subst h1
      rw [zco_e, zco_e, zco_e, zdel_co_e, zdel_co_e, zdel_co_e]
      grind
    · rw [zco_n (by omega), zco_n (by omega), zco_n (by omega), zdel_co_l (by omega), zdel_co_l (by omega), zdel_co_l (by omega), zdet_lin m _ t a b u v (by omega)]
      grind
/-- two columns beside each other that are equal -/
theorem zdet_adj : ∀ (m : Nat) (W : Nat → Nat → Int) (t : Nat), t + 1 < m → W t = W (t + 1) → zdet m W = 0
  | 0, _, _, h, _ => by omega
  | m + 1, W, t, h, e => by
    rw [zdet_u, zsmI_two (t := t) (s := t + 1) (by omega) (fun j hj h1 h2 => ?_), if_pos (by omega), if_pos (by omega)]
    · have e2 : zdel t W = zdel (t + 1) W := by
        funext s; unfold zdel
        by_cases h3 : s < t
        · rw [if_pos h3, if_pos (by omega)]
        · by_cases h4 : s = t
          · rw [if_neg h3, if_pos (by omega), h4, e]
          · rw [if_neg h3, if_neg (by omega)]
      rw [e2, ← e, show m + (t + 1) = m + t + 1 by omega, zsgn_s]
      grind
    · have : zdet m (zdel j W) = 0 := by
        by_cases h3 : j < t
        · refine zdet_adj m _ (t - 1) (by omega) ?_
          unfold zdel
          rw [if_neg (by omega), if_neg (by omega), show t - 1 + 1 = t by omega]; exact e
        · refine zdet_adj m _ t (by omega) ?_
          unfold zdel
          rw [if_pos (by omega), if_pos (by omega)]; exact e
      rw [this, Int.mul_zero]
theorem zco_set {W : Nat → Nat → Int} {t : Nat} {u v : Nat → Int} : zco (zco W t u) t v = zco W t v := by
  funext s; unfold zco; split <;> rfl
theorem zco_com {W : Nat → Nat → Int} {t s : Nat} {u v : Nat → Int} (h : t ≠ s) : zco (zco W t u) s v = zco (zco W s v) t u := by
  funext x; unfold zco
  by_cases h1 : x = t
  · by_cases h2 : x = s
    · omega
    · rw [if_neg h2, if_pos h1, if_pos h1]
  · by_cases h2 : x = s
    · rw [if_pos h2, if_neg h1, if_pos h2]
    · rw [if_neg h2, if_neg h1, if_neg h1, if_neg h2]
theorem zco_id {W : Nat → Nat → Int} {t : Nat} : zco W t (W t) = W := by
  funext s; unfold zco; split
  · rename_i h; rw [h]
  · rfl
theorem zdet_add {m : Nat} (W : Nat → Nat → Int) {t : Nat} (u v : Nat → Int) (h : t < m) : zdet m (zco W t (fun i => u i + v i)) = zdet m (zco W t u) + zdet m (zco W t v) := by
  have := zdet_lin m W t 1 1 u v h
  simp only [Int.one_mul] at this
  exact this
/-- from 'equal columns: 0' to 'exchanged columns: the other sign' -/
theorem zdet_swp {m t s : Nat} (ht : t < m) (hs : s < m) (hts : t ≠ s) (h0 : ∀ W : Nat → Nat → Int, W t = W s → zdet m W = 0) (W : Nat → Nat → Int) (u v : Nat → Int) : zdet m (zco (zco W t u) s v) = - zdet m (zco (zco W t v) s u) := by
  have e1 : zdet m (zco (zco W t (fun i => u i + v i)) s (fun i => u i + v i)) = 0 := h0 _ (by rw [zco_e, zco_n hts, zco_e])
  rw [zdet_add _ u v hs, zco_com hts, zco_com hts, zdet_add _ u v ht, zdet_add _ u v ht, zco_com (fun e => hts e.symm), zco_com (fun e => hts e.symm), zco_com (fun e => hts e.symm), zco_com (fun e => hts e.symm)] at e1
  have e2 : zdet m (zco (zco W t u) s u) = 0 := h0 _ (by rw [zco_e, zco_n hts, zco_e])
  have e3 : zdet m (zco (zco W t v) s v) = 0 := h0 _ (by rw [zco_e, zco_n hts, zco_e])
  omega
/-- two equal columns -/
theorem zdet_eq0 {m : Nat} : ∀ (d t : Nat) (W : Nat → Nat → Int), t + d + 1 < m → W t = W (t + d + 1) → zdet m W = 0
  | 0, t, W, h, e => zdet_adj m W t h e
  | d + 1, t, W, h, e => by
    have q := zdet_swp (m := m) (t := t + d + 1) (s := t + d + 1 + 1) (by omega) (by omega) (by omega) (fun V hV => zdet_adj m V _ (by omega) hV) W (W (t + d + 1)) (W (t + d + 1 + 1))
    have e1 : zco (zco W (t + d + 1) (W (t + d + 1))) (t + d + 1 + 1) (W (t + d + 1 + 1)) = W := by rw [zco_id, zco_id]
    rw [e1] at q
    rw [q, zdet_eq0 d t (zco (zco W (t + d + 1) (W (t + d + 1 + 1))) (t + d + 1 + 1) (W (t + d + 1))) (by omega) (by
      rw [zco_n (by omega), zco_n (by omega), zco_n (by omega), zco_e]; exact e)]
    rfl
theorem zdet_0 {m t s : Nat} {W : Nat → Nat → Int} (ht : t < m) (hs : s < m) (hts : t ≠ s) (e : W t = W s) : zdet m W = 0 := by
  rcases Nat.lt_or_gt_of_ne hts with h | h
  · exact zdet_eq0 (s - t - 1) t W (by omega) (by rw [show t + (s - t - 1) + 1 = s by omega]; exact e)
  · exact zdet_eq0 (t - s - 1) s W (by omega) (by rw [show s + (t - s - 1) + 1 = t by omega]; exact e.symm)
theorem zdet_ex {m t s : Nat} (ht : t < m) (hs : s < m) (hts : t ≠ s) (W : Nat → Nat → Int) (u v : Nat → Int) : zdet m (zco (zco W t u) s v) = - zdet m (zco (zco W t v) s u) :=
  zdet_swp ht hs hts (fun _ e => zdet_0 ht hs hts e) W u v
/-- a column that is a sum of columns -/
theorem zdet_sum {m t : Nat} (ht : t < m) (W : Nat → Nat → Int) (c : Nat → Int) (V : Nat → Nat → Int) : ∀ n, zdet m (zco W t (fun i => zsmI n fun s => c s * V s i)) = zsmI n fun s => c s * zdet m (zco W t (V s))
  | 0 => by
    have := zdet_lin m W t 0 0 (fun _ => 0) (fun _ => 0) ht
    simp only [Int.zero_mul, Int.add_zero] at this
    exact this
  | n + 1 => by
    have := zdet_lin m W t 1 (c n) (fun i => zsmI n fun s => c s * V s i) (V n) ht
    simp only [Int.one_mul] at this
    unfold zsmI
    rw [this, zdet_sum ht W c V n]
/-- the unit columns -/
def zunt : Nat → Nat → Int := fun t i => if t = i then 1 else 0
theorem zdet_unt : ∀ m, zdet m zunt = 1
  | 0 => rfl
  | m + 1 => by
    rw [zdet_u, zsmI_one (t := m) (fun k hk h => by unfold zunt; rw [if_neg h, Int.mul_zero, Int.zero_mul]), if_pos (by omega), zdet_congr m (V := zunt) (fun t i ht hi => by unfold zdel; rw [if_pos ht]), zdet_unt m]
    unfold zunt zsgn
    rw [if_pos rfl, if_pos (by omega)]; rfl
theorem zdet_bd {B : Nat} : ∀ (m : Nat) (W : Nat → Nat → Int), (∀ t i, t < m → i < m → (W t i).natAbs ≤ B) → (zdet m W).natAbs ≤ m ^ m * B ^ m
  | 0, _, _ => Nat.le_refl _
  | m + 1, W, h => by
    have hs : ∀ n, n ≤ m + 1 → (zsmI n fun j => zsgn (m + j) * W j m * zdet m (zdel j W)).natAbs ≤ n * (B * (m ^ m * B ^ m)) := by
      intro n
      induction n with
      | zero => intro _; simp [zsmI]
      | succ n ih =>
        intro hn
        have h1 := ih (by omega)
        have h2 : (zsgn (m + n) * W n m * zdet m (zdel n W)).natAbs ≤ B * (m ^ m * B ^ m) := by
          rw [Int.natAbs_mul, Int.natAbs_mul, show (zsgn (m + n)).natAbs = 1 by unfold zsgn; split <;> rfl, Nat.one_mul]
          refine Nat.mul_le_mul (h n m (by omega) (by omega)) (zdet_bd m _ (fun t i ht hi => ?_))
          unfold zdel
          split
          · exact h t i (by omega) (by omega)
          · exact h (t + 1) i (by omega) (by omega)
        unfold zsmI
        rw [Nat.add_mul, Nat.one_mul]
        exact Nat.le_trans (Int.natAbs_add_le _ _) (Nat.add_le_add h1 h2)
    refine Nat.le_trans (hs (m + 1) (Nat.le_refl _)) ?_
    have e1 : m ^ m ≤ (m + 1) ^ m := Nat.pow_le_pow_left (by omega) m
    calc (m + 1) * (B * (m ^ m * B ^ m)) = (m + 1) * m ^ m * (B * B ^ m) := by ac_rfl
      _ ≤ (m + 1) * (m + 1) ^ m * (B * B ^ m) := Nat.mul_le_mul_right _ (Nat.mul_le_mul_left _ e1)
      _ = (m + 1) ^ (m + 1) * B ^ (m + 1) := by rw [Nat.pow_succ, Nat.pow_succ]; ac_rfl
/-- the step of the elimination: columns A j; T t j, d by determinants -/
def zTof (m : Nat) (ε : Int) (W A : Nat → Nat → Int) (t j : Nat) : Int := ε * zdet m (zco W t (A j))
theorem zbar_step {m r c : Nat} {ε d : Int} {W A : Nat → Nat → Int} (hr : r < m) (hd : d = ε * zdet m W) (h1 : ∀ j i, i < m → d * A j i = zsmI m fun t => zTof m ε W A t j * W t i) :
    (∀ j, zTof m ε (zco W r (A c)) A r j = zTof m ε W A r j) ∧ ∀ t j, t < m → t ≠ r → d * zTof m ε (zco W r (A c)) A t j = zTof m ε W A r c * zTof m ε W A t j - zTof m ε W A t c * zTof m ε W A r j := by
  refine ⟨fun j => by unfold zTof; rw [zco_set], fun t j ht htr => ?_⟩
  have e1 : d * zdet m (zco (zco W r (A c)) t (A j)) = zdet m (zco (zco W t (A j)) r (fun i => d * A c i)) := by
    have := zdet_lin m (zco W t (A j)) r d 0 (A c) (A c) hr
    simp only [Int.zero_mul, Int.add_zero] at this
    rw [this, zco_com (fun e => htr e.symm)]
  have e2 : zdet m (zco (zco W t (A j)) r (fun i => d * A c i)) = zdet m (zco (zco W t (A j)) r (fun i => zsmI m fun s => zTof m ε W A s c * W s i)) := by
    refine zdet_congr m fun x i hx hi => ?_
    unfold zco
    split
    · exact h1 c i hi
    · rfl
  have e3 : zTof m ε W A r c * zdet m (zco (zco W t (A j)) r (W r)) + zTof m ε W A t c * zdet m (zco (zco W t (A j)) r (W t)) = d * zdet m (zco (zco W r (A c)) t (A j)) := by
    rw [e1, e2, zdet_sum hr]
    rcases Nat.lt_or_gt_of_ne htr with h | h
    · rw [zsmI_two (t := t) (s := r) h (fun k hk h2 h3 => ?_), if_pos ht, if_pos hr, Int.add_comm]
      rw [zdet_0 (t := r) (s := k) hr hk (fun e => h3 e.symm) (by rw [zco_e, zco_n h3, zco_n h2]), Int.mul_zero]
    · rw [zsmI_two (t := r) (s := t) h (fun k hk h2 h3 => ?_), if_pos hr, if_pos ht]
      rw [zdet_0 (t := r) (s := k) hr hk (fun e => h2 e.symm) (by rw [zco_e, zco_n h2, zco_n h3]), Int.mul_zero]
  have e4 : zco (zco W t (A j)) r (W r) = zco W t (A j) := by rw [zco_com htr, zco_id]
  have e5 : zdet m (zco (zco W t (A j)) r (W t)) = - zdet m (zco W r (A j)) := by
    rw [zdet_ex ht hr htr, zco_id]
  rw [e4, e5] at e3
  unfold zTof at e3 ⊢
  have e6 : d * (ε * zdet m (zco (zco W r (A c)) t (A j))) = ε * (d * zdet m (zco (zco W r (A c)) t (A j))) := by grind
  rw [e6, ← e3]
  grind
/-- and what goes on holding -/
theorem zbar_keep {m r c : Nat} {ε d : Int} {W A : Nat → Nat → Int} (hr : r < m) (hd0 : d ≠ 0) (hd : d = ε * zdet m W) (h1 : ∀ j i, i < m → d * A j i = zsmI m fun t => zTof m ε W A t j * W t i) :
    zTof m ε W A r c = ε * zdet m (zco W r (A c)) ∧ ∀ j i, i < m → zTof m ε W A r c * A j i = zsmI m fun t => zTof m ε (zco W r (A c)) A t j * zco W r (A c) t i := by
  obtain ⟨q1, q2⟩ := zbar_step (c := c) hr hd h1
  refine ⟨rfl, fun j i hi => ?_⟩
  refine Int.eq_of_mul_eq_mul_left hd0 ?_
  rw [← zsmI_mul]
  have e1 : (zsmI m fun k => d * (zTof m ε (zco W r (A c)) A k j * zco W r (A c) k i)) = zsmI m fun k => zTof m ε W A r c * (zTof m ε W A k j * W k i) + (-1) * (if k = r then zTof m ε W A r c * (zTof m ε W A r j * W r i) - zTof m ε W A r j * (d * A c i) else zTof m ε W A r j * (zTof m ε W A k c * W k i)) := by
    refine zsmI_congr fun k hk => ?_
    by_cases h : k = r
    · subst h
      rw [if_pos rfl, q1, zco_e]
      grind
    · rw [if_neg h, zco_n h, ← Int.mul_assoc, q2 k j hk h]
      grind
  rw [e1]
  have e2 := zsmI_lin (zTof m ε W A r c) (-1) (fun k => zTof m ε W A k j * W k i) (fun k => if k = r then zTof m ε W A r c * (zTof m ε W A r j * W r i) - zTof m ε W A r j * (d * A c i) else zTof m ε W A r j * (zTof m ε W A k c * W k i)) m
  rw [e2, ← h1 j i hi]
  have e3 : (zsmI m fun k => if k = r then zTof m ε W A r c * (zTof m ε W A r j * W r i) - zTof m ε W A r j * (d * A c i) else zTof m ε W A r j * (zTof m ε W A k c * W k i)) = 0 := by
    have e4 := zsmI_lin (zTof m ε W A r j) 1 (fun k => zTof m ε W A k c * W k i) (fun k => if k = r then - (zTof m ε W A r j * (d * A c i)) else 0) m
    have e5 : (zsmI m fun k => if k = r then - (zTof m ε W A r j * (d * A c i)) else 0) = - (zTof m ε W A r j * (d * A c i)) := by
      rw [zsmI_one (t := r) (fun k hk h => if_neg h), if_pos hr, if_pos rfl]
    rw [e5, ← h1 c i hi] at e4
    have e6 : zTof m ε W A r j * (d * A c i) + 1 * -(zTof m ε W A r j * (d * A c i)) = 0 := by omega
    rw [← e6, ← e4]
    refine zsmI_congr fun k hk => ?_
    by_cases h : k = r
    · subst h
      rw [if_pos rfl, if_pos rfl]
      grind
    · rw [if_neg h, if_neg h]; omega
  rw [e3]
  grind
end ZDET
