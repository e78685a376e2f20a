/-! the model's factors in the making: a slot's cells; the greatest number -/
section ZMF3
def zFz (p k : Nat) (S T : zS) : Prop := zGq p (fun b => zSx p b ∨ (p + 12 ≤ b ∧ b ≤ p + 20)) (fun k => k = 3) S T ∧ (∀ e, ¬ (64 * k ≤ e ∧ e < 64 * k + 64) → zD T (p + 12) e = zD S (p + 12) e) ∧ (∀ e, ¬ (8 * k ≤ e ∧ e < 8 * k + 8) → zI T (p + 17) e = zI S (p + 17) e ∧ zI T (p + 18) e = zI S (p + 18) e) ∧ ∀ e, e ≠ k → (zI T (p + 13) e = zI S (p + 13) e ∧ zI T (p + 14) e = zI S (p + 14) e ∧ zI T (p + 15) e = zI S (p + 15) e ∧ zI T (p + 16) e = zI S (p + 16) e ∧ zI T (p + 19) e = zI S (p + 19) e) ∧ zD T (p + 20) e = zD S (p + 20) e
theorem zFz.refl {p k : Nat} {S : zS} : zFz p k S S := ⟨zGq.refl, fun _ _ => rfl, fun _ _ => ⟨rfl, rfl⟩, fun _ _ => ⟨⟨rfl, rfl, rfl, rfl, rfl⟩, rfl⟩⟩
theorem zFz.trans {p k : Nat} {S T U : zS} (h : zFz p k S T) (h2 : zFz p k T U) : zFz p k S U := ⟨h.1.trans h2.1, fun e he => (h2.2.1 e he).trans (h.2.1 e he), fun e he => ⟨(h2.2.2.1 e he).1.trans (h.2.2.1 e he).1, (h2.2.2.1 e he).2.trans (h.2.2.1 e he).2⟩, fun e he => by
  obtain ⟨⟨a1, a2, a3, a4, a5⟩, a6⟩ := h.2.2.2 e he
  obtain ⟨⟨b1, b2, b3, b4, b5⟩, b6⟩ := h2.2.2.2 e he
  exact ⟨⟨b1.trans a1, b2.trans a2, b3.trans a3, b4.trans a4, b5.trans a5⟩, b6.trans a6⟩⟩
theorem zFz.of {p k : Nat} {S T : zS} (h : zFq p k S T) : zFz p k S T := by
  have q : ∀ b, b = p + 13 ∨ b = p + 14 ∨ b = p + 15 ∨ b = p + 16 ∨ b = p + 20 → ¬ (b = p ∨ (zSx p b ∨ b = p + 12 ∨ b = p + 17 ∨ b = p + 18 ∨ b = p + 19)) := fun b hb => by unfold zSx; omega
  have w : ∀ b, b = p + 13 ∨ b = p + 14 ∨ b = p + 15 ∨ b = p + 16 ∨ b = p + 20 → zI T b = zI S b ∧ zD T b = zD S b := fun b hb => ⟨(h.1.1.2.2.2 b (q b hb)).1, (h.1.1.2.2.2 b (q b hb)).2.2⟩
  refine ⟨h.1.mono (fun b hb => by rcases hb with h | h; exact Or.inl h; exact Or.inr (by omega)) fun _ h => h, h.2.1, h.2.2.1, fun e he => ⟨⟨?_, ?_, ?_, ?_, h.2.2.2 e he⟩, ?_⟩⟩
  · rw [(w (p + 13) (by omega)).1]
  · rw [(w (p + 14) (by omega)).1]
  · rw [(w (p + 15) (by omega)).1]
  · rw [(w (p + 16) (by omega)).1]
  · rw [(w (p + 20) (by omega)).2]
theorem zFz.sI {p k q : Nat} {S T : zS} {v : Int32} (h : zFz p k S T) (hq : q = 13 ∨ q = 14 ∨ q = 15 ∨ q = 16 ∨ q = 19) : zFz p k S (zsI T (p + q) k v) := by
  refine ⟨h.1.sI (by omega) (by omega), h.2.1, fun e he => ?_, fun e he => ?_⟩
  · rw [zI_sI_ne (by omega), zI_sI_ne (by omega)]; exact h.2.2.1 e he
  · rw [zI_sI_ne (by omega), zI_sI_ne (by omega), zI_sI_ne (by omega), zI_sI_ne (by omega), zI_sI_ne (by omega)]; exact h.2.2.2 e he
theorem zFz.s20 {p k : Nat} {S T : zS} {v : UInt64} (h : zFz p k S T) : zFz p k S (zsD T (p + 20) k v) := by
  refine ⟨h.1.sD (by omega), fun e he => ?_, h.2.2.1, fun e he => ?_⟩
  · rw [zD_sD_ne (by omega)]; exact h.2.1 e he
  · rw [zD_sD_ne (by omega)]; exact h.2.2.2 e he
theorem zFz.sD {p k e : Nat} {S T : zS} {v : UInt64} (h : zFz p k S T) (he : 64 * k ≤ e ∧ e < 64 * k + 64) : zFz p k S (zsD T (p + 12) e v) := by
  refine ⟨h.1.sD (by omega), fun e he => ?_, h.2.2.1, fun e he => ?_⟩
  · rw [zD_sD_ne (by omega)]; exact h.2.1 e he
  · rw [zD_sD_ne (by omega)]; exact h.2.2.2 e he
theorem zFz.s17 {p k e q : Nat} {S T : zS} {v : Int32} (h : zFz p k S T) (he : 8 * k ≤ e ∧ e < 8 * k + 8) (hq : q = 17 ∨ q = 18) : zFz p k S (zsI T (p + q) e v) := by
  refine ⟨h.1.sI (by omega) (by omega), h.2.1, fun e he => ?_, fun e he => ?_⟩
  · rw [zI_sI_ne (by omega), zI_sI_ne (by omega)]; exact h.2.2.1 e he
  · rw [zI_sI_ne (by omega), zI_sI_ne (by omega), zI_sI_ne (by omega), zI_sI_ne (by omega), zI_sI_ne (by omega)]; exact h.2.2.2 e he
theorem zMK_fo {S T : zS} {p k j : Nat} {M : Nat → Option zKx} (h : zMK S p M) (g : zFz p k S T) (hj : j < 12) (hjk : j ≠ k) : zI T (p + 13) j = bI (M j).isSome ∧ ∀ x, M j = some x → x.1 ≤ 8 → zKx1 T p j x := by
  obtain ⟨q1, q2⟩ := h.1 j hj
  obtain ⟨⟨a1, a2, a3, a4, a5⟩, a6⟩ := g.2.2.2 j hjk
  refine ⟨by rw [a1]; exact q1, fun x hx x8 => ?_⟩
  obtain ⟨⟨b1, b2, b3, ⟨c, b4, b5, b6⟩, b7⟩, b8, b9⟩ := q2 x hx
  refine ⟨⟨by rw [a2]; exact b1, by rw [a3]; exact b2, by rw [a4]; exact b3, ⟨c, b4, by rw [a5]; exact b5, b6⟩, by rw [a6]; exact b7⟩, fun i hi => ?_, fun i m hi hm => ?_⟩
  · rw [(g.2.2.1 _ (by omega)).1, (g.2.2.1 _ (by omega)).2]; exact b8 i hi
  · rw [g.2.1 _ (by omega)]; exact b9 i m hi hm
theorem zMK_fz {S T : zS} {p k : Nat} {M : Nat → Option zKx} (h : zMK S p M) (h8 : ∀ j x, M j = some x → x.1 ≤ 8) (g : zFz p k S T) (hk : M k = none) (h13 : zI T (p + 13) k = nI 0) : zMK T p M := by
  refine ⟨fun j hj => ?_, h.2⟩
  by_cases hjk : j = k
  · rw [hjk, hk]; exact ⟨h13, fun x hx => (by cases hx)⟩
  · obtain ⟨q1, q2⟩ := zMK_fo h g hj hjk
    exact ⟨q1, fun x hx => q2 x hx (h8 j x hx)⟩
theorem zMK_up {S T : zS} {p k : Nat} {M : Nat → Option zKx} {y : zKx} (h : zMK S p M) (h8 : ∀ j x, M j = some x → x.1 ≤ 8) (g : zFz p k S T) (hk : k < 12) (h13 : zI T (p + 13) k = nI 1) (hy : zKx1 T p k y) : zMK T p (zupo M k (some y)) := by
  refine ⟨fun j hj => ?_, fun j hj => by rw [zupo_n (by omega)]; exact h.2 j hj⟩
  by_cases hjk : j = k
  · rw [hjk, zupo_e]; exact ⟨h13, fun x hx => by cases hx; exact hy⟩
  · rw [zupo_n hjk]
    obtain ⟨q1, q2⟩ := zMK_fo h g hj hjk
    exact ⟨q1, fun x hx => q2 x hx (h8 j x hx)⟩
/-- above the diagonal a row's roots change nothing -/
theorem zrst_up {fu : Bool} {i j a b : Nat} {w w' : Nat → Nat → UInt64} (h : zrst fu i j w = some w') (hj : j ≤ i) (hab : a < b) : w' a b = w a b := by
  have q : ∀ x, zwS w i j x a b = w a b := fun x => by unfold zwS; rw [if_neg (by omega)]
  unfold zrst at h
  split at h
  · split at h
    · split at h
      · cases h
      · split at h
        · cases h; exact q _
        · cases h
    · split at h
      · cases h; exact q _
      · cases h
  · cases h
theorem zrow_up {fu : Bool} {i a b : Nat} {u u' : Nat → Nat → UInt64} (h : zrow fu i u = some u') (hab : a < b) : u' a b = u a b := by
  unfold zrow at h
  exact zeu_inv (P := fun v => v a b = u a b) rfl (fun j s s' _ hj hs hf => by rw [zrst_up hf (by omega) hab]; exact hs) h
/-- the greatest of numbers in a row -/
def zmxL (f : Nat → Nat) : Nat → Nat
  | 0 => 0
  | n + 1 => max (zmxL f n) (f n)
theorem zmxL_ge {f : Nat → Nat} {k : Nat} : ∀ {n : Nat}, k < n → f k ≤ zmxL f n
  | n + 1, h => by
    unfold zmxL
    by_cases e : k = n
    · rw [e]; exact Nat.le_max_right _ _
    · exact Nat.le_trans (zmxL_ge (show k < n by omega)) (Nat.le_max_left _ _)
theorem zmxL_le {f : Nat → Nat} {B : Nat} : ∀ {n : Nat}, (∀ k, k < n → f k ≤ B) → zmxL f n ≤ B
  | 0, _ => Nat.zero_le _
  | n + 1, h => by
    unfold zmxL
    exact Nat.max_le.mpr ⟨zmxL_le fun k hk => h k (by omega), h n (by omega)⟩
theorem zgs_le {r c B : Nat} {g : Nat → Nat → UInt64} (h : ∀ i j, i < r → j < c → zmg (g i j) ≤ B) : zgs r c g ≤ B := by
  unfold zgs
  refine zfo_inv (P := fun w => w ≤ B) (Nat.zero_le _) (N := r) (fun i a hi ha => ?_) r (Nat.le_refl _)
  exact zfo_inv (P := fun w => w ≤ B) ha (N := c) (fun j b hj hb => Nat.max_le.mpr ⟨hb, h i j hi hj⟩) c (Nat.le_refl _)
theorem zfo_mo {f : Nat → Nat → Nat} (h : ∀ k a, a ≤ f k a) (s : Nat) : ∀ n, s ≤ zfo n s f
  | 0 => Nat.le_refl _
  | n + 1 => Nat.le_trans (zfo_mo h s n) (h n _)
theorem zfo_ge {f : Nat → Nat → Nat} {k B : Nat} (h : ∀ k a, a ≤ f k a) (hk : ∀ a, B ≤ f k a) {s : Nat} : ∀ {n : Nat}, k < n → B ≤ zfo n s f
  | n + 1, hn => by
    by_cases e : k = n
    · rw [zfo_s, ← e]; exact hk _
    · exact Nat.le_trans (zfo_ge h hk (show k < n by omega)) (h n _)
theorem zgs_ge {r c i j : Nat} {g : Nat → Nat → UInt64} (hi : i < r) (hj : j < c) : zmg (g i j) ≤ zgs r c g := by
  unfold zgs
  have m : ∀ i k a, a ≤ max a (zmg (g i k)) := fun i k a => Nat.le_max_left _ _
  refine zfo_ge (fun k a => zfo_mo (m k) a c) (fun a => ?_) hi
  exact zfo_ge (m i) (fun b => Nat.le_max_right _ _) hj
theorem zmxL_gs {x : zMx} (hb : zMb x) : zmxL (fun e => zmg (zgE x (e / 8) (e % 8))) 64 = zgs x.2.1 x.2.2.1 x.2.2.2.2.2 := by
  obtain ⟨_, b1, b2, _⟩ := hb
  refine Nat.le_antisymm (zmxL_le fun e he => ?_) (zgs_le fun i j hi hj => ?_)
  · unfold zgE
    split
    · rename_i h; exact zgs_ge h.1 h.2
    · exact Nat.zero_le _
  · have q := zmxL_ge (f := fun e => zmg (zgE x (e / 8) (e % 8))) (k := 8 * i + j) (n := 64) (by omega)
    have e1 : (8 * i + j) / 8 = i := by omega
    have e2 : (8 * i + j) % 8 = j := by omega
    have q : zmg (zgE x ((8 * i + j) / 8) ((8 * i + j) % 8)) ≤ _ := q
    rw [e1, e2] at q
    unfold zgE at q ⊢
    rw [if_pos ⟨hi, hj⟩] at q
    exact q
end ZMF3
