/-! facts of the states, kept by every step -/
section ZGD
theorem zUz_z (x : UInt64) : zUz (zUz x) = zUz x := zUz_k (by rw [zUz_n]; unfold zuz; split <;> omega)
def zGd (σ : zSt) : Prop := (∀ k x, σ.1 k = some x → zMg x) ∧ (∀ k x, σ.2.1 k = some x → zKg x) ∧ (∀ k x, σ.2.1 k = some x → zKf x) ∧ ∀ k u, σ.2.2.1 k = some u → zVg u
theorem zGd_0 : zGd zGs0 := by
  refine ⟨fun k x h => ?_, fun k x h => ?_, fun k x h => ?_, fun k x h => ?_⟩
  · have h : (none : Option zMx) = some x := h
    cases h
  · have h : (none : Option zKx) = some x := h
    cases h
  · have h : (none : Option zKx) = some x := h
    cases h
  · have h : (none : Option zVx) = some x := h
    cases h
theorem zupo_p {α : Type} {M : Nat → Option α} {k : Nat} {y : α} {P : α → Prop} (h : ∀ k x, M k = some x → P x) (hy : P y) : ∀ j x, zupo M k (some y) j = some x → P x := fun j x hx => by
  unfold zupo at hx
  split at hx
  · cases hx; exact hy
  · exact h j x hx
theorem zupo_r {α : Type} {M : Nat → Option α} {k : Nat} {P : α → Prop} (h : ∀ k x, M k = some x → P x) : ∀ j x, zupo M k none j = some x → P x := fun j x hx => by
  unfold zupo at hx
  split at hx
  · cases hx
  · exact h j x hx
theorem zGd_m {σ : zSt} {k : Nat} {y : zMx} (h : zGd σ) (hy : zMg y) (z : (Nat × (Nat → Nat)) × List Nat × List Nat) : zGd (zupo σ.1 k (some y), σ.2.1, σ.2.2.1, z) := ⟨zupo_p h.1 hy, h.2.1, h.2.2.1, h.2.2.2⟩
theorem zGd_k {σ : zSt} {k : Nat} {y : zKx} (h : zGd σ) (hy : zKg y) (hy2 : zKf y) : zGd (σ.1, zupo σ.2.1 k (some y), σ.2.2) := ⟨h.1, zupo_p h.2.1 hy, zupo_p h.2.2.1 hy2, h.2.2.2⟩
theorem zGd_v {σ : zSt} {k : Nat} {y : zVx} (h : zGd σ) (hy : zVg y) : zGd (σ.1, σ.2.1, zupo σ.2.2.1 k (some y), σ.2.2.2) := ⟨h.1, h.2.1, h.2.2.1, zupo_p h.2.2.2 hy⟩
/-- bounds of a matrix that the class holds -/
theorem zCi_b {S : zS} {o k : Nat} {σ : zSt} {x : zMx} (hC : zCi S o σ) (h : σ.1 k = some x) : x.1 ≤ 4 ∧ x.2.1 ≤ 8 ∧ x.2.2.1 ≤ 8 ∧ x.2.2.2.1 ≤ 8 ∧ x.2.2.2.2.1 ≤ 8 := by
  have hk : k < 24 := Nat.lt_of_not_le fun q => by rw [hC.2.1.2 k q] at h; cases h
  exact ((hC.2.1.1 k hk).2.2 x h).2.2
theorem zCi_kf {S : zS} {o k : Nat} {σ : zSt} {x : zKx} (hC : zCi S o σ) (h : σ.2.1 k = some x) : ∀ i j, i < x.1 → j < x.1 → zUf (x.2.2.2.2.1 i j) = true := by
  have hk : k < 12 := Nat.lt_of_not_le fun q => by rw [hC.2.2.1.2 k q] at h; cases h
  exact ((hC.2.2.1.1 k hk).2.2 x h).1.2.2.2.2.2.2
theorem zmx_k {α : Type} {M : Nat → Option α} {m : Int32} {x : α} (h : zmx M m = some x) : ∃ k, M k = some x := by
  obtain ⟨k, _, _, h⟩ := zmx_s h
  exact ⟨k, h⟩
theorem zVg_z {n : Nat} {f : Nat → UInt64} (h1 : 1 ≤ n) (h8 : n ≤ 8) (h : ∀ i, i < n → zUf (f i) = true) : zVg (n, fun i => zUz (f i)) := ⟨⟨h1, h8⟩, fun i hi => ⟨by show zUf (zUz (f i)) = true; rw [zUf_z]; exact h i hi, zUz_z _⟩⟩
theorem zsnd_0 {r c : Nat} (h1 : 1 ≤ r) (h8 : r ≤ 8) (c1 : 1 ≤ c) (c8 : c ≤ 8) : zsnd (nI 0) (nI r) (nI c) (nI 0) (nI 0) = true := by
  unfold zsnd
  rw [decide_eq_true_eq, zI_toi (k := r) (by omega), zI_toi (k := c) (by omega), zI_toi (k := 0) (by decide)]
  exact ⟨by omega, Or.inr (Or.inr (Or.inr ⟨Or.inl rfl, rfl, rfl⟩))⟩
theorem zMg_f0 {r c : Nat} {g : Nat → Nat → UInt64} (h1 : 1 ≤ r) (h8 : r ≤ 8) (c1 : 1 ≤ c) (c8 : c ≤ 8) (hg : ∀ i j, i < r → j < c → zUf (g i j) = true ∧ zUz (g i j) = g i j) : zMg (0, r, c, 0, 0, g) :=
  ⟨zsnd_0 h1 h8 c1 c8, fun i j hi hj => ⟨(hg i j hi hj).1, (hg i j hi hj).2, fun h => by
    have h : zpl 0 0 0 i j = false := h
    rw [show zpl 0 0 0 i j = true from rfl] at h
    cases h⟩, fun h => absurd (show (0 : Nat) = 3 from h) (by decide)⟩
theorem zMg_z {r c : Nat} {g : Nat → Nat → UInt64} (h1 : 1 ≤ r) (h8 : r ≤ 8) (c1 : 1 ≤ c) (c8 : c ≤ 8) (hg : ∀ i j, i < r → j < c → zUf (g i j) = true) : zMg (0, r, c, 0, 0, fun i j => zUz (g i j)) :=
  zMg_f0 h1 h8 c1 c8 fun i j hi hj => ⟨by rw [zUf_z]; exact hg i j hi hj, zUz_z _⟩
-- how many are not 0
theorem zsumN_u {f f' : Nat → Nat} {k : Nat} (h : ∀ i, i ≠ k → f' i = f i) : ∀ n, k < n → zsumN n f' + f k = zsumN n f + f' k
  | 0, hk => absurd hk (Nat.not_lt_zero _)
  | n + 1, hk => by
    rw [zsumN_s, zsumN_s]
    by_cases e : k = n
    · subst e
      have : zsumN k f' = zsumN k f := zsumN_c fun i hi => h i (by omega)
      omega
    · have := zsumN_u h n (by omega)
      have := h n (fun q => e q.symm)
      omega
theorem zfil0_u {r c i j : Nat} {g : Nat → Nat → UInt64} {v : UInt64} (hi : i < r) (hj : j < c) : zfil0 r c (zgS g i j v) + (if g i j = 0 then 0 else 1) = zfil0 r c g + (if v = 0 then 0 else 1) := by
  unfold zfil0
  have e1 : ∀ a, a ≠ i → (zsumN c fun b => if zgS g i j v a b = 0 then 0 else 1) = zsumN c fun b => if g a b = 0 then 0 else 1 := fun a ha => zsumN_c fun b _ => by
    show (if zgS g i j v a b = 0 then 0 else 1) = if g a b = 0 then 0 else 1
    rw [show zgS g i j v a b = g a b from if_neg (fun q => ha q.1)]
  have e2 := zsumN_u (f := fun b => if g i b = 0 then 0 else 1) (f' := fun b => if zgS g i j v i b = 0 then 0 else 1) (k := j) (fun b hb => by
    show (if zgS g i j v i b = 0 then 0 else 1) = if g i b = 0 then 0 else 1
    rw [show zgS g i j v i b = g i b from if_neg (fun q => hb q.2)]) c hj
  have e3 := zsumN_u (f := fun a => zsumN c fun b => if g a b = 0 then 0 else 1) (f' := fun a => zsumN c fun b => if zgS g i j v a b = 0 then 0 else 1) (k := i) e1 r hi
  have e4 : zgS g i j v i j = v := if_pos ⟨rfl, rfl⟩
  rw [e4] at e2
  omega
theorem zfil0_0 (r c : Nat) : zfil0 r c (fun _ _ => 0) = 0 := by
  unfold zfil0
  have e : (zsumN c fun _ => if (0 : UInt64) = 0 then 0 else 1) = 0 := by
    rw [zsumN_ct (r := 0) (Nat.zero_le _) fun _ _ _ => if_pos rfl]; rfl
  rw [zsumN_ct (r := 0) (Nat.zero_le _) fun _ _ _ => e]; rfl
/-- put -/
theorem zMg_put {x : zMx} {i j : Nat} {v : UInt64} (h : zMg x) (hp : zptO x i j v) : zMg (x.1, x.2.1, x.2.2.1, x.2.2.2.1, x.2.2.2.2.1, zgS x.2.2.2.2.2 i j (zUz v)) := by
  obtain ⟨h1, h2, h3⟩ := h
  obtain ⟨p1, p2, p3, p4, p5⟩ := hp
  refine ⟨h1, fun a b ha hb => ?_, fun hf => ?_⟩
  · show zUf (zgS x.2.2.2.2.2 i j (zUz v) a b) = true ∧ zUz (zgS x.2.2.2.2.2 i j (zUz v) a b) = zgS x.2.2.2.2.2 i j (zUz v) a b ∧ (zpl x.1 x.2.2.2.1 x.2.2.2.2.1 a b = false → zgS x.2.2.2.2.2 i j (zUz v) a b = 0)
    by_cases e : a = i ∧ b = j
    · obtain ⟨rfl, rfl⟩ := e
      rw [show zgS x.2.2.2.2.2 a b (zUz v) a b = zUz v from if_pos ⟨rfl, rfl⟩]
      exact ⟨by rw [zUf_z]; exact p4, zUz_z _, fun q => by rw [p3] at q; cases q⟩
    · rw [show zgS x.2.2.2.2.2 i j (zUz v) a b = x.2.2.2.2.2 a b from if_neg e]
      exact h2 a b ha hb
  · show zfil0 x.2.1 x.2.2.1 (zgS x.2.2.2.2.2 i j (zUz v)) ≤ 20
    have hf : x.1 = 3 := hf
    have q := zfil0_u (g := x.2.2.2.2.2) (v := zUz v) p1 p2
    have h3 := h3 hf
    by_cases z : zUz v = 0
    · rw [if_pos z] at q; omega
    · rw [if_neg z] at q
      have z2 : zUab v ≠ 0 := fun e => z ((zUz_ab v).mpr e)
      by_cases o0 : x.2.2.2.2.2 i j = 0
      · have : ¬ 20 ≤ zfil0 x.2.1 x.2.2.1 x.2.2.2.2.2 := fun e => p5 ⟨hf, z2, o0, e⟩
        rw [if_pos o0] at q; omega
      · rw [if_neg o0] at q; omega
/-- a new one -/
theorem zMg_new {f r c a b : Nat} (h : zsnd (nI f) (nI r) (nI c) (nI a) (nI b) = true) : zMg (f, r, c, a, b, fun _ _ => 0) :=
  ⟨h, fun i j _ _ => ⟨(by decide : zUf 0 = true), (by decide : zUz 0 = 0), fun _ => rfl⟩, fun _ => by show zfil0 r c _ ≤ 20; rw [zfil0_0]; decide⟩
theorem zMg_frm {x : zMx} {f a b : Nat} (h : zMg x) (hs : zsnd (nI f) (nI x.2.1) (nI x.2.2.1) (nI a) (nI b) = true) (hp : zfmP x f a b = true) (h3 : f = 3 → zfil0 x.2.1 x.2.2.1 x.2.2.2.2.2 ≤ 20) : zMg (f, x.2.1, x.2.2.1, a, b, x.2.2.2.2.2) :=
  ⟨hs, fun i j hi hj => ⟨(h.2.1 i j hi hj).1, (h.2.1 i j hi hj).2.1, fun q => by
    have z := zbal_t.mp (zbal_t.mp hp i hi) j hj
    have q : zpl f a b i j = false := q
    rw [q, Bool.or_false] at z
    exact of_decide_eq_true z⟩, h3⟩
theorem zpdG_f {fu : Bool} {x y : zMx} (hx : zMg x) (hy : zMg y) (hc : 1 ≤ x.2.2.1) (h : x.2.2.1 = y.2.1) (hF : zpdF fu x y = true) {i j : Nat} (hi : i < x.2.1) (hj : j < y.2.2.1) : zUf (zpdG fu x y i j) = true := by
  have l := zpdN_lt (fun i j hi hj => (hx.2.1 i j hi hj).1) (fun i j hi hj => (hy.2.1 i j hi hj).1) (Nat.le_of_eq h) hF hi hj
  have z := of_decide_eq_true (zbal_t.mp (zbal_t.mp (zbal_t.mp hF i hi) j hj) (x.2.2.1 - 1) (by omega))
  rw [show x.2.2.1 - 1 + 1 = x.2.2.1 by omega] at z
  unfold zpdG
  rw [zUf_t, zu_of l]
  exact z
-- the ordering
theorem zit_lt {g : Nat → Nat → UInt64} {n : Nat} : ∀ (t : Nat) (s : Nat × (Nat → Nat) × Nat), (∀ j, j < s.1 → s.2.1 j < n) → ∀ j, j < (zit g n t s).1 → (zit g n t s).2.1 j < n
  | 0, s, h => h
  | t + 1, s, h => by
    show ∀ j, j < (zit g n t (zos g n s)).1 → (zit g n t (zos g n s)).2.1 j < n
    refine zit_lt t _ ?_
    by_cases h1 : n ≤ s.1
    · rw [show zos g n s = s from if_pos h1]; exact h
    · obtain ⟨w, hw⟩ : ∃ w, zfst g n s.2.1 s.1 (if s.2.2 < s.1 then (s.2.1 s.2.2 : Int) else -1) = w := ⟨_, rfl⟩
      have b := zfst_b (g := g) (n := n) (row := s.2.1) (k := s.1) (v := if s.2.2 < s.1 then (s.2.1 s.2.2 : Int) else -1)
      rw [hw] at b
      have e : zos g n s = if w = -1 then (s.1, s.2.1, s.2.2 + 1) else (s.1 + 1, zrw s.2.1 s.1 w.toNat, s.2.2) := by
        unfold zos; rw [if_neg h1, hw]
      rw [e]
      by_cases h2 : w = -1
      · rw [if_pos h2]; exact h
      · rw [if_neg h2]
        exact zap_l (by omega) h
theorem zRs_lt {g : Nat → Nat → UInt64} {n : Nat} {row : Nat → Nat} (h : zRs g n row) : ∀ j, j < n → row j < n := by
  obtain ⟨gone, t, ht⟩ := h
  have z := zit_lt (g := g) (n := n) t (0, fun _ => 0, 0) fun j hj => absurd hj (Nat.not_lt_zero _)
  rw [ht] at z
  exact z
theorem zord_lt {g : Nat → Nat → UInt64} {n : Nat} {row : Nat → Nat} (h : zRs g n row) {i : Nat} (hi : i < n) : zord g n row i < n := by
  unfold zord
  split
  · exact hi
  · exact zRs_lt h _ (by omega)
end ZGD
