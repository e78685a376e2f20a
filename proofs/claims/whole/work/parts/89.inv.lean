/-! the state of both sides; what the class's object holds of it */ -/
section ZINV
abbrev zMx : Type := Nat × Nat × Nat × Nat × Nat × (Nat → Nat → UInt64)
abbrev zKx : Type := Nat × Nat × Bool × Bool × (Nat → Nat → UInt64) × (Nat → Nat) × (Nat → Nat) × UInt64
abbrev zVx : Type := Nat × (Nat → UInt64)
/-- matrices; factors; vectors; the order (how many, which); what was packed; the tape -/
abbrev zSt : Type := (Nat → Option zMx) × (Nat → Option zKx) × (Nat → Option zVx) × (Nat × (Nat → Nat)) × List Nat × List Nat
def zmx {α : Type} (M : Nat → Option α) (m : Int32) : Option α := if m.toInt < 0 then none else M m.toInt.toNat
def zupo {α : Type} (M : Nat → Option α) (k : Nat) (v : Option α) : Nat → Option α := fun j => if j = k then v else M j
def zCM (S : zS) (o : Nat) (M : Nat → Option zMx) : Prop := (∀ m, m < 24 → zMsh S (o + 296 + 2 * m) ∧ zI S (o + 296 + 2 * m) 0 = bI (M m).isSome ∧ ∀ x, M m = some x → zMa S (o + 296 + 2 * m) x.1 x.2.1 x.2.2.1 x.2.2.2.1 x.2.2.2.2.1 x.2.2.2.2.2) ∧ ∀ m, 24 ≤ m → M m = none
def zCK (S : zS) (o : Nat) (M : Nat → Option zKx) : Prop := (∀ m, m < 12 → zP2 S (o + 344 + 6 * m) ∧ zI S (o + 344 + 6 * m) 0 = bI (M m).isSome ∧ ∀ x, M m = some x → zFa S (o + 344 + 6 * m) x.1 x.2.1 x.2.2.1 x.2.2.2.1 x.2.2.2.2.1 x.2.2.2.2.2.1 x.2.2.2.2.2.2.1 ∧ zJ S (o + 344 + 6 * m) 5 = zuJ x.2.2.2.2.2.2.2) ∧ ∀ m, 12 ≤ m → M m = none
def zCV (S : zS) (o : Nat) (M : Nat → Option zVx) : Prop := (∀ m, m < 24 → zVok S (o + 416 + 2 * m) ∧ zI S (o + 416 + 2 * m) 0 = bI (M m).isSome ∧ ∀ x, M m = some x → zI S (o + 416 + 2 * m) 1 = nI x.1 ∧ ∀ i, i < x.1 → zJ S (o + 416 + 2 * m + 1) i = zuJ (x.2 i)) ∧ ∀ m, 24 ≤ m → M m = none
def zCO (S : zS) (o : Nat) (x : Nat × (Nat → Nat)) : Prop := zP4 S (o + 286) ∧ zI S (o + 286) 4 = nI x.1 ∧ x.1 ≤ 8 ∧ ∀ i, i < x.1 → zI S (o + 287) i = nI (x.2 i)
def zCQ (S : zS) (o : Nat) : Prop := zP10 S o ∧ zQM S o ∧ zQK S o ∧ zQV S o
/-- the class's object holds a state -/
def zCi (S : zS) (o : Nat) (σ : zSt) : Prop := zCQ S o ∧ zCM S o σ.1 ∧ zCK S o σ.2.1 ∧ zCV S o σ.2.2.1 ∧ zRok S (o + 4) ∧ (∃ π, zTb S (o + 18) π) ∧ zCO S o σ.2.2.2.1 ∧ zTp S (o + 291) σ.2.2.2.2.2 σ.2.2.2.2.1
/-- the class's cells -/
def zRg (o : Nat) : Nat → Prop := fun b => o ≤ b ∧ b < o + 464
theorem zMa_cg {S T : zS} {x f r c a b : Nat} {g : Nat → Nat → UInt64} (e1 : zSh T = zSh S) (e2 : zR T x = zR S x) (e3 : zI T x = zI S x) (e4 : zJ T (x + 1) = zJ S (x + 1)) (h : zMa S x f r c a b g) : zMa T x f r c a b g := by
  unfold zMa zMag zMok zMr zMc at h ⊢
  rw [e1, e2, e3, e4]; exact h
theorem zMa_fr {F : Nat → Prop} {S T : zS} {x f r c a b : Nat} {g : Nat → Nat → UInt64} (h : zFr F S T) (h0 : ¬ F x) (h1 : ¬ F (x + 1)) (hs : zMa S x f r c a b g) : zMa T x f r c a b g := zMa_cg h.1 (h.2.2 x h0).2.2.2 (h.2.2 x h0).1 (h.2.2 _ h1).2.1 hs
theorem zMsh_fr {F : Nat → Prop} {S T : zS} {x : Nat} (h : zFr F S T) (h0 : ¬ F x) (hs : zMsh S x) : zMsh T x := by unfold zMsh; rw [h.1, (h.2.2 x h0).2.2.2]; exact hs
theorem zCM_fr {F : Nat → Prop} {S T : zS} {o : Nat} {M : Nat → Option zMx} (h : zFr F S T) (hF : ∀ b, o + 296 ≤ b → b < o + 344 → ¬ F b) (hs : zCM S o M) : zCM T o M := by
  refine ⟨fun m hm => ?_, hs.2⟩
  obtain ⟨q1, q2, q3⟩ := hs.1 m hm
  have f0 := hF (o + 296 + 2 * m) (by omega) (by omega)
  have f1 := hF (o + 296 + 2 * m + 1) (by omega) (by omega)
  exact ⟨zMsh_fr h f0 q1, by rw [(h.2.2 _ f0).1]; exact q2, fun x hx => zMa_fr h f0 f1 (q3 x hx)⟩
theorem zFa_fr {F : Nat → Prop} {S T : zS} {x n me : Nat} {fu sw : Bool} {w : Nat → Nat → UInt64} {ro co : Nat → Nat} (h : zFr F S T) (hF : ∀ b, x ≤ b → b < x + 6 → ¬ F b) (hs : zFa S x n me fu sw w ro co) : zFa T x n me fu sw w ro co := by
  obtain ⟨q1, q2, q3, q4, q5, q6, q7⟩ := hs
  refine ⟨zP2_fr h (hF x (by omega) (by omega)) q1, q2, ?_, ?_, ?_, ?_, q7⟩
  · rw [(h.2.2 x (hF x (by omega) (by omega))).1]; exact q3
  · rw [(h.2.2 (x + 1) (hF _ (by omega) (by omega))).2.1]; exact q4
  · rw [(h.2.2 (x + 2) (hF _ (by omega) (by omega))).1]; exact q5
  · rw [(h.2.2 (x + 3) (hF _ (by omega) (by omega))).1]; exact q6
theorem zCK_fr {F : Nat → Prop} {S T : zS} {o : Nat} {M : Nat → Option zKx} (h : zFr F S T) (hF : ∀ b, o + 344 ≤ b → b < o + 416 → ¬ F b) (hs : zCK S o M) : zCK T o M := by
  refine ⟨fun m hm => ?_, hs.2⟩
  obtain ⟨q1, q2, q3⟩ := hs.1 m hm
  have f0 := hF (o + 344 + 6 * m) (by omega) (by omega)
  refine ⟨zP2_fr h f0 q1, by rw [(h.2.2 _ f0).1]; exact q2, fun x hx => ⟨zFa_fr h (fun b h1 h2 => hF b (by omega) (by omega)) (q3 x hx).1, by rw [(h.2.2 _ f0).2.1]; exact (q3 x hx).2⟩⟩
theorem zCV_fr {F : Nat → Prop} {S T : zS} {o : Nat} {M : Nat → Option zVx} (h : zFr F S T) (hF : ∀ b, o + 416 ≤ b → b < o + 464 → ¬ F b) (hs : zCV S o M) : zCV T o M := by
  refine ⟨fun m hm => ?_, hs.2⟩
  obtain ⟨q1, q2, q3⟩ := hs.1 m hm
  have f0 := hF (o + 416 + 2 * m) (by omega) (by omega)
  have f1 := hF (o + 416 + 2 * m + 1) (by omega) (by omega)
  refine ⟨by unfold zVok; rw [h.1, (h.2.2 _ f0).2.2.2]; exact q1, by rw [(h.2.2 _ f0).1]; exact q2, fun x hx => ?_⟩
  rw [(h.2.2 _ f0).1, (h.2.2 _ f1).2.1]; exact q3 x hx
theorem zCO_fr {F : Nat → Prop} {S T : zS} {o : Nat} {x : Nat × (Nat → Nat)} (h : zFr F S T) (hF : ∀ b, o + 286 ≤ b → b < o + 291 → ¬ F b) (hs : zCO S o x) : zCO T o x := by
  obtain ⟨q1, q2, q3, q4⟩ := hs
  have f0 := hF (o + 286) (by omega) (by omega)
  refine ⟨zP4_fr h f0 q1, by rw [(h.2.2 _ f0).1]; exact q2, q3, ?_⟩
  rw [(h.2.2 _ (hF (o + 287) (by omega) (by omega))).1]; exact q4
theorem zTp_fr {F : Nat → Prop} {S T : zS} {E : Nat} {tp pk : List Nat} (h : zFr F S T) (h0 : ¬ F E) (h1 : ¬ F (E + 1)) (h2 : ¬ F (E + 2)) (hs : zTp S E tp pk) : zTp T E tp pk := by
  obtain ⟨q1, q2, q3, q4, q5, q6, q7⟩ := hs
  refine ⟨zP6_fr h h0 q1, ?_, q3, ?_, ?_, q6, q7⟩
  · rw [(h.2.2 E h0).1]; exact q2
  · rw [(h.2.2 _ h1).1]; exact q4
  · rw [(h.2.2 _ h2).1]; exact q5
theorem zTo_fr {F : Nat → Prop} {S T : zS} {p : Nat} {dg : Nat → Int} {lo h' : Nat} {ng : Bool} (h : zFr F S T) (h0 : ¬ F p) (h1 : ¬ F (p + 1)) (hs : zTo S p dg lo h' ng) : zTo T p dg lo h' ng := by
  obtain ⟨q1, q2, q3, q4, q5⟩ := hs
  refine ⟨zP7_fr h h0 q1, ?_, q3, ?_, q5⟩
  · rw [(h.2.2 p h0).1]; exact q2
  · rw [(h.2.2 _ h1).2.1]; exact q4
theorem zTe_fr {F : Nat → Prop} {S T : zS} {p : Nat} (h : zFr F S T) (h0 : ¬ F p) (h1 : ¬ F (p + 1)) (hs : zTe S p) : zTe T p := by
  obtain ⟨dg, lo, h', ng, q⟩ := hs
  exact ⟨dg, lo, h', ng, zTo_fr h h0 h1 q⟩
theorem zRok_fr {F : Nat → Prop} {S T : zS} {o : Nat} (h : zFr F S T) (hF : ∀ b, o ≤ b → b < o + 14 → ¬ F b) (hs : zRok S o) : zRok T o := by
  obtain ⟨q1, q2, q3, q4, q5⟩ := hs
  exact ⟨zP5_fr h (hF o (by omega) (by omega)) q1, zTe_fr h (hF _ (by omega) (by omega)) (hF _ (by omega) (by omega)) q2, zTe_fr h (hF _ (by omega) (by omega)) (hF _ (by omega) (by omega)) q3, zTe_fr h (hF _ (by omega) (by omega)) (hF _ (by omega) (by omega)) q4, zTe_fr h (hF _ (by omega) (by omega)) (hF _ (by omega) (by omega)) q5⟩
theorem zTb_fr {F : Nat → Prop} {S T : zS} {E : Nat} {π : Nat → Nat → Nat} (h : zFr F S T) (hF : ∀ b, E ≤ b → b < E + 268 → ¬ F b) (hs : zTb S E π) : zTb T E π := by
  obtain ⟨h1, ⟨h2, h3, h4, h5⟩, h6, h7⟩ := hs
  refine ⟨zP1_fr h (hF E (by omega) (by omega)) h1, ⟨zWs_fr h (hF _ (by omega) (by omega)) h2, zWs_fr h (hF _ (by omega) (by omega)) h3, zWs_fr h (hF _ (by omega) (by omega)) h4, zWs_fr h (hF _ (by omega) (by omega)) h5⟩, fun i j hi hj => ?_, h7⟩
  obtain ⟨q1, q2, q3⟩ := h6 i j hi hj
  have b1 := zca_e E π i j
  refine ⟨?_, q2, zWs_fr h (hF _ (by omega) (by omega)) q3⟩
  rw [(h.2.2 _ (hF (E + 1) (by omega) (by omega))).2.2.2]; exact q1
theorem zCQ_fr {F : Nat → Prop} {S T : zS} {o : Nat} (h : zFr F S T) (hF : ∀ b, o ≤ b → b < o + 4 → ¬ F b) (hs : zCQ S o) : zCQ T o := ⟨zP10_fr h (hF o (by omega) (by omega)) hs.1, zQM_fr h (hF _ (by omega) (by omega)) hs.2.1, zQK_fr h (hF _ (by omega) (by omega)) hs.2.2.1, zQV_fr h (hF _ (by omega) (by omega)) hs.2.2.2⟩
/-- what is outside changes nothing -/
theorem zCi_fr {F : Nat → Prop} {S T : zS} {o : Nat} {σ : zSt} (h : zFr F S T) (hF : ∀ b, o ≤ b → b < o + 464 → ¬ F b) (hs : zCi S o σ) : zCi T o σ := by
  obtain ⟨h1, h2, h3, h4, h5, ⟨π, h6⟩, h7, h8⟩ := hs
  exact ⟨zCQ_fr h (fun b _ _ => hF b (by omega) (by omega)) h1, zCM_fr h (fun b _ _ => hF b (by omega) (by omega)) h2, zCK_fr h (fun b _ _ => hF b (by omega) (by omega)) h3, zCV_fr h (fun b _ _ => hF b (by omega) (by omega)) h4, zRok_fr h (fun b _ _ => hF b (by omega) (by omega)) h5, ⟨π, zTb_fr h (fun b _ _ => hF b (by omega) (by omega)) h6⟩, zCO_fr h (fun b _ _ => hF b (by omega) (by omega)) h7, zTp_fr h (hF _ (by omega) (by omega)) (hF _ (by omega) (by omega)) (hF _ (by omega) (by omega)) h8⟩
theorem zmx_s {α : Type} {M : Nat → Option α} {m : Int32} {x : α} (h : zmx M m = some x) : ∃ k, k < 2147483648 ∧ m = nI k ∧ M k = some x := by
  unfold zmx at h
  rcases zI_cases m with q | ⟨k, hk, rfl⟩
  · rw [if_pos q] at h; cases h
  · have ey : (nI k).toInt = k := by rw [nI_z]; exact iZ_t (by omega) (by omega)
    rw [ey, if_neg (by omega), Int.toNat_natCast] at h
    exact ⟨k, hk, rfl, h⟩
theorem zmx_nI {α : Type} {M : Nat → Option α} {k : Nat} (hk : k < 2147483648) : zmx M (nI k) = M k := by
  have ey : (nI k).toInt = k := by rw [nI_z]; exact iZ_t (by omega) (by omega)
  unfold zmx
  rw [ey, if_neg (by omega), Int.toNat_natCast]
variable {S : zS} {K : Option Value → zS → Prop} {o k : Nat} {σ : zSt} {m : Int32}
theorem zmA_n (h : zCi S o σ) (hm : zmx σ.1 m = none) : ct_X10_matrixAt.1 [.ref o, .int m] S K = K (some .null) S := by
  rw [zc_X10_matrixAt]
  have e : ¬ (0 ≤ m.toInt ∧ m.toInt < 24 ∧ zbo (zI S (o + 296 + 2 * m.toInt.toNat) 0) = true) := fun ⟨q1, q2, q3⟩ => by
    unfold zmx at hm
    rw [if_neg (by omega)] at hm
    rw [(h.2.1.1 m.toInt.toNat (by omega)).2.1, hm, zbo_b] at q3
    exact absurd q3 (by decide)
  rw [if_neg e]
  exact propext ⟨fun q => q.2, fun q => ⟨⟨h.1.1, h.1.2.1⟩, q⟩⟩
theorem zmA_s {x : zMx} (h : zCi S o σ) (hk : k < 2147483648) (hm : σ.1 k = some x) : ct_X10_matrixAt.1 [.ref o, .int (nI k)] S K = K (some (.ref (o + 296 + 2 * k))) S := by
  rw [zc_X10_matrixAt]
  have hk24 : k < 24 := Nat.lt_of_not_le fun q => by rw [h.2.1.2 k q] at hm; cases hm
  have ey : (nI k).toInt = k := by rw [nI_z]; exact iZ_t (by omega) (by omega)
  rw [ey, Int.toNat_natCast, if_pos ⟨by omega, by omega, by rw [(h.2.1.1 k hk24).2.1, hm, zbo_b]; rfl⟩]
  exact propext ⟨fun q => q.2, fun q => ⟨⟨h.1.1, h.1.2.1⟩, q⟩⟩
theorem zkA_n (h : zCi S o σ) (hm : zmx σ.2.1 m = none) : ct_X10_factorAt.1 [.ref o, .int m] S K = K (some .null) S := by
  rw [zc_X10_factorAt]
  have e : ¬ (0 ≤ m.toInt ∧ m.toInt < 12 ∧ zbo (zI S (o + 344 + 6 * m.toInt.toNat) 0) = true) := fun ⟨q1, q2, q3⟩ => by
    unfold zmx at hm
    rw [if_neg (by omega)] at hm
    rw [(h.2.2.1.1 m.toInt.toNat (by omega)).2.1, hm, zbo_b] at q3
    exact absurd q3 (by decide)
  rw [if_neg e]
  exact propext ⟨fun q => q.2, fun q => ⟨⟨h.1.1, h.1.2.2.1⟩, q⟩⟩
theorem zkA_s {x : zKx} (h : zCi S o σ) (hk : k < 2147483648) (hm : σ.2.1 k = some x) : ct_X10_factorAt.1 [.ref o, .int (nI k)] S K = K (some (.ref (o + 344 + 6 * k))) S := by
  rw [zc_X10_factorAt]
  have hk24 : k < 12 := Nat.lt_of_not_le fun q => by rw [h.2.2.1.2 k q] at hm; cases hm
  have ey : (nI k).toInt = k := by rw [nI_z]; exact iZ_t (by omega) (by omega)
  rw [ey, Int.toNat_natCast, if_pos ⟨by omega, by omega, by rw [(h.2.2.1.1 k hk24).2.1, hm, zbo_b]; rfl⟩]
  exact propext ⟨fun q => q.2, fun q => ⟨⟨h.1.1, h.1.2.2.1⟩, q⟩⟩
theorem zvA_n (h : zCi S o σ) (hm : zmx σ.2.2.1 m = none) : ct_X10_vectorAt.1 [.ref o, .int m] S K = K (some .null) S := by
  rw [zc_X10_vectorAt]
  have e : ¬ (0 ≤ m.toInt ∧ m.toInt < 24 ∧ zbo (zI S (o + 416 + 2 * m.toInt.toNat) 0) = true) := fun ⟨q1, q2, q3⟩ => by
    unfold zmx at hm
    rw [if_neg (by omega)] at hm
    rw [(h.2.2.2.1.1 m.toInt.toNat (by omega)).2.1, hm, zbo_b] at q3
    exact absurd q3 (by decide)
  rw [if_neg e]
  exact propext ⟨fun q => q.2, fun q => ⟨⟨h.1.1, h.1.2.2.2⟩, q⟩⟩
theorem zvA_s {x : zVx} (h : zCi S o σ) (hk : k < 2147483648) (hm : σ.2.2.1 k = some x) : ct_X10_vectorAt.1 [.ref o, .int (nI k)] S K = K (some (.ref (o + 416 + 2 * k))) S := by
  rw [zc_X10_vectorAt]
  have hk24 : k < 24 := Nat.lt_of_not_le fun q => by rw [h.2.2.2.1.2 k q] at hm; cases hm
  have ey : (nI k).toInt = k := by rw [nI_z]; exact iZ_t (by omega) (by omega)
  rw [ey, Int.toNat_natCast, if_pos ⟨by omega, by omega, by rw [(h.2.2.2.1.1 k hk24).2.1, hm, zbo_b]; rfl⟩]
  exact propext ⟨fun q => q.2, fun q => ⟨⟨h.1.1, h.1.2.2.2⟩, q⟩⟩
/-- the least number that is free, as an int -/
def zfrI {α : Type} (M : Nat → Option α) (N : Nat) : Int32 := zfi (fun m => (M m).isNone) N
theorem zfi_congr {f g : Nat → Bool} {N : Nat} (h : ∀ m, m < N → f m = g m) : zfi f N = zfi g N := by
  unfold zfi
  rw [zfp_congr (f := f) (g := g) (n := N) (i := 0) (fun k _ hk => h k (by omega))]
theorem zmF (h : zCi S o σ) : ct_X10_freeMatrix.1 [.ref o] S K = K (some (.int (zfrI σ.1 24))) S := by
  rw [zc_X10_freeMatrix, zfi_congr (g := fun m => (σ.1 m).isNone) (fun m hm => by rw [(h.2.1.1 m hm).2.1, zbo_b, ← Option.not_isSome])]
  exact propext ⟨fun q => q.2, fun q => ⟨⟨h.1.1, h.1.2.1⟩, q⟩⟩
theorem zkF (h : zCi S o σ) : ct_X10_freeFactor.1 [.ref o] S K = K (some (.int (zfrI σ.2.1 12))) S := by
  rw [zc_X10_freeFactor, zfi_congr (g := fun m => (σ.2.1 m).isNone) (fun m hm => by rw [(h.2.2.1.1 m hm).2.1, zbo_b, ← Option.not_isSome])]
  exact propext ⟨fun q => q.2, fun q => ⟨⟨h.1.1, h.1.2.2.1⟩, q⟩⟩
theorem zvF (h : zCi S o σ) : ct_X10_freeVector.1 [.ref o] S K = K (some (.int (zfrI σ.2.2.1 24))) S := by
  rw [zc_X10_freeVector, zfi_congr (g := fun m => (σ.2.2.1 m).isNone) (fun m hm => by rw [(h.2.2.2.1.1 m hm).2.1, zbo_b, ← Option.not_isSome])]
  exact propext ⟨fun q => q.2, fun q => ⟨⟨h.1.1, h.1.2.2.2⟩, q⟩⟩
theorem zfrI_c {α : Type} (M : Nat → Option α) {N : Nat} (hN : N ≤ 24) : (zfrI M N = iZ (-1) ∧ ∀ m, m < N → M m ≠ none) ∨ ∃ k, k < N ∧ zfrI M N = nI k ∧ M k = none ∧ ∀ m, m < k → M m ≠ none := by
  obtain ⟨q1, q2, q3, q4⟩ := zfp_s (f := fun m => (M m).isNone) (n := N) (i := 0)
  unfold zfrI zfi
  by_cases h : zfp (fun m => (M m).isNone) N 0 < N
  · rw [if_pos h]
    refine Or.inr ⟨_, h, rfl, Option.isNone_iff_eq_none.mp (q4 (by omega)), fun m hm e => ?_⟩
    have := q3 m (Nat.zero_le _) hm
    rw [e] at this; cases this
  · rw [if_neg h]
    refine Or.inl ⟨rfl, fun m hm e => ?_⟩
    have := q3 m (Nat.zero_le _) (by omega)
    rw [e] at this; cases this
end ZINV
