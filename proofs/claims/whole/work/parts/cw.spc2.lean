/-! the law: solve, inverse and refine as relations; what determines answers -/
section ZSP2
theorem zCV_x {S : zS} {o k n : Nat} {V : Nat → Option zVx} {f f' : Nat → UInt64} (h : zCV S o (zupo V k (some (n, f)))) (he : ∀ i, i < n → f i = f' i) : zCV S o (zupo V k (some (n, f'))) := by
  refine ⟨fun m hm => ?_, fun m hm => ?_⟩
  · obtain ⟨q1, q2, q3⟩ := h.1 m hm
    by_cases e : m = k
    · subst e
      have q3 := q3 _ zupo_e
      rw [zupo_e] at q2 ⊢
      exact ⟨q1, q2, fun x hx => by cases hx; exact ⟨q3.1, fun i hi => by rw [q3.2 i hi]; show zuJ (f i) = zuJ (f' i); rw [he i hi]⟩⟩
    · rw [zupo_n e] at q2 q3 ⊢
      exact ⟨q1, q2, q3⟩
  · have z := h.2 m hm
    by_cases e : m = k
    · subst e; rw [zupo_e] at z; cases z
    · rw [zupo_n e] at z ⊢; exact z
theorem zCi_vx {S : zS} {o k n : Nat} {A : Nat → Option zMx} {B : Nat → Option zKx} {V : Nat → Option zVx} {f f' : Nat → UInt64} {D : (Nat × (Nat → Nat)) × List Nat × List Nat} (h : zCi S o (A, B, zupo V k (some (n, f)), D)) (he : ∀ i, i < n → f i = f' i) : zCi S o (A, B, zupo V k (some (n, f')), D) :=
  ⟨h.1, h.2.1, h.2.2.1, zCV_x h.2.2.2.1 he, h.2.2.2.2⟩
theorem zMV_x {S : zS} {p k n : Nat} {V : Nat → Option zVx} {f f' : Nat → UInt64} (h : zMV S p (zupo V k (some (n, f)))) (he : ∀ i, i < n → f i = f' i) : zMV S p (zupo V k (some (n, f'))) := by
  refine ⟨fun m hm => ?_, fun m hm => ?_⟩
  · obtain ⟨q2, q3⟩ := h.1 m hm
    by_cases e : m = k
    · subst e
      have q3 := q3 _ zupo_e
      rw [zupo_e]
      exact ⟨fun z => (by cases z), fun x hx => by cases hx; exact ⟨q3.1, fun i hi => by rw [q3.2 i hi]; exact he i hi⟩⟩
    · rw [zupo_n e] at q2 q3 ⊢
      exact ⟨q2, q3⟩
  · have z := h.2 m hm
    by_cases e : m = k
    · subst e; rw [zupo_e] at z; cases z
    · rw [zupo_n e] at z ⊢; exact z
theorem zMi_vx {S : zS} {p k n : Nat} {A : Nat → Option zMx} {B : Nat → Option zKx} {V : Nat → Option zVx} {f f' : Nat → UInt64} {D : (Nat × (Nat → Nat)) × List Nat × List Nat} (h : zMi S p (A, B, zupo V k (some (n, f)), D)) (he : ∀ i, i < n → f i = f' i) : zMi S p (A, B, zupo V k (some (n, f')), D) :=
  ⟨h.1, h.2.1, h.2.2.1, zMV_x h.2.2.2.1 he, h.2.2.2.2⟩
theorem zCM_x {S : zS} {o k f r c a b : Nat} {M : Nat → Option zMx} {g g' : Nat → Nat → UInt64} (h : zCM S o (zupo M k (some (f, r, c, a, b, g)))) (he : ∀ i j, i < r → j < c → g i j = g' i j) : zCM S o (zupo M k (some (f, r, c, a, b, g'))) := by
  refine ⟨fun m hm => ?_, fun m hm => ?_⟩
  · obtain ⟨q1, q2, q3⟩ := h.1 m hm
    by_cases e : m = k
    · subst e
      have q3 := q3 _ zupo_e
      rw [zupo_e] at q2 ⊢
      exact ⟨q1, q2, fun x hx => by cases hx; exact ⟨⟨q3.1.1, q3.1.2.1, q3.1.2.2.1, fun i j hi hj => by rw [q3.1.2.2.2 i j hi hj]; show zuJ (g i j) = zuJ (g' i j); rw [he i j hi hj]⟩, q3.2⟩⟩
    · rw [zupo_n e] at q2 q3 ⊢
      exact ⟨q1, q2, q3⟩
  · have z := h.2 m hm
    by_cases e : m = k
    · subst e; rw [zupo_e] at z; cases z
    · rw [zupo_n e] at z ⊢; exact z
theorem zCi_mx {S : zS} {o k f r c a b : Nat} {M : Nat → Option zMx} {g g' : Nat → Nat → UInt64} {D : (Nat → Option zKx) × (Nat → Option zVx) × (Nat × (Nat → Nat)) × List Nat × List Nat} (h : zCi S o (zupo M k (some (f, r, c, a, b, g)), D)) (he : ∀ i j, i < r → j < c → g i j = g' i j) : zCi S o (zupo M k (some (f, r, c, a, b, g')), D) :=
  ⟨h.1, zCM_x h.2.1 he, h.2.2⟩
theorem zMM_x {S : zS} {p k f r c a b : Nat} {M : Nat → Option zMx} {g g' : Nat → Nat → UInt64} (h : zMM S p (zupo M k (some (f, r, c, a, b, g)))) (he : ∀ i j, i < r → j < c → g i j = g' i j) : zMM S p (zupo M k (some (f, r, c, a, b, g'))) := by
  refine ⟨fun m hm => ?_, fun m hm => ?_⟩
  · obtain ⟨q2, q3⟩ := h.1 m hm
    by_cases e : m = k
    · subst e
      have q3 := q3 _ zupo_e
      rw [zupo_e] at q2 ⊢
      exact ⟨q2, fun x hx => by cases hx; exact ⟨q3.1, fun i j hi hj => by
        rw [q3.2.1 i j hi hj]
        show (if i < r ∧ j < c then g i j else 0) = if i < r ∧ j < c then g' i j else 0
        by_cases z : i < r ∧ j < c
        · rw [if_pos z, if_pos z, he i j z.1 z.2]
        · rw [if_neg z, if_neg z], q3.2.2⟩⟩
    · rw [zupo_n e] at q2 q3 ⊢
      exact ⟨q2, q3⟩
  · have z := h.2 m hm
    by_cases e : m = k
    · subst e; rw [zupo_e] at z; cases z
    · rw [zupo_n e] at z ⊢; exact z
theorem zMi_mx {S : zS} {p k f r c a b : Nat} {M : Nat → Option zMx} {g g' : Nat → Nat → UInt64} {D : (Nat → Option zKx) × (Nat → Option zVx) × (Nat × (Nat → Nat)) × List Nat × List Nat} (h : zMi S p (zupo M k (some (f, r, c, a, b, g)), D)) (he : ∀ i j, i < r → j < c → g i j = g' i j) : zMi S p (zupo M k (some (f, r, c, a, b, g')), D) :=
  ⟨h.1, zMM_x h.2.1 he, h.2.2⟩
/-- the inverse of a factor's order of columns -/
noncomputable def zciK (x : zKx) : Nat → Nat := Classical.epsilon fun ci => zFvd x.1 x.2.2.2.2.1 x.2.2.2.2.2.1 x.2.2.2.2.2.2.1 ci
theorem zciK_s {x : zKx} (h : ∃ ci, zFvd x.1 x.2.2.2.2.1 x.2.2.2.2.2.1 x.2.2.2.2.2.2.1 ci) : zFvd x.1 x.2.2.2.2.1 x.2.2.2.2.2.1 x.2.2.2.2.2.2.1 (zciK x) := Classical.epsilon_spec h
theorem zciK_e {x : zKx} {ci : Nat → Nat} (h : zFvd x.1 x.2.2.2.2.1 x.2.2.2.2.2.1 x.2.2.2.2.2.2.1 ci) : ∀ i, i < x.1 → ci i = zciK x i := fun i hi => by
  have h0 := zciK_s ⟨ci, h⟩
  have a := h0.2 i hi
  have b := (h.2 (zciK x i) a.1).2.2
  rw [a.2.1] at b
  exact b
def zinv (x : zKx) (j : Nat) : Nat → UInt64 := match zans x.2.1 x.2.2.1 x.2.2.2.2.1 x.1 x.2.2.2.2.2.1 (zuntD j) with
  | some z => z
  | none => fun _ => 0
theorem zinv_s {x : zKx} {j : Nat} {z : Nat → UInt64} (h : zans x.2.1 x.2.2.1 x.2.2.2.2.1 x.1 x.2.2.2.2.2.1 (zuntD j) = some z) : zinv x j = z := by unfold zinv; rw [h]
theorem zans_f {me : Nat} {fu : Bool} {w : Nat → Nat → UInt64} {n : Nat} {ro : Nat → Nat} {rt z : Nat → UInt64} (h : zans me fu w n ro rt = some z) : ∀ i, i < n → zUf (z i) = true := by
  unfold zans at h
  split at h
  · rename_i y hy
    have q := zeu_ivp (N := n) (P := fun s (z : Nat → UInt64) => ∀ i, n - s ≤ i → i < n → zUf (z i) = true) (fun s z z' hs hp hf i h1 h2 => by
      unfold zanB at hf
      split at hf
      · rename_i v hv
        cases hf
        show zUf (if i = n - 1 - s then v else z i) = true
        split
        · unfold zbwd at hv
          split at hv
          · split at hv
            · cases hv; assumption
            · cases hv
          · cases hv
        · exact hp i (by omega) h2
      · cases hf) 0 (Nat.zero_le _) _ (fun i h1 h2 => absurd h1 (by omega)) h
    exact fun i hi => q i (by omega) hi
  · cases h
theorem zrfs_cg {me : Nat} {fu : Bool} {w : Nat → Nat → UInt64} {n : Nat} {ro ci ci' : Nat → Nat} {g : Nat → Nat → UInt64} {rr cu cu' : Nat → UInt64} (hci : ∀ j, j < n → ci j = ci' j) (hcu : ∀ j, j < n → cu j = cu' j) :
    (zrfs me fu w n ro ci g rr cu = none ∧ zrfs me fu w n ro ci' g rr cu' = none) ∨ ∃ nx nx', zrfs me fu w n ro ci g rr cu = some nx ∧ zrfs me fu w n ro ci' g rr cu' = some nx' ∧ ∀ j, j < n → nx j = nx' j := by
  have e1 : ∀ (gi : Nat → UInt64) (r : UInt64), zrv gi cu r n = zrv gi cu' r n := fun gi r => by
    unfold zrv
    rw [zsmI_congr (g := fun j => -zxp (gi j) (cu' j)) fun k hk => by rw [hcu k hk]]
  have e2 : zrns g rr cu n = zrns g rr cu' n := by funext i; unfold zrns; rw [e1]
  have e3 : ∀ (z : Nat → UInt64) (j : Nat), j < n → zrnx ci cu z j = zrnx ci' cu' z j := fun z j hj => by unfold zrnx; rw [hcu j hj, hci j hj]
  have e4 : ∀ (z gi : Nat → UInt64) (r : UInt64), zrv gi (zrnx ci cu z) r n = zrv gi (zrnx ci' cu' z) r n := fun z gi r => by
    unfold zrv
    rw [zsmI_congr (g := fun j => -zxp (gi j) (zrnx ci' cu' z j)) fun k hk => by rw [e3 z k hk]]
  have e7 : zmxN (fun i => zrv (g i) cu (rr i) n) n = zmxN (fun i => zrv (g i) cu' (rr i) n) n := by
    rw [show (fun i => zrv (g i) cu (rr i) n) = fun i => zrv (g i) cu' (rr i) n from funext fun i => e1 _ _]
  have b1 : (zbal n fun i => zUf (zrns g rr cu n i)) = zbal n fun i => zUf (zrns g rr cu' n i) := by rw [e2]
  by_cases hb : (zbal n fun i => zUf (zrns g rr cu' n i)) = true
  · cases hz : zans me fu w n ro (zrns g rr cu' n) with
    | none => exact Or.inl ⟨zrfs_2 (by rw [e2]; exact hz), zrfs_2 hz⟩
    | some z =>
      have hz1 : zans me fu w n ro (zrns g rr cu n) = some z := by rw [e2]; exact hz
      have e5 : (zbal n fun j => zUf (zrnx ci cu z j)) = zbal n fun j => zUf (zrnx ci' cu' z j) := zbal_c fun j hj => by rw [e3 z j hj]
      have e6 : zmxN (fun i => zrv (g i) (zrnx ci cu z) (rr i) n) n = zmxN (fun i => zrv (g i) (zrnx ci' cu' z) (rr i) n) n := by
        rw [show (fun i => zrv (g i) (zrnx ci cu z) (rr i) n) = fun i => zrv (g i) (zrnx ci' cu' z) (rr i) n from funext fun i => e4 z _ _]
      cases h1 : (zbal n fun j => zUf (zrnx ci' cu' z j)) with
      | false => exact Or.inl ⟨zrfs_3 hz1 (by rw [e5]; exact h1), zrfs_3 hz h1⟩
      | true =>
        by_cases h2 : zmxN (fun i => zrv (g i) (zrnx ci' cu' z) (rr i) n) n < zmxN (fun i => zrv (g i) cu' (rr i) n) n
        · exact Or.inr ⟨_, _, zrfs_5 (by rw [b1]; exact hb) hz1 (by rw [e5]; exact h1) (by rw [e6, e7]; exact h2), zrfs_5 hb hz h1 h2, e3 z⟩
        · exact Or.inl ⟨zrfs_4 hz1 (by rw [e6, e7]; exact h2), zrfs_4 hz h2⟩
  · exact Or.inl ⟨by unfold zrfs; rw [b1, if_neg hb], by unfold zrfs; rw [if_neg hb]⟩
theorem zrfN_cg {f f' : (Nat → UInt64) → Option (Nat → UInt64)} {n : Nat} (hf : ∀ s s' : Nat → UInt64, (∀ j, j < n → s j = s' j) → (f s = none ∧ f' s' = none) ∨ ∃ nx nx', f s = some nx ∧ f' s' = some nx' ∧ ∀ j, j < n → nx j = nx' j) : ∀ (k : Nat) (s s' : Nat → UInt64), (∀ j, j < n → s j = s' j) → (zrfN f k s).1 = (zrfN f' k s').1 ∧ ∀ j, j < n → (zrfN f k s).2 j = (zrfN f' k s').2 j
  | 0, s, s', h => ⟨rfl, h⟩
  | k + 1, s, s', h => by
    rcases hf s s' h with ⟨a, b⟩ | ⟨nx, nx', a, b, c⟩
    · rw [zrfN_n a, zrfN_n b]; exact ⟨rfl, h⟩
    · rw [zrfN_s a, zrfN_s b]
      have z := zrfN_cg hf k nx nx' c
      refine ⟨?_, z.2⟩
      show (zrfN f k nx).1 + 1 = (zrfN f' k nx').1 + 1
      rw [z.1]
noncomputable def zrfK (y : zKx) (x : zMx) (v : zVx) : (Nat → UInt64) → Option (Nat → UInt64) := zrfs y.2.1 y.2.2.1 y.2.2.2.2.1 y.1 y.2.2.2.2.2.1 (zciK y) x.2.2.2.2.2 v.2
theorem zrfK_e {y : zKx} {x : zMx} {v : zVx} {ci : Nat → Nat} (h : zFvd y.1 y.2.2.2.2.1 y.2.2.2.2.2.1 y.2.2.2.2.2.2.1 ci) (N : Nat) (s : Nat → UInt64) : (zrfN (zrfs y.2.1 y.2.2.1 y.2.2.2.2.1 y.1 y.2.2.2.2.2.1 ci x.2.2.2.2.2 v.2) N s).1 = (zrfN (zrfK y x v) N s).1 ∧ ∀ j, j < y.1 → (zrfN (zrfs y.2.1 y.2.2.1 y.2.2.2.2.1 y.1 y.2.2.2.2.2.1 ci x.2.2.2.2.2 v.2) N s).2 j = (zrfN (zrfK y x v) N s).2 j :=
  zrfN_cg (fun s s' hs => zrfs_cg (zciK_e h) hs) N s s fun _ _ => rfl
def zP_solve (σ : zSt) (f : Int32) (r : Int32) (v_ : Int32) (σ' : zSt) : Prop := ((zmx σ.2.1 f = none ∨ zmx σ.2.2.1 r = none ∨ zfrI σ.2.2.1 24 = iZ (-1) ∨ ∀ x u, zmx σ.2.1 f = some x → zmx σ.2.2.1 r = some u → (u.1 ≠ x.1 ∨ zans x.2.1 x.2.2.1 x.2.2.2.2.1 x.1 x.2.2.2.2.2.1 u.2 = none)) ∧ v_ = iZ (-1) ∧ σ' = σ) ∨ (∃ (x : zKx) (u : zVx) (k : Nat) (z : Nat → UInt64), zmx σ.2.1 f = some x ∧ zmx σ.2.2.1 r = some u ∧ k < 24 ∧ σ.2.2.1 k = none ∧ zfrI σ.2.2.1 24 = nI k ∧ u.1 = x.1 ∧ (∃ ci, zFvd x.1 x.2.2.2.2.1 x.2.2.2.2.2.1 x.2.2.2.2.2.2.1 ci) ∧ zans x.2.1 x.2.2.1 x.2.2.2.2.1 x.1 x.2.2.2.2.2.1 u.2 = some z ∧ (∀ i, i < x.1 → zUf (z i) = true) ∧ v_ = nI k ∧ σ' = (σ.1, σ.2.1, zupo σ.2.2.1 k (some (x.1, fun i => zUz (z (zciK x i)))), σ.2.2.2))
theorem zpC_solve {S : zS} {K : Option Value → zS → Prop} {o : Nat} {σ : zSt} {f r : Int32} (hC : zCi S o σ) (g : zGd σ) (H : ∀ w_ T σ', zP_solve σ f r w_ σ' → zFr (zRg o) S T → zCi T o σ' → K (some (.int w_)) T) : ct_X10_solve.1 [.ref o, .int f, .int r] S K := by
  rw [zc_X10_solve]
  exact ⟨σ, ⟨hC, g.2.1, g.2.2.2⟩, fun h1 T f c => H _ T _ (Or.inl ⟨h1, rfl, rfl⟩) f c, fun x u k z ci h1 h2 h3 h4 h5 h6 h7 h8 h9 T f c => H _ T _ (Or.inr ⟨x, u, k, z, h1, h2, h3, h4, h5, h6, ⟨ci, h7⟩, h8, h9, rfl, rfl⟩) f (zCi_vx c fun i hi => by rw [zUz_z, zciK_e h7 i hi])⟩
theorem zpM_solve {S : zS} {K : Option Value → zS → Prop} {p : Nat} {σ : zSt} {f r : Int32} (hM : zMi S p σ) (g : zGd σ) (H : ∀ w_ T σ', zP_solve σ f r w_ σ' → zFr (zRm p) S T → zMi T p σ' → K (some (.int w_)) T) : ct_X11_solve.1 [.ref p, .int f, .int r] S K := by
  rw [zc_X11_solve]
  exact ⟨σ, ⟨hM, g.2.1, g.2.2.1, g.2.2.2⟩, fun h1 T f c => H _ T _ (Or.inl ⟨h1, rfl, rfl⟩) f c, fun x u k z ci h1 h2 h3 h4 h5 h6 h7 h8 h9 T f c => H _ T _ (Or.inr ⟨x, u, k, z, h1, h2, h3, h4, h5, h6, ⟨ci, h7⟩, h8, h9, rfl, rfl⟩) f (zMi_vx c fun i hi => by rw [zciK_e h7 i hi])⟩
def zP_inverse (σ : zSt) (f : Int32) (v_ : Int32) (σ' : zSt) : Prop := ((zmx σ.2.1 f = none ∨ zfrI σ.1 24 = iZ (-1) ∨ ∀ x, zmx σ.2.1 f = some x → ∃ j, j < x.1 ∧ zans x.2.1 x.2.2.1 x.2.2.2.2.1 x.1 x.2.2.2.2.2.1 (zuntD j) = none) ∧ v_ = iZ (-1) ∧ σ' = σ) ∨ (∃ (x : zKx) (k : Nat), zmx σ.2.1 f = some x ∧ k < 24 ∧ σ.1 k = none ∧ zfrI σ.1 24 = nI k ∧ (∃ ci, zFvd x.1 x.2.2.2.2.1 x.2.2.2.2.2.1 x.2.2.2.2.2.2.1 ci) ∧ (∀ j, j < x.1 → zans x.2.1 x.2.2.1 x.2.2.2.2.1 x.1 x.2.2.2.2.2.1 (zuntD j) = some (zinv x j)) ∧ v_ = nI k ∧ σ' = (zupo σ.1 k (some (0, x.1, x.1, 0, 0, fun i j => zUz (zinv x j (zciK x i)))), σ.2))
theorem zpC_inverse {S : zS} {K : Option Value → zS → Prop} {o : Nat} {σ : zSt} {f : Int32} (hC : zCi S o σ) (g : zGd σ) (H : ∀ w_ T σ', zP_inverse σ f w_ σ' → zFr (zRg o) S T → zCi T o σ' → K (some (.int w_)) T) : ct_X10_inverse.1 [.ref o, .int f] S K := by
  rw [zc_X10_inverse]
  exact ⟨σ, ⟨hC, g.2.1⟩, fun h1 T f c => H _ T _ (Or.inl ⟨h1, rfl, rfl⟩) f c, fun x k ci z h1 h2 h3 h4 h5 h6 T f c => H _ T _ (Or.inr ⟨x, k, h1, h2, h3, h4, ⟨ci, h5⟩, fun j hj => by rw [zinv_s (h6 j hj).1]; exact (h6 j hj).1, rfl, rfl⟩) f (zCi_mx c fun i j hi hj => by rw [zUz_z, zciK_e h5 i hi, zinv_s (h6 j hj).1])⟩
theorem zpM_inverse {S : zS} {K : Option Value → zS → Prop} {p : Nat} {σ : zSt} {f : Int32} (hM : zMi S p σ) (g : zGd σ) (H : ∀ w_ T σ', zP_inverse σ f w_ σ' → zFr (zRm p) S T → zMi T p σ' → K (some (.int w_)) T) : ct_X11_inverse.1 [.ref p, .int f] S K := by
  rw [zc_X11_inverse]
  exact ⟨σ, ⟨hM, g.2.1, g.2.2.1⟩, fun h1 T f c => H _ T _ (Or.inl ⟨h1, rfl, rfl⟩) f c, fun x k ci z h1 h2 h3 h4 h5 h6 T f c => H _ T _ (Or.inr ⟨x, k, h1, h2, h3, h4, ⟨ci, h5⟩, fun j hj => by rw [zinv_s (h6 j hj).1]; exact (h6 j hj).1, rfl, rfl⟩) f (zMi_mx c fun i j hi hj => by rw [zciK_e h5 i hi, zinv_s (h6 j hj).1])⟩
def zP_refine (σ : zSt) (m : Int32) (f : Int32) (s : Int32) (q : Int32) (c : Int32) (v_ : Int32) (σ' : zSt) : Prop := (¬ zrfo σ m f s q c ∧ v_ = iZ (-1) ∧ σ' = σ) ∨ (∃ (x : zMx) (y : zKx) (u v : zVx) (ks N : Nat), zmx σ.1 m = some x ∧ zmx σ.2.1 f = some y ∧ s = nI ks ∧ ks < 24 ∧ σ.2.2.1 ks = some u ∧ zmx σ.2.2.1 q = some v ∧ x.2.1 = x.2.2.1 ∧ y.1 = x.2.1 ∧ u.1 = x.2.1 ∧ v.1 = x.2.1 ∧ c = nI N ∧ 1 ≤ N ∧ N ≤ 20 ∧ (∃ ci, zFvd y.1 y.2.2.2.2.1 y.2.2.2.2.2.1 y.2.2.2.2.2.2.1 ci) ∧ v_ = nI (zrfN (zrfK y x v) N u.2).1 ∧ σ' = (σ.1, σ.2.1, zupo σ.2.2.1 ks (some (u.1, (zrfN (zrfK y x v) N u.2).2)), σ.2.2.2))
theorem zpC_refine {S : zS} {K : Option Value → zS → Prop} {o : Nat} {σ : zSt} {m f s q c : Int32} (hC : zCi S o σ) (g : zGd σ) (H : ∀ w_ T σ', zP_refine σ m f s q c w_ σ' → zFr (zRg o) S T → zCi T o σ' → K (some (.int w_)) T) : ct_X10_refine.1 [.ref o, .int m, .int f, .int s, .int q, .int c] S K := by
  rw [zc_X10_refine]
  refine ⟨σ, ⟨hC, g.1, g.2.1, g.2.2.2⟩, fun h1 => H _ S σ (Or.inl ⟨h1, rfl, rfl⟩) zFr.refl hC, fun x y u v ks N ci h1 h2 h3 h4 h5 h6 h7 h8 h9 h10 h11 h12 h13 h14 T fr t => ?_⟩
  have e := zrfK_e (x := x) (v := v) h14 N u.2
  rw [e.1]
  exact H _ T _ (Or.inr ⟨x, y, u, v, ks, N, h1, h2, h3, h4, h5, h6, h7, h8, h9, h10, h11, h12, h13, ⟨ci, h14⟩, rfl, rfl⟩) fr (zCi_vx t fun i hi => e.2 i (by omega))
theorem zpM_refine {S : zS} {K : Option Value → zS → Prop} {p : Nat} {σ : zSt} {m f s q c : Int32} (hM : zMi S p σ) (g : zGd σ) (H : ∀ w_ T σ', zP_refine σ m f s q c w_ σ' → zFr (zRm p) S T → zMi T p σ' → K (some (.int w_)) T) : ct_X11_refine.1 [.ref p, .int m, .int f, .int s, .int q, .int c] S K := by
  rw [zc_X11_refine]
  refine ⟨σ, ⟨hM, g.1, g.2.1, g.2.2.1, g.2.2.2⟩, fun h1 => H _ S σ (Or.inl ⟨h1, rfl, rfl⟩) zFr.refl hM, fun x y u v ks N ci h1 h2 h3 h4 h5 h6 h7 h8 h9 h10 h11 h12 h13 h14 T fr t => ?_⟩
  have e := zrfK_e (x := x) (v := v) h14 N u.2
  rw [e.1]
  exact H _ T _ (Or.inr ⟨x, y, u, v, ks, N, h1, h2, h3, h4, h5, h6, h7, h8, h9, h10, h11, h12, h13, ⟨ci, h14⟩, rfl, rfl⟩) fr (zMi_vx t fun i hi => e.2 i (by omega))
-- what determines
theorem zq_k {k k' : Nat} {i : Int32} (h : i = nI k) (h' : i = nI k') (hk : k < 2147483648) (hk' : k' < 2147483648) : k = k' := by
  rw [h] at h'; exact (zN_eq hk hk').mp h'
theorem zq_z {i : Int32} {k : Nat} (h : i = iZ (-1)) (h' : i = nI k) (hk : k < 2147483648) : False := by
  rw [h', nI_z, iZ_eq (by omega) (by omega)] at h; omega
theorem zq_s {α : Type} {M : Nat → Option α} {m : Int32} {k : Nat} {x : α} (h : zmx M m = none) (h1 : m = nI k) (h2 : k < 2147483648) (h3 : M k = some x) : False := by
  rw [h1, zmx_nI h2, h3] at h; cases h
theorem zq_x {α : Type} {M : Nat → Option α} {m : Int32} {k k' : Nat} {x x' : α} (h1 : m = nI k) (h2 : k < 2147483648) (h3 : M k = some x) (h1' : m = nI k') (h2' : k' < 2147483648) (h3' : M k' = some x') : k = k' ∧ x = x' := by
  have e := zq_k h1 h1' h2 h2'
  subst e
  exact ⟨rfl, Option.some.inj (h3.symm.trans h3')⟩
theorem zq_y {α : Type} {M : Nat → Option α} {m : Int32} {x y : α} (h : zmx M m = some x) (h' : zmx M m = some y) : x = y := Option.some.inj (h.symm.trans h')
theorem zq_t {α : Type} {M : Nat → Option α} {m : Int32} {k : Nat} {x : α} (h1 : m = nI k) (h2 : k < 24) (h3 : M k = some x) : zmx M m = some x := by rw [h1, zmx_nI (by omega)]; exact h3
theorem zq_n {α : Type} {M : Nat → Option α} {m : Int32} {x : α} (h : zmx M m = none) (h' : zmx M m = some x) : False := by rw [h] at h'; cases h'
theorem zftt_t {σ : zSt} {r c : Nat} {s q : Int32} {u v : zVx} (h1 : zmx σ.2.2.1 s = some u) (h2 : zmx σ.2.2.1 q = some v) (h3 : u.1 = c) (h4 : v.1 = r) : zftt σ r c s q = true := by
  unfold zftt
  rw [h1, h2]
  dsimp only
  rw [decide_eq_true h3, decide_eq_true h4]; rfl
theorem zMi_b {S : zS} {p k : Nat} {σ : zSt} {x : zMx} (hM : zMi S p σ) (h : σ.1 k = some x) : x.1 ≤ 4 ∧ x.2.1 ≤ 8 ∧ x.2.2.1 ≤ 8 ∧ x.2.2.2.1 ≤ 8 ∧ x.2.2.2.2.1 ≤ 8 := by
  have hk : k < 24 := Nat.lt_of_not_le fun q => by rw [hM.2.1.2 k q] at h; cases h
  exact ((hM.2.1.1 k hk).2 x h).2.2
theorem zGd_x {S : zS} {o : Nat} {σ : zSt} {m : Int32} {x : zMx} (g : zGd σ) (hC : zCi S o σ) (h : zmx σ.1 m = some x) : zMg x ∧ (1 ≤ x.2.1 ∧ x.2.1 ≤ 8) ∧ 1 ≤ x.2.2.1 ∧ x.2.2.1 ≤ 8 := by
  obtain ⟨k, hk⟩ := zmx_k h
  have b := zCi_b hC hk
  have gx := g.1 k x hk
  have n1 := zMg_1 gx b.2.1 b.2.2.1
  exact ⟨gx, ⟨n1.1, b.2.1⟩, n1.2, b.2.2.1⟩
end ZSP2
