/-! facts of the states: factors -/
section ZGDF
theorem zfu_Q {α : Type} {f : Nat → α → α} {P : α → Prop} {N i0 : Nat} (h : ∀ i s, i0 ≤ i → i < N → P s → P (f i s)) : ∀ i, i ≤ N → i0 ≤ i → ∀ s, P s → P (zfu f i N s) := by
  refine zlp fun i hi ih h0 s hs => ?_
  by_cases hin : i < N
  · rw [zfu_s hin]; exact ih hin (by omega) _ (h i s h0 hin hs)
  · rw [zfu_e (by omega)]; exact hs
theorem zsel_ge {w : Nat → Nat → UInt64} {k n e : Nat} (hk : k ≤ n) (he : k ≤ e) : k ≤ (zsel w k n e).1 ∧ k ≤ (zsel w k n e).2 := by
  unfold zsel
  refine zfu_Q (P := fun rc : Nat × Nat => k ≤ rc.1 ∧ k ≤ rc.2) (i0 := k) (fun i s h0 hi hs => ?_) k hk (Nat.le_refl _) (k, k) ⟨Nat.le_refl _, Nat.le_refl _⟩
  refine zfu_Q (P := fun rc : Nat × Nat => k ≤ rc.1 ∧ k ≤ rc.2) (i0 := k) (fun j s h1 hj hs => ?_) k he (Nat.le_refl _) s hs
  unfold zslf
  split
  · exact hs
  · exact ⟨h0, h1⟩
theorem zprc_b {me n k : Nat} {w : Nat → Nat → UInt64} (hk : k < n) : (k ≤ (zprc me n k w).1 ∧ (zprc me n k w).1 < n) ∧ k ≤ (zprc me n k w).2 ∧ (zprc me n k w).2 < n := by
  unfold zprc
  split
  · exact ⟨⟨Nat.le_refl _, hk⟩, Nat.le_refl _, hk⟩
  · have he : k ≤ zpve me n k ∧ zpve me n k ≤ n := by unfold zpve; split <;> omega
    have a := zsel_ge (w := w) (Nat.le_of_lt hk) he.1
    have b := zsel_lt (w := w) hk he.2
    exact ⟨⟨a.1, b.1⟩, a.2, b.2⟩
def zxch (k q a : Nat) : Nat := if a = k then q else if a = q then k else a
theorem zxch_i (k q a : Nat) : zxch k q (zxch k q a) = a := by
  unfold zxch
  by_cases h1 : a = k
  · rw [if_pos h1]
    by_cases h2 : q = k
    · rw [if_pos h2]; omega
    · rw [if_neg h2, if_pos rfl]; omega
  · rw [if_neg h1]
    by_cases h2 : a = q
    · rw [if_pos h2, if_pos rfl]; omega
    · rw [if_neg h2, if_neg h1, if_neg h2]
theorem zxch_lt {k q a n : Nat} (hk : k < n) (hq : q < n) (ha : a < n) : zxch k q a < n := by
  unfold zxch
  split
  · exact hq
  · split
    · exact hk
    · exact ha
theorem zpS_x (p : Nat → Nat) (k q a : Nat) : zpS p k q a = p (zxch k q a) := by
  unfold zpS zxch
  split
  · rfl
  · split <;> rfl
def zPm (n : Nat) (co : Nat → Nat) : Prop := (∀ i, i < n → co i < n) ∧ ∃ ci : Nat → Nat, ∀ j, j < n → ci j < n ∧ co (ci j) = j ∧ ci (co j) = j
theorem zPm_S {n k q : Nat} {co : Nat → Nat} (hk : k < n) (hq : q < n) (h : zPm n co) : zPm n (zpS co k q) := by
  obtain ⟨h1, ci, h2⟩ := h
  refine ⟨fun i hi => by rw [zpS_x]; exact h1 _ (zxch_lt hk hq hi), fun j => zxch k q (ci j), fun j hj => ?_⟩
  obtain ⟨a1, a2, a3⟩ := h2 j hj
  refine ⟨zxch_lt hk hq a1, ?_, ?_⟩
  · rw [zpS_x, zxch_i]; exact a2
  · dsimp only
    rw [zpS_x, (h2 _ (zxch_lt hk hq hj)).2.2, zxch_i]
def zSq (n k : Nat) (x : zFx) : Prop := (∀ i, i < n → x.2.1 i < n) ∧ zPm n x.2.2.1 ∧ ∀ i, i < k → zUn (x.1 i i) = true
theorem zstp_q {me n k : Nat} {fu : Bool} {x y : zFx} (hk : k < n) (h : zSq n k x) (hs : zstp me fu n k x = some y) : zSq n (k + 1) y := by
  obtain ⟨h1, h2, h3⟩ := h
  obtain ⟨⟨r0, r1⟩, c0, c1⟩ := zprc_b (me := me) (w := x.1) hk
  have e := zpvt_e (me := me) (n := n) (k := k) (x := x)
  unfold zstp at hs
  rw [e] at hs
  generalize (zprc me n k x.1).1 = r at *
  generalize (zprc me n k x.1).2 = q at *
  dsimp only at hs
  split at hs
  · rename_i hd
    split at hs
    · rename_i w hw
      cases hs
      have keep : ∀ a, a ≤ k → ∀ b, w a b = zwC (zwR x.1 k r) k q a b := zeu_inv (P := fun v : Nat → Nat → UInt64 => ∀ a, a ≤ k → ∀ b, v a b = zwC (zwR x.1 k r) k q a b) (fun _ _ _ => rfl) (fun j s s' hj _ hs hf a ha b => by rw [zwr_row hf a b (by omega)]; exact hs a ha b) hw
      refine ⟨fun i hi => ?_, zPm_S hk c1 h2, fun i hi => ?_⟩
      · show zpS x.2.1 k r i < n
        rw [zpS_x]; exact h1 _ (zxch_lt hk r1 hi)
      · show zUn (w i i) = true
        rw [keep i (by omega) i]
        by_cases hik : i = k
        · rw [hik]; exact hd
        · show zUn (if i = k then _ else if i = q then _ else if i = k then _ else if i = r then _ else x.1 i i) = true
          rw [if_neg hik, if_neg (by omega), if_neg hik, if_neg (by omega)]
          exact h3 i (by omega)
    · cases hs
  · cases hs
theorem zek_ivp {α : Type} {f : Nat → α → Option α} {N : Nat} {P : Nat → α → Prop} (h : ∀ i s s', i < N → P i s → f i s = some s' → P (i + 1) s') {s1 : α} : ∀ i, i ≤ N → ∀ s, P i s → zek f i N s = .inr s1 → P N s1 := by
  refine zlp fun i hi ih s hp he => ?_
  by_cases hin : i < N
  · cases hs : f i s with
    | none => rw [zek_n hin hs] at he; cases he
    | some s' =>
      rw [zek_s hin hs] at he
      exact ih hin s' (h i s s' hin hp hs) he
  · rw [zek_e (by omega)] at he
    cases he
    rw [show N = i by omega]; exact hp
def zSr (n i : Nat) (u : Nat → Nat → UInt64) : Prop := (∀ a b, a < n → b < n → zUf (u a b) = true) ∧ ∀ a, a < i → zUn (u a a) = true
theorem zrow_q {fu : Bool} {n i : Nat} {u u' : Nat → Nat → UInt64} (hi : i < n) (h : zSr n i u) (hs : zrow fu i u = some u') : zSr n (i + 1) u' := by
  unfold zrow at hs
  have z := zeu_ivp (N := i + 1) (P := fun j (v : Nat → Nat → UInt64) => (∀ a b, a < n → b < n → zUf (v a b) = true) ∧ (∀ a, a < i → zUn (v a a) = true) ∧ (i < j → zUn (v i i) = true)) (fun j s s' hj hp hf => by
    obtain ⟨p1, p2, p3⟩ := hp
    obtain ⟨x, rfl, hx, hn⟩ := zrst_w (fun k hk => ⟨p1 i k hi (by omega), p1 j k (by omega) (by omega)⟩) (p1 i j hi (by omega)) hf
    refine ⟨fun a b ha hb => ?_, fun a ha => ?_, fun q => ?_⟩
    · show zUf (if a = i ∧ b = j then x else s a b) = true
      split
      · exact hx
      · exact p1 a b ha hb
    · show zUn (if a = i ∧ a = j then x else s a a) = true
      rw [if_neg (by omega)]; exact p2 a ha
    · show zUn (if i = i ∧ i = j then x else s i i) = true
      rw [if_pos ⟨rfl, by omega⟩]; exact hn (by omega)) 0 (Nat.zero_le _) u ⟨h.1, h.2, fun q => absurd q (Nat.not_lt_zero _)⟩ hs
  refine ⟨z.1, fun a ha => ?_⟩
  by_cases hai : a = i
  · rw [hai]; exact z.2.2 (by omega)
  · exact z.2.1 a (by omega)
theorem zgs_pos {n i j : Nat} {g : Nat → Nat → UInt64} (hi : i < n) (hj : j < n) (h : zUn (g i j) = true) (hf : ∀ a b, a < n → b < n → zUf (g a b) = true) : zUf (UInt64.ofNat (zgs n n g)) = true ∧ zUn (UInt64.ofNat (zgs n n g)) = true := by
  have ge := zgs_ge (g := g) hi hj
  have le : zgs n n g ≤ 9218868437227405311 := zgs_le fun a b ha hb => by have := zmg_f (hf a b ha hb); omega
  have h0 : 0 < zmg (g i j) := by rw [zUn_t, Ne, zmt_0] at h; unfold zmg; omega
  refine ⟨zUf_of (by omega), ?_⟩
  rw [zUn_t, zu_of (by omega), Ne, zmt_0]
  omega
theorem zmkF_g {me n : Nat} {fu : Bool} {g : Nat → Nat → UInt64} {y : zKx} (h1 : 1 ≤ n) (h8 : n ≤ 8) (hme : me < 4) (hg : ∀ i j, i < n → j < n → zUf (g i j) = true) (h : zmkF me fu n g = .inr y) (hfin : ∀ a b, a < y.1 → b < y.1 → zUf (y.2.2.2.2.1 a b) = true) : zKg y ∧ zKf y := by
  unfold zmkF at h
  by_cases h3 : me = 3
  · rw [if_pos h3] at h
    split at h
    · cases h
    · rename_i u hu
      cases h
      have q := zek_ivp (P := fun i (u : Nat → Nat → UInt64) => zSr n i u ∧ ∀ a b, a < b → u a b = zlw g a b) (fun i s s' hi hp hs => ⟨zrow_q hi hp.1 hs, fun a b hab => by rw [zrow_up hs hab]; exact hp.2 a b hab⟩) 0 (Nat.zero_le _) (zlw g) ⟨⟨fun a b ha hb => by
        unfold zlw
        split
        · decide
        · exact hg a b ha hb, fun a ha => absurd ha (Nat.not_lt_zero _)⟩, fun _ _ _ => rfl⟩ hu
      have e0 : zlw g 0 0 = g 0 0 := if_neg (by omega)
      have g0 : zUn (g 0 0) = true := by
        cases hz : zUn (g 0 0) with
        | true => rfl
        | false =>
          have st : zrst fu 0 0 (zlw g) = none := by
            unfold zrst
            rw [zeu_e (Nat.le_refl 0)]
            dsimp only
            rw [if_pos rfl, if_pos (by rw [e0, (zky_0 _).mpr hz]; exact Int.le_refl _)]
          have rw0 : zrow fu 0 (zlw g) = none := by
            unfold zrow
            exact zeu_n (by decide) st
          rw [zek_n (by omega) rw0] at hu
          cases hu
      have gp := zgs_pos (i := 0) (j := 0) (by omega) (by omega) g0 hg
      refine ⟨⟨⟨h1, h8, (by decide : 3 < 4)⟩, ⟨fun k => k, fun i hi => ⟨q.1.2 i hi, hi, hi⟩, fun j hj => ⟨hj, rfl, rfl⟩⟩, gp.1, gp.2⟩, fun a b ha hb => ⟨hfin a b ha hb, fun _ hab => ?_⟩, fun _ => rfl⟩
      show u a b = 0
      rw [q.2 a b hab]; exact if_pos hab
  · rw [if_neg h3] at h
    split at h
    · cases h
    · rename_i z hz
      cases h
      have q := zek_ivp (P := fun k (x : zFx) => zSq n k x) (fun k s s' hk hp hs => zstp_q hk hp hs) 0 (Nat.zero_le _) (g, zFid, zFid, false) ⟨fun i hi => hi, ⟨fun i hi => hi, fun j => j, fun j hj => ⟨hj, rfl, rfl⟩⟩, fun i hi => absurd hi (Nat.not_lt_zero _)⟩ hz
      have gp : zUf (UInt64.ofNat (zgs n n g)) = true ∧ zUn (UInt64.ofNat (zgs n n g)) = true := by
        obtain ⟨⟨r0, r1⟩, c0, c1⟩ := zprc_b (me := me) (w := g) (show 0 < n by omega)
        cases hp : zUn ((zpvt me n 0 (g, zFid, zFid, false)).1 0 0) with
        | true =>
          rw [zpvt_e] at hp
          exact zgs_pos r1 c1 hp hg
        | false =>
          have st : zstp me fu n 0 (g, zFid, zFid, false) = none := by
            unfold zstp
            rw [if_neg (by rw [hp]; decide)]
          rw [zek_n (by omega) st] at hz
          cases hz
      obtain ⟨q1, ⟨q2, ci, q3⟩, q4⟩ := q
      exact ⟨⟨⟨h1, h8, hme⟩, ⟨ci, fun i hi => ⟨q4 i hi, q1 i hi, q2 i hi⟩, q3⟩, gp.1, gp.2⟩, fun a b ha hb => ⟨hfin a b ha hb, fun h => absurd h h3⟩, fun h => absurd h h3⟩
end ZGDF
