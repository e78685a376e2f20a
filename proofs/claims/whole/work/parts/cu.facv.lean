/-! facts of the states: vectors, and what bytes tell -/
section ZGDV
theorem zrb_fin {A B : Nat} (hA : A < 2 ^ 860) (hB : 0 < B) (hB8 : B < 2 ^ 860) : zrb false A B 0 < 9218868437227405312 := by
  by_cases h0 : A = 0
  · unfold zrb; rw [if_pos h0]; decide
  · have hA0 : 0 < A := by omega
    have b := (zqu_bd (up := false) (A := A) (B := B) (e := 0) hA0 hB).1
    have hq : zqu A B 0 ≤ 807 := by
      have u1 : FP.Core.unitsNum A 0 (-861) = A * 2 ^ 861 := by unfold FP.Core.unitsNum; rw [show ((0 : Int) - -861).toNat = 861 by omega]
      have u2 : FP.Core.unitsDen B 0 (-861) = B := by unfold FP.Core.unitsDen; rw [show ((-861 : Int) - 0).toNat = 0 by omega, Nat.pow_zero, Nat.mul_one]
      obtain ⟨m, hm⟩ : ∃ m, A * 2 ^ 861 / B = m := ⟨_, rfl⟩
      have hm0 : 0 < m := by
        rw [← hm]
        refine Nat.div_pos ?_ hB
        have h1 : 2 ^ 860 ≤ 2 ^ 861 := Nat.pow_le_pow_right (by decide) (by decide)
        have h2 : 2 ^ 861 ≤ A * 2 ^ 861 := Nat.le_mul_of_pos_left _ hA0
        exact Nat.le_trans (Nat.le_of_lt hB8) (Nat.le_trans h1 h2)
      have hm1 : m < 2 ^ 1721 := by
        have h1 : m ≤ A * 2 ^ 861 := by rw [← hm]; exact Nat.div_le_self _ _
        have h2 : A * 2 ^ 861 < 2 ^ 860 * 2 ^ 861 := Nat.mul_lt_mul_of_pos_right hA (Nat.pow_pos (by decide))
        rw [← Nat.pow_add] at h2
        exact Nat.lt_of_le_of_lt h1 h2
      have hl : zbl m ≤ 1721 := Nat.le_of_not_lt fun q => by
        have h1 := zbl_le hm0
        have h2 : 2 ^ 1721 ≤ 2 ^ (zbl m - 1) := Nat.pow_le_pow_right (by decide) (by omega)
        exact absurd (Nat.lt_of_lt_of_le hm1 (Nat.le_trans h2 h1)) (Nat.lt_irrefl _)
      rw [zqu_rep (m := m) (sc := -861) hA0 hB (by rw [u1, u2]; exact hm) hm0]
      clear hm1 hA hB8 hm u1 u2 b
      omega
    clear hA hB8
    unfold zrb
    rw [if_neg h0, if_pos (by omega)]
    generalize zrn false (FP.Core.unitsNum A 0 (zqu A B 0)) (FP.Core.unitsDen B 0 (zqu A B 0)) = c at b ⊢
    have : (zqu A B 0 + 1074).toNat ≤ 1881 := by omega
    omega
theorem zratF {v w : Int} (hv8 : v.natAbs < 2 ^ 860) (hw8 : w.natAbs < 2 ^ 860) : zUf (UInt64.ofNat (zrat v w 0 false)) = true := by
  by_cases h : v = 0 ∨ w = 0
  · rw [show zrat v w 0 false = 0 by unfold zrat; rw [if_pos h]]; decide
  · have hv : v ≠ 0 := fun q => h (Or.inl q)
    have hw : w ≠ 0 := fun q => h (Or.inr q)
    rw [zrat_a hv hw]
    have f := zrb_fin hv8 (B := w.natAbs) (by clear hv8 hw8; omega) hw8
    clear hv8 hw8
    generalize zrb false v.natAbs w.natAbs 0 = r at f
    rw [zUf_m]
    cases decide (v.sign ≠ w.sign) with
    | true =>
      rw [show Bool.toNat true * 9223372036854775808 + r = 9223372036854775808 + r by simp, zu_of (by omega)]
      omega
    | false =>
      rw [show Bool.toNat false * 9223372036854775808 + r = r by simp, zu_of (by omega)]
      omega
theorem zsoV_f {m n : Nat} {g : Nat → Nat → UInt64} {h : Nat → UInt64} (hm : m ≤ 8) (hg : zMla m n g = true) (hh : ∀ i, i < m → zUla (h i) = true) (hs : zsol m n g h = 2) {i : Nat} (hi : i < n) : zUf (UInt64.ofNat (zsoV m n g h i)) = true := by
  have bd := zbz_bd hm (zsyA_bd (u := -60) (n := n) (g := g) (h := h) (by decide) (fun i j hi hj => zbal_t.mp (zbal_t.mp hg i hi) j hj) hh) n
  have r := zsol_2 hs
  unfold zsoV
  exact zratF (bd.1 i n (by have := bd.2.2.2; omega)) (bd.1 i i (by have := bd.2.2.2; omega))
theorem znuv_f {m n : Nat} {g : Nat → Nat → UInt64} (hm : m ≤ 8) (hg : zMla m n g = true) {col i : Nat} (hi : i < n) : zUf (UInt64.ofNat (znuv m n (zsyA (-60) n g fun _ => 0) col i)) = true := by
  have bd := zbz_bd hm (zsyA_bd (u := -60) (n := n) (g := g) (h := fun _ => 0) (by decide) (fun i j hi hj => zbal_t.mp (zbal_t.mp hg i hi) j hj) fun _ _ => zUla_0) n
  unfold znuv
  by_cases hp : zpvb m (zsyA (-60) n g fun _ => 0) i = true
  · rw [if_pos hp]
    have z := ((zbpc_rk n).2 i hi hp).1
    have z2 : zrk m (zsyA (-60) n g fun _ => 0) n ≤ m := bd.2.2.2
    refine zratF ?_ bd.2.1
    rw [Int.natAbs_neg]
    exact bd.1 _ col (by omega)
  · rw [if_neg hp]
    by_cases hc : i = col
    · rw [if_pos hc]; decide +kernel
    · rw [if_neg hc]; decide +kernel
/-- refining keeps vectors as they are to be -/
theorem zrfs_g {me : Nat} {fu : Bool} {w : Nat → Nat → UInt64} {n : Nat} {ro ci : Nat → Nat} {g : Nat → Nat → UInt64} {rr cu nx : Nat → UInt64} (hz : ∀ i z, zans me fu w n ro (zrns g rr cu n) = some z → i < n → zUf (z (ci i)) = true) (hc : ∀ i, i < n → zUf (cu i) = true ∧ zUz (cu i) = cu i) (h : zrfs me fu w n ro ci g rr cu = some nx) : ∀ i, i < n → zUf (nx i) = true ∧ zUz (nx i) = nx i := by
  unfold zrfs at h
  split at h
  · split at h
    · cases h
    · rename_i z hzz
      split at h
      · rename_i hf
        split at h
        · cases h
          intro i hi
          refine ⟨zbal_t.mp hf i hi, ?_⟩
          exact zdadd_k (hc i hi).1 (by rw [zUf_z]; exact hz i z hzz hi) (hc i hi).2
        · cases h
      · cases h
  · cases h
theorem zrfN_g {f : (Nat → UInt64) → Option (Nat → UInt64)} {P : (Nat → UInt64) → Prop} (h : ∀ s s', P s → f s = some s' → P s') : ∀ (k : Nat) (s : Nat → UInt64), P s → P (zrfN f k s).2
  | 0, s, hs => hs
  | k + 1, s, hs => by
    cases hf : f s with
    | none => rw [zrfN_n hf]; exact hs
    | some nx => rw [zrfN_s hf]; exact zrfN_g h k nx (h s nx hs hf)
/-- what a row of bytes tells is a matrix -/
theorem zmb_fz {v : Nat} (h : zmb v = true) (hv : v < 18446744073709551616) : zUf (zUz (UInt64.ofNat v)) = true := by
  unfold zmb at h
  rw [Bool.and_eq_true] at h
  rw [zUf_z, zUf_t, zu_of hv]
  exact of_decide_eq_true h.1
def zpg (f r c a b : Nat) (g : Nat → Nat → UInt64) : Prop := ∀ i j, zUf (g i j) = true ∧ zUz (g i j) = g i j ∧ (zpl f a b i j = false → g i j = 0)
theorem zpg_S {f r c a b i j : Nat} {g : Nat → Nat → UInt64} {v : UInt64} (h : zpg f r c a b g) (hp : zpl f a b i j = true) (hv : zUf (zUz v) = true) : zpg f r c a b (zgS g i j (zUz v)) := fun p q => by
  unfold zgS
  by_cases e : p = i ∧ q = j
  · rw [if_pos e]
    exact ⟨hv, zUz_z _, fun z => by rw [e.1, e.2, hp] at z; cases z⟩
  · rw [if_neg e]; exact h p q
theorem zrp_g {tp : List Nat} {f a b r c : Nat} {s s1 : Nat × (Nat → Nat → UInt64)} (hb : ∀ p, zbv tp p 8 < 18446744073709551616) (hs : zpg f r c a b s.2) (h : zrp tp f a b r c s = some s1) : zpg f r c a b s1.2 := by
  unfold zrp at h
  refine zeu_inv (P := fun s : Nat × (Nat → Nat → UInt64) => zpg f r c a b s.2) hs (fun i s s' _ _ hs h => ?_) h
  unfold zrpR at h
  refine zeu_inv (P := fun s : Nat × (Nat → Nat → UInt64) => zpg f r c a b s.2) hs (fun j s s' _ _ hs h => ?_) h
  unfold zrps at h
  split at h
  · rename_i hp
    split at h
    · rename_i hz
      cases h
      exact zpg_S hs hp (zmb_fz hz.2 (hb _))
    · cases h
  · cases h; exact hs
theorem zrsr_g {tp : List Nat} {f r c a b pos : Nat} {g : Nat → Nat → UInt64} {s1 : Nat × Int × (Nat → Nat → UInt64)} (hf : f = 3) (hb : ∀ p, zbv tp p 8 < 18446744073709551616) (hs : zpg f r c a b g) (h0 : zfil0 r c g = 0) (h : zrsr tp r c pos g = some s1) : zpg f r c a b s1.2.2 ∧ zfil0 r c s1.2.2 ≤ 20 := by
  have pl : ∀ i j, zpl f a b i j = true := fun i j => by rw [hf]; rfl
  unfold zrsr at h
  split at h
  · rename_i hl
    have z := zeu_ivp (N := tp.getD pos 0) (P := fun k (s : Nat × Int × (Nat → Nat → UInt64)) => zpg f r c a b s.2.2 ∧ zfil0 r c s.2.2 ≤ k) (fun i s s' _ hs h => by
      unfold zrss at h
      split at h
      · rename_i hz
        cases h
        refine ⟨zpg_S hs.1 (pl _ _) (zmb_fz hz.2.2.2.1 (hb _)), ?_⟩
        show zfil0 r c (zgS s.2.2 (tp.getD s.1 0) (tp.getD (s.1 + 1) 0) (zUz (UInt64.ofNat (zbv tp (s.1 + 2) 8)))) ≤ i + 1
        have q := zfil0_u (g := s.2.2) (v := zUz (UInt64.ofNat (zbv tp (s.1 + 2) 8))) hz.1 hz.2.1
        have q2 := hs.2
        by_cases e1 : s.2.2 (tp.getD s.1 0) (tp.getD (s.1 + 1) 0) = 0
        · rw [if_pos e1] at q
          split at q <;> omega
        · rw [if_neg e1] at q
          split at q <;> omega
      · cases h) 0 (Nat.zero_le _) _ ⟨hs, Nat.le_of_eq h0⟩ h
    exact ⟨z.1, Nat.le_trans z.2 hl.1⟩
  · cases h
theorem zrdM_g {tp : List Nat} {x : zMx} (hb : ∀ b, b ∈ tp → b < 256) (h : zrdM tp = some x) : zMg x := by
  have hbv : ∀ p, zbv tp p 8 < 18446744073709551616 := fun p => zbv_lt hb p 8
  have z0 : ∀ f r c a b, zpg f r c a b fun _ _ => 0 := fun f r c a b i j => ⟨(by decide : zUf 0 = true), (by decide : zUz 0 = 0), fun _ => rfl⟩
  unfold zrdM at h
  split at h
  · rename_i hs
    have hs := hs.2.2.2.2
    split at h
    · rename_i h3
      split at h
      · rename_i p q g hg
        split at h
        · cases h
          have z := zrsr_g h3 hbv (z0 _ _ _ (tp.getD 4 0) (tp.getD 5 0)) (zfil0_0 _ _) hg
          exact ⟨hs, fun i j _ _ => z.1 i j, fun _ => z.2⟩
        · cases h
      · cases h
    · rename_i h3
      split at h
      · rename_i p g hg
        split at h
        · cases h
          have z := zrp_g hbv (z0 _ (tp.getD 2 0) (tp.getD 3 0) _ _) hg
          exact ⟨hs, fun i j _ _ => z i j, fun q => absurd q h3⟩
        · cases h
      · cases h
  · cases h
end ZGDV
