/-! the class's elimination: writeNullVector, determinants */ -/
section ZNUL
/-- the rank at column c -/
def zrk (m : Nat) (A : Nat → Nat → Int) (c : Nat) : Nat := (zbz m A c).2.1
def zpvb (m : Nat) (A : Nat → Nat → Int) (c : Nat) : Bool := decide (zbp m c (zbz m A c).1 (zbz m A c).2.1 < m)
theorem zrk_s (m : Nat) (A : Nat → Nat → Int) (c : Nat) : zrk m A (c + 1) = zrk m A c + (if zpvb m A c = true then 1 else 0) := by
  unfold zrk zpvb
  show (zbst m c (zbz m A c)).2.1 = _
  unfold zbst
  split
  · rw [if_pos (decide_eq_true (by assumption))]
  · rw [if_neg (by rw [decide_eq_true_eq]; assumption)]; rfl
theorem zbpc_s (m : Nat) (A : Nat → Nat → Int) (c t : Nat) : zbpc m A (c + 1) t = if zpvb m A c = true ∧ t = zrk m A c then c else zbpc m A c t := by
  show (if zbp m c (zbz m A c).1 (zbz m A c).2.1 < m then fun t => if t = (zbz m A c).2.1 then c else zbpc m A c t else zbpc m A c) t = _
  unfold zpvb zrk
  by_cases h : zbp m c (zbz m A c).1 (zbz m A c).2.1 < m
  · rw [if_pos h]
    by_cases h2 : t = (zbz m A c).2.1
    · exact (if_pos h2).trans (if_pos ⟨decide_eq_true h, h2⟩).symm
    · exact (if_neg h2).trans (if_neg (fun q => h2 q.2)).symm
  · rw [if_neg h, if_neg (fun q => h (of_decide_eq_true q.1))]
/-- pivot rows and pivot columns tell each other -/
theorem zbpc_rk {m : Nat} {A : Nat → Nat → Int} : ∀ n, (∀ t, t < zrk m A n → zbpc m A n t < n ∧ zpvb m A (zbpc m A n t) = true ∧ zrk m A (zbpc m A n t) = t) ∧ ∀ c, c < n → zpvb m A c = true → zrk m A c < zrk m A n ∧ zbpc m A n (zrk m A c) = c
  | 0 => ⟨fun t h => absurd h (Nat.not_lt_zero _), fun c h => absurd h (Nat.not_lt_zero _)⟩
  | n + 1 => by
    obtain ⟨ih1, ih2⟩ := zbpc_rk (m := m) (A := A) n
    have e := zrk_s m A n
    constructor
    · intro t ht
      rw [zbpc_s]
      by_cases h : zpvb m A n = true ∧ t = zrk m A n
      · rw [if_pos h]; exact ⟨Nat.lt_succ_self n, h.1, h.2.symm⟩
      · rw [if_neg h]
        have ht2 : t < zrk m A n := by
          rw [e] at ht
          split at ht
          · rename_i hp
            by_cases h3 : t = zrk m A n
            · exact absurd ⟨hp, h3⟩ h
            · omega
          · omega
        obtain ⟨q1, q2, q3⟩ := ih1 t ht2
        exact ⟨by omega, q2, q3⟩
    · intro c hc hp
      rw [zbpc_s]
      by_cases hcn : c = n
      · subst hcn
        rw [if_pos ⟨hp, rfl⟩, e, if_pos hp]; omega
      · obtain ⟨q1, q2⟩ := ih2 c (by omega) hp
        rw [if_neg (by omega), e]
        exact ⟨by omega, q2⟩
theorem zrk_le (m : Nat) (A : Nat → Nat → Int) : ∀ n, zrk m A n ≤ n
  | 0 => Nat.le_refl 0
  | n + 1 => by
    have := zrk_le m A n
    rw [zrk_s]; split <;> omega
/-- all columns have pivots -/
theorem zrk_full {m : Nat} {A : Nat → Nat → Int} : ∀ {n : Nat}, zrk m A n = n → ∀ t, t < n → zpvb m A t = true ∧ zrk m A t = t ∧ zbpc m A n t = t
  | 0, _, t, h => absurd h (Nat.not_lt_zero _)
  | n + 1, h, t, ht => by
    have e := zrk_s m A n
    have l := zrk_le m A n
    have hp : zpvb m A n = true := by
      by_cases hp : zpvb m A n = true
      · exact hp
      · rw [if_neg hp] at e; omega
    have hn : zrk m A n = n := by rw [if_pos hp] at e; omega
    rw [zbpc_s]
    by_cases htn : t = n
    · subst htn
      exact ⟨hp, hn, if_pos ⟨hp, hn.symm⟩⟩
    · obtain ⟨q1, q2, q3⟩ := zrk_full hn t (by omega)
      exact ⟨q1, q2, by rw [if_neg (by omega)]; exact q3⟩
/-- the same of a matrix in other units -/
theorem zpvb_scl {m s n : Nat} {A A' : Nat → Nat → Int} (hA : ∀ j i, i < m → (A j i).natAbs ≤ 2 ^ 102) (hs : ∀ j i, i < m → A' j i = 2 ^ s * A j i) (c : Nat) : zrk m A' c = zrk m A c ∧ zpvb m A' c = zpvb m A c := by
  obtain ⟨q1, q2, q3, q4⟩ := zbz_scl (B := 2 ^ 102) (A := A) (A' := A') (e := fun _ => s) (s := s) (n := c) Nat.one_le_two_pow hA hs (fun _ _ => rfl) c (Nat.le_refl _)
  refine ⟨q1, ?_⟩
  unfold zpvb
  rw [q1]
  have e : zbp m c (zbz m A' c).1 (zbz m A c).2.1 = zbp m c (zbz m A c).1 (zbz m A c).2.1 := by
    unfold zbp
    have hr := (zbz_piv (B := 2 ^ 102) Nat.one_le_two_pow hA c).1
    refine zfp_congr fun k h1 h2 => ?_
    rw [q4 k c (by omega)]
    refine decide_eq_decide.mpr ⟨fun h h3 => h (by rw [h3, Int.mul_zero]), fun h h3 => ?_⟩
    rcases Int.mul_eq_zero.mp h3 with h3 | h3
    · exact absurd h3 (Int.ne_of_gt (z2pp _))
    · exact h h3
  rw [e]
/-- null vector k: its column, and its numbers -/
def znuc (m n : Nat) (A : Nat → Nat → Int) (k : Int) : Int := zfk (fun c => !zpvb m A c) k n 0 0
def znuv (m n : Nat) (A : Nat → Nat → Int) (col j : Nat) : Nat := if zpvb m A j = true then zrat (-((zbz m A n).1 (zrk m A j) col)) (zbz m A n).2.2.1 0 false else if j = col then 4607182418800017408 else 0
theorem znuv_scl {m s n : Nat} {A A' : Nat → Nat → Int} (hA : ∀ j i, i < m → (A j i).natAbs ≤ 2 ^ 102) (hs : ∀ j i, i < m → A' j i = 2 ^ s * A j i) {col j : Nat} (hj : j < n) : znuv m n A' col j = znuv m n A col j := by
  obtain ⟨q1, q2, q3, q4⟩ := zbz_scl (B := 2 ^ 102) (A := A) (A' := A') (e := fun _ => s) (s := s) (n := n) Nat.one_le_two_pow hA hs (fun _ _ => rfl) n (Nat.le_refl _)
  obtain ⟨p1, p2⟩ := zpvb_scl (n := n) hA hs j
  unfold znuv
  rw [p1, p2, q2]
  by_cases hp : zpvb m A j = true
  · rw [if_pos hp, if_pos hp]
    obtain ⟨r1, r2⟩ := (zbpc_rk (m := m) (A := A) n).2 j hj hp
    have hm := (zbz_piv (B := 2 ^ 102) Nat.one_le_two_pow hA n).1
    have hrm : zrk m A j < m := Nat.lt_of_lt_of_le r1 hm
    rw [q4 _ col hrm, ← Int.mul_neg]
    refine zrat_scl ?_
    unfold zkap
    rw [if_pos (show zrk m A j < (zbz m A n).2.1 from r1)]
    have : 1 ≤ (zbz m A n).2.1 := Nat.lt_of_le_of_lt (Nat.zero_le _) r1
    obtain ⟨y, hy⟩ : ∃ y, (zbz m A n).2.1 = y + 1 := ⟨(zbz m A n).2.1 - 1, by omega⟩
    rw [hy, Nat.add_sub_cancel, Nat.mul_add, Nat.mul_one]; omega
  · rw [if_neg hp, if_neg hp]
theorem zfk_congr {fr fr' : Nat → Bool} {k : Int} : ∀ {f c s : Nat}, (∀ x, c ≤ x → x < c + f → fr x = fr' x) → zfk fr k f c s = zfk fr' k f c s
  | 0, _, _, _ => rfl
  | f + 1, c, s, h => by
    unfold zfk
    rw [h c (Nat.le_refl _) (by omega), zfk_congr (fun x h1 h2 => h x (by omega) (by omega)), zfk_congr (fun x h1 h2 => h x (by omega) (by omega))]
theorem zfk_r {fr : Nat → Bool} {k : Int} : ∀ {f c s : Nat}, zfk fr k f c s = -1 ∨ ∃ x : Nat, zfk fr k f c s = (x : Int) ∧ c ≤ x ∧ x < c + f ∧ fr x = true
  | 0, _, _ => Or.inl rfl
  | f + 1, c, s => by
    unfold zfk
    by_cases h : fr c = true
    · rw [if_pos h]
      by_cases h2 : (s : Int) = k
      · rw [if_pos h2]; exact Or.inr ⟨c, rfl, Nat.le_refl _, by omega, h⟩
      · rw [if_neg h2]
        rcases zfk_r (fr := fr) (k := k) (f := f) (c := c + 1) (s := s + 1) with q | ⟨x, q1, q2, q3, q4⟩
        · exact Or.inl q
        · exact Or.inr ⟨x, q1, by omega, by omega, q4⟩
    · rw [if_neg h]
      rcases zfk_r (fr := fr) (k := k) (f := f) (c := c + 1) (s := s) with q | ⟨x, q1, q2, q3, q4⟩
      · exact Or.inl q
      · exact Or.inr ⟨x, q1, by omega, by omega, q4⟩
def ct_X1_writeNullVector : zCt := (fun av S K => ∃ E : Nat, ∃ x : Nat, ∃ k : Int32, ∃ d : Nat, av = [.ref E, .ref x, .int k, .ref d] ∧ (∃ (π : Nat → Nat → Nat) (m n : Nat) (g : Nat → Nat → UInt64) (z : Int), (zTb S E π ∧ zMag S x m n g ∧ zom (m ≤ 8 ∧ n ≤ 8 ∧ E + 268 ≤ x ∧ E + 268 ≤ d) ∧ (∀ i j, i < m → j < n → zUla (g i j) = true) ∧ zSh S d = (22, 8) ∧ k = iZ z ∧ zom (-2147483648 ≤ z ∧ z < 2147483648)) ∧ (znuc m n (zsyA (-60) n g fun _ => 0) z < 0 → ∀ T π', zFr (zElF E) S T → zTb T E π' → K (some (.int (nI 0))) T) ∧ (0 ≤ znuc m n (zsyA (-60) n g fun _ => 0) z → ∀ T π', zFr (fun b => zElF E b ∨ b = d) S T → zTb T E π' → (∀ j, j < n → zJ T d j = lN (znuv m n (zsyA (-60) n g fun _ => 0) (znuc m n (zsyA (-60) n g fun _ => 0) z).toNat j)) → K (some (.int (nI 1))) T)), 0, 0)
theorem zc_X1_writeNullVector {S : zS} {K : Option Value → zS → Prop} {E : Nat} {x : Nat} {k : Int32} {d : Nat} : ct_X1_writeNullVector.1 [.ref E, .ref x, .int k, .ref d] S K = (∃ (π : Nat → Nat → Nat) (m n : Nat) (g : Nat → Nat → UInt64) (z : Int), (zTb S E π ∧ zMag S x m n g ∧ zom (m ≤ 8 ∧ n ≤ 8 ∧ E + 268 ≤ x ∧ E + 268 ≤ d) ∧ (∀ i j, i < m → j < n → zUla (g i j) = true) ∧ zSh S d = (22, 8) ∧ k = iZ z ∧ zom (-2147483648 ≤ z ∧ z < 2147483648)) ∧ (znuc m n (zsyA (-60) n g fun _ => 0) z < 0 → ∀ T π', zFr (zElF E) S T → zTb T E π' → K (some (.int (nI 0))) T) ∧ (0 ≤ znuc m n (zsyA (-60) n g fun _ => 0) z → ∀ T π', zFr (fun b => zElF E b ∨ b = d) S T → zTb T E π' → (∀ j, j < n → zJ T d j = lN (znuv m n (zsyA (-60) n g fun _ => 0) (znuc m n (zsyA (-60) n g fun _ => 0) z).toNat j)) → K (some (.int (nI 1))) T)) := propext ⟨fun ⟨z0, z1, z2, z3, e, h⟩ => by cases e; exact h, fun h => ⟨E, x, k, d, rfl, h⟩⟩
theorem zn_X1_writeNullVector : ct_X1_writeNullVector.2.1 = 0 := rfl
theorem zs_X1_writeNullVector : ct_X1_writeNullVector.2.2 = 0 := rfl
theorem met_X1_writeNullVector (l : Launch) (G : zG) : zMet l G q_X1_writeNullVector ct_X1_writeNullVector := by
  refine zmk 1 false cal_X1_writeNullVector bl_X1_writeNullVector pl_X1_writeNullVector [ct_X1_prepare, ct_X1_eliminate, ct_X1_freeColumn, ct_X1_at, ct_X1_quotient] ck_X1_writeNullVector nm_X1_writeNullVector ⟨rfl, rfl⟩ wd_X1_writeNullVector (⟨⟨met_X1_prepare l G, rfl, rfl⟩, ⟨⟨met_X1_eliminate l G, rfl, rfl⟩, ⟨⟨met_X1_freeColumn l G, rfl, rfl⟩, ⟨⟨met_X1_at l G, rfl, rfl⟩, ⟨⟨met_X1_quotient l G, rfl, rfl⟩, trivial⟩⟩⟩⟩⟩) ?_
  intro X av S K h
  obtain ⟨E, x, k, d, rfl, h⟩ := h
  refine ⟨Nat.le_of_ble_eq_true rfl, fun hX => ?_⟩
  show X 0 [some (.ref E), some (.ref x), some (.int k), some (.ref d), none, none, none] [] S 0 0
  obtain ⟨π, m, n, g, z, ⟨ht, hm, ⟨hm8, hn8, hx, hd⟩, hl, hs, hk, hz⟩, hK0, hK1⟩ := h
  rw [hk]
  refine hX 1000 _ _ _ _ _ _ ?_
  simp (disch := omega) only [wzq_nop, wzq_nop0, wzq_null, wzq_iconst, wzq_bipush, wzq_sipush, wzq_ldc, wzq_ldc_w, wzq_lconst, wzq_dconst, wzq_ldc2, wzq_ldc2d, wzq_istore, wzq_istore_n0, wzq_istore_n1, wzq_istore_n2, wzq_istore_n3, wzq_lstore, wzq_lstore_n0, wzq_lstore_n1, wzq_lstore_n2, wzq_lstore_n3, wzq_dstore, wzq_dstore_n0, wzq_dstore_n1, wzq_dstore_n2, wzq_dstore_n3, wzq_astore, wzq_astore_n0, wzq_astore_n1, wzq_astore_n2, wzq_astore_n3, wzq_iadd, wzq_isub, wzq_imul, wzq_iand, wzq_ior, wzq_ishr, wzq_iushr, wzq_idiv, wzq_irem, wzq_ineg, wzq_ladd, wzq_lsub, wzq_lmul, wzq_land, wzq_lor, wzq_lxor, wzq_ldiv, wzq_lrem, wzq_lneg, wzq_lshl, wzq_lshr, wzq_lushr, wzq_i2l, wzq_l2i, wzq_lcmp, wzq_dcmp, wzq_dadd, wzq_dsub, wzq_dmul, wzq_ddiv, wzq_dneg, wzq_dup, wzq_pop, wzq_pop2, wzq_dup2J, wzq_dup2D, wzq_dup2I, wzq_goto0, wzq_goto1, wzq_if_eq0, wzq_if_eq1, wzq_icmp_eq0, wzq_icmp_eq1, wzq_if_ne0, wzq_if_ne1, wzq_icmp_ne0, wzq_icmp_ne1, wzq_if_lt0, wzq_if_lt1, wzq_icmp_lt0, wzq_icmp_lt1, wzq_if_ge0, wzq_if_ge1, wzq_icmp_ge0, wzq_icmp_ge1, wzq_if_gt0, wzq_if_gt1, wzq_icmp_gt0, wzq_icmp_gt1, wzq_if_le0, wzq_if_le1, wzq_icmp_le0, wzq_icmp_le1, wzq_ifnull0, wzq_ifnull1, wzq_ifnull_a, wzq_ifnull_b, wzq_ifnonnull0, wzq_ifnonnull1, wzq_ifnonnull_a, wzq_ifnonnull_b, wzq_table, wzq_getfield, wzq_alen, wzq_iaload, wzq_baload, wzq_laload, wzq_daload, wzq_aaload, wzq_iastore, wzq_bastore, wzq_lastore, wzq_dastore, wzq_aastore, wzq_new, wzq_newarray, wzq_anewarray, wzq_d2l, wzq_l2d, wzq_mmax, wzq_mmin, wzq_mmaxl, wzq_mabs, wzq_objInit, wzq_ireturn, wzq_lreturn, wzq_dreturn, wzq_areturn, wzq_return, znth0, zst1_0, zst2_0, znth1, zst1_1, zst2_1, znth2, zst1_2, zst2_2, znth3, zst1_3, zst2_3, znth4, zst1_4, zst2_4, znth5, zst1_5, zst2_5, znth6, zst1_6, zst2_6, znth7, zst1_7, zst2_7, znth8, zst1_8, zst2_8, znth9, zst1_9, zst2_9, znth10, zst1_10, zst2_10, znth11, zst1_11, zst2_11, znth12, zst1_12, zst2_12, znth13, zst1_13, zst2_13, znth14, zst1_14, zst2_14, znth15, zst1_15, zst2_15, znth16, zst1_16, zst2_16, znth17, zst1_17, zst2_17, znth18, zst1_18, zst2_18, znth19, zst1_19, zst2_19, znth20, zst1_20, zst2_20, znth21, zst1_21, zst2_21, znth22, zst1_22, zst2_22, znth23, zst1_23, zst2_23, znth24, zst1_24, zst2_24, znth25, zst1_25, zst2_25, zkill_n, zkill_int, zkill_ref, zkill_null, zkill_long, zkill_double, zkill_rf, zref_s, zref_n, zref_rf, va_rf_s, va_rf_n, zget0, zget1, zget2, zget3, zget4, zget5, zget6, zget7, zget8, zget9, zget10, zget11, zget12, zget13, zget14, zget15, zget16, zget17, zget18, zget19, zget20, zget21, zget22, zget23, zget24, zget25, zwt_0, zwt_int, zcat_int, zwt_ref, zcat_ref, zwt_long, zcat_long, zwt_double, zcat_double, zwt_null, zwt_rf, zcat_null, zcat_rf, ztl_s, ztl_n, zfI, zfZ, zfJ, zfD, zfO, zfA, zsw_0, zsw_s, zYX1_0, zYX1_1, zYX1_2, zYX1_3, zYX1_4, zYX1_5, zYX1_6, zYX1_7, zYX1_8, zYX1_9, zYX1_10, zYX1_11, zYX1_12, zYX1_13, zYX1_14, zNX1, zYX2_0, zYX2_1, zYX2_2, zYX2_3, zYX2_4, zYX2_5, zYX2_6, zYX2_7, zYX2_8, zYX2_9, zYX2_10, zNX2, zYX3_0, zYX3_1, zYX3_2, zYX3_3, zYX3_4, zYX3_5, zYX3_6, zNX3, zYX4_0, zYX4_1, zYX4_2, zYX4_3, zYX4_4, zYX4_5, zNX4, zYX5_0, zYX5_1, zYX5_2, zYX5_3, zYX5_4, zYX5_5, zYX5_6, zYX5_7, zYX5_8, zNX5, zYX6_0, zYX6_1, zYX6_2, zYX6_3, zYX6_4, zNX6, zYX7_0, zYX7_1, zYX7_2, zYX7_3, zNX7, zYX8_0, zYX8_1, zYX8_2, zNX8, zYX9_0, zYX9_1, zYX9_2, zNX9, zYX10_0, zYX10_1, zYX10_2, zYX10_3, zYX10_4, zYX10_5, zYX10_6, zYX10_7, zYX10_8, zNX10, zYX11_0, zYX11_1, zYX11_2, zYX11_3, zYX11_4, zYX11_5, zYX11_6, zYX11_7, zYX11_8, zYX11_9, zYX11_10, zYX11_11, zYX11_12, zYX11_13, zYX11_14, zYX11_15, zYX11_16, zYX11_17, zYX11_18, zYX11_19, zYX11_20, zYX11_21, zYX11_22, zYX11_23, zYX11_24, zYX11_25, zYX11_26, zYX11_27, zYX11_28, zYX11_29, zYX11_30, zYX11_31, zYX11_32, zYX11_33, zYX11_34, zYX11_35, zYX11_36, zYX11_37, zYX11_38, zYX11_39, zYX11_40, zYX11_41, zYX11_42, zYX11_43, zYX11_44, zYX11_45, zYX11_46, zYX11_47, zYX11_48, zYX11_49, zYX11_50, zYX11_51, zYX11_52, zYX11_53, zYX11_54, zYX11_55, zYX11_56, zYX11_57, zNX11, zend_i, zend_l, zend_d, zend_o, zend_v, wzend_z, znle, zisI_s, zgI_s, zisJ_s, zgJ_s, zisD_s, zgD_s, zisA_s, zgA_s, zpokI, zpstI, zpokZ, zpstZ, zpokJ, zpstJ, zpokD, zpstD, zpokO, zpstO, zpokOn, zpstOn, zpokA, zpstA, zpokAn, zpstAn, zpk_0, zptk_0, zpdr_0, zpk_1, zptk_1, zpdr_1, zpk_2, zptk_2, zpdr_2, zpk_3, zptk_3, zpdr_3, zpk_4, zptk_4, zpdr_4, zpk_5, zptk_5, zpdr_5, zpk_6, zptk_6, zpdr_6, zpk_7, zptk_7, zpdr_7, zpk_8, zptk_8, zpdr_8, zisR_s, zgR_s, ztlR_s, zisC_s, zgC_s, zkont_s, zkont_n, zw_iload, zw_iload_n0, zw_iload_n1, zw_iload_n2, zw_iload_n3, zw_lload, zw_lload_n0, zw_lload_n1, zw_lload_n2, zw_lload_n3, zw_dload, zw_dload_n0, zw_dload_n1, zw_dload_n2, zw_dload_n3, zw_aload, zw_aload_n0, zw_aload_n1, zw_aload_n2, zw_aload_n3, zw_iinc, zw_putfield, zw_callS, zw_callV, zw_callI, q_X1_writeNullVector, ct_X1_writeNullVector, zc_X1_prepare, zn_X1_prepare, zs_X1_prepare, zc_X1_eliminate, zn_X1_eliminate, zs_X1_eliminate, zc_X1_freeColumn, zn_X1_freeColumn, zs_X1_freeColumn, zc_X1_at, zn_X1_at, zs_X1_at, zc_X1_quotient, zn_X1_quotient, zs_X1_quotient, b_X1_writeNullVector_0, b_X1_writeNullVector_25, b_X1_writeNullVector_28, b_X1_writeNullVector_53, b_X1_writeNullVector_54, b_X1_writeNullVector_61, b_X1_writeNullVector_64, b_X1_writeNullVector_119, b_X1_writeNullVector_125, k_X1_writeNullVector_0, k_X1_writeNullVector_25, k_X1_writeNullVector_28, k_X1_writeNullVector_53, k_X1_writeNullVector_54, k_X1_writeNullVector_61, k_X1_writeNullVector_64, k_X1_writeNullVector_119, k_X1_writeNullVector_125, true_or, or_true, zrz_1, zrz_0, zrz_b, true_and, and_true, Nat.reduceAdd, Nat.reduceLeDiff, Nat.reduceMul, Nat.le_refl, Nat.add_zero, Nat.zero_add, zcb1_X1_eliminate, zcb0_X1_eliminate, zco1_X1_prepare, zco0_X1_prepare, Classical.not_not, Bool.not_eq_false, Bool.not_eq_true, zN_add, zN_sub, zN_mul, zN_le, zN_lt, zN_eq, zix_nI, zin_n, zinI_n, zinR_n, zlt_t, zom_t, zLsr, zLsh, zand_low, zL_add, zL_mul, zL_lt, zL_le, zL_sub, zL_div, zN_div, zL_e0, zL_n0, zN_n0, zN11, zN00, false_or, or_false, zZN_add, zNZ_add, zZN_sub, zNZ_sub, zZN_lt, zZN_le, zNZ_lt, zNZ_le, zZN_eq, zZZ_lt, zZZ_le, zZZ_eq, zN_32, Nat.reducePow, Nat.reduceMod, Nat.reduceDiv, zlc_eq, zlc_lt, zlc_ge, zlc_gt, zlc_le, bI_0, zbo_b, zbo_1, zbo_0, zuJ_inj, nI_nat, eq_self, Nat.reduceEqDiff, Nat.reduceSub, zI_sI_eq, zI_sI_ne, zJ_sJ_eq, zJ_sJ_ne, zD_sD_eq, zD_sD_ne, zR_sR_eq, zR_sR_ne, zJ_sI, zR_sI, zSh_sI, zNx_sI, zD_sI, zI_sJ, zR_sJ, zSh_sJ, zNx_sJ, zD_sJ, zI_sD, zJ_sD, zR_sD, zSh_sD, zNx_sD, zI_sR, zJ_sR, zD_sR, zSh_sR, zNx_sR, if_true, if_false, ite_true, ite_false, not_true, not_false_eq_true, forall_const, false_implies, true_implies, implies_true, zN_shr, zN_m31, jZ_low, jZ_add, jZ_sub, jZN_mul]
  refine ⟨zP1_k ht.1, π, m, n, n, g, fun _ => 0, ⟨ht, hm, ⟨hm8, hn8, hx⟩, hl, fun _ _ => zUla_0, Or.inl ⟨rfl, fun _ => rfl⟩⟩, fun T u g1 hu1 hu2 q7 q8 q9 q10 qv qs qb => ?_⟩
  have hp1 := zP1_gr g1 ht.1
  simp +contextual (disch := omega) only [wzq_nop, wzq_nop0, wzq_null, wzq_iconst, wzq_bipush, wzq_sipush, wzq_ldc, wzq_ldc_w, wzq_lconst, wzq_dconst, wzq_ldc2, wzq_ldc2d, wzq_istore, wzq_istore_n0, wzq_istore_n1, wzq_istore_n2, wzq_istore_n3, wzq_lstore, wzq_lstore_n0, wzq_lstore_n1, wzq_lstore_n2, wzq_lstore_n3, wzq_dstore, wzq_dstore_n0, wzq_dstore_n1, wzq_dstore_n2, wzq_dstore_n3, wzq_astore, wzq_astore_n0, wzq_astore_n1, wzq_astore_n2, wzq_astore_n3, wzq_iadd, wzq_isub, wzq_imul, wzq_iand, wzq_ior, wzq_ishr, wzq_iushr, wzq_idiv, wzq_irem, wzq_ineg, wzq_ladd, wzq_lsub, wzq_lmul, wzq_land, wzq_lor, wzq_lxor, wzq_ldiv, wzq_lrem, wzq_lneg, wzq_lshl, wzq_lshr, wzq_lushr, wzq_i2l, wzq_l2i, wzq_lcmp, wzq_dcmp, wzq_dadd, wzq_dsub, wzq_dmul, wzq_ddiv, wzq_dneg, wzq_dup, wzq_pop, wzq_pop2, wzq_dup2J, wzq_dup2D, wzq_dup2I, wzq_goto0, wzq_goto1, wzq_if_eq0, wzq_if_eq1, wzq_icmp_eq0, wzq_icmp_eq1, wzq_if_ne0, wzq_if_ne1, wzq_icmp_ne0, wzq_icmp_ne1, wzq_if_lt0, wzq_if_lt1, wzq_icmp_lt0, wzq_icmp_lt1, wzq_if_ge0, wzq_if_ge1, wzq_icmp_ge0, wzq_icmp_ge1, wzq_if_gt0, wzq_if_gt1, wzq_icmp_gt0, wzq_icmp_gt1, wzq_if_le0, wzq_if_le1, wzq_icmp_le0, wzq_icmp_le1, wzq_ifnull0, wzq_ifnull1, wzq_ifnull_a, wzq_ifnull_b, wzq_ifnonnull0, wzq_ifnonnull1, wzq_ifnonnull_a, wzq_ifnonnull_b, wzq_table, wzq_getfield, wzq_alen, wzq_iaload, wzq_baload, wzq_laload, wzq_daload, wzq_aaload, wzq_iastore, wzq_bastore, wzq_lastore, wzq_dastore, wzq_aastore, wzq_new, wzq_newarray, wzq_anewarray, wzq_d2l, wzq_l2d, wzq_mmax, wzq_mmin, wzq_mmaxl, wzq_mabs, wzq_objInit, wzq_ireturn, wzq_lreturn, wzq_dreturn, wzq_areturn, wzq_return, znth0, zst1_0, zst2_0, znth1, zst1_1, zst2_1, znth2, zst1_2, zst2_2, znth3, zst1_3, zst2_3, znth4, zst1_4, zst2_4, znth5, zst1_5, zst2_5, znth6, zst1_6, zst2_6, znth7, zst1_7, zst2_7, znth8, zst1_8, zst2_8, znth9, zst1_9, zst2_9, znth10, zst1_10, zst2_10, znth11, zst1_11, zst2_11, znth12, zst1_12, zst2_12, znth13, zst1_13, zst2_13, znth14, zst1_14, zst2_14, znth15, zst1_15, zst2_15, znth16, zst1_16, zst2_16, znth17, zst1_17, zst2_17, znth18, zst1_18, zst2_18, znth19, zst1_19, zst2_19, znth20, zst1_20, zst2_20, znth21, zst1_21, zst2_21, znth22, zst1_22, zst2_22, znth23, zst1_23, zst2_23, znth24, zst1_24, zst2_24, znth25, zst1_25, zst2_25, zkill_n, zkill_int, zkill_ref, zkill_null, zkill_long, zkill_double, zkill_rf, zref_s, zref_n, zref_rf, va_rf_s, va_rf_n, zget0, zget1, zget2, zget3, zget4, zget5, zget6, zget7, zget8, zget9, zget10, zget11, zget12, zget13, zget14, zget15, zget16, zget17, zget18, zget19, zget20, zget21, zget22, zget23, zget24, zget25, zwt_0, zwt_int, zcat_int, zwt_ref, zcat_ref, zwt_long, zcat_long, zwt_double, zcat_double, zwt_null, zwt_rf, zcat_null, zcat_rf, ztl_s, ztl_n, zfI, zfZ, zfJ, zfD, zfO, zfA, zsw_0, zsw_s, zYX1_0, zYX1_1, zYX1_2, zYX1_3, zYX1_4, zYX1_5, zYX1_6, zYX1_7, zYX1_8, zYX1_9, zYX1_10, zYX1_11, zYX1_12, zYX1_13, zYX1_14, zNX1, zYX2_0, zYX2_1, zYX2_2, zYX2_3, zYX2_4, zYX2_5, zYX2_6, zYX2_7, zYX2_8, zYX2_9, zYX2_10, zNX2, zYX3_0, zYX3_1, zYX3_2, zYX3_3, zYX3_4, zYX3_5, zYX3_6, zNX3, zYX4_0, zYX4_1, zYX4_2, zYX4_3, zYX4_4, zYX4_5, zNX4, zYX5_0, zYX5_1, zYX5_2, zYX5_3, zYX5_4, zYX5_5, zYX5_6, zYX5_7, zYX5_8, zNX5, zYX6_0, zYX6_1, zYX6_2, zYX6_3, zYX6_4, zNX6, zYX7_0, zYX7_1, zYX7_2, zYX7_3, zNX7, zYX8_0, zYX8_1, zYX8_2, zNX8, zYX9_0, zYX9_1, zYX9_2, zNX9, zYX10_0, zYX10_1, zYX10_2, zYX10_3, zYX10_4, zYX10_5, zYX10_6, zYX10_7, zYX10_8, zNX10, zYX11_0, zYX11_1, zYX11_2, zYX11_3, zYX11_4, zYX11_5, zYX11_6, zYX11_7, zYX11_8, zYX11_9, zYX11_10, zYX11_11, zYX11_12, zYX11_13, zYX11_14, zYX11_15, zYX11_16, zYX11_17, zYX11_18, zYX11_19, zYX11_20, zYX11_21, zYX11_22, zYX11_23, zYX11_24, zYX11_25, zYX11_26, zYX11_27, zYX11_28, zYX11_29, zYX11_30, zYX11_31, zYX11_32, zYX11_33, zYX11_34, zYX11_35, zYX11_36, zYX11_37, zYX11_38, zYX11_39, zYX11_40, zYX11_41, zYX11_42, zYX11_43, zYX11_44, zYX11_45, zYX11_46, zYX11_47, zYX11_48, zYX11_49, zYX11_50, zYX11_51, zYX11_52, zYX11_53, zYX11_54, zYX11_55, zYX11_56, zYX11_57, zNX11, zend_i, zend_l, zend_d, zend_o, zend_v, wzend_z, znle, zisI_s, zgI_s, zisJ_s, zgJ_s, zisD_s, zgD_s, zisA_s, zgA_s, zpokI, zpstI, zpokZ, zpstZ, zpokJ, zpstJ, zpokD, zpstD, zpokO, zpstO, zpokOn, zpstOn, zpokA, zpstA, zpokAn, zpstAn, zpk_0, zptk_0, zpdr_0, zpk_1, zptk_1, zpdr_1, zpk_2, zptk_2, zpdr_2, zpk_3, zptk_3, zpdr_3, zpk_4, zptk_4, zpdr_4, zpk_5, zptk_5, zpdr_5, zpk_6, zptk_6, zpdr_6, zpk_7, zptk_7, zpdr_7, zpk_8, zptk_8, zpdr_8, zisR_s, zgR_s, ztlR_s, zisC_s, zgC_s, zkont_s, zkont_n, zw_iload, zw_iload_n0, zw_iload_n1, zw_iload_n2, zw_iload_n3, zw_lload, zw_lload_n0, zw_lload_n1, zw_lload_n2, zw_lload_n3, zw_dload, zw_dload_n0, zw_dload_n1, zw_dload_n2, zw_dload_n3, zw_aload, zw_aload_n0, zw_aload_n1, zw_aload_n2, zw_aload_n3, zw_iinc, zw_putfield, zw_callS, zw_callV, zw_callI, q_X1_writeNullVector, ct_X1_writeNullVector, zc_X1_prepare, zn_X1_prepare, zs_X1_prepare, zc_X1_eliminate, zn_X1_eliminate, zs_X1_eliminate, zc_X1_freeColumn, zn_X1_freeColumn, zs_X1_freeColumn, zc_X1_at, zn_X1_at, zs_X1_at, zc_X1_quotient, zn_X1_quotient, zs_X1_quotient, b_X1_writeNullVector_0, b_X1_writeNullVector_25, b_X1_writeNullVector_28, b_X1_writeNullVector_53, b_X1_writeNullVector_54, b_X1_writeNullVector_61, b_X1_writeNullVector_64, b_X1_writeNullVector_119, b_X1_writeNullVector_125, k_X1_writeNullVector_0, k_X1_writeNullVector_25, k_X1_writeNullVector_28, k_X1_writeNullVector_53, k_X1_writeNullVector_54, k_X1_writeNullVector_61, k_X1_writeNullVector_64, k_X1_writeNullVector_119, k_X1_writeNullVector_125, true_or, or_true, zrz_1, zrz_0, zrz_b, true_and, and_true, Nat.reduceAdd, Nat.reduceLeDiff, Nat.reduceMul, Nat.le_refl, Nat.add_zero, Nat.zero_add, zP1_k (hp1), zP1_r5 (hp1), zP1_s5 (hp1), zcb1_X1_eliminate, zcb0_X1_eliminate, zco1_X1_prepare, zco0_X1_prepare, Classical.not_not, Bool.not_eq_false, Bool.not_eq_true, zN_add, zN_sub, zN_mul, zN_le, zN_lt, zN_eq, zix_nI, zin_n, zinI_n, zinR_n, zlt_t, zom_t, zLsr, zLsh, zand_low, zL_add, zL_mul, zL_lt, zL_le, zL_sub, zL_div, zN_div, zL_e0, zL_n0, zN_n0, zN11, zN00, false_or, or_false, zZN_add, zNZ_add, zZN_sub, zNZ_sub, zZN_lt, zZN_le, zNZ_lt, zNZ_le, zZN_eq, zZZ_lt, zZZ_le, zZZ_eq, zN_32, Nat.reducePow, Nat.reduceMod, Nat.reduceDiv, zlc_eq, zlc_lt, zlc_ge, zlc_gt, zlc_le, bI_0, zbo_b, zbo_1, zbo_0, zuJ_inj, nI_nat, eq_self, Nat.reduceEqDiff, Nat.reduceSub, zI_sI_eq, zI_sI_ne, zJ_sJ_eq, zJ_sJ_ne, zD_sD_eq, zD_sD_ne, zR_sR_eq, zR_sR_ne, zJ_sI, zR_sI, zSh_sI, zNx_sI, zD_sI, zI_sJ, zR_sJ, zSh_sJ, zNx_sJ, zD_sJ, zI_sD, zJ_sD, zR_sD, zSh_sD, zNx_sD, zI_sR, zJ_sR, zD_sR, zSh_sR, zNx_sR, if_true, if_false, ite_true, ite_false, not_true, not_false_eq_true, forall_const, false_implies, true_implies, implies_true, zN_shr, zN_m31, jZ_low, jZ_add, jZ_sub, jZN_mul]
  refine ⟨π, m, n, n, zsyA u n g fun _ => 0, ⟨zTb_gr g1 ht, ⟨hm8, hn8, Nat.le_refl _, by omega⟩, ⟨q7, q8, q9⟩, qv, qb⟩, fun T2 π2 e => ?_⟩
  have ⟨e1, e2, e3, e4, e5, e6, e7, e8⟩ := e
  have hp2 := e2.1
  have j8 : zI T2 E 8 = nI n := by rw [e3 8 (by decide) (by decide)]; exact q8
  simp +contextual (disch := omega) only [wzq_nop, wzq_nop0, wzq_null, wzq_iconst, wzq_bipush, wzq_sipush, wzq_ldc, wzq_ldc_w, wzq_lconst, wzq_dconst, wzq_ldc2, wzq_ldc2d, wzq_istore, wzq_istore_n0, wzq_istore_n1, wzq_istore_n2, wzq_istore_n3, wzq_lstore, wzq_lstore_n0, wzq_lstore_n1, wzq_lstore_n2, wzq_lstore_n3, wzq_dstore, wzq_dstore_n0, wzq_dstore_n1, wzq_dstore_n2, wzq_dstore_n3, wzq_astore, wzq_astore_n0, wzq_astore_n1, wzq_astore_n2, wzq_astore_n3, wzq_iadd, wzq_isub, wzq_imul, wzq_iand, wzq_ior, wzq_ishr, wzq_iushr, wzq_idiv, wzq_irem, wzq_ineg, wzq_ladd, wzq_lsub, wzq_lmul, wzq_land, wzq_lor, wzq_lxor, wzq_ldiv, wzq_lrem, wzq_lneg, wzq_lshl, wzq_lshr, wzq_lushr, wzq_i2l, wzq_l2i, wzq_lcmp, wzq_dcmp, wzq_dadd, wzq_dsub, wzq_dmul, wzq_ddiv, wzq_dneg, wzq_dup, wzq_pop, wzq_pop2, wzq_dup2J, wzq_dup2D, wzq_dup2I, wzq_goto0, wzq_goto1, wzq_if_eq0, wzq_if_eq1, wzq_icmp_eq0, wzq_icmp_eq1, wzq_if_ne0, wzq_if_ne1, wzq_icmp_ne0, wzq_icmp_ne1, wzq_if_lt0, wzq_if_lt1, wzq_icmp_lt0, wzq_icmp_lt1, wzq_if_ge0, wzq_if_ge1, wzq_icmp_ge0, wzq_icmp_ge1, wzq_if_gt0, wzq_if_gt1, wzq_icmp_gt0, wzq_icmp_gt1, wzq_if_le0, wzq_if_le1, wzq_icmp_le0, wzq_icmp_le1, wzq_ifnull0, wzq_ifnull1, wzq_ifnull_a, wzq_ifnull_b, wzq_ifnonnull0, wzq_ifnonnull1, wzq_ifnonnull_a, wzq_ifnonnull_b, wzq_table, wzq_getfield, wzq_alen, wzq_iaload, wzq_baload, wzq_laload, wzq_daload, wzq_aaload, wzq_iastore, wzq_bastore, wzq_lastore, wzq_dastore, wzq_aastore, wzq_new, wzq_newarray, wzq_anewarray, wzq_d2l, wzq_l2d, wzq_mmax, wzq_mmin, wzq_mmaxl, wzq_mabs, wzq_objInit, wzq_ireturn, wzq_lreturn, wzq_dreturn, wzq_areturn, wzq_return, znth0, zst1_0, zst2_0, znth1, zst1_1, zst2_1, znth2, zst1_2, zst2_2, znth3, zst1_3, zst2_3, znth4, zst1_4, zst2_4, znth5, zst1_5, zst2_5, znth6, zst1_6, zst2_6, znth7, zst1_7, zst2_7, znth8, zst1_8, zst2_8, znth9, zst1_9, zst2_9, znth10, zst1_10, zst2_10, znth11, zst1_11, zst2_11, znth12, zst1_12, zst2_12, znth13, zst1_13, zst2_13, znth14, zst1_14, zst2_14, znth15, zst1_15, zst2_15, znth16, zst1_16, zst2_16, znth17, zst1_17, zst2_17, znth18, zst1_18, zst2_18, znth19, zst1_19, zst2_19, znth20, zst1_20, zst2_20, znth21, zst1_21, zst2_21, znth22, zst1_22, zst2_22, znth23, zst1_23, zst2_23, znth24, zst1_24, zst2_24, znth25, zst1_25, zst2_25, zkill_n, zkill_int, zkill_ref, zkill_null, zkill_long, zkill_double, zkill_rf, zref_s, zref_n, zref_rf, va_rf_s, va_rf_n, zget0, zget1, zget2, zget3, zget4, zget5, zget6, zget7, zget8, zget9, zget10, zget11, zget12, zget13, zget14, zget15, zget16, zget17, zget18, zget19, zget20, zget21, zget22, zget23, zget24, zget25, zwt_0, zwt_int, zcat_int, zwt_ref, zcat_ref, zwt_long, zcat_long, zwt_double, zcat_double, zwt_null, zwt_rf, zcat_null, zcat_rf, ztl_s, ztl_n, zfI, zfZ, zfJ, zfD, zfO, zfA, zsw_0, zsw_s, zYX1_0, zYX1_1, zYX1_2, zYX1_3, zYX1_4, zYX1_5, zYX1_6, zYX1_7, zYX1_8, zYX1_9, zYX1_10, zYX1_11, zYX1_12, zYX1_13, zYX1_14, zNX1, zYX2_0, zYX2_1, zYX2_2, zYX2_3, zYX2_4, zYX2_5, zYX2_6, zYX2_7, zYX2_8, zYX2_9, zYX2_10, zNX2, zYX3_0, zYX3_1, zYX3_2, zYX3_3, zYX3_4, zYX3_5, zYX3_6, zNX3, zYX4_0, zYX4_1, zYX4_2, zYX4_3, zYX4_4, zYX4_5, zNX4, zYX5_0, zYX5_1, zYX5_2, zYX5_3, zYX5_4, zYX5_5, zYX5_6, zYX5_7, zYX5_8, zNX5, zYX6_0, zYX6_1, zYX6_2, zYX6_3, zYX6_4, zNX6, zYX7_0, zYX7_1, zYX7_2, zYX7_3, zNX7, zYX8_0, zYX8_1, zYX8_2, zNX8, zYX9_0, zYX9_1, zYX9_2, zNX9, zYX10_0, zYX10_1, zYX10_2, zYX10_3, zYX10_4, zYX10_5, zYX10_6, zYX10_7, zYX10_8, zNX10, zYX11_0, zYX11_1, zYX11_2, zYX11_3, zYX11_4, zYX11_5, zYX11_6, zYX11_7, zYX11_8, zYX11_9, zYX11_10, zYX11_11, zYX11_12, zYX11_13, zYX11_14, zYX11_15, zYX11_16, zYX11_17, zYX11_18, zYX11_19, zYX11_20, zYX11_21, zYX11_22, zYX11_23, zYX11_24, zYX11_25, zYX11_26, zYX11_27, zYX11_28, zYX11_29, zYX11_30, zYX11_31, zYX11_32, zYX11_33, zYX11_34, zYX11_35, zYX11_36, zYX11_37, zYX11_38, zYX11_39, zYX11_40, zYX11_41, zYX11_42, zYX11_43, zYX11_44, zYX11_45, zYX11_46, zYX11_47, zYX11_48, zYX11_49, zYX11_50, zYX11_51, zYX11_52, zYX11_53, zYX11_54, zYX11_55, zYX11_56, zYX11_57, zNX11, zend_i, zend_l, zend_d, zend_o, zend_v, wzend_z, znle, zisI_s, zgI_s, zisJ_s, zgJ_s, zisD_s, zgD_s, zisA_s, zgA_s, zpokI, zpstI, zpokZ, zpstZ, zpokJ, zpstJ, zpokD, zpstD, zpokO, zpstO, zpokOn, zpstOn, zpokA, zpstA, zpokAn, zpstAn, zpk_0, zptk_0, zpdr_0, zpk_1, zptk_1, zpdr_1, zpk_2, zptk_2, zpdr_2, zpk_3, zptk_3, zpdr_3, zpk_4, zptk_4, zpdr_4, zpk_5, zptk_5, zpdr_5, zpk_6, zptk_6, zpdr_6, zpk_7, zptk_7, zpdr_7, zpk_8, zptk_8, zpdr_8, zisR_s, zgR_s, ztlR_s, zisC_s, zgC_s, zkont_s, zkont_n, zw_iload, zw_iload_n0, zw_iload_n1, zw_iload_n2, zw_iload_n3, zw_lload, zw_lload_n0, zw_lload_n1, zw_lload_n2, zw_lload_n3, zw_dload, zw_dload_n0, zw_dload_n1, zw_dload_n2, zw_dload_n3, zw_aload, zw_aload_n0, zw_aload_n1, zw_aload_n2, zw_aload_n3, zw_iinc, zw_putfield, zw_callS, zw_callV, zw_callI, q_X1_writeNullVector, ct_X1_writeNullVector, zc_X1_prepare, zn_X1_prepare, zs_X1_prepare, zc_X1_eliminate, zn_X1_eliminate, zs_X1_eliminate, zc_X1_freeColumn, zn_X1_freeColumn, zs_X1_freeColumn, zc_X1_at, zn_X1_at, zs_X1_at, zc_X1_quotient, zn_X1_quotient, zs_X1_quotient, b_X1_writeNullVector_0, b_X1_writeNullVector_25, b_X1_writeNullVector_28, b_X1_writeNullVector_53, b_X1_writeNullVector_54, b_X1_writeNullVector_61, b_X1_writeNullVector_64, b_X1_writeNullVector_119, b_X1_writeNullVector_125, k_X1_writeNullVector_0, k_X1_writeNullVector_25, k_X1_writeNullVector_28, k_X1_writeNullVector_53, k_X1_writeNullVector_54, k_X1_writeNullVector_61, k_X1_writeNullVector_64, k_X1_writeNullVector_119, k_X1_writeNullVector_125, true_or, or_true, zrz_1, zrz_0, zrz_b, true_and, and_true, Nat.reduceAdd, Nat.reduceLeDiff, Nat.reduceMul, Nat.le_refl, Nat.add_zero, Nat.zero_add, zP1_k (hp2), zP1_r5 (hp2), zP1_s5 (hp2), zcb1_X1_eliminate, zcb0_X1_eliminate, zco1_X1_prepare, zco0_X1_prepare, Classical.not_not, Bool.not_eq_false, Bool.not_eq_true, zN_add, zN_sub, zN_mul, zN_le, zN_lt, zN_eq, zix_nI, zin_n, zinI_n, zinR_n, zlt_t, zom_t, zLsr, zLsh, zand_low, zL_add, zL_mul, zL_lt, zL_le, zL_sub, zL_div, zN_div, zL_e0, zL_n0, zN_n0, zN11, zN00, false_or, or_false, zZN_add, zNZ_add, zZN_sub, zNZ_sub, zZN_lt, zZN_le, zNZ_lt, zNZ_le, zZN_eq, zZZ_lt, zZZ_le, zZZ_eq, zN_32, Nat.reducePow, Nat.reduceMod, Nat.reduceDiv, zlc_eq, zlc_lt, zlc_ge, zlc_gt, zlc_le, bI_0, zbo_b, zbo_1, zbo_0, zuJ_inj, nI_nat, eq_self, Nat.reduceEqDiff, Nat.reduceSub, zI_sI_eq, zI_sI_ne, zJ_sJ_eq, zJ_sJ_ne, zD_sD_eq, zD_sD_ne, zR_sR_eq, zR_sR_ne, zJ_sI, zR_sI, zSh_sI, zNx_sI, zD_sI, zI_sJ, zR_sJ, zSh_sJ, zNx_sJ, zD_sJ, zI_sD, zJ_sD, zR_sD, zSh_sD, zNx_sD, zI_sR, zJ_sR, zD_sR, zSh_sR, zNx_sR, if_true, if_false, ite_true, ite_false, not_true, not_false_eq_true, forall_const, false_implies, true_implies, implies_true, zN_shr, zN_m31, jZ_low, jZ_add, jZ_sub, jZN_mul]
  obtain ⟨hz1, hz2⟩ := hz
  obtain ⟨A, hA⟩ : ∃ A, (zsyA u n g fun _ => 0) = A := ⟨_, rfl⟩
  obtain ⟨A', hA'⟩ : ∃ A', (zsyA (-60) n g fun _ => 0) = A' := ⟨_, rfl⟩
  rw [hA] at qv qs qb e e4 e6 e7 e8
  rw [hA'] at qs hK0 hK1
  have ec : zfk (fun c => zbo (zI T2 (E + 11) c)) z n 0 0 = znuc m n A' z := by
    unfold znuc
    refine zfk_congr fun x _ hx => ?_
    rw [e8 x (by omega), zbo_b, (zpvb_scl (n := n) qb qs x).2]
    unfold zpvb
    rw [← decide_not]
  have hcr : znuc m n A' z = -1 ∨ ∃ x : Nat, znuc m n A' z = (x : Int) ∧ x < n ∧ zpvb m A' x = false := by
    unfold znuc
    rcases zfk_r (fr := fun c => !zpvb m A' c) (k := z) (f := n) (c := 0) (s := 0) with q | ⟨x, q1, q2, q3, q4⟩
    · exact Or.inl q
    · exact Or.inr ⟨x, q1, by omega, by simpa using q4⟩
  have fS : zFr (zElF E) S T2 := (g1.mono fun b hb => by unfold zElF; omega).fr.trans (zEs_f e)
  refine ⟨n, z, ⟨hp2, j8, hn8, rfl, ⟨hz1, hz2⟩⟩, ?_⟩
  rw [ec]
  rcases hcr with hc | ⟨col, hc, hcn, hcf⟩
  · rw [hc]
    refine ⟨fun h => absurd h (by decide), fun _ => hK0 (by rw [hc]; decide) T2 π2 fS e2⟩
  · rw [hc, Int.toNat_natCast] at hK1
    rw [hc, ← nI_z]
    have hK1 := hK1 (by omega)
    refine ⟨fun _ => ?_, fun h => absurd (by rw [zN_le (by omega) (by omega)]; omega) h⟩
    obtain ⟨b1, b2, b3, b4⟩ := zbz_bd hm8 qb n
    have sd2 : zSh T2 d = (22, 8) := by rw [fS.1]; exact hs
    obtain ⟨k1, k2⟩ := zbpc_rk (m := m) (A := A) n
    have hpiv := (zbz_piv (B := 2 ^ 102) Nat.one_le_two_pow qb n).2
    have v2 : ∀ j, j < n → znuv m n A' col j = znuv m n A col j := fun j hj => znuv_scl qb qs hj
    have loopB : ∀ i, i ≤ (zbz m A n).2.1 → ∀ T {l6 : Option Value}, zGr (fun b => b = d ∨ (E + 2 ≤ b ∧ b ≤ E + 5)) T2 T → (∀ j, j < n → zJ T d j = lN (if zpvb m A j = true ∧ i ≤ zrk m A j then 0 else znuv m n A col j)) → X 64 [some (.ref E), some (.ref x), some (.int (iZ z)), some (.ref d), some (.int (nI col)), some (.int (nI i)), l6] [] T 0 0 := by
      refine zlp fun i hi ih T l6 hg hT => ?_
      have htT := zTb_gr hg e2
      have hpT := htT.1
      have eE : zI T E = zI T2 E := (hg.2.2.2 E (by omega)).1
      have eP : zI T (E + 10) = zI T2 (E + 10) := (hg.2.2.2 (E + 10) (by omega)).1
      have sd : zSh T d = (22, 8) := by rw [hg.1]; exact sd2
      have ec : i < (zbz m A n).2.1 → zI T2 (E + 10) i = nI (zbpc m A n i) ∧ zbpc m A n i < n := fun h => ⟨e7 i h, (k1 i h).1⟩
      have ec1 : i < (zbz m A n).2.1 → zI T2 (E + 10) i = nI (zbpc m A n i) := fun h => e7 i h
      have ec2 : i < (zbz m A n).2.1 → zbpc m A n i < 8 := fun h => by have := (k1 i h).1; omega
      refine hX 1000 _ _ _ _ _ _ ?_
      simp +contextual (disch := omega) only [wzq_nop, wzq_nop0, wzq_null, wzq_iconst, wzq_bipush, wzq_sipush, wzq_ldc, wzq_ldc_w, wzq_lconst, wzq_dconst, wzq_ldc2, wzq_ldc2d, wzq_istore, wzq_istore_n0, wzq_istore_n1, wzq_istore_n2, wzq_istore_n3, wzq_lstore, wzq_lstore_n0, wzq_lstore_n1, wzq_lstore_n2, wzq_lstore_n3, wzq_dstore, wzq_dstore_n0, wzq_dstore_n1, wzq_dstore_n2, wzq_dstore_n3, wzq_astore, wzq_astore_n0, wzq_astore_n1, wzq_astore_n2, wzq_astore_n3, wzq_iadd, wzq_isub, wzq_imul, wzq_iand, wzq_ior, wzq_ishr, wzq_iushr, wzq_idiv, wzq_irem, wzq_ineg, wzq_ladd, wzq_lsub, wzq_lmul, wzq_land, wzq_lor, wzq_lxor, wzq_ldiv, wzq_lrem, wzq_lneg, wzq_lshl, wzq_lshr, wzq_lushr, wzq_i2l, wzq_l2i, wzq_lcmp, wzq_dcmp, wzq_dadd, wzq_dsub, wzq_dmul, wzq_ddiv, wzq_dneg, wzq_dup, wzq_pop, wzq_pop2, wzq_dup2J, wzq_dup2D, wzq_dup2I, wzq_goto0, wzq_goto1, wzq_if_eq0, wzq_if_eq1, wzq_icmp_eq0, wzq_icmp_eq1, wzq_if_ne0, wzq_if_ne1, wzq_icmp_ne0, wzq_icmp_ne1, wzq_if_lt0, wzq_if_lt1, wzq_icmp_lt0, wzq_icmp_lt1, wzq_if_ge0, wzq_if_ge1, wzq_icmp_ge0, wzq_icmp_ge1, wzq_if_gt0, wzq_if_gt1, wzq_icmp_gt0, wzq_icmp_gt1, wzq_if_le0, wzq_if_le1, wzq_icmp_le0, wzq_icmp_le1, wzq_ifnull0, wzq_ifnull1, wzq_ifnull_a, wzq_ifnull_b, wzq_ifnonnull0, wzq_ifnonnull1, wzq_ifnonnull_a, wzq_ifnonnull_b, wzq_table, wzq_getfield, wzq_alen, wzq_iaload, wzq_baload, wzq_laload, wzq_daload, wzq_aaload, wzq_iastore, wzq_bastore, wzq_lastore, wzq_dastore, wzq_aastore, wzq_new, wzq_newarray, wzq_anewarray, wzq_d2l, wzq_l2d, wzq_mmax, wzq_mmin, wzq_mmaxl, wzq_mabs, wzq_objInit, wzq_ireturn, wzq_lreturn, wzq_dreturn, wzq_areturn, wzq_return, znth0, zst1_0, zst2_0, znth1, zst1_1, zst2_1, znth2, zst1_2, zst2_2, znth3, zst1_3, zst2_3, znth4, zst1_4, zst2_4, znth5, zst1_5, zst2_5, znth6, zst1_6, zst2_6, znth7, zst1_7, zst2_7, znth8, zst1_8, zst2_8, znth9, zst1_9, zst2_9, znth10, zst1_10, zst2_10, znth11, zst1_11, zst2_11, znth12, zst1_12, zst2_12, znth13, zst1_13, zst2_13, znth14, zst1_14, zst2_14, znth15, zst1_15, zst2_15, znth16, zst1_16, zst2_16, znth17, zst1_17, zst2_17, znth18, zst1_18, zst2_18, znth19, zst1_19, zst2_19, znth20, zst1_20, zst2_20, znth21, zst1_21, zst2_21, znth22, zst1_22, zst2_22, znth23, zst1_23, zst2_23, znth24, zst1_24, zst2_24, znth25, zst1_25, zst2_25, zkill_n, zkill_int, zkill_ref, zkill_null, zkill_long, zkill_double, zkill_rf, zref_s, zref_n, zref_rf, va_rf_s, va_rf_n, zget0, zget1, zget2, zget3, zget4, zget5, zget6, zget7, zget8, zget9, zget10, zget11, zget12, zget13, zget14, zget15, zget16, zget17, zget18, zget19, zget20, zget21, zget22, zget23, zget24, zget25, zwt_0, zwt_int, zcat_int, zwt_ref, zcat_ref, zwt_long, zcat_long, zwt_double, zcat_double, zwt_null, zwt_rf, zcat_null, zcat_rf, ztl_s, ztl_n, zfI, zfZ, zfJ, zfD, zfO, zfA, zsw_0, zsw_s, zYX1_0, zYX1_1, zYX1_2, zYX1_3, zYX1_4, zYX1_5, zYX1_6, zYX1_7, zYX1_8, zYX1_9, zYX1_10, zYX1_11, zYX1_12, zYX1_13, zYX1_14, zNX1, zYX2_0, zYX2_1, zYX2_2, zYX2_3, zYX2_4, zYX2_5, zYX2_6, zYX2_7, zYX2_8, zYX2_9, zYX2_10, zNX2, zYX3_0, zYX3_1, zYX3_2, zYX3_3, zYX3_4, zYX3_5, zYX3_6, zNX3, zYX4_0, zYX4_1, zYX4_2, zYX4_3, zYX4_4, zYX4_5, zNX4, zYX5_0, zYX5_1, zYX5_2, zYX5_3, zYX5_4, zYX5_5, zYX5_6, zYX5_7, zYX5_8, zNX5, zYX6_0, zYX6_1, zYX6_2, zYX6_3, zYX6_4, zNX6, zYX7_0, zYX7_1, zYX7_2, zYX7_3, zNX7, zYX8_0, zYX8_1, zYX8_2, zNX8, zYX9_0, zYX9_1, zYX9_2, zNX9, zYX10_0, zYX10_1, zYX10_2, zYX10_3, zYX10_4, zYX10_5, zYX10_6, zYX10_7, zYX10_8, zNX10, zYX11_0, zYX11_1, zYX11_2, zYX11_3, zYX11_4, zYX11_5, zYX11_6, zYX11_7, zYX11_8, zYX11_9, zYX11_10, zYX11_11, zYX11_12, zYX11_13, zYX11_14, zYX11_15, zYX11_16, zYX11_17, zYX11_18, zYX11_19, zYX11_20, zYX11_21, zYX11_22, zYX11_23, zYX11_24, zYX11_25, zYX11_26, zYX11_27, zYX11_28, zYX11_29, zYX11_30, zYX11_31, zYX11_32, zYX11_33, zYX11_34, zYX11_35, zYX11_36, zYX11_37, zYX11_38, zYX11_39, zYX11_40, zYX11_41, zYX11_42, zYX11_43, zYX11_44, zYX11_45, zYX11_46, zYX11_47, zYX11_48, zYX11_49, zYX11_50, zYX11_51, zYX11_52, zYX11_53, zYX11_54, zYX11_55, zYX11_56, zYX11_57, zNX11, zend_i, zend_l, zend_d, zend_o, zend_v, wzend_z, znle, zisI_s, zgI_s, zisJ_s, zgJ_s, zisD_s, zgD_s, zisA_s, zgA_s, zpokI, zpstI, zpokZ, zpstZ, zpokJ, zpstJ, zpokD, zpstD, zpokO, zpstO, zpokOn, zpstOn, zpokA, zpstA, zpokAn, zpstAn, zpk_0, zptk_0, zpdr_0, zpk_1, zptk_1, zpdr_1, zpk_2, zptk_2, zpdr_2, zpk_3, zptk_3, zpdr_3, zpk_4, zptk_4, zpdr_4, zpk_5, zptk_5, zpdr_5, zpk_6, zptk_6, zpdr_6, zpk_7, zptk_7, zpdr_7, zpk_8, zptk_8, zpdr_8, zisR_s, zgR_s, ztlR_s, zisC_s, zgC_s, zkont_s, zkont_n, zw_iload, zw_iload_n0, zw_iload_n1, zw_iload_n2, zw_iload_n3, zw_lload, zw_lload_n0, zw_lload_n1, zw_lload_n2, zw_lload_n3, zw_dload, zw_dload_n0, zw_dload_n1, zw_dload_n2, zw_dload_n3, zw_aload, zw_aload_n0, zw_aload_n1, zw_aload_n2, zw_aload_n3, zw_iinc, zw_putfield, zw_callS, zw_callV, zw_callI, q_X1_writeNullVector, ct_X1_writeNullVector, zc_X1_prepare, zn_X1_prepare, zs_X1_prepare, zc_X1_eliminate, zn_X1_eliminate, zs_X1_eliminate, zc_X1_freeColumn, zn_X1_freeColumn, zs_X1_freeColumn, zn_X1_at, zs_X1_at, zc_X1_quotient, zn_X1_quotient, zs_X1_quotient, b_X1_writeNullVector_0, b_X1_writeNullVector_25, b_X1_writeNullVector_28, b_X1_writeNullVector_53, b_X1_writeNullVector_54, b_X1_writeNullVector_61, b_X1_writeNullVector_64, b_X1_writeNullVector_119, b_X1_writeNullVector_125, k_X1_writeNullVector_0, k_X1_writeNullVector_25, k_X1_writeNullVector_28, k_X1_writeNullVector_53, k_X1_writeNullVector_54, k_X1_writeNullVector_61, k_X1_writeNullVector_64, k_X1_writeNullVector_119, k_X1_writeNullVector_125, true_or, or_true, zrz_1, zrz_0, zrz_b, true_and, and_true, Nat.reduceAdd, Nat.reduceLeDiff, Nat.reduceMul, Nat.le_refl, Nat.add_zero, Nat.zero_add, zP1_k (hpT), zP1_r5 (hpT), zP1_s5 (hpT), eE, e4, eP, ec1, ec2, sd, zat htT, zcb1_X1_eliminate, zcb0_X1_eliminate, zco1_X1_prepare, zco0_X1_prepare, Classical.not_not, Bool.not_eq_false, Bool.not_eq_true, zN_add, zN_sub, zN_mul, zN_le, zN_lt, zN_eq, zix_nI, zin_n, zinI_n, zinR_n, zlt_t, zom_t, zLsr, zLsh, zand_low, zL_add, zL_mul, zL_lt, zL_le, zL_sub, zL_div, zN_div, zL_e0, zL_n0, zN_n0, zN11, zN00, false_or, or_false, zZN_add, zNZ_add, zZN_sub, zNZ_sub, zZN_lt, zZN_le, zNZ_lt, zNZ_le, zZN_eq, zZZ_lt, zZZ_le, zZZ_eq, zN_32, Nat.reducePow, Nat.reduceMod, Nat.reduceDiv, zlc_eq, zlc_lt, zlc_ge, zlc_gt, zlc_le, bI_0, zbo_b, zbo_1, zbo_0, zuJ_inj, nI_nat, eq_self, Nat.reduceEqDiff, Nat.reduceSub, zI_sI_eq, zI_sI_ne, zJ_sJ_eq, zJ_sJ_ne, zD_sD_eq, zD_sD_ne, zR_sR_eq, zR_sR_ne, zJ_sI, zR_sI, zSh_sI, zNx_sI, zD_sI, zI_sJ, zR_sJ, zSh_sJ, zNx_sJ, zD_sJ, zI_sD, zJ_sD, zR_sD, zSh_sD, zNx_sD, zI_sR, zJ_sR, zD_sR, zSh_sR, zNx_sR, if_true, if_false, ite_true, ite_false, not_true, not_false_eq_true, forall_const, false_implies, true_implies, implies_true, zN_shr, zN_m31, jZ_low, jZ_add, jZ_sub, jZN_mul]
      refine ⟨fun h1 => ?_, fun h1 => ⟨fun h2 => absurd h2 (Nat.not_lt_zero _), fun _ => ⟨fun h2 => absurd h2 (by have := ec2 (by omega); omega), fun _ => ?_⟩⟩⟩
      · refine hK1 T π2 (fS.mono (fun b hb => Or.inl hb) |>.trans (hg.mono fun b hb => by unfold zElF; omega).fr) htT fun j hj => ?_
        rw [hT j hj, v2 j hj, if_neg]
        intro q
        have := (k2 j hj q.1).1
        unfold zrk at this q
        omega
      · have hir : i < (zbz m A n).2.1 := by omega
        obtain ⟨p1, p2, p3⟩ := k1 i hir
        have pd := (hpiv i hir).1
        obtain ⟨y, hy⟩ : ∃ y, zbpc m A n i = y := ⟨_, rfl⟩
        rw [hy] at p1 p2 p3 pd ⊢
        have q : ∀ j, j < n → zWv T (zca E π2 i j) 28 ((zbz m A n).1 i j) := fun j hj => by
          obtain ⟨c1, c2⟩ := zca_b e2 (i := i) (j := j) (by omega) (by omega)
          exact zWv_gr hg (by omega) (by omega) (e6 i j (by omega) hj (Or.inl rfl))
        have p17 : (2 : Nat) ^ 860 ≤ 2 ^ 1700 := Nat.pow_le_pow_right (by decide) (by decide)
        obtain ⟨c1, _⟩ := zca_b e2 (i := i) (j := col) (by omega) (by omega)
        obtain ⟨c2, _⟩ := zca_b e2 (i := i) (j := y) (by omega) (by omega)
        refine ⟨28, 28, _, _, ⟨hpT, htT.2.1.1, htT.2.1.2.1, q col hcn, q y p1, ⟨by omega, by omega, by omega, by omega⟩, Nat.lt_of_lt_of_le (b1 i col (by omega)) p17, Nat.lt_of_lt_of_le (b1 i y (by omega)) p17⟩, fun T1 g1 => ⟨⟨by rw [g1.1, sd], by rw [g1.1, sd]; exact (by omega : y < 8)⟩, ?_⟩⟩
        have g2 : zGr (fun b => b = d ∨ (E + 2 ≤ b ∧ b ≤ E + 5)) T2 T1 := hg.trans (g1.mono fun b hb => by omega)
        refine ih hir _ (g2.sJ (Or.inl rfl)) fun j hj => ?_
        by_cases hjy : j = y
        · rw [hjy, zJ_sJ_eq, if_neg (by omega), pd]
          unfold znuv
          rw [if_pos p2, p3]
        · rw [zJ_sJ_ne (by omega), (g1.2.2.2 d (by omega)).2.1, hT j hj]
          by_cases h9 : zpvb m A j = true ∧ i ≤ zrk m A j
          · rw [if_pos h9]
            have : zrk m A j ≠ i := fun h => by
              have := (k2 j hj h9.1).2
              rw [h, hy] at this; omega
            rw [if_pos ⟨h9.1, by omega⟩]
          · rw [if_neg h9, if_neg (fun q => h9 ⟨q.1, by omega⟩)]
    have loopA : ∀ j, j ≤ n → ∀ T, zGr (fun b => b = d) T2 T → (∀ i, i < j → zJ T d i = lN (if i = col then 4607182418800017408 else 0)) → X 28 [some (.ref E), some (.ref x), some (.int (iZ z)), some (.ref d), some (.int (nI col)), some (.int (nI j)), none] [] T 0 0 := by
      refine zlp fun j hj ih T hg hT => ?_
      have hpT := zP1_gr hg hp2
      have eE : zI T E = zI T2 E := (hg.2.2.2 E (by omega)).1
      have sd : zSh T d = (22, 8) := by rw [hg.1]; exact sd2
      refine hX 1000 _ _ _ _ _ _ ?_
      simp +contextual (disch := omega) only [wzq_nop, wzq_nop0, wzq_null, wzq_iconst, wzq_bipush, wzq_sipush, wzq_ldc, wzq_ldc_w, wzq_lconst, wzq_dconst, wzq_ldc2, wzq_ldc2d, wzq_istore, wzq_istore_n0, wzq_istore_n1, wzq_istore_n2, wzq_istore_n3, wzq_lstore, wzq_lstore_n0, wzq_lstore_n1, wzq_lstore_n2, wzq_lstore_n3, wzq_dstore, wzq_dstore_n0, wzq_dstore_n1, wzq_dstore_n2, wzq_dstore_n3, wzq_astore, wzq_astore_n0, wzq_astore_n1, wzq_astore_n2, wzq_astore_n3, wzq_iadd, wzq_isub, wzq_imul, wzq_iand, wzq_ior, wzq_ishr, wzq_iushr, wzq_idiv, wzq_irem, wzq_ineg, wzq_ladd, wzq_lsub, wzq_lmul, wzq_land, wzq_lor, wzq_lxor, wzq_ldiv, wzq_lrem, wzq_lneg, wzq_lshl, wzq_lshr, wzq_lushr, wzq_i2l, wzq_l2i, wzq_lcmp, wzq_dcmp, wzq_dadd, wzq_dsub, wzq_dmul, wzq_ddiv, wzq_dneg, wzq_dup, wzq_pop, wzq_pop2, wzq_dup2J, wzq_dup2D, wzq_dup2I, wzq_goto0, wzq_goto1, wzq_if_eq0, wzq_if_eq1, wzq_icmp_eq0, wzq_icmp_eq1, wzq_if_ne0, wzq_if_ne1, wzq_icmp_ne0, wzq_icmp_ne1, wzq_if_lt0, wzq_if_lt1, wzq_icmp_lt0, wzq_icmp_lt1, wzq_if_ge0, wzq_if_ge1, wzq_icmp_ge0, wzq_icmp_ge1, wzq_if_gt0, wzq_if_gt1, wzq_icmp_gt0, wzq_icmp_gt1, wzq_if_le0, wzq_if_le1, wzq_icmp_le0, wzq_icmp_le1, wzq_ifnull0, wzq_ifnull1, wzq_ifnull_a, wzq_ifnull_b, wzq_ifnonnull0, wzq_ifnonnull1, wzq_ifnonnull_a, wzq_ifnonnull_b, wzq_table, wzq_getfield, wzq_alen, wzq_iaload, wzq_baload, wzq_laload, wzq_daload, wzq_aaload, wzq_iastore, wzq_bastore, wzq_lastore, wzq_dastore, wzq_aastore, wzq_new, wzq_newarray, wzq_anewarray, wzq_d2l, wzq_l2d, wzq_mmax, wzq_mmin, wzq_mmaxl, wzq_mabs, wzq_objInit, wzq_ireturn, wzq_lreturn, wzq_dreturn, wzq_areturn, wzq_return, znth0, zst1_0, zst2_0, znth1, zst1_1, zst2_1, znth2, zst1_2, zst2_2, znth3, zst1_3, zst2_3, znth4, zst1_4, zst2_4, znth5, zst1_5, zst2_5, znth6, zst1_6, zst2_6, znth7, zst1_7, zst2_7, znth8, zst1_8, zst2_8, znth9, zst1_9, zst2_9, znth10, zst1_10, zst2_10, znth11, zst1_11, zst2_11, znth12, zst1_12, zst2_12, znth13, zst1_13, zst2_13, znth14, zst1_14, zst2_14, znth15, zst1_15, zst2_15, znth16, zst1_16, zst2_16, znth17, zst1_17, zst2_17, znth18, zst1_18, zst2_18, znth19, zst1_19, zst2_19, znth20, zst1_20, zst2_20, znth21, zst1_21, zst2_21, znth22, zst1_22, zst2_22, znth23, zst1_23, zst2_23, znth24, zst1_24, zst2_24, znth25, zst1_25, zst2_25, zkill_n, zkill_int, zkill_ref, zkill_null, zkill_long, zkill_double, zkill_rf, zref_s, zref_n, zref_rf, va_rf_s, va_rf_n, zget0, zget1, zget2, zget3, zget4, zget5, zget6, zget7, zget8, zget9, zget10, zget11, zget12, zget13, zget14, zget15, zget16, zget17, zget18, zget19, zget20, zget21, zget22, zget23, zget24, zget25, zwt_0, zwt_int, zcat_int, zwt_ref, zcat_ref, zwt_long, zcat_long, zwt_double, zcat_double, zwt_null, zwt_rf, zcat_null, zcat_rf, ztl_s, ztl_n, zfI, zfZ, zfJ, zfD, zfO, zfA, zsw_0, zsw_s, zYX1_0, zYX1_1, zYX1_2, zYX1_3, zYX1_4, zYX1_5, zYX1_6, zYX1_7, zYX1_8, zYX1_9, zYX1_10, zYX1_11, zYX1_12, zYX1_13, zYX1_14, zNX1, zYX2_0, zYX2_1, zYX2_2, zYX2_3, zYX2_4, zYX2_5, zYX2_6, zYX2_7, zYX2_8, zYX2_9, zYX2_10, zNX2, zYX3_0, zYX3_1, zYX3_2, zYX3_3, zYX3_4, zYX3_5, zYX3_6, zNX3, zYX4_0, zYX4_1, zYX4_2, zYX4_3, zYX4_4, zYX4_5, zNX4, zYX5_0, zYX5_1, zYX5_2, zYX5_3, zYX5_4, zYX5_5, zYX5_6, zYX5_7, zYX5_8, zNX5, zYX6_0, zYX6_1, zYX6_2, zYX6_3, zYX6_4, zNX6, zYX7_0, zYX7_1, zYX7_2, zYX7_3, zNX7, zYX8_0, zYX8_1, zYX8_2, zNX8, zYX9_0, zYX9_1, zYX9_2, zNX9, zYX10_0, zYX10_1, zYX10_2, zYX10_3, zYX10_4, zYX10_5, zYX10_6, zYX10_7, zYX10_8, zNX10, zYX11_0, zYX11_1, zYX11_2, zYX11_3, zYX11_4, zYX11_5, zYX11_6, zYX11_7, zYX11_8, zYX11_9, zYX11_10, zYX11_11, zYX11_12, zYX11_13, zYX11_14, zYX11_15, zYX11_16, zYX11_17, zYX11_18, zYX11_19, zYX11_20, zYX11_21, zYX11_22, zYX11_23, zYX11_24, zYX11_25, zYX11_26, zYX11_27, zYX11_28, zYX11_29, zYX11_30, zYX11_31, zYX11_32, zYX11_33, zYX11_34, zYX11_35, zYX11_36, zYX11_37, zYX11_38, zYX11_39, zYX11_40, zYX11_41, zYX11_42, zYX11_43, zYX11_44, zYX11_45, zYX11_46, zYX11_47, zYX11_48, zYX11_49, zYX11_50, zYX11_51, zYX11_52, zYX11_53, zYX11_54, zYX11_55, zYX11_56, zYX11_57, zNX11, zend_i, zend_l, zend_d, zend_o, zend_v, wzend_z, znle, zisI_s, zgI_s, zisJ_s, zgJ_s, zisD_s, zgD_s, zisA_s, zgA_s, zpokI, zpstI, zpokZ, zpstZ, zpokJ, zpstJ, zpokD, zpstD, zpokO, zpstO, zpokOn, zpstOn, zpokA, zpstA, zpokAn, zpstAn, zpk_0, zptk_0, zpdr_0, zpk_1, zptk_1, zpdr_1, zpk_2, zptk_2, zpdr_2, zpk_3, zptk_3, zpdr_3, zpk_4, zptk_4, zpdr_4, zpk_5, zptk_5, zpdr_5, zpk_6, zptk_6, zpdr_6, zpk_7, zptk_7, zpdr_7, zpk_8, zptk_8, zpdr_8, zisR_s, zgR_s, ztlR_s, zisC_s, zgC_s, zkont_s, zkont_n, zw_iload, zw_iload_n0, zw_iload_n1, zw_iload_n2, zw_iload_n3, zw_lload, zw_lload_n0, zw_lload_n1, zw_lload_n2, zw_lload_n3, zw_dload, zw_dload_n0, zw_dload_n1, zw_dload_n2, zw_dload_n3, zw_aload, zw_aload_n0, zw_aload_n1, zw_aload_n2, zw_aload_n3, zw_iinc, zw_putfield, zw_callS, zw_callV, zw_callI, q_X1_writeNullVector, ct_X1_writeNullVector, zc_X1_prepare, zn_X1_prepare, zs_X1_prepare, zc_X1_eliminate, zn_X1_eliminate, zs_X1_eliminate, zc_X1_freeColumn, zn_X1_freeColumn, zs_X1_freeColumn, zc_X1_at, zn_X1_at, zs_X1_at, zc_X1_quotient, zn_X1_quotient, zs_X1_quotient, b_X1_writeNullVector_0, b_X1_writeNullVector_25, b_X1_writeNullVector_28, b_X1_writeNullVector_53, b_X1_writeNullVector_54, b_X1_writeNullVector_61, b_X1_writeNullVector_64, b_X1_writeNullVector_119, b_X1_writeNullVector_125, k_X1_writeNullVector_0, k_X1_writeNullVector_25, k_X1_writeNullVector_28, k_X1_writeNullVector_53, k_X1_writeNullVector_54, k_X1_writeNullVector_61, k_X1_writeNullVector_64, k_X1_writeNullVector_119, k_X1_writeNullVector_125, true_or, or_true, zrz_1, zrz_0, zrz_b, true_and, and_true, Nat.reduceAdd, Nat.reduceLeDiff, Nat.reduceMul, Nat.le_refl, Nat.add_zero, Nat.zero_add, zP1_k (hpT), zP1_r5 (hpT), zP1_s5 (hpT), eE, j8, sd, zcb1_X1_eliminate, zcb0_X1_eliminate, zco1_X1_prepare, zco0_X1_prepare, Classical.not_not, Bool.not_eq_false, Bool.not_eq_true, zN_add, zN_sub, zN_mul, zN_le, zN_lt, zN_eq, zix_nI, zin_n, zinI_n, zinR_n, zlt_t, zom_t, zLsr, zLsh, zand_low, zL_add, zL_mul, zL_lt, zL_le, zL_sub, zL_div, zN_div, zL_e0, zL_n0, zN_n0, zN11, zN00, false_or, or_false, zZN_add, zNZ_add, zZN_sub, zNZ_sub, zZN_lt, zZN_le, zNZ_lt, zNZ_le, zZN_eq, zZZ_lt, zZZ_le, zZZ_eq, zN_32, Nat.reducePow, Nat.reduceMod, Nat.reduceDiv, zlc_eq, zlc_lt, zlc_ge, zlc_gt, zlc_le, bI_0, zbo_b, zbo_1, zbo_0, zuJ_inj, nI_nat, eq_self, Nat.reduceEqDiff, Nat.reduceSub, zI_sI_eq, zI_sI_ne, zJ_sJ_eq, zJ_sJ_ne, zD_sD_eq, zD_sD_ne, zR_sR_eq, zR_sR_ne, zJ_sI, zR_sI, zSh_sI, zNx_sI, zD_sI, zI_sJ, zR_sJ, zSh_sJ, zNx_sJ, zD_sJ, zI_sD, zJ_sD, zR_sD, zSh_sD, zNx_sD, zI_sR, zJ_sR, zD_sR, zSh_sR, zNx_sR, if_true, if_false, ite_true, ite_false, not_true, not_false_eq_true, forall_const, false_implies, true_implies, implies_true, zN_shr, zN_m31, jZ_low, jZ_add, jZ_sub, jZN_mul]
      refine ⟨fun h1 => ?_, fun h1 => ⟨fun h2 => ih (by omega) _ (hg.sJ rfl) fun i hi => ?_, fun h2 => ?_⟩⟩
      · refine loopB 0 (Nat.zero_le _) T (hg.mono fun b hb => Or.inl hb) fun i hi => ?_
        rw [hT i (by omega)]
        unfold znuv
        by_cases hp : zpvb m A i = true
        · have : i ≠ col := fun h => by
            rw [h, ← (zpvb_scl (n := n) qb qs col).2, hcf] at hp; exact absurd hp (by decide)
          rw [if_neg this, if_pos ⟨hp, Nat.zero_le _⟩]
        · rw [if_neg hp, if_neg (fun q : zpvb m A i = true ∧ 0 ≤ zrk m A i => hp q.1)]
      · by_cases hij : i = j
        · rw [hij, zJ_sJ_eq, if_neg h2]
        · rw [zJ_sJ_ne (by omega)]; exact hT i (by omega)
      · rw [show col + 1 = j + 1 by omega]
        refine ih (by omega) _ (hg.sJ rfl) fun i hi => ?_
        by_cases hij : i = col
        · rw [hij, zJ_sJ_eq, if_pos rfl]
        · rw [zJ_sJ_ne (by omega)]; exact hT i (by omega)
    exact loopA 0 (Nat.zero_le _) T2 zGr.refl fun i h => absurd h (Nat.not_lt_zero _)
end ZNUL
