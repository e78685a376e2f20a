/-! the class's factors: makeByRoots -/
section ZFAC7
theorem zUrt_n {t : UInt64} (hf : zUf t = true) (hn : zUn t = true) : zUn (zUrt t) = true := by
  rw [zUf_t] at hf
  rw [zUn_t] at hn ⊢
  have m2 := zfm_ge hn
  have b1 := zfsc_ge t.toNat
  have b4 := zfsc_le t.toNat
  have hM : 2 ^ 52 ≤ zrtM t.toNat ∧ zrtM t.toNat < 2 ^ 54 := by have := zfm_lt t.toNat; unfold zrtM; split <;> omega
  obtain ⟨q1, q2⟩ := FP.Core.sqrtFloor_spec (zrtM t.toNat * 4 ^ 30)
  have h1 : 2 ^ 56 ≤ FP.Core.sqrtFloor (zrtM t.toNat * 4 ^ 30) := by
    refine Nat.le_of_not_lt fun h => ?_
    have := Nat.mul_le_mul (Nat.succ_le_of_lt h) (Nat.succ_le_of_lt h)
    change (FP.Core.sqrtFloor (zrtM t.toNat * 4 ^ 30) + 1) * (FP.Core.sqrtFloor (zrtM t.toNat * 4 ^ 30) + 1) ≤ _ at this
    omega
  have h2 : FP.Core.sqrtFloor (zrtM t.toNat * 4 ^ 30) < 2 ^ 57 := by
    refine Nat.lt_of_not_le fun h => ?_
    have := Nat.mul_le_mul h h
    omega
  have hS : -600 ≤ zrtS t.toNat ∧ zrtS t.toNat ≤ 600 := by unfold zrtS; omega
  have hb : zbl (FP.Core.sqrtFloor (zrtM t.toNat * 4 ^ 30)) = 57 := zbl_eq h1 h2
  have e : 4503599627370496 ≤ zrt t.toNat ∧ zrt t.toNat < 9223372036854775808 := by
    have hle : zrt t.toNat ≤ 9218868437227405312 := zrR_lt (by omega) (fun _ => by omega)
    refine ⟨?_, by omega⟩
    unfold zrt zrR
    rw [if_neg (by omega), hb, if_neg (by omega)]
    unfold zun
    rw [hb, if_neg (by omega)]
    omega
  unfold zUrt
  rw [zu_of (by omega)]
  intro h
  rw [zmt_0] at h
  omega
theorem zel_congr {α : Type} {f g : Nat → α → Option α} : ∀ (m i : Nat) {s : α}, (∀ j s, i ≤ j → j < i + m → f j s = g j s) → zel f m i s = zel g m i s
  | 0, _, _, _ => rfl
  | m + 1, i, s, h => by
    unfold zel
    rw [h i s (by omega) (by omega)]
    cases g i s with
    | none => rfl
    | some t => exact zel_congr m (i + 1) (fun j s h1 h2 => h j s (by omega) (by omega))
theorem zeu_congr {α : Type} {f g : Nat → α → Option α} {i N : Nat} {s : α} (h : ∀ j s, i ≤ j → j < N → f j s = g j s) : zeu f i N s = zeu g i N s :=
  zel_congr (N - i) i (fun j s h1 h2 => h j s h1 (by omega))
/-- above the diagonal 0 -/
def zlw (w : Nat → Nat → UInt64) : Nat → Nat → UInt64 := fun a b => if a < b then 0 else w a b
def zrow (fu : Bool) (i : Nat) (u : Nat → Nat → UInt64) : Option (Nat → Nat → UInt64) := zeu (fun j u => zrst fu i j u) 0 (i + 1) u
/-- rows from i on as in w above the diagonal -/
def zmix (i j : Nat) (w u : Nat → Nat → UInt64) : Nat → Nat → UInt64 := fun a b => if a < b ∧ (i < a ∨ (a = i ∧ j ≤ b)) then w a b else u a b
theorem zmix_l {i j : Nat} {w u : Nat → Nat → UInt64} {a b : Nat} (h : b ≤ a) : zmix i j w u a b = u a b := by unfold zmix; rw [if_neg (by omega)]
theorem zmix_S {i j a b : Nat} {w u : Nat → Nat → UInt64} {x : UInt64} (h : b ≤ a) : zwS (zmix i j w u) a b x = zmix i j w (zwS u a b x) := by
  funext c d
  show (if c = a ∧ d = b then x else if c < d ∧ (i < c ∨ (c = i ∧ j ≤ d)) then w c d else u c d) = if c < d ∧ (i < c ∨ (c = i ∧ j ≤ d)) then w c d else if c = a ∧ d = b then x else u c d
  by_cases h1 : c = a ∧ d = b
  · rw [if_pos h1, if_neg (by omega), if_pos h1]
  · rw [if_neg h1, if_neg h1]
theorem zrst_mix {fu : Bool} {i j p q : Nat} {w u : Nat → Nat → UInt64} (hji : j ≤ i) : zrst fu i j (zmix p q w u) = (zrst fu i j u).map (zmix p q w) := by
  have e : zeu (zrtf fu (zmix p q w u) i j) 0 j (zmix p q w u i j) = zeu (zrtf fu u i j) 0 j (u i j) := by
    rw [zmix_l hji]
    refine zeu_congr fun k s h1 h2 => ?_
    unfold zrtf; rw [zmix_l (by omega), zmix_l (by omega)]
  unfold zrst
  rw [e]
  cases zeu (zrtf fu u i j) 0 j (u i j) with
  | none => rfl
  | some t =>
    dsimp only
    rw [zmix_l (Nat.le_refl j)]
    split
    · split
      · rfl
      · split
        · rw [zmix_S hji]; rfl
        · rfl
    · split
      · rw [zmix_S hji]; rfl
      · rfl
/-- what a step writes -/
theorem zrst_w {fu : Bool} {i j : Nat} {u v : Nat → Nat → UInt64} (hu : ∀ k, k < j → zUf (u i k) = true ∧ zUf (u j k) = true) (hf : zUf (u i j) = true) (h : zrst fu i j u = some v) : ∃ x, v = zwS u i j x ∧ zUf x = true ∧ (i = j → zUn x = true) := by
  unfold zrst at h
  cases hz : zeu (zrtf fu u i j) 0 j (u i j) with
  | none => rw [hz] at h; cases h
  | some t =>
    have ht : zUf t = true := zeu_inv (P := fun t => zUf t = true) hf (fun k s s' _ _ _ hs => by
      unfold zrtf at hs
      split at hs
      · cases hs; assumption
      · cases hs) hz
    rw [hz] at h
    dsimp only at h
    split at h
    · split at h
      · cases h
      · split at h
        · rename_i h1 h2 h3
          cases h
          refine ⟨_, rfl, h3, fun _ => zUrt_n ht ?_⟩
          cases hz : zUn t with
          | true => rfl
          | false => rw [← zky_0] at hz; omega
        · cases h
    · split at h
      · rename_i h1 h2
        cases h
        exact ⟨_, rfl, h2, fun h => absurd h h1⟩
      · cases h
theorem zFa_ext {S : zS} {o n me : Nat} {fu sw : Bool} {w v : Nat → Nat → UInt64} {ro co : Nat → Nat} (h : ∀ a b, a < n → b < n → w a b = v a b) (ha : zFa S o n me fu sw w ro co) : zFa S o n me fu sw v ro co := by
  obtain ⟨sh, n8, hf, fw, fr, fc, ff⟩ := ha
  exact ⟨sh, n8, hf, fun i j hi hj => by rw [← h i j hi hj]; exact fw i j hi hj, fr, fc, fun i j hi hj => by rw [← h i j hi hj]; exact ff i j hi hj⟩
def ct_X2_makeByRoots : zCt := (fun av S K => ∃ o : Nat, av = [.ref o] ∧ (∃ n fu sw w ro co, zFa S o n 3 fu sw w ro co ∧ (∀ u, zek (fun i u => zrow fu i u) 0 n (zlw w) = .inr u → ∀ T, zFfr S T o → zFa T o n 3 fu sw u ro co → K (some (.int (iZ (-1)))) T) ∧ (∀ k, zek (fun i u => zrow fu i u) 0 n (zlw w) = .inl k → ∀ T, zFfr S T o → K (some (.int (nI k))) T)), 0, 0)
theorem zc_X2_makeByRoots {S : zS} {K : Option Value → zS → Prop} {o : Nat} : ct_X2_makeByRoots.1 [.ref o] S K = (∃ n fu sw w ro co, zFa S o n 3 fu sw w ro co ∧ (∀ u, zek (fun i u => zrow fu i u) 0 n (zlw w) = .inr u → ∀ T, zFfr S T o → zFa T o n 3 fu sw u ro co → K (some (.int (iZ (-1)))) T) ∧ (∀ k, zek (fun i u => zrow fu i u) 0 n (zlw w) = .inl k → ∀ T, zFfr S T o → K (some (.int (nI k))) T)) := propext ⟨fun ⟨z0, e, h⟩ => by cases e; exact h, fun h => ⟨o, rfl, h⟩⟩
theorem zn_X2_makeByRoots : ct_X2_makeByRoots.2.1 = 0 := rfl
theorem zs_X2_makeByRoots : ct_X2_makeByRoots.2.2 = 0 := rfl
theorem met_X2_makeByRoots (l : Launch) (G : zG) : zMet l G q_X2_makeByRoots ct_X2_makeByRoots := by
  refine zmk 2 false cal_X2_makeByRoots bl_X2_makeByRoots pl_X2_makeByRoots [ct_X2_rootStep, ct_X2_store] ck_X2_makeByRoots nm_X2_makeByRoots ⟨rfl, rfl⟩ wd_X2_makeByRoots (⟨⟨met_X2_rootStep l G, rfl, rfl⟩, ⟨⟨met_X2_store l G, rfl, rfl⟩, trivial⟩⟩) ?_
  intro X av S K h
  obtain ⟨o, rfl, h⟩ := h
  refine ⟨Nat.le_of_ble_eq_true rfl, fun hX => ?_⟩
  show X 0 [some (.ref o), none, none] [] S 0 0
  obtain ⟨n, fu, sw, w, ro, co, ha, hT, hF⟩ := h
  have hw0 := ha.2.2.2.2.2.2
  have n8 := ha.2.1
  have outer : ∀ i, i ≤ n → ∀ (u : Nat → Nat → UInt64) (T : zS) {l2 : Option Value}, zFfr S T o → zFa T o n 3 fu sw (zmix i 0 w u) ro co → (∀ a b, a < b → u a b = 0) → (∀ a, a < i → zUn (u a a) = true) → (∀ y, zek (fun i u => zrow fu i u) i n u = .inr y → ∀ T, zFfr S T o → zFa T o n 3 fu sw y ro co → K (some (.int (iZ (-1)))) T) → (∀ k, zek (fun i u => zrow fu i u) i n u = .inl k → ∀ T, zFfr S T o → K (some (.int (nI k))) T) → X 2 [some (.ref o), some (.int (nI i)), l2] [] T 0 0 := by
    refine zlp fun i hi ih u T l2 hg ha hu hdg hT hF => ?_
    have zeros : i < n → ∀ (v : Nat → Nat → UInt64), zrow fu i u = some v → (∀ a b, a < b → v a b = 0) → (∀ a, a < i + 1 → zUn (v a a) = true) → ∀ j, j ≤ n → ∀ (T : zS), i < j → zFfr S T o → zFa T o n 3 fu sw (zmix i j w v) ro co → X 38 [some (.ref o), some (.int (nI i)), some (.int (nI j))] [] T 0 0 := by
      intro hin v hv hv0 hvd
      refine zlp fun j hj ih2 T hij hg ha => ?_
      have ⟨sh, n8, ⟨f1, f2, f3, f4⟩, fw, fr, fc, ff⟩ := ha
      refine hX 1000 _ _ _ _ _ _ ?_
      simp +contextual (disch := omega) only [wzq_nop, wzq_nop0, wzq_null, wzq_iconst, wzq_bipush, wzq_sipush, wzq_ldc, wzq_ldc_w, wzq_lconst, wzq_dconst, wzq_ldc2, wzq_ldc2d, wzq_istore, wzq_istore_n0, wzq_istore_n1, wzq_istore_n2, wzq_istore_n3, wzq_lstore, wzq_lstore_n0, wzq_lstore_n1, wzq_lstore_n2, wzq_lstore_n3, wzq_dstore, wzq_dstore_n0, wzq_dstore_n1, wzq_dstore_n2, wzq_dstore_n3, wzq_astore, wzq_astore_n0, wzq_astore_n1, wzq_astore_n2, wzq_astore_n3, wzq_iadd, wzq_isub, wzq_imul, wzq_iand, wzq_ior, wzq_ishr, wzq_iushr, wzq_idiv, wzq_irem, wzq_ineg, wzq_ladd, wzq_lsub, wzq_lmul, wzq_land, wzq_lor, wzq_lxor, wzq_ldiv, wzq_lrem, wzq_lneg, wzq_lshl, wzq_lshr, wzq_lushr, wzq_i2l, wzq_l2i, wzq_lcmp, wzq_dcmp, wzq_dadd, wzq_dsub, wzq_dmul, wzq_ddiv, wzq_dneg, wzq_dup, wzq_pop, wzq_pop2, wzq_dup2J, wzq_dup2D, wzq_dup2I, wzq_goto0, wzq_goto1, wzq_if_eq0, wzq_if_eq1, wzq_icmp_eq0, wzq_icmp_eq1, wzq_if_ne0, wzq_if_ne1, wzq_icmp_ne0, wzq_icmp_ne1, wzq_if_lt0, wzq_if_lt1, wzq_icmp_lt0, wzq_icmp_lt1, wzq_if_ge0, wzq_if_ge1, wzq_icmp_ge0, wzq_icmp_ge1, wzq_if_gt0, wzq_if_gt1, wzq_icmp_gt0, wzq_icmp_gt1, wzq_if_le0, wzq_if_le1, wzq_icmp_le0, wzq_icmp_le1, wzq_ifnull0, wzq_ifnull1, wzq_ifnull_a, wzq_ifnull_b, wzq_ifnonnull0, wzq_ifnonnull1, wzq_ifnonnull_a, wzq_ifnonnull_b, wzq_table, wzq_getfield, wzq_alen, wzq_iaload, wzq_baload, wzq_laload, wzq_daload, wzq_aaload, wzq_iastore, wzq_bastore, wzq_lastore, wzq_dastore, wzq_aastore, wzq_new, wzq_newarray, wzq_anewarray, wzq_d2l, wzq_l2d, wzq_mmax, wzq_mmin, wzq_mmaxl, wzq_mabs, wzq_objInit, wzq_ireturn, wzq_lreturn, wzq_dreturn, wzq_areturn, wzq_return, znth0, zst1_0, zst2_0, znth1, zst1_1, zst2_1, znth2, zst1_2, zst2_2, znth3, zst1_3, zst2_3, znth4, zst1_4, zst2_4, znth5, zst1_5, zst2_5, znth6, zst1_6, zst2_6, znth7, zst1_7, zst2_7, znth8, zst1_8, zst2_8, znth9, zst1_9, zst2_9, znth10, zst1_10, zst2_10, znth11, zst1_11, zst2_11, znth12, zst1_12, zst2_12, znth13, zst1_13, zst2_13, znth14, zst1_14, zst2_14, znth15, zst1_15, zst2_15, znth16, zst1_16, zst2_16, znth17, zst1_17, zst2_17, znth18, zst1_18, zst2_18, znth19, zst1_19, zst2_19, znth20, zst1_20, zst2_20, znth21, zst1_21, zst2_21, znth22, zst1_22, zst2_22, znth23, zst1_23, zst2_23, znth24, zst1_24, zst2_24, znth25, zst1_25, zst2_25, zkill_n, zkill_int, zkill_ref, zkill_null, zkill_long, zkill_double, zkill_rf, zref_s, zref_n, zref_rf, va_rf_s, va_rf_n, zget0, zget1, zget2, zget3, zget4, zget5, zget6, zget7, zget8, zget9, zget10, zget11, zget12, zget13, zget14, zget15, zget16, zget17, zget18, zget19, zget20, zget21, zget22, zget23, zget24, zget25, zwt_0, zwt_int, zcat_int, zwt_ref, zcat_ref, zwt_long, zcat_long, zwt_double, zcat_double, zwt_null, zwt_rf, zcat_null, zcat_rf, ztl_s, ztl_n, zfI, zfZ, zfJ, zfD, zfO, zfA, zsw_0, zsw_s, zYX1_0, zYX1_1, zYX1_2, zYX1_3, zYX1_4, zYX1_5, zYX1_6, zYX1_7, zYX1_8, zYX1_9, zYX1_10, zYX1_11, zYX1_12, zYX1_13, zYX1_14, zNX1, zYX2_0, zYX2_1, zYX2_2, zYX2_3, zYX2_4, zYX2_5, zYX2_6, zYX2_7, zYX2_8, zYX2_9, zYX2_10, zNX2, zYX3_0, zYX3_1, zYX3_2, zYX3_3, zYX3_4, zYX3_5, zYX3_6, zNX3, zYX4_0, zYX4_1, zYX4_2, zYX4_3, zYX4_4, zYX4_5, zNX4, zYX5_0, zYX5_1, zYX5_2, zYX5_3, zYX5_4, zYX5_5, zYX5_6, zYX5_7, zYX5_8, zNX5, zYX6_0, zYX6_1, zYX6_2, zYX6_3, zYX6_4, zNX6, zYX7_0, zYX7_1, zYX7_2, zYX7_3, zNX7, zYX8_0, zYX8_1, zYX8_2, zNX8, zYX9_0, zYX9_1, zYX9_2, zNX9, zYX10_0, zYX10_1, zYX10_2, zYX10_3, zYX10_4, zYX10_5, zYX10_6, zYX10_7, zYX10_8, zNX10, zYX11_0, zYX11_1, zYX11_2, zYX11_3, zYX11_4, zYX11_5, zYX11_6, zYX11_7, zYX11_8, zYX11_9, zYX11_10, zYX11_11, zYX11_12, zYX11_13, zYX11_14, zYX11_15, zYX11_16, zYX11_17, zYX11_18, zYX11_19, zYX11_20, zYX11_21, zYX11_22, zYX11_23, zYX11_24, zYX11_25, zYX11_26, zYX11_27, zYX11_28, zYX11_29, zYX11_30, zYX11_31, zYX11_32, zYX11_33, zYX11_34, zYX11_35, zYX11_36, zYX11_37, zYX11_38, zYX11_39, zYX11_40, zYX11_41, zYX11_42, zYX11_43, zYX11_44, zYX11_45, zYX11_46, zYX11_47, zYX11_48, zYX11_49, zYX11_50, zYX11_51, zYX11_52, zYX11_53, zYX11_54, zYX11_55, zYX11_56, zYX11_57, zNX11, zend_i, zend_l, zend_d, zend_o, zend_v, wzend_z, znle, zisI_s, zgI_s, zisJ_s, zgJ_s, zisD_s, zgD_s, zisA_s, zgA_s, zpokI, zpstI, zpokZ, zpstZ, zpokJ, zpstJ, zpokD, zpstD, zpokO, zpstO, zpokOn, zpstOn, zpokA, zpstA, zpokAn, zpstAn, zpk_0, zptk_0, zpdr_0, zpk_1, zptk_1, zpdr_1, zpk_2, zptk_2, zpdr_2, zpk_3, zptk_3, zpdr_3, zpk_4, zptk_4, zpdr_4, zpk_5, zptk_5, zpdr_5, zpk_6, zptk_6, zpdr_6, zpk_7, zptk_7, zpdr_7, zpk_8, zptk_8, zpdr_8, zisR_s, zgR_s, ztlR_s, zisC_s, zgC_s, zkont_s, zkont_n, zw_iload, zw_iload_n0, zw_iload_n1, zw_iload_n2, zw_iload_n3, zw_lload, zw_lload_n0, zw_lload_n1, zw_lload_n2, zw_lload_n3, zw_dload, zw_dload_n0, zw_dload_n1, zw_dload_n2, zw_dload_n3, zw_aload, zw_aload_n0, zw_aload_n1, zw_aload_n2, zw_aload_n3, zw_iinc, zw_putfield, zw_callS, zw_callV, zw_callI, q_X2_makeByRoots, ct_X2_makeByRoots, zc_X2_rootStep, zn_X2_rootStep, zs_X2_rootStep, zc_X2_store, zn_X2_store, zs_X2_store, nIm_1, b_X2_makeByRoots_0, b_X2_makeByRoots_2, b_X2_makeByRoots_12, b_X2_makeByRoots_28, b_X2_makeByRoots_34, b_X2_makeByRoots_38, b_X2_makeByRoots_59, b_X2_makeByRoots_65, k_X2_makeByRoots_0, k_X2_makeByRoots_2, k_X2_makeByRoots_12, k_X2_makeByRoots_28, k_X2_makeByRoots_34, k_X2_makeByRoots_38, k_X2_makeByRoots_59, k_X2_makeByRoots_65, true_or, or_true, zrz_1, zrz_0, zrz_b, true_and, and_true, Nat.reduceAdd, Nat.reduceLeDiff, Nat.reduceMul, Nat.le_refl, Nat.add_zero, Nat.zero_add, zP2_k sh, f1, sh, Classical.not_not, Bool.not_eq_false, Bool.not_eq_true, zN_add, zN_sub, zN_mul, zN_le, zN_lt, zN_eq, zix_nI, zin_n, zinI_n, zinR_n, zlt_t, zom_t, zLsr, zLsh, zand_low, zL_add, zL_mul, zL_lt, zL_le, zL_sub, zL_div, zN_div, zL_e0, zL_n0, zN_n0, zN11, zN00, false_or, or_false, zZN_add, zNZ_add, zZN_sub, zNZ_sub, zZN_lt, zZN_le, zNZ_lt, zNZ_le, zZN_eq, zZZ_lt, zZZ_le, zZZ_eq, zN_32, Nat.reducePow, Nat.reduceMod, Nat.reduceDiv, zlc_eq, zlc_lt, zlc_ge, zlc_gt, zlc_le, bI_0, zbo_b, zbo_1, zbo_0, zuJ_inj, nI_nat, eq_self, Nat.reduceEqDiff, Nat.reduceSub, zI_sI_eq, zI_sI_ne, zJ_sJ_eq, zJ_sJ_ne, zD_sD_eq, zD_sD_ne, zR_sR_eq, zR_sR_ne, zJ_sI, zR_sI, zSh_sI, zNx_sI, zD_sI, zI_sJ, zR_sJ, zSh_sJ, zNx_sJ, zD_sJ, zI_sD, zJ_sD, zR_sD, zSh_sD, zNx_sD, zI_sR, zJ_sR, zD_sR, zSh_sR, zNx_sR, if_true, if_false, ite_true, ite_false, not_true, not_false_eq_true, forall_const, false_implies, true_implies, implies_true]
      refine ⟨fun h1 => ?_, fun h1 => ?_⟩
      · have e1 := zek_s (f := fun i u => zrow fu i u) hin hv
        rw [e1] at hT hF
        refine ih hin v T hg (zFa_ext (fun a b ha hb => ?_) ha) hv0 hvd hT hF
        show (if a < b ∧ (i < a ∨ (a = i ∧ j ≤ b)) then w a b else v a b) = if a < b ∧ (i + 1 < a ∨ (a = i + 1 ∧ 0 ≤ b)) then w a b else v a b
        by_cases h2 : a < b ∧ i < a
        · rw [if_pos (by omega), if_pos (by omega)]
        · rw [if_neg (by omega), if_neg (by omega)]
      · refine ih2 (by omega) _ (by omega) (zFfr_st hg) (zFa_ext (fun a b ha hb => ?_) (zFa_st ha hin (by omega) (by decide : zUf 0 = true)))
        show (if a = i ∧ b = j then 0 else if a < b ∧ (i < a ∨ (a = i ∧ j ≤ b)) then w a b else v a b) = if a < b ∧ (i < a ∨ (a = i ∧ j + 1 ≤ b)) then w a b else v a b
        by_cases h2 : a = i ∧ b = j
        · rw [if_pos h2, if_neg (by omega), h2.1, h2.2, hv0 i j hij]
        · rw [if_neg h2]
          by_cases h3 : a < b ∧ (i < a ∨ (a = i ∧ j ≤ b))
          · rw [if_pos h3, if_pos (by omega)]
          · rw [if_neg h3, if_neg (by omega)]
    have steps : i < n → ∀ j, j ≤ i + 1 → ∀ (v : Nat → Nat → UInt64) (T : zS), zFfr S T o → zFa T o n 3 fu sw (zmix i 0 w v) ro co → (∀ a b, a < b → v a b = 0) → (∀ a, a < i → zUn (v a a) = true) → (i < j → zUn (v i i) = true) → zeu (fun j u => zrst fu i j u) j (i + 1) v = zrow fu i u → X 12 [some (.ref o), some (.int (nI i)), some (.int (nI j))] [] T 0 0 := by
      intro hin
      refine zlp fun j hj ih2 v T hg ha hv0 hvd hvi hE => ?_
      have ⟨sh, n8, ⟨f1, f2, f3, f4⟩, fw, fr, fc, ff⟩ := ha
      refine hX 1000 _ _ _ _ _ _ ?_
      simp +contextual (disch := omega) only [wzq_nop, wzq_nop0, wzq_null, wzq_iconst, wzq_bipush, wzq_sipush, wzq_ldc, wzq_ldc_w, wzq_lconst, wzq_dconst, wzq_ldc2, wzq_ldc2d, wzq_istore, wzq_istore_n0, wzq_istore_n1, wzq_istore_n2, wzq_istore_n3, wzq_lstore, wzq_lstore_n0, wzq_lstore_n1, wzq_lstore_n2, wzq_lstore_n3, wzq_dstore, wzq_dstore_n0, wzq_dstore_n1, wzq_dstore_n2, wzq_dstore_n3, wzq_astore, wzq_astore_n0, wzq_astore_n1, wzq_astore_n2, wzq_astore_n3, wzq_iadd, wzq_isub, wzq_imul, wzq_iand, wzq_ior, wzq_ishr, wzq_iushr, wzq_idiv, wzq_irem, wzq_ineg, wzq_ladd, wzq_lsub, wzq_lmul, wzq_land, wzq_lor, wzq_lxor, wzq_ldiv, wzq_lrem, wzq_lneg, wzq_lshl, wzq_lshr, wzq_lushr, wzq_i2l, wzq_l2i, wzq_lcmp, wzq_dcmp, wzq_dadd, wzq_dsub, wzq_dmul, wzq_ddiv, wzq_dneg, wzq_dup, wzq_pop, wzq_pop2, wzq_dup2J, wzq_dup2D, wzq_dup2I, wzq_goto0, wzq_goto1, wzq_if_eq0, wzq_if_eq1, wzq_icmp_eq0, wzq_icmp_eq1, wzq_if_ne0, wzq_if_ne1, wzq_icmp_ne0, wzq_icmp_ne1, wzq_if_lt0, wzq_if_lt1, wzq_icmp_lt0, wzq_icmp_lt1, wzq_if_ge0, wzq_if_ge1, wzq_icmp_ge0, wzq_icmp_ge1, wzq_if_gt0, wzq_if_gt1, wzq_icmp_gt0, wzq_icmp_gt1, wzq_if_le0, wzq_if_le1, wzq_icmp_le0, wzq_icmp_le1, wzq_ifnull0, wzq_ifnull1, wzq_ifnull_a, wzq_ifnull_b, wzq_ifnonnull0, wzq_ifnonnull1, wzq_ifnonnull_a, wzq_ifnonnull_b, wzq_table, wzq_getfield, wzq_alen, wzq_iaload, wzq_baload, wzq_laload, wzq_daload, wzq_aaload, wzq_iastore, wzq_bastore, wzq_lastore, wzq_dastore, wzq_aastore, wzq_new, wzq_newarray, wzq_anewarray, wzq_d2l, wzq_l2d, wzq_mmax, wzq_mmin, wzq_mmaxl, wzq_mabs, wzq_objInit, wzq_ireturn, wzq_lreturn, wzq_dreturn, wzq_areturn, wzq_return, znth0, zst1_0, zst2_0, znth1, zst1_1, zst2_1, znth2, zst1_2, zst2_2, znth3, zst1_3, zst2_3, znth4, zst1_4, zst2_4, znth5, zst1_5, zst2_5, znth6, zst1_6, zst2_6, znth7, zst1_7, zst2_7, znth8, zst1_8, zst2_8, znth9, zst1_9, zst2_9, znth10, zst1_10, zst2_10, znth11, zst1_11, zst2_11, znth12, zst1_12, zst2_12, znth13, zst1_13, zst2_13, znth14, zst1_14, zst2_14, znth15, zst1_15, zst2_15, znth16, zst1_16, zst2_16, znth17, zst1_17, zst2_17, znth18, zst1_18, zst2_18, znth19, zst1_19, zst2_19, znth20, zst1_20, zst2_20, znth21, zst1_21, zst2_21, znth22, zst1_22, zst2_22, znth23, zst1_23, zst2_23, znth24, zst1_24, zst2_24, znth25, zst1_25, zst2_25, zkill_n, zkill_int, zkill_ref, zkill_null, zkill_long, zkill_double, zkill_rf, zref_s, zref_n, zref_rf, va_rf_s, va_rf_n, zget0, zget1, zget2, zget3, zget4, zget5, zget6, zget7, zget8, zget9, zget10, zget11, zget12, zget13, zget14, zget15, zget16, zget17, zget18, zget19, zget20, zget21, zget22, zget23, zget24, zget25, zwt_0, zwt_int, zcat_int, zwt_ref, zcat_ref, zwt_long, zcat_long, zwt_double, zcat_double, zwt_null, zwt_rf, zcat_null, zcat_rf, ztl_s, ztl_n, zfI, zfZ, zfJ, zfD, zfO, zfA, zsw_0, zsw_s, zYX1_0, zYX1_1, zYX1_2, zYX1_3, zYX1_4, zYX1_5, zYX1_6, zYX1_7, zYX1_8, zYX1_9, zYX1_10, zYX1_11, zYX1_12, zYX1_13, zYX1_14, zNX1, zYX2_0, zYX2_1, zYX2_2, zYX2_3, zYX2_4, zYX2_5, zYX2_6, zYX2_7, zYX2_8, zYX2_9, zYX2_10, zNX2, zYX3_0, zYX3_1, zYX3_2, zYX3_3, zYX3_4, zYX3_5, zYX3_6, zNX3, zYX4_0, zYX4_1, zYX4_2, zYX4_3, zYX4_4, zYX4_5, zNX4, zYX5_0, zYX5_1, zYX5_2, zYX5_3, zYX5_4, zYX5_5, zYX5_6, zYX5_7, zYX5_8, zNX5, zYX6_0, zYX6_1, zYX6_2, zYX6_3, zYX6_4, zNX6, zYX7_0, zYX7_1, zYX7_2, zYX7_3, zNX7, zYX8_0, zYX8_1, zYX8_2, zNX8, zYX9_0, zYX9_1, zYX9_2, zNX9, zYX10_0, zYX10_1, zYX10_2, zYX10_3, zYX10_4, zYX10_5, zYX10_6, zYX10_7, zYX10_8, zNX10, zYX11_0, zYX11_1, zYX11_2, zYX11_3, zYX11_4, zYX11_5, zYX11_6, zYX11_7, zYX11_8, zYX11_9, zYX11_10, zYX11_11, zYX11_12, zYX11_13, zYX11_14, zYX11_15, zYX11_16, zYX11_17, zYX11_18, zYX11_19, zYX11_20, zYX11_21, zYX11_22, zYX11_23, zYX11_24, zYX11_25, zYX11_26, zYX11_27, zYX11_28, zYX11_29, zYX11_30, zYX11_31, zYX11_32, zYX11_33, zYX11_34, zYX11_35, zYX11_36, zYX11_37, zYX11_38, zYX11_39, zYX11_40, zYX11_41, zYX11_42, zYX11_43, zYX11_44, zYX11_45, zYX11_46, zYX11_47, zYX11_48, zYX11_49, zYX11_50, zYX11_51, zYX11_52, zYX11_53, zYX11_54, zYX11_55, zYX11_56, zYX11_57, zNX11, zend_i, zend_l, zend_d, zend_o, zend_v, wzend_z, znle, zisI_s, zgI_s, zisJ_s, zgJ_s, zisD_s, zgD_s, zisA_s, zgA_s, zpokI, zpstI, zpokZ, zpstZ, zpokJ, zpstJ, zpokD, zpstD, zpokO, zpstO, zpokOn, zpstOn, zpokA, zpstA, zpokAn, zpstAn, zpk_0, zptk_0, zpdr_0, zpk_1, zptk_1, zpdr_1, zpk_2, zptk_2, zpdr_2, zpk_3, zptk_3, zpdr_3, zpk_4, zptk_4, zpdr_4, zpk_5, zptk_5, zpdr_5, zpk_6, zptk_6, zpdr_6, zpk_7, zptk_7, zpdr_7, zpk_8, zptk_8, zpdr_8, zisR_s, zgR_s, ztlR_s, zisC_s, zgC_s, zkont_s, zkont_n, zw_iload, zw_iload_n0, zw_iload_n1, zw_iload_n2, zw_iload_n3, zw_lload, zw_lload_n0, zw_lload_n1, zw_lload_n2, zw_lload_n3, zw_dload, zw_dload_n0, zw_dload_n1, zw_dload_n2, zw_dload_n3, zw_aload, zw_aload_n0, zw_aload_n1, zw_aload_n2, zw_aload_n3, zw_iinc, zw_putfield, zw_callS, zw_callV, zw_callI, q_X2_makeByRoots, ct_X2_makeByRoots, zc_X2_rootStep, zn_X2_rootStep, zs_X2_rootStep, zc_X2_store, zn_X2_store, zs_X2_store, nIm_1, b_X2_makeByRoots_0, b_X2_makeByRoots_2, b_X2_makeByRoots_12, b_X2_makeByRoots_28, b_X2_makeByRoots_34, b_X2_makeByRoots_38, b_X2_makeByRoots_59, b_X2_makeByRoots_65, k_X2_makeByRoots_0, k_X2_makeByRoots_2, k_X2_makeByRoots_12, k_X2_makeByRoots_28, k_X2_makeByRoots_34, k_X2_makeByRoots_38, k_X2_makeByRoots_59, k_X2_makeByRoots_65, true_or, or_true, zrz_1, zrz_0, zrz_b, true_and, and_true, Nat.reduceAdd, Nat.reduceLeDiff, Nat.reduceMul, Nat.le_refl, Nat.add_zero, Nat.zero_add, zP2_k sh, f1, sh, Classical.not_not, Bool.not_eq_false, Bool.not_eq_true, zN_add, zN_sub, zN_mul, zN_le, zN_lt, zN_eq, zix_nI, zin_n, zinI_n, zinR_n, zlt_t, zom_t, zLsr, zLsh, zand_low, zL_add, zL_mul, zL_lt, zL_le, zL_sub, zL_div, zN_div, zL_e0, zL_n0, zN_n0, zN11, zN00, false_or, or_false, zZN_add, zNZ_add, zZN_sub, zNZ_sub, zZN_lt, zZN_le, zNZ_lt, zNZ_le, zZN_eq, zZZ_lt, zZZ_le, zZZ_eq, zN_32, Nat.reducePow, Nat.reduceMod, Nat.reduceDiv, zlc_eq, zlc_lt, zlc_ge, zlc_gt, zlc_le, bI_0, zbo_b, zbo_1, zbo_0, zuJ_inj, nI_nat, eq_self, Nat.reduceEqDiff, Nat.reduceSub, zI_sI_eq, zI_sI_ne, zJ_sJ_eq, zJ_sJ_ne, zD_sD_eq, zD_sD_ne, zR_sR_eq, zR_sR_ne, zJ_sI, zR_sI, zSh_sI, zNx_sI, zD_sI, zI_sJ, zR_sJ, zSh_sJ, zNx_sJ, zD_sJ, zI_sD, zJ_sD, zR_sD, zSh_sD, zNx_sD, zI_sR, zJ_sR, zD_sR, zSh_sR, zNx_sR, if_true, if_false, ite_true, ite_false, not_true, not_false_eq_true, forall_const, false_implies, true_implies, implies_true]
      refine ⟨fun h1 => ?_, fun h1 => ⟨n, 3, fu, sw, zmix i 0 w v, ro, co, ⟨ha, ⟨by omega, hin⟩, fun h2 => by rw [zmix_l (Nat.le_refl j)]; exact hvd j h2⟩, fun w' hw' T1 g1 g2 => ?_, fun hw' T1 g1 => ?_⟩⟩
      · rw [zeu_e (by omega)] at hE
        refine zeros hin v hE.symm hv0 (fun a ha => ?_) (i + 1) (by omega) T (by omega) hg (zFa_ext (fun a b ha hb => ?_) ha)
        · by_cases h2 : a = i
          · rw [h2]; exact hvi h1
          · exact hvd a (by omega)
        · show (if a < b ∧ (i < a ∨ (a = i ∧ 0 ≤ b)) then w a b else v a b) = if a < b ∧ (i < a ∨ (a = i ∧ i + 1 ≤ b)) then w a b else v a b
          by_cases h2 : a < b ∧ (i < a ∨ (a = i ∧ 0 ≤ b))
          · rw [if_pos h2, if_pos (by omega)]
          · rw [if_neg h2, if_neg (by omega)]
      · rw [zrst_mix (by omega)] at hw'
        cases hv' : zrst fu i j v with
        | none => rw [hv'] at hw'; cases hw'
        | some v' =>
          rw [hv'] at hw'
          cases hw'
          have fl : ∀ a b, a < n → b < n → b ≤ a → zUf (v a b) = true := fun a b ha hb hab => by have := ff a b ha hb; rw [zmix_l hab] at this; exact this
          obtain ⟨x, q1, q2, q3⟩ := zrst_w (fun k hk => ⟨fl i k hin (by omega) (by omega), fl j k (by omega) (by omega) (by omega)⟩) (fl i j hin (by omega) (by omega)) hv'
          refine ih2 (by omega) v' T1 (hg.trans g1) g2 (fun a b hab => ?_) (fun a ha => ?_) (fun h2 => ?_) ?_
          · rw [q1]; show (if a = i ∧ b = j then x else v a b) = 0
            rw [if_neg (by omega)]; exact hv0 a b hab
          · rw [q1]; show zUn (if a = i ∧ a = j then x else v a a) = true
            rw [if_neg (by omega)]; exact hvd a ha
          · rw [q1]; show zUn (if i = i ∧ i = j then x else v i i) = true
            rw [if_pos (by omega)]; exact q3 (by omega)
          · rw [← hE]; exact (zeu_s (f := fun j u => zrst fu i j u) (by omega) hv').symm
      · rw [zrst_mix (by omega)] at hw'
        cases hv' : zrst fu i j v with
        | some v' => rw [hv'] at hw'; cases hw'
        | none =>
          refine hF i (zek_n hin ?_) T1 (hg.trans g1)
          show zrow fu i u = none
          rw [← hE]; exact zeu_n (f := fun j u => zrst fu i j u) (by omega) hv'
    have ⟨sh, n8, ⟨f1, f2, f3, f4⟩, fw, fr, fc, ff⟩ := ha
    refine hX 1000 _ _ _ _ _ _ ?_
    simp +contextual (disch := omega) only [wzq_nop, wzq_nop0, wzq_null, wzq_iconst, wzq_bipush, wzq_sipush, wzq_ldc, wzq_ldc_w, wzq_lconst, wzq_dconst, wzq_ldc2, wzq_ldc2d, wzq_istore, wzq_istore_n0, wzq_istore_n1, wzq_istore_n2, wzq_istore_n3, wzq_lstore, wzq_lstore_n0, wzq_lstore_n1, wzq_lstore_n2, wzq_lstore_n3, wzq_dstore, wzq_dstore_n0, wzq_dstore_n1, wzq_dstore_n2, wzq_dstore_n3, wzq_astore, wzq_astore_n0, wzq_astore_n1, wzq_astore_n2, wzq_astore_n3, wzq_iadd, wzq_isub, wzq_imul, wzq_iand, wzq_ior, wzq_ishr, wzq_iushr, wzq_idiv, wzq_irem, wzq_ineg, wzq_ladd, wzq_lsub, wzq_lmul, wzq_land, wzq_lor, wzq_lxor, wzq_ldiv, wzq_lrem, wzq_lneg, wzq_lshl, wzq_lshr, wzq_lushr, wzq_i2l, wzq_l2i, wzq_lcmp, wzq_dcmp, wzq_dadd, wzq_dsub, wzq_dmul, wzq_ddiv, wzq_dneg, wzq_dup, wzq_pop, wzq_pop2, wzq_dup2J, wzq_dup2D, wzq_dup2I, wzq_goto0, wzq_goto1, wzq_if_eq0, wzq_if_eq1, wzq_icmp_eq0, wzq_icmp_eq1, wzq_if_ne0, wzq_if_ne1, wzq_icmp_ne0, wzq_icmp_ne1, wzq_if_lt0, wzq_if_lt1, wzq_icmp_lt0, wzq_icmp_lt1, wzq_if_ge0, wzq_if_ge1, wzq_icmp_ge0, wzq_icmp_ge1, wzq_if_gt0, wzq_if_gt1, wzq_icmp_gt0, wzq_icmp_gt1, wzq_if_le0, wzq_if_le1, wzq_icmp_le0, wzq_icmp_le1, wzq_ifnull0, wzq_ifnull1, wzq_ifnull_a, wzq_ifnull_b, wzq_ifnonnull0, wzq_ifnonnull1, wzq_ifnonnull_a, wzq_ifnonnull_b, wzq_table, wzq_getfield, wzq_alen, wzq_iaload, wzq_baload, wzq_laload, wzq_daload, wzq_aaload, wzq_iastore, wzq_bastore, wzq_lastore, wzq_dastore, wzq_aastore, wzq_new, wzq_newarray, wzq_anewarray, wzq_d2l, wzq_l2d, wzq_mmax, wzq_mmin, wzq_mmaxl, wzq_mabs, wzq_objInit, wzq_ireturn, wzq_lreturn, wzq_dreturn, wzq_areturn, wzq_return, znth0, zst1_0, zst2_0, znth1, zst1_1, zst2_1, znth2, zst1_2, zst2_2, znth3, zst1_3, zst2_3, znth4, zst1_4, zst2_4, znth5, zst1_5, zst2_5, znth6, zst1_6, zst2_6, znth7, zst1_7, zst2_7, znth8, zst1_8, zst2_8, znth9, zst1_9, zst2_9, znth10, zst1_10, zst2_10, znth11, zst1_11, zst2_11, znth12, zst1_12, zst2_12, znth13, zst1_13, zst2_13, znth14, zst1_14, zst2_14, znth15, zst1_15, zst2_15, znth16, zst1_16, zst2_16, znth17, zst1_17, zst2_17, znth18, zst1_18, zst2_18, znth19, zst1_19, zst2_19, znth20, zst1_20, zst2_20, znth21, zst1_21, zst2_21, znth22, zst1_22, zst2_22, znth23, zst1_23, zst2_23, znth24, zst1_24, zst2_24, znth25, zst1_25, zst2_25, zkill_n, zkill_int, zkill_ref, zkill_null, zkill_long, zkill_double, zkill_rf, zref_s, zref_n, zref_rf, va_rf_s, va_rf_n, zget0, zget1, zget2, zget3, zget4, zget5, zget6, zget7, zget8, zget9, zget10, zget11, zget12, zget13, zget14, zget15, zget16, zget17, zget18, zget19, zget20, zget21, zget22, zget23, zget24, zget25, zwt_0, zwt_int, zcat_int, zwt_ref, zcat_ref, zwt_long, zcat_long, zwt_double, zcat_double, zwt_null, zwt_rf, zcat_null, zcat_rf, ztl_s, ztl_n, zfI, zfZ, zfJ, zfD, zfO, zfA, zsw_0, zsw_s, zYX1_0, zYX1_1, zYX1_2, zYX1_3, zYX1_4, zYX1_5, zYX1_6, zYX1_7, zYX1_8, zYX1_9, zYX1_10, zYX1_11, zYX1_12, zYX1_13, zYX1_14, zNX1, zYX2_0, zYX2_1, zYX2_2, zYX2_3, zYX2_4, zYX2_5, zYX2_6, zYX2_7, zYX2_8, zYX2_9, zYX2_10, zNX2, zYX3_0, zYX3_1, zYX3_2, zYX3_3, zYX3_4, zYX3_5, zYX3_6, zNX3, zYX4_0, zYX4_1, zYX4_2, zYX4_3, zYX4_4, zYX4_5, zNX4, zYX5_0, zYX5_1, zYX5_2, zYX5_3, zYX5_4, zYX5_5, zYX5_6, zYX5_7, zYX5_8, zNX5, zYX6_0, zYX6_1, zYX6_2, zYX6_3, zYX6_4, zNX6, zYX7_0, zYX7_1, zYX7_2, zYX7_3, zNX7, zYX8_0, zYX8_1, zYX8_2, zNX8, zYX9_0, zYX9_1, zYX9_2, zNX9, zYX10_0, zYX10_1, zYX10_2, zYX10_3, zYX10_4, zYX10_5, zYX10_6, zYX10_7, zYX10_8, zNX10, zYX11_0, zYX11_1, zYX11_2, zYX11_3, zYX11_4, zYX11_5, zYX11_6, zYX11_7, zYX11_8, zYX11_9, zYX11_10, zYX11_11, zYX11_12, zYX11_13, zYX11_14, zYX11_15, zYX11_16, zYX11_17, zYX11_18, zYX11_19, zYX11_20, zYX11_21, zYX11_22, zYX11_23, zYX11_24, zYX11_25, zYX11_26, zYX11_27, zYX11_28, zYX11_29, zYX11_30, zYX11_31, zYX11_32, zYX11_33, zYX11_34, zYX11_35, zYX11_36, zYX11_37, zYX11_38, zYX11_39, zYX11_40, zYX11_41, zYX11_42, zYX11_43, zYX11_44, zYX11_45, zYX11_46, zYX11_47, zYX11_48, zYX11_49, zYX11_50, zYX11_51, zYX11_52, zYX11_53, zYX11_54, zYX11_55, zYX11_56, zYX11_57, zNX11, zend_i, zend_l, zend_d, zend_o, zend_v, wzend_z, znle, zisI_s, zgI_s, zisJ_s, zgJ_s, zisD_s, zgD_s, zisA_s, zgA_s, zpokI, zpstI, zpokZ, zpstZ, zpokJ, zpstJ, zpokD, zpstD, zpokO, zpstO, zpokOn, zpstOn, zpokA, zpstA, zpokAn, zpstAn, zpk_0, zptk_0, zpdr_0, zpk_1, zptk_1, zpdr_1, zpk_2, zptk_2, zpdr_2, zpk_3, zptk_3, zpdr_3, zpk_4, zptk_4, zpdr_4, zpk_5, zptk_5, zpdr_5, zpk_6, zptk_6, zpdr_6, zpk_7, zptk_7, zpdr_7, zpk_8, zptk_8, zpdr_8, zisR_s, zgR_s, ztlR_s, zisC_s, zgC_s, zkont_s, zkont_n, zw_iload, zw_iload_n0, zw_iload_n1, zw_iload_n2, zw_iload_n3, zw_lload, zw_lload_n0, zw_lload_n1, zw_lload_n2, zw_lload_n3, zw_dload, zw_dload_n0, zw_dload_n1, zw_dload_n2, zw_dload_n3, zw_aload, zw_aload_n0, zw_aload_n1, zw_aload_n2, zw_aload_n3, zw_iinc, zw_putfield, zw_callS, zw_callV, zw_callI, q_X2_makeByRoots, ct_X2_makeByRoots, zc_X2_rootStep, zn_X2_rootStep, zs_X2_rootStep, zc_X2_store, zn_X2_store, zs_X2_store, nIm_1, b_X2_makeByRoots_0, b_X2_makeByRoots_2, b_X2_makeByRoots_12, b_X2_makeByRoots_28, b_X2_makeByRoots_34, b_X2_makeByRoots_38, b_X2_makeByRoots_59, b_X2_makeByRoots_65, k_X2_makeByRoots_0, k_X2_makeByRoots_2, k_X2_makeByRoots_12, k_X2_makeByRoots_28, k_X2_makeByRoots_34, k_X2_makeByRoots_38, k_X2_makeByRoots_59, k_X2_makeByRoots_65, true_or, or_true, zrz_1, zrz_0, zrz_b, true_and, and_true, Nat.reduceAdd, Nat.reduceLeDiff, Nat.reduceMul, Nat.le_refl, Nat.add_zero, Nat.zero_add, zP2_k sh, f1, Classical.not_not, Bool.not_eq_false, Bool.not_eq_true, zN_add, zN_sub, zN_mul, zN_le, zN_lt, zN_eq, zix_nI, zin_n, zinI_n, zinR_n, zlt_t, zom_t, zLsr, zLsh, zand_low, zL_add, zL_mul, zL_lt, zL_le, zL_sub, zL_div, zN_div, zL_e0, zL_n0, zN_n0, zN11, zN00, false_or, or_false, zZN_add, zNZ_add, zZN_sub, zNZ_sub, zZN_lt, zZN_le, zNZ_lt, zNZ_le, zZN_eq, zZZ_lt, zZZ_le, zZZ_eq, zN_32, Nat.reducePow, Nat.reduceMod, Nat.reduceDiv, zlc_eq, zlc_lt, zlc_ge, zlc_gt, zlc_le, bI_0, zbo_b, zbo_1, zbo_0, zuJ_inj, nI_nat, eq_self, Nat.reduceEqDiff, Nat.reduceSub, zI_sI_eq, zI_sI_ne, zJ_sJ_eq, zJ_sJ_ne, zD_sD_eq, zD_sD_ne, zR_sR_eq, zR_sR_ne, zJ_sI, zR_sI, zSh_sI, zNx_sI, zD_sI, zI_sJ, zR_sJ, zSh_sJ, zNx_sJ, zD_sJ, zI_sD, zJ_sD, zR_sD, zSh_sD, zNx_sD, zI_sR, zJ_sR, zD_sR, zSh_sR, zNx_sR, if_true, if_false, ite_true, ite_false, not_true, not_false_eq_true, forall_const, false_implies, true_implies, implies_true]
    refine ⟨fun h1 => ?_, fun h1 => steps (by omega) 0 (by omega) u T hg ha hu hdg (fun h => by omega) rfl⟩
    refine hT u (zek_e h1) T hg (zFa_ext (fun a b ha hb => ?_) ha)
    show (if a < b ∧ (i < a ∨ (a = i ∧ 0 ≤ b)) then w a b else u a b) = u a b
    rw [if_neg (by omega)]
  refine hX 1000 _ _ _ _ _ _ ?_
  simp (disch := omega) only [wzq_nop, wzq_nop0, wzq_null, wzq_iconst, wzq_bipush, wzq_sipush, wzq_ldc, wzq_ldc_w, wzq_lconst, wzq_dconst, wzq_ldc2, wzq_ldc2d, wzq_istore, wzq_istore_n0, wzq_istore_n1, wzq_istore_n2, wzq_istore_n3, wzq_lstore, wzq_lstore_n0, wzq_lstore_n1, wzq_lstore_n2, wzq_lstore_n3, wzq_dstore, wzq_dstore_n0, wzq_dstore_n1, wzq_dstore_n2, wzq_dstore_n3, wzq_astore, wzq_astore_n0, wzq_astore_n1, wzq_astore_n2, wzq_astore_n3, wzq_iadd, wzq_isub, wzq_imul, wzq_iand, wzq_ior, wzq_ishr, wzq_iushr, wzq_idiv, wzq_irem, wzq_ineg, wzq_ladd, wzq_lsub, wzq_lmul, wzq_land, wzq_lor, wzq_lxor, wzq_ldiv, wzq_lrem, wzq_lneg, wzq_lshl, wzq_lshr, wzq_lushr, wzq_i2l, wzq_l2i, wzq_lcmp, wzq_dcmp, wzq_dadd, wzq_dsub, wzq_dmul, wzq_ddiv, wzq_dneg, wzq_dup, wzq_pop, wzq_pop2, wzq_dup2J, wzq_dup2D, wzq_dup2I, wzq_goto0, wzq_goto1, wzq_if_eq0, wzq_if_eq1, wzq_icmp_eq0, wzq_icmp_eq1, wzq_if_ne0, wzq_if_ne1, wzq_icmp_ne0, wzq_icmp_ne1, wzq_if_lt0, wzq_if_lt1, wzq_icmp_lt0, wzq_icmp_lt1, wzq_if_ge0, wzq_if_ge1, wzq_icmp_ge0, wzq_icmp_ge1, wzq_if_gt0, wzq_if_gt1, wzq_icmp_gt0, wzq_icmp_gt1, wzq_if_le0, wzq_if_le1, wzq_icmp_le0, wzq_icmp_le1, wzq_ifnull0, wzq_ifnull1, wzq_ifnull_a, wzq_ifnull_b, wzq_ifnonnull0, wzq_ifnonnull1, wzq_ifnonnull_a, wzq_ifnonnull_b, wzq_table, wzq_getfield, wzq_alen, wzq_iaload, wzq_baload, wzq_laload, wzq_daload, wzq_aaload, wzq_iastore, wzq_bastore, wzq_lastore, wzq_dastore, wzq_aastore, wzq_new, wzq_newarray, wzq_anewarray, wzq_d2l, wzq_l2d, wzq_mmax, wzq_mmin, wzq_mmaxl, wzq_mabs, wzq_objInit, wzq_ireturn, wzq_lreturn, wzq_dreturn, wzq_areturn, wzq_return, znth0, zst1_0, zst2_0, znth1, zst1_1, zst2_1, znth2, zst1_2, zst2_2, znth3, zst1_3, zst2_3, znth4, zst1_4, zst2_4, znth5, zst1_5, zst2_5, znth6, zst1_6, zst2_6, znth7, zst1_7, zst2_7, znth8, zst1_8, zst2_8, znth9, zst1_9, zst2_9, znth10, zst1_10, zst2_10, znth11, zst1_11, zst2_11, znth12, zst1_12, zst2_12, znth13, zst1_13, zst2_13, znth14, zst1_14, zst2_14, znth15, zst1_15, zst2_15, znth16, zst1_16, zst2_16, znth17, zst1_17, zst2_17, znth18, zst1_18, zst2_18, znth19, zst1_19, zst2_19, znth20, zst1_20, zst2_20, znth21, zst1_21, zst2_21, znth22, zst1_22, zst2_22, znth23, zst1_23, zst2_23, znth24, zst1_24, zst2_24, znth25, zst1_25, zst2_25, zkill_n, zkill_int, zkill_ref, zkill_null, zkill_long, zkill_double, zkill_rf, zref_s, zref_n, zref_rf, va_rf_s, va_rf_n, zget0, zget1, zget2, zget3, zget4, zget5, zget6, zget7, zget8, zget9, zget10, zget11, zget12, zget13, zget14, zget15, zget16, zget17, zget18, zget19, zget20, zget21, zget22, zget23, zget24, zget25, zwt_0, zwt_int, zcat_int, zwt_ref, zcat_ref, zwt_long, zcat_long, zwt_double, zcat_double, zwt_null, zwt_rf, zcat_null, zcat_rf, ztl_s, ztl_n, zfI, zfZ, zfJ, zfD, zfO, zfA, zsw_0, zsw_s, zYX1_0, zYX1_1, zYX1_2, zYX1_3, zYX1_4, zYX1_5, zYX1_6, zYX1_7, zYX1_8, zYX1_9, zYX1_10, zYX1_11, zYX1_12, zYX1_13, zYX1_14, zNX1, zYX2_0, zYX2_1, zYX2_2, zYX2_3, zYX2_4, zYX2_5, zYX2_6, zYX2_7, zYX2_8, zYX2_9, zYX2_10, zNX2, zYX3_0, zYX3_1, zYX3_2, zYX3_3, zYX3_4, zYX3_5, zYX3_6, zNX3, zYX4_0, zYX4_1, zYX4_2, zYX4_3, zYX4_4, zYX4_5, zNX4, zYX5_0, zYX5_1, zYX5_2, zYX5_3, zYX5_4, zYX5_5, zYX5_6, zYX5_7, zYX5_8, zNX5, zYX6_0, zYX6_1, zYX6_2, zYX6_3, zYX6_4, zNX6, zYX7_0, zYX7_1, zYX7_2, zYX7_3, zNX7, zYX8_0, zYX8_1, zYX8_2, zNX8, zYX9_0, zYX9_1, zYX9_2, zNX9, zYX10_0, zYX10_1, zYX10_2, zYX10_3, zYX10_4, zYX10_5, zYX10_6, zYX10_7, zYX10_8, zNX10, zYX11_0, zYX11_1, zYX11_2, zYX11_3, zYX11_4, zYX11_5, zYX11_6, zYX11_7, zYX11_8, zYX11_9, zYX11_10, zYX11_11, zYX11_12, zYX11_13, zYX11_14, zYX11_15, zYX11_16, zYX11_17, zYX11_18, zYX11_19, zYX11_20, zYX11_21, zYX11_22, zYX11_23, zYX11_24, zYX11_25, zYX11_26, zYX11_27, zYX11_28, zYX11_29, zYX11_30, zYX11_31, zYX11_32, zYX11_33, zYX11_34, zYX11_35, zYX11_36, zYX11_37, zYX11_38, zYX11_39, zYX11_40, zYX11_41, zYX11_42, zYX11_43, zYX11_44, zYX11_45, zYX11_46, zYX11_47, zYX11_48, zYX11_49, zYX11_50, zYX11_51, zYX11_52, zYX11_53, zYX11_54, zYX11_55, zYX11_56, zYX11_57, zNX11, zend_i, zend_l, zend_d, zend_o, zend_v, wzend_z, znle, zisI_s, zgI_s, zisJ_s, zgJ_s, zisD_s, zgD_s, zisA_s, zgA_s, zpokI, zpstI, zpokZ, zpstZ, zpokJ, zpstJ, zpokD, zpstD, zpokO, zpstO, zpokOn, zpstOn, zpokA, zpstA, zpokAn, zpstAn, zpk_0, zptk_0, zpdr_0, zpk_1, zptk_1, zpdr_1, zpk_2, zptk_2, zpdr_2, zpk_3, zptk_3, zpdr_3, zpk_4, zptk_4, zpdr_4, zpk_5, zptk_5, zpdr_5, zpk_6, zptk_6, zpdr_6, zpk_7, zptk_7, zpdr_7, zpk_8, zptk_8, zpdr_8, zisR_s, zgR_s, ztlR_s, zisC_s, zgC_s, zkont_s, zkont_n, zw_iload, zw_iload_n0, zw_iload_n1, zw_iload_n2, zw_iload_n3, zw_lload, zw_lload_n0, zw_lload_n1, zw_lload_n2, zw_lload_n3, zw_dload, zw_dload_n0, zw_dload_n1, zw_dload_n2, zw_dload_n3, zw_aload, zw_aload_n0, zw_aload_n1, zw_aload_n2, zw_aload_n3, zw_iinc, zw_putfield, zw_callS, zw_callV, zw_callI, q_X2_makeByRoots, ct_X2_makeByRoots, zc_X2_rootStep, zn_X2_rootStep, zs_X2_rootStep, zc_X2_store, zn_X2_store, zs_X2_store, nIm_1, b_X2_makeByRoots_0, b_X2_makeByRoots_2, b_X2_makeByRoots_12, b_X2_makeByRoots_28, b_X2_makeByRoots_34, b_X2_makeByRoots_38, b_X2_makeByRoots_59, b_X2_makeByRoots_65, k_X2_makeByRoots_0, k_X2_makeByRoots_2, k_X2_makeByRoots_12, k_X2_makeByRoots_28, k_X2_makeByRoots_34, k_X2_makeByRoots_38, k_X2_makeByRoots_59, k_X2_makeByRoots_65, true_or, or_true, zrz_1, zrz_0, zrz_b, true_and, and_true, Nat.reduceAdd, Nat.reduceLeDiff, Nat.reduceMul, Nat.le_refl, Nat.add_zero, Nat.zero_add, Classical.not_not, Bool.not_eq_false, Bool.not_eq_true, zN_add, zN_sub, zN_mul, zN_le, zN_lt, zN_eq, zix_nI, zin_n, zinI_n, zinR_n, zlt_t, zom_t, zLsr, zLsh, zand_low, zL_add, zL_mul, zL_lt, zL_le, zL_sub, zL_div, zN_div, zL_e0, zL_n0, zN_n0, zN11, zN00, false_or, or_false, zZN_add, zNZ_add, zZN_sub, zNZ_sub, zZN_lt, zZN_le, zNZ_lt, zNZ_le, zZN_eq, zZZ_lt, zZZ_le, zZZ_eq, zN_32, Nat.reducePow, Nat.reduceMod, Nat.reduceDiv, zlc_eq, zlc_lt, zlc_ge, zlc_gt, zlc_le, bI_0, zbo_b, zbo_1, zbo_0, zuJ_inj, nI_nat, eq_self, Nat.reduceEqDiff, Nat.reduceSub, zI_sI_eq, zI_sI_ne, zJ_sJ_eq, zJ_sJ_ne, zD_sD_eq, zD_sD_ne, zR_sR_eq, zR_sR_ne, zJ_sI, zR_sI, zSh_sI, zNx_sI, zD_sI, zI_sJ, zR_sJ, zSh_sJ, zNx_sJ, zD_sJ, zI_sD, zJ_sD, zR_sD, zSh_sD, zNx_sD, zI_sR, zJ_sR, zD_sR, zSh_sR, zNx_sR, if_true, if_false, ite_true, ite_false, not_true, not_false_eq_true, forall_const, false_implies, true_implies, implies_true]
  have e0 : zmix 0 0 w (zlw w) = w := by
    funext a b
    show (if a < b ∧ (0 < a ∨ (a = 0 ∧ 0 ≤ b)) then w a b else if a < b then 0 else w a b) = w a b
    by_cases h : a < b
    · rw [if_pos (by omega)]
    · rw [if_neg (by omega), if_neg h]
  exact outer 0 (by omega) (zlw w) S zFfr.refl (by rw [e0]; exact ha) (fun a b h => if_pos h) (fun a h => by omega) hT hF
end ZFAC7
