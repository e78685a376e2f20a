/-! the class's exact sums: carry, settle -/
section ZTOT3
theorem zsv_bd {f : Nat → Int} {C : Int} (hC : 0 ≤ C) (h : ∀ k, -C ≤ f k ∧ f k ≤ C) : ∀ n, -(C * 2 ^ (32 * n)) ≤ zsv f n ∧ zsv f n ≤ C * 2 ^ (32 * n)
  | 0 => by simp [zsv, zsmI]; omega
  | n + 1 => by
    obtain ⟨h1, h2⟩ := zsv_bd hC h n
    obtain ⟨h3, h4⟩ := h n
    rw [zsv_s, zip32]
    have p := zip_pos (32 * n)
    generalize (2 : Int) ^ (32 * n) = P at *
    have h5 : f n * P ≤ C * P := Int.mul_le_mul_of_nonneg_right h4 (Int.le_of_lt p)
    have h6 : -C * P ≤ f n * P := Int.mul_le_mul_of_nonneg_right h3 (Int.le_of_lt p)
    have h7 : C * (P * 4294967296) = C * P * 4294967296 := by rw [Int.mul_assoc]
    have h8 : 0 ≤ C * P := Int.mul_nonneg hC (Int.le_of_lt p)
    rw [Int.neg_mul] at h6
    omega
theorem zdiv_bd {V C P : Int} (hP : 0 < P) (h1 : -(C * P) ≤ V) (h2 : V ≤ C * P) : -C ≤ V / P ∧ V / P ≤ C :=
  ⟨(Int.le_ediv_iff_mul_le hP).mpr (by rw [Int.neg_mul]; exact h1), by
    have := Int.ediv_le_ediv hP h2
    rw [Int.mul_ediv_cancel _ (Int.ne_of_gt hP)] at this
    exact this⟩
/-- the carry into place i -/
def zcy (σ : Int) (dg : Nat → Int) (i : Nat) : Int := σ * zsv dg i / 2 ^ (32 * i)
theorem zcy_s (σ : Int) (dg : Nat → Int) (i : Nat) : σ * dg i + zcy σ dg i = σ * zsv dg (i + 1) / 2 ^ (32 * i) := by
  unfold zcy
  have e : σ * zsv dg (i + 1) = σ * zsv dg i + 2 ^ (32 * i) * (σ * dg i) := by rw [zsv_s]; grind
  rw [e, Int.add_mul_ediv_left _ _ (Int.ne_of_gt (zip_pos _)), Int.add_comm]
theorem zcy_n (σ : Int) (dg : Nat → Int) (i : Nat) : σ * zsv dg (i + 1) / 2 ^ (32 * i) / 4294967296 = zcy σ dg (i + 1) := by
  unfold zcy
  rw [zip32, Int.ediv_ediv_of_nonneg (Int.le_of_lt (zip_pos _))]
theorem zcy_d (σ : Int) (dg : Nat → Int) {i n : Nat} (h : i < n) : σ * zsv dg (i + 1) / 2 ^ (32 * i) % 4294967296 = zio (σ * zsv dg n) i := by
  obtain ⟨m, rfl⟩ : ∃ m, n = i + 1 + m := ⟨n - i - 1, by omega⟩
  obtain ⟨z, hz⟩ := zsv_top dg (i + 1) m
  have e : σ * zsv dg (i + 1 + m) = σ * zsv dg (i + 1) + 2 ^ (32 * (i + 1)) * (σ * z) := by rw [hz]; grind
  rw [e, zio_mod _ _ (Nat.lt_succ_self i)]; rfl
def ct_X7_carry : zCt := (fun av S K => ∃ o : Nat, ∃ s : Int32, av = [.ref o, .int s] ∧ (∃ dg lo h ng σ, (zTo S o dg lo h ng ∧ s = iZ σ ∧ (σ = 1 ∨ σ = -1) ∧ ∀ k, -35184372088832 ≤ dg k ∧ dg k ≤ 35184372088832) ∧ ∀ T, zGr (fun b => b = o + 1) S T → zTo T o (fun k => if k < h then zio (σ * zsv dg 136) k else 0) lo h ng → K (some (.long (jZ (σ * zsv dg 136 / 2 ^ (32 * h))))) T), 0, 0)
theorem zc_X7_carry {S : zS} {K : Option Value → zS → Prop} {o : Nat} {s : Int32} : ct_X7_carry.1 [.ref o, .int s] S K = (∃ dg lo h ng σ, (zTo S o dg lo h ng ∧ s = iZ σ ∧ (σ = 1 ∨ σ = -1) ∧ ∀ k, -35184372088832 ≤ dg k ∧ dg k ≤ 35184372088832) ∧ ∀ T, zGr (fun b => b = o + 1) S T → zTo T o (fun k => if k < h then zio (σ * zsv dg 136) k else 0) lo h ng → K (some (.long (jZ (σ * zsv dg 136 / 2 ^ (32 * h))))) T) := propext ⟨fun ⟨z0, z1, e, h⟩ => by cases e; exact h, fun h => ⟨o, s, rfl, h⟩⟩
theorem zn_X7_carry : ct_X7_carry.2.1 = 0 := rfl
theorem zs_X7_carry : ct_X7_carry.2.2 = 0 := rfl
theorem met_X7_carry (l : Launch) (G : zG) : zMet l G q_X7_carry ct_X7_carry := by
  refine zmk 7 false cal_X7_carry bl_X7_carry pl_X7_carry [] ck_X7_carry nm_X7_carry ⟨rfl, rfl⟩ wd_X7_carry (trivial) ?_
  intro X av S K h
  obtain ⟨o, s, rfl, h⟩ := h
  refine ⟨Nat.le_of_ble_eq_true rfl, fun hX => ?_⟩
  show X 0 [some (.ref o), some (.int s), none, none, none, none, none] [] S 0 0
  obtain ⟨dg, lo, h, ng, σ, ⟨⟨sh, ⟨f1, f2, f3⟩, ⟨b1, b2⟩, fd, fz⟩, rfl, hσ, hb⟩, hK⟩ := h
  have hlow : ∀ k, k < lo → zio (σ * zsv dg 136) k = 0 := fun k hk => by
    rw [← zcy_d σ dg (show k < 136 by omega), zsv_z (fun i hi => fz i (Or.inl (by omega))), Int.mul_zero, Int.zero_ediv]; rfl
  have hhi : zsv dg 136 = zsv dg h := zsv_hi b2 (fun i h1 h2 => fz i (Or.inr h1))
  have hcb : ∀ i, -35184372088832 ≤ zcy σ dg i ∧ zcy σ dg i ≤ 35184372088832 := fun i => by
    obtain ⟨h1, h2⟩ := zsv_bd (f := dg) (C := 35184372088832) (by decide) (fun k => hb k) i
    refine zdiv_bd (zip_pos _) ?_ ?_
    · rcases hσ with rfl | rfl <;> omega
    · rcases hσ with rfl | rfl <;> omega
  have e1 : (iZ σ).toInt64 = jZ σ := iZ_64 (by omega) (by omega)
  have loop : ∀ d, d ≤ max lo h → lo ≤ d → ∀ (T : zS) {l5 l6 : Option Value}, zGr (fun b => b = o + 1) S T → (∀ k, k < 136 → zJ T (o + 1) k = jZ (if k < d then zio (σ * zsv dg 136) k else dg k)) → X 8 [some (.ref o), some (.int (iZ σ)), some (.long (jZ (zcy σ dg d))), none, some (.int (nI d)), l5, l6] [] T 0 0 := by
    refine zlp fun d hd ih hld T l5 l6 hg hk => ?_
    have e0 := (hg.2.2.2 o (by omega)).1
    obtain ⟨c1, c2⟩ := hcb d
    obtain ⟨c3, c4⟩ := hb d
    obtain ⟨N, hN⟩ : ∃ N, σ * dg d + zcy σ dg d = N := ⟨_, rfl⟩
    have n1 : -9223372036854775808 ≤ N ∧ N < 9223372036854775808 := by rw [← hN]; rcases hσ with rfl | rfl <;> omega
    have ed : d < 136 → zJ T (o + 1) d = jZ (dg d) := fun h => by rw [hk d h, if_neg (by omega)]
    refine hX 1000 _ _ _ _ _ _ ?_
    simp +contextual (disch := omega) only [wzq_nop, wzq_nop0, wzq_null, wzq_iconst, wzq_bipush, wzq_sipush, wzq_ldc, wzq_ldc_w, wzq_lconst, wzq_dconst, wzq_ldc2, wzq_ldc2d, wzq_istore, wzq_istore_n0, wzq_istore_n1, wzq_istore_n2, wzq_istore_n3, wzq_lstore, wzq_lstore_n0, wzq_lstore_n1, wzq_lstore_n2, wzq_lstore_n3, wzq_dstore, wzq_dstore_n0, wzq_dstore_n1, wzq_dstore_n2, wzq_dstore_n3, wzq_astore, wzq_astore_n0, wzq_astore_n1, wzq_astore_n2, wzq_astore_n3, wzq_iadd, wzq_isub, wzq_imul, wzq_iand, wzq_ior, wzq_ishr, wzq_iushr, wzq_idiv, wzq_irem, wzq_ineg, wzq_ladd, wzq_lsub, wzq_lmul, wzq_land, wzq_lor, wzq_lxor, wzq_ldiv, wzq_lrem, wzq_lneg, wzq_lshl, wzq_lshr, wzq_lushr, wzq_i2l, wzq_l2i, wzq_lcmp, wzq_dcmp, wzq_dadd, wzq_dsub, wzq_dmul, wzq_ddiv, wzq_dneg, wzq_dup, wzq_pop, wzq_pop2, wzq_dup2J, wzq_dup2D, wzq_dup2I, wzq_goto0, wzq_goto1, wzq_if_eq0, wzq_if_eq1, wzq_icmp_eq0, wzq_icmp_eq1, wzq_if_ne0, wzq_if_ne1, wzq_icmp_ne0, wzq_icmp_ne1, wzq_if_lt0, wzq_if_lt1, wzq_icmp_lt0, wzq_icmp_lt1, wzq_if_ge0, wzq_if_ge1, wzq_icmp_ge0, wzq_icmp_ge1, wzq_if_gt0, wzq_if_gt1, wzq_icmp_gt0, wzq_icmp_gt1, wzq_if_le0, wzq_if_le1, wzq_icmp_le0, wzq_icmp_le1, wzq_ifnull0, wzq_ifnull1, wzq_ifnull_a, wzq_ifnull_b, wzq_ifnonnull0, wzq_ifnonnull1, wzq_ifnonnull_a, wzq_ifnonnull_b, wzq_table, wzq_getfield, wzq_alen, wzq_iaload, wzq_baload, wzq_laload, wzq_daload, wzq_aaload, wzq_iastore, wzq_bastore, wzq_lastore, wzq_dastore, wzq_aastore, wzq_new, wzq_newarray, wzq_anewarray, wzq_d2l, wzq_l2d, wzq_mmax, wzq_mmin, wzq_mmaxl, wzq_mabs, wzq_objInit, wzq_ireturn, wzq_lreturn, wzq_dreturn, wzq_areturn, wzq_return, znth0, zst1_0, zst2_0, znth1, zst1_1, zst2_1, znth2, zst1_2, zst2_2, znth3, zst1_3, zst2_3, znth4, zst1_4, zst2_4, znth5, zst1_5, zst2_5, znth6, zst1_6, zst2_6, znth7, zst1_7, zst2_7, znth8, zst1_8, zst2_8, znth9, zst1_9, zst2_9, znth10, zst1_10, zst2_10, znth11, zst1_11, zst2_11, znth12, zst1_12, zst2_12, znth13, zst1_13, zst2_13, znth14, zst1_14, zst2_14, znth15, zst1_15, zst2_15, znth16, zst1_16, zst2_16, znth17, zst1_17, zst2_17, znth18, zst1_18, zst2_18, znth19, zst1_19, zst2_19, znth20, zst1_20, zst2_20, znth21, zst1_21, zst2_21, znth22, zst1_22, zst2_22, znth23, zst1_23, zst2_23, znth24, zst1_24, zst2_24, znth25, zst1_25, zst2_25, zkill_n, zkill_int, zkill_ref, zkill_null, zkill_long, zkill_double, zkill_rf, zref_s, zref_n, zref_rf, va_rf_s, va_rf_n, zget0, zget1, zget2, zget3, zget4, zget5, zget6, zget7, zget8, zget9, zget10, zget11, zget12, zget13, zget14, zget15, zget16, zget17, zget18, zget19, zget20, zget21, zget22, zget23, zget24, zget25, zwt_0, zwt_int, zcat_int, zwt_ref, zcat_ref, zwt_long, zcat_long, zwt_double, zcat_double, zwt_null, zwt_rf, zcat_null, zcat_rf, ztl_s, ztl_n, zfI, zfZ, zfJ, zfD, zfO, zfA, zsw_0, zsw_s, zYX1_0, zYX1_1, zYX1_2, zYX1_3, zYX1_4, zYX1_5, zYX1_6, zYX1_7, zYX1_8, zYX1_9, zYX1_10, zYX1_11, zYX1_12, zYX1_13, zYX1_14, zNX1, zYX2_0, zYX2_1, zYX2_2, zYX2_3, zYX2_4, zYX2_5, zYX2_6, zYX2_7, zYX2_8, zYX2_9, zYX2_10, zNX2, zYX3_0, zYX3_1, zYX3_2, zYX3_3, zYX3_4, zYX3_5, zYX3_6, zNX3, zYX4_0, zYX4_1, zYX4_2, zYX4_3, zYX4_4, zYX4_5, zNX4, zYX5_0, zYX5_1, zYX5_2, zYX5_3, zYX5_4, zYX5_5, zYX5_6, zYX5_7, zYX5_8, zNX5, zYX6_0, zYX6_1, zYX6_2, zYX6_3, zYX6_4, zNX6, zYX7_0, zYX7_1, zYX7_2, zYX7_3, zNX7, zYX8_0, zYX8_1, zYX8_2, zNX8, zYX9_0, zYX9_1, zYX9_2, zNX9, zYX10_0, zYX10_1, zYX10_2, zYX10_3, zYX10_4, zYX10_5, zYX10_6, zYX10_7, zYX10_8, zNX10, zYX11_0, zYX11_1, zYX11_2, zYX11_3, zYX11_4, zYX11_5, zYX11_6, zYX11_7, zYX11_8, zYX11_9, zYX11_10, zYX11_11, zYX11_12, zYX11_13, zYX11_14, zYX11_15, zYX11_16, zYX11_17, zYX11_18, zYX11_19, zYX11_20, zYX11_21, zYX11_22, zYX11_23, zYX11_24, zYX11_25, zYX11_26, zYX11_27, zYX11_28, zYX11_29, zYX11_30, zYX11_31, zYX11_32, zYX11_33, zYX11_34, zYX11_35, zYX11_36, zYX11_37, zYX11_38, zYX11_39, zYX11_40, zYX11_41, zYX11_42, zYX11_43, zYX11_44, zYX11_45, zYX11_46, zYX11_47, zYX11_48, zYX11_49, zYX11_50, zYX11_51, zYX11_52, zYX11_53, zYX11_54, zYX11_55, zYX11_56, zYX11_57, zNX11, zend_i, zend_l, zend_d, zend_o, zend_v, wzend_z, znle, zisI_s, zgI_s, zisJ_s, zgJ_s, zisD_s, zgD_s, zisA_s, zgA_s, zpokI, zpstI, zpokZ, zpstZ, zpokJ, zpstJ, zpokD, zpstD, zpokO, zpstO, zpokOn, zpstOn, zpokA, zpstA, zpokAn, zpstAn, zpk_0, zptk_0, zpdr_0, zpk_1, zptk_1, zpdr_1, zpk_2, zptk_2, zpdr_2, zpk_3, zptk_3, zpdr_3, zpk_4, zptk_4, zpdr_4, zpk_5, zptk_5, zpdr_5, zpk_6, zptk_6, zpdr_6, zpk_7, zptk_7, zpdr_7, zpk_8, zptk_8, zpdr_8, zisR_s, zgR_s, ztlR_s, zisC_s, zgC_s, zkont_s, zkont_n, zw_iload, zw_iload_n0, zw_iload_n1, zw_iload_n2, zw_iload_n3, zw_lload, zw_lload_n0, zw_lload_n1, zw_lload_n2, zw_lload_n3, zw_dload, zw_dload_n0, zw_dload_n1, zw_dload_n2, zw_dload_n3, zw_aload, zw_aload_n0, zw_aload_n1, zw_aload_n2, zw_aload_n3, zw_iinc, zw_putfield, zw_callS, zw_callV, zw_callI, q_X7_carry, ct_X7_carry, b_X7_carry_0, b_X7_carry_8, b_X7_carry_56, k_X7_carry_0, k_X7_carry_8, k_X7_carry_56, true_or, or_true, zrz_1, zrz_0, zrz_b, true_and, and_true, Nat.reduceAdd, Nat.reduceLeDiff, Nat.reduceMul, Nat.le_refl, Nat.add_zero, Nat.zero_add, zP7_k (zP7_gr hg sh), zP7_r0 (zP7_gr hg sh), zP7_s0 (zP7_gr hg sh), e0, f1, f2, e1, ed, jZ_mul, hN, jZ_shr, Classical.not_not, Bool.not_eq_false, Bool.not_eq_true, zN_add, zN_sub, zN_mul, zN_le, zN_lt, zN_eq, zix_nI, zin_n, zinI_n, zinR_n, zlt_t, zom_t, zLsr, zLsh, zand_low, zL_add, zL_mul, zL_lt, zL_le, zL_sub, zL_div, zN_div, zL_e0, zL_n0, zN_n0, zN11, zN00, false_or, or_false, zZN_add, zNZ_add, zZN_sub, zNZ_sub, zZN_lt, zZN_le, zNZ_lt, zNZ_le, zZN_eq, zZZ_lt, zZZ_le, zZZ_eq, zN_32, Nat.reducePow, Nat.reduceMod, Nat.reduceDiv, zlc_eq, zlc_lt, zlc_ge, zlc_gt, zlc_le, bI_0, zbo_b, zbo_1, zbo_0, zuJ_inj, nI_nat, eq_self, Nat.reduceEqDiff, Nat.reduceSub, zI_sI_eq, zI_sI_ne, zJ_sJ_eq, zJ_sJ_ne, zD_sD_eq, zD_sD_ne, zR_sR_eq, zR_sR_ne, zJ_sI, zR_sI, zSh_sI, zNx_sI, zD_sI, zI_sJ, zR_sJ, zSh_sJ, zNx_sJ, zD_sJ, zI_sD, zJ_sD, zR_sD, zSh_sD, zNx_sD, zI_sR, zJ_sR, zD_sR, zSh_sR, zNx_sR, if_true, if_false, ite_true, ite_false, not_true, not_false_eq_true, forall_const, false_implies, true_implies, implies_true, zN_shr, zN_m31, jZ_low, jZ_add, jZ_sub, jZN_mul]
    refine ⟨fun h1 => ?_, fun h1 => ?_⟩
    · have e2 : zcy σ dg d = σ * zsv dg 136 / 2 ^ (32 * h) := by
        by_cases h2 : d = h
        · rw [h2, hhi]; rfl
        · have h3 : d = lo := by omega
          rw [hhi, zsv_z (f := dg) (n := h) (fun i hi => fz i (by omega))]
          unfold zcy
          rw [zsv_z (f := dg) (n := d) (fun i hi => fz i (by omega)), Int.mul_zero, Int.zero_ediv, Int.zero_ediv]
      rw [e2]
      refine hK T hg ⟨zP7_gr hg sh, ⟨by rw [e0]; exact f1, by rw [e0]; exact f2, by rw [e0]; exact f3⟩, ⟨b1, b2⟩, fun k hk2 => ?_, fun k hk2 => ?_⟩
      · rw [hk k hk2]
        show _ = jZ (if k < h then zio (σ * zsv dg 136) k else 0)
        by_cases h3 : k < h
        · rw [if_pos h3]
          by_cases h4 : k < d
          · rw [if_pos h4]
          · rw [if_neg h4, fz k (by omega), hlow k (by omega)]
        · rw [if_neg h3]
          by_cases h4 : k < d
          · rw [if_pos h4, hlow k (by omega)]
          · rw [if_neg h4, fz k (Or.inr (by omega))]
      · show (if k < h then zio (σ * zsv dg 136) k else 0) = 0
        by_cases h3 : k < h
        · rw [if_pos h3, hlow k (by omega)]
        · rw [if_neg h3]
    · have hN2 : N / 4294967296 = zcy σ dg (d + 1) := by rw [← hN, zcy_s, zcy_n]
      have hN3 : N % 4294967296 = zio (σ * zsv dg 136) d := by rw [← hN, zcy_s]; exact zcy_d σ dg (by omega)
      rw [hN2, hN3]
      refine ih (by omega) (by omega) _ (hg.sJ rfl) (fun k hk2 => ?_)
      by_cases h2 : k = d
      · rw [h2, zJ_sJ_eq, if_pos (by omega)]
      · rw [zJ_sJ_ne (by omega), hk k hk2]
        by_cases h3 : k < d
        · rw [if_pos h3, if_pos (by omega)]
        · rw [if_neg h3, if_neg (by omega)]
  refine hX 1000 _ _ _ _ _ _ ?_
  simp +contextual (disch := omega) only [wzq_nop, wzq_nop0, wzq_null, wzq_iconst, wzq_bipush, wzq_sipush, wzq_ldc, wzq_ldc_w, wzq_lconst, wzq_dconst, wzq_ldc2, wzq_ldc2d, wzq_istore, wzq_istore_n0, wzq_istore_n1, wzq_istore_n2, wzq_istore_n3, wzq_lstore, wzq_lstore_n0, wzq_lstore_n1, wzq_lstore_n2, wzq_lstore_n3, wzq_dstore, wzq_dstore_n0, wzq_dstore_n1, wzq_dstore_n2, wzq_dstore_n3, wzq_astore, wzq_astore_n0, wzq_astore_n1, wzq_astore_n2, wzq_astore_n3, wzq_iadd, wzq_isub, wzq_imul, wzq_iand, wzq_ior, wzq_ishr, wzq_iushr, wzq_idiv, wzq_irem, wzq_ineg, wzq_ladd, wzq_lsub, wzq_lmul, wzq_land, wzq_lor, wzq_lxor, wzq_ldiv, wzq_lrem, wzq_lneg, wzq_lshl, wzq_lshr, wzq_lushr, wzq_i2l, wzq_l2i, wzq_lcmp, wzq_dcmp, wzq_dadd, wzq_dsub, wzq_dmul, wzq_ddiv, wzq_dneg, wzq_dup, wzq_pop, wzq_pop2, wzq_dup2J, wzq_dup2D, wzq_dup2I, wzq_goto0, wzq_goto1, wzq_if_eq0, wzq_if_eq1, wzq_icmp_eq0, wzq_icmp_eq1, wzq_if_ne0, wzq_if_ne1, wzq_icmp_ne0, wzq_icmp_ne1, wzq_if_lt0, wzq_if_lt1, wzq_icmp_lt0, wzq_icmp_lt1, wzq_if_ge0, wzq_if_ge1, wzq_icmp_ge0, wzq_icmp_ge1, wzq_if_gt0, wzq_if_gt1, wzq_icmp_gt0, wzq_icmp_gt1, wzq_if_le0, wzq_if_le1, wzq_icmp_le0, wzq_icmp_le1, wzq_ifnull0, wzq_ifnull1, wzq_ifnull_a, wzq_ifnull_b, wzq_ifnonnull0, wzq_ifnonnull1, wzq_ifnonnull_a, wzq_ifnonnull_b, wzq_table, wzq_getfield, wzq_alen, wzq_iaload, wzq_baload, wzq_laload, wzq_daload, wzq_aaload, wzq_iastore, wzq_bastore, wzq_lastore, wzq_dastore, wzq_aastore, wzq_new, wzq_newarray, wzq_anewarray, wzq_d2l, wzq_l2d, wzq_mmax, wzq_mmin, wzq_mmaxl, wzq_mabs, wzq_objInit, wzq_ireturn, wzq_lreturn, wzq_dreturn, wzq_areturn, wzq_return, znth0, zst1_0, zst2_0, znth1, zst1_1, zst2_1, znth2, zst1_2, zst2_2, znth3, zst1_3, zst2_3, znth4, zst1_4, zst2_4, znth5, zst1_5, zst2_5, znth6, zst1_6, zst2_6, znth7, zst1_7, zst2_7, znth8, zst1_8, zst2_8, znth9, zst1_9, zst2_9, znth10, zst1_10, zst2_10, znth11, zst1_11, zst2_11, znth12, zst1_12, zst2_12, znth13, zst1_13, zst2_13, znth14, zst1_14, zst2_14, znth15, zst1_15, zst2_15, znth16, zst1_16, zst2_16, znth17, zst1_17, zst2_17, znth18, zst1_18, zst2_18, znth19, zst1_19, zst2_19, znth20, zst1_20, zst2_20, znth21, zst1_21, zst2_21, znth22, zst1_22, zst2_22, znth23, zst1_23, zst2_23, znth24, zst1_24, zst2_24, znth25, zst1_25, zst2_25, zkill_n, zkill_int, zkill_ref, zkill_null, zkill_long, zkill_double, zkill_rf, zref_s, zref_n, zref_rf, va_rf_s, va_rf_n, zget0, zget1, zget2, zget3, zget4, zget5, zget6, zget7, zget8, zget9, zget10, zget11, zget12, zget13, zget14, zget15, zget16, zget17, zget18, zget19, zget20, zget21, zget22, zget23, zget24, zget25, zwt_0, zwt_int, zcat_int, zwt_ref, zcat_ref, zwt_long, zcat_long, zwt_double, zcat_double, zwt_null, zwt_rf, zcat_null, zcat_rf, ztl_s, ztl_n, zfI, zfZ, zfJ, zfD, zfO, zfA, zsw_0, zsw_s, zYX1_0, zYX1_1, zYX1_2, zYX1_3, zYX1_4, zYX1_5, zYX1_6, zYX1_7, zYX1_8, zYX1_9, zYX1_10, zYX1_11, zYX1_12, zYX1_13, zYX1_14, zNX1, zYX2_0, zYX2_1, zYX2_2, zYX2_3, zYX2_4, zYX2_5, zYX2_6, zYX2_7, zYX2_8, zYX2_9, zYX2_10, zNX2, zYX3_0, zYX3_1, zYX3_2, zYX3_3, zYX3_4, zYX3_5, zYX3_6, zNX3, zYX4_0, zYX4_1, zYX4_2, zYX4_3, zYX4_4, zYX4_5, zNX4, zYX5_0, zYX5_1, zYX5_2, zYX5_3, zYX5_4, zYX5_5, zYX5_6, zYX5_7, zYX5_8, zNX5, zYX6_0, zYX6_1, zYX6_2, zYX6_3, zYX6_4, zNX6, zYX7_0, zYX7_1, zYX7_2, zYX7_3, zNX7, zYX8_0, zYX8_1, zYX8_2, zNX8, zYX9_0, zYX9_1, zYX9_2, zNX9, zYX10_0, zYX10_1, zYX10_2, zYX10_3, zYX10_4, zYX10_5, zYX10_6, zYX10_7, zYX10_8, zNX10, zYX11_0, zYX11_1, zYX11_2, zYX11_3, zYX11_4, zYX11_5, zYX11_6, zYX11_7, zYX11_8, zYX11_9, zYX11_10, zYX11_11, zYX11_12, zYX11_13, zYX11_14, zYX11_15, zYX11_16, zYX11_17, zYX11_18, zYX11_19, zYX11_20, zYX11_21, zYX11_22, zYX11_23, zYX11_24, zYX11_25, zYX11_26, zYX11_27, zYX11_28, zYX11_29, zYX11_30, zYX11_31, zYX11_32, zYX11_33, zYX11_34, zYX11_35, zYX11_36, zYX11_37, zYX11_38, zYX11_39, zYX11_40, zYX11_41, zYX11_42, zYX11_43, zYX11_44, zYX11_45, zYX11_46, zYX11_47, zYX11_48, zYX11_49, zYX11_50, zYX11_51, zYX11_52, zYX11_53, zYX11_54, zYX11_55, zYX11_56, zYX11_57, zNX11, zend_i, zend_l, zend_d, zend_o, zend_v, wzend_z, znle, zisI_s, zgI_s, zisJ_s, zgJ_s, zisD_s, zgD_s, zisA_s, zgA_s, zpokI, zpstI, zpokZ, zpstZ, zpokJ, zpstJ, zpokD, zpstD, zpokO, zpstO, zpokOn, zpstOn, zpokA, zpstA, zpokAn, zpstAn, zpk_0, zptk_0, zpdr_0, zpk_1, zptk_1, zpdr_1, zpk_2, zptk_2, zpdr_2, zpk_3, zptk_3, zpdr_3, zpk_4, zptk_4, zpdr_4, zpk_5, zptk_5, zpdr_5, zpk_6, zptk_6, zpdr_6, zpk_7, zptk_7, zpdr_7, zpk_8, zptk_8, zpdr_8, zisR_s, zgR_s, ztlR_s, zisC_s, zgC_s, zkont_s, zkont_n, zw_iload, zw_iload_n0, zw_iload_n1, zw_iload_n2, zw_iload_n3, zw_lload, zw_lload_n0, zw_lload_n1, zw_lload_n2, zw_lload_n3, zw_dload, zw_dload_n0, zw_dload_n1, zw_dload_n2, zw_dload_n3, zw_aload, zw_aload_n0, zw_aload_n1, zw_aload_n2, zw_aload_n3, zw_iinc, zw_putfield, zw_callS, zw_callV, zw_callI, q_X7_carry, ct_X7_carry, b_X7_carry_0, b_X7_carry_8, b_X7_carry_56, k_X7_carry_0, k_X7_carry_8, k_X7_carry_56, true_or, or_true, zrz_1, zrz_0, zrz_b, true_and, and_true, Nat.reduceAdd, Nat.reduceLeDiff, Nat.reduceMul, Nat.le_refl, Nat.add_zero, Nat.zero_add, zP7_k (sh), zP7_r0 (sh), zP7_s0 (sh), f1, Classical.not_not, Bool.not_eq_false, Bool.not_eq_true, zN_add, zN_sub, zN_mul, zN_le, zN_lt, zN_eq, zix_nI, zin_n, zinI_n, zinR_n, zlt_t, zom_t, zLsr, zLsh, zand_low, zL_add, zL_mul, zL_lt, zL_le, zL_sub, zL_div, zN_div, zL_e0, zL_n0, zN_n0, zN11, zN00, false_or, or_false, zZN_add, zNZ_add, zZN_sub, zNZ_sub, zZN_lt, zZN_le, zNZ_lt, zNZ_le, zZN_eq, zZZ_lt, zZZ_le, zZZ_eq, zN_32, Nat.reducePow, Nat.reduceMod, Nat.reduceDiv, zlc_eq, zlc_lt, zlc_ge, zlc_gt, zlc_le, bI_0, zbo_b, zbo_1, zbo_0, zuJ_inj, nI_nat, eq_self, Nat.reduceEqDiff, Nat.reduceSub, zI_sI_eq, zI_sI_ne, zJ_sJ_eq, zJ_sJ_ne, zD_sD_eq, zD_sD_ne, zR_sR_eq, zR_sR_ne, zJ_sI, zR_sI, zSh_sI, zNx_sI, zD_sI, zI_sJ, zR_sJ, zSh_sJ, zNx_sJ, zD_sJ, zI_sD, zJ_sD, zR_sD, zSh_sD, zNx_sD, zI_sR, zJ_sR, zD_sR, zSh_sR, zNx_sR, if_true, if_false, ite_true, ite_false, not_true, not_false_eq_true, forall_const, false_implies, true_implies, implies_true, zN_shr, zN_m31, jZ_low, jZ_add, jZ_sub, jZN_mul]
  have e2 : lN 0 = jZ (zcy σ dg lo) := by
    unfold zcy
    rw [zsv_z (fun i hi => fz i (Or.inl hi)), Int.mul_zero, Int.zero_ediv]; rfl
  rw [e2]
  exact loop lo (by omega) (Nat.le_refl _) S zGr.refl (fun k hk => by
    rw [fd k hk]
    by_cases h1 : k < lo
    · rw [if_pos h1, fz k (Or.inl h1), hlow k h1]
    · rw [if_neg h1])
/-- while numbers are added: the sum V, digits to c pieces -/
def zTa (S : zS) (o : Nat) (V : Int) (c hm : Nat) : Prop := ∃ dg lo h, zTo S o dg lo h false ∧ h ≤ hm ∧ zsv dg 136 = V ∧ c ≤ 1024 ∧ ∀ k, -(c * 17179869184 : Int) ≤ dg k ∧ dg k ≤ (c * 17179869184 : Int)
/-- settled: V's size and sign -/
def zTs (S : zS) (o : Nat) (V : Int) (hm : Nat) : Prop := ∃ dg lo h, zTo S o dg lo h (decide (V < 0)) ∧ h ≤ hm ∧ (∀ k, 0 ≤ dg k ∧ dg k < 4294967296) ∧ zsv dg 136 = V.natAbs
theorem zTs_0 {S : zS} {o lo h hm : Nat} {dg : Nat → Int} (ht : zTo S o dg lo h false) (hh : h ≤ hm) (hz : ∀ k, dg k = 0) : zTs S o 0 hm :=
  ⟨dg, lo, h, ht, hh, fun k => by rw [hz k]; omega, by rw [zsv_z (fun k _ => hz k)]; rfl⟩
theorem zTs_gr {F : Nat → Prop} {S T : zS} {o : Nat} {V : Int} {hm : Nat} (hg : zGr F S T) (h1 : ¬ F o) (h2 : ¬ F (o + 1)) (ht : zTs S o V hm) : zTs T o V hm := by
  obtain ⟨dg, lo, h, q1, q2⟩ := ht
  exact ⟨dg, lo, h, zTo_gr hg h1 h2 q1, q2⟩
theorem zsv_cut (V : Int) {h n : Nat} (hn : h ≤ n) : zsv (fun k => if k < h then zio V k else 0) n = V % 2 ^ (32 * h) := by
  rw [zsv_hi hn (fun i h1 h2 => if_neg (by omega)), zsv_congr (g := zio V) (fun k hk => if_pos hk), zsv_zio]
theorem zsv_bd2 {f : Nat → Int} {C : Int} (hC : 0 ≤ C) (h : ∀ k, -C ≤ f k ∧ f k ≤ C) (n : Nat) : -(2 * C * 2 ^ (32 * n)) ≤ zsv f (n + 1) ∧ zsv f (n + 1) ≤ 2 * C * 2 ^ (32 * n) := by
  obtain ⟨h1, h2⟩ := zsv_bd hC h n
  obtain ⟨h3, h4⟩ := h n
  rw [zsv_s]
  have p := zip_pos (32 * n)
  generalize (2 : Int) ^ (32 * n) = P at *
  have h5 : f n * P ≤ C * P := Int.mul_le_mul_of_nonneg_right h4 (Int.le_of_lt p)
  have h6 : -C * P ≤ f n * P := Int.mul_le_mul_of_nonneg_right h3 (Int.le_of_lt p)
  rw [Int.neg_mul] at h6
  have h7 : 2 * C * P = C * P + C * P := by grind
  omega
def ct_X7_settle : zCt := (fun av S K => ∃ o : Nat, av = [.ref o] ∧ (∃ V c hm, (zTa S o V c hm ∧ zom (hm ≤ 135)) ∧ ∀ T, zGr (fun b => b = o ∨ b = o + 1) S T → zTs T o V (min (hm + 2) 136) → K none T), 0, 0)
theorem zc_X7_settle {S : zS} {K : Option Value → zS → Prop} {o : Nat} : ct_X7_settle.1 [.ref o] S K = (∃ V c hm, (zTa S o V c hm ∧ zom (hm ≤ 135)) ∧ ∀ T, zGr (fun b => b = o ∨ b = o + 1) S T → zTs T o V (min (hm + 2) 136) → K none T) := propext ⟨fun ⟨z0, e, h⟩ => by cases e; exact h, fun h => ⟨o, rfl, h⟩⟩
theorem zn_X7_settle : ct_X7_settle.2.1 = 0 := rfl
theorem zs_X7_settle : ct_X7_settle.2.2 = 0 := rfl
theorem met_X7_settle (l : Launch) (G : zG) : zMet l G q_X7_settle ct_X7_settle := by
  refine zmk 7 false cal_X7_settle bl_X7_settle pl_X7_settle [ct_X7_carry] ck_X7_settle nm_X7_settle ⟨rfl, rfl⟩ wd_X7_settle (⟨⟨met_X7_carry l G, rfl, rfl⟩, trivial⟩) ?_
  intro X av S K h
  obtain ⟨o, rfl, h⟩ := h
  refine ⟨Nat.le_of_ble_eq_true rfl, fun hX => ?_⟩
  show X 0 [some (.ref o)] [] S 0 0
  obtain ⟨V, c, hm, ⟨⟨dg, lo, h, hto, hh, hV, hc, hb⟩, hom⟩, hK⟩ := h
  have hm135 : hm ≤ 135 := hom
  obtain ⟨H, hH⟩ : ∃ H, min (h + 2) 136 = H := ⟨_, rfl⟩
  have hHb : H ≤ 136 ∧ h + 1 ≤ H ∧ H ≤ min (hm + 2) 136 := by omega
  have ⟨sh, ⟨f1, f2, f3⟩, ⟨b1, b2⟩, fd, fz⟩ := hto
  have em : (if ((135 : Nat) : Int) < (h : Int) - 1 + ((2 : Nat) : Int) then nI 135 else iZ ((h : Int) - 1 + ((2 : Nat) : Int))) = iZ ((H : Int) - 1) := by
    split
    · have e : ((135 : Nat) : Int) = (H : Int) - 1 := by omega
      rw [nI_z, e]
    · have e : (h : Int) - 1 + ((2 : Nat) : Int) = (H : Int) - 1 := by omega
      rw [e]
  by_cases h0 : h = 0
  · have hz : ∀ k, dg k = 0 := fun k => fz k (Or.inr (by omega))
    have hV0 : V = 0 := by rw [← hV, zsv_z (fun k _ => hz k)]
    have e1 : iZ ((h : Int) - 1) = iZ (-1) := by rw [h0]; rfl
    rw [e1] at f2
    have m1 : (nI 0 ≤ iZ (-1)) = False := eq_false (by decide)
    refine hX 1000 _ _ _ _ _ _ ?_
    simp +contextual (disch := omega) only [wzq_nop, wzq_nop0, wzq_null, wzq_iconst, wzq_bipush, wzq_sipush, wzq_ldc, wzq_ldc_w, wzq_lconst, wzq_dconst, wzq_ldc2, wzq_ldc2d, wzq_istore, wzq_istore_n0, wzq_istore_n1, wzq_istore_n2, wzq_istore_n3, wzq_lstore, wzq_lstore_n0, wzq_lstore_n1, wzq_lstore_n2, wzq_lstore_n3, wzq_dstore, wzq_dstore_n0, wzq_dstore_n1, wzq_dstore_n2, wzq_dstore_n3, wzq_astore, wzq_astore_n0, wzq_astore_n1, wzq_astore_n2, wzq_astore_n3, wzq_iadd, wzq_isub, wzq_imul, wzq_iand, wzq_ior, wzq_ishr, wzq_iushr, wzq_idiv, wzq_irem, wzq_ineg, wzq_ladd, wzq_lsub, wzq_lmul, wzq_land, wzq_lor, wzq_lxor, wzq_ldiv, wzq_lrem, wzq_lneg, wzq_lshl, wzq_lshr, wzq_lushr, wzq_i2l, wzq_l2i, wzq_lcmp, wzq_dcmp, wzq_dadd, wzq_dsub, wzq_dmul, wzq_ddiv, wzq_dneg, wzq_dup, wzq_pop, wzq_pop2, wzq_dup2J, wzq_dup2D, wzq_dup2I, wzq_goto0, wzq_goto1, wzq_if_eq0, wzq_if_eq1, wzq_icmp_eq0, wzq_icmp_eq1, wzq_if_ne0, wzq_if_ne1, wzq_icmp_ne0, wzq_icmp_ne1, wzq_if_lt0, wzq_if_lt1, wzq_icmp_lt0, wzq_icmp_lt1, wzq_if_ge0, wzq_if_ge1, wzq_icmp_ge0, wzq_icmp_ge1, wzq_if_gt0, wzq_if_gt1, wzq_icmp_gt0, wzq_icmp_gt1, wzq_if_le0, wzq_if_le1, wzq_icmp_le0, wzq_icmp_le1, wzq_ifnull0, wzq_ifnull1, wzq_ifnull_a, wzq_ifnull_b, wzq_ifnonnull0, wzq_ifnonnull1, wzq_ifnonnull_a, wzq_ifnonnull_b, wzq_table, wzq_getfield, wzq_alen, wzq_iaload, wzq_baload, wzq_laload, wzq_daload, wzq_aaload, wzq_iastore, wzq_bastore, wzq_lastore, wzq_dastore, wzq_aastore, wzq_new, wzq_newarray, wzq_anewarray, wzq_d2l, wzq_l2d, wzq_mmax, wzq_mmin, wzq_mmaxl, wzq_mabs, wzq_objInit, wzq_ireturn, wzq_lreturn, wzq_dreturn, wzq_areturn, wzq_return, znth0, zst1_0, zst2_0, znth1, zst1_1, zst2_1, znth2, zst1_2, zst2_2, znth3, zst1_3, zst2_3, znth4, zst1_4, zst2_4, znth5, zst1_5, zst2_5, znth6, zst1_6, zst2_6, znth7, zst1_7, zst2_7, znth8, zst1_8, zst2_8, znth9, zst1_9, zst2_9, znth10, zst1_10, zst2_10, znth11, zst1_11, zst2_11, znth12, zst1_12, zst2_12, znth13, zst1_13, zst2_13, znth14, zst1_14, zst2_14, znth15, zst1_15, zst2_15, znth16, zst1_16, zst2_16, znth17, zst1_17, zst2_17, znth18, zst1_18, zst2_18, znth19, zst1_19, zst2_19, znth20, zst1_20, zst2_20, znth21, zst1_21, zst2_21, znth22, zst1_22, zst2_22, znth23, zst1_23, zst2_23, znth24, zst1_24, zst2_24, znth25, zst1_25, zst2_25, zkill_n, zkill_int, zkill_ref, zkill_null, zkill_long, zkill_double, zkill_rf, zref_s, zref_n, zref_rf, va_rf_s, va_rf_n, zget0, zget1, zget2, zget3, zget4, zget5, zget6, zget7, zget8, zget9, zget10, zget11, zget12, zget13, zget14, zget15, zget16, zget17, zget18, zget19, zget20, zget21, zget22, zget23, zget24, zget25, zwt_0, zwt_int, zcat_int, zwt_ref, zcat_ref, zwt_long, zcat_long, zwt_double, zcat_double, zwt_null, zwt_rf, zcat_null, zcat_rf, ztl_s, ztl_n, zfI, zfZ, zfJ, zfD, zfO, zfA, zsw_0, zsw_s, zYX1_0, zYX1_1, zYX1_2, zYX1_3, zYX1_4, zYX1_5, zYX1_6, zYX1_7, zYX1_8, zYX1_9, zYX1_10, zYX1_11, zYX1_12, zYX1_13, zYX1_14, zNX1, zYX2_0, zYX2_1, zYX2_2, zYX2_3, zYX2_4, zYX2_5, zYX2_6, zYX2_7, zYX2_8, zYX2_9, zYX2_10, zNX2, zYX3_0, zYX3_1, zYX3_2, zYX3_3, zYX3_4, zYX3_5, zYX3_6, zNX3, zYX4_0, zYX4_1, zYX4_2, zYX4_3, zYX4_4, zYX4_5, zNX4, zYX5_0, zYX5_1, zYX5_2, zYX5_3, zYX5_4, zYX5_5, zYX5_6, zYX5_7, zYX5_8, zNX5, zYX6_0, zYX6_1, zYX6_2, zYX6_3, zYX6_4, zNX6, zYX7_0, zYX7_1, zYX7_2, zYX7_3, zNX7, zYX8_0, zYX8_1, zYX8_2, zNX8, zYX9_0, zYX9_1, zYX9_2, zNX9, zYX10_0, zYX10_1, zYX10_2, zYX10_3, zYX10_4, zYX10_5, zYX10_6, zYX10_7, zYX10_8, zNX10, zYX11_0, zYX11_1, zYX11_2, zYX11_3, zYX11_4, zYX11_5, zYX11_6, zYX11_7, zYX11_8, zYX11_9, zYX11_10, zYX11_11, zYX11_12, zYX11_13, zYX11_14, zYX11_15, zYX11_16, zYX11_17, zYX11_18, zYX11_19, zYX11_20, zYX11_21, zYX11_22, zYX11_23, zYX11_24, zYX11_25, zYX11_26, zYX11_27, zYX11_28, zYX11_29, zYX11_30, zYX11_31, zYX11_32, zYX11_33, zYX11_34, zYX11_35, zYX11_36, zYX11_37, zYX11_38, zYX11_39, zYX11_40, zYX11_41, zYX11_42, zYX11_43, zYX11_44, zYX11_45, zYX11_46, zYX11_47, zYX11_48, zYX11_49, zYX11_50, zYX11_51, zYX11_52, zYX11_53, zYX11_54, zYX11_55, zYX11_56, zYX11_57, zNX11, zend_i, zend_l, zend_d, zend_o, zend_v, wzend_z, znle, zisI_s, zgI_s, zisJ_s, zgJ_s, zisD_s, zgD_s, zisA_s, zgA_s, zpokI, zpstI, zpokZ, zpstZ, zpokJ, zpstJ, zpokD, zpstD, zpokO, zpstO, zpokOn, zpstOn, zpokA, zpstA, zpokAn, zpstAn, zpk_0, zptk_0, zpdr_0, zpk_1, zptk_1, zpdr_1, zpk_2, zptk_2, zpdr_2, zpk_3, zptk_3, zpdr_3, zpk_4, zptk_4, zpdr_4, zpk_5, zptk_5, zpdr_5, zpk_6, zptk_6, zpdr_6, zpk_7, zptk_7, zpdr_7, zpk_8, zptk_8, zpdr_8, zisR_s, zgR_s, ztlR_s, zisC_s, zgC_s, zkont_s, zkont_n, zw_iload, zw_iload_n0, zw_iload_n1, zw_iload_n2, zw_iload_n3, zw_lload, zw_lload_n0, zw_lload_n1, zw_lload_n2, zw_lload_n3, zw_dload, zw_dload_n0, zw_dload_n1, zw_dload_n2, zw_dload_n3, zw_aload, zw_aload_n0, zw_aload_n1, zw_aload_n2, zw_aload_n3, zw_iinc, zw_putfield, zw_callS, zw_callV, zw_callI, q_X7_settle, ct_X7_settle, zc_X7_carry, zn_X7_carry, zs_X7_carry, nIm_1, b_X7_settle_0, b_X7_settle_8, b_X7_settle_39, b_X7_settle_40, b_X7_settle_56, k_X7_settle_0, k_X7_settle_8, k_X7_settle_39, k_X7_settle_40, k_X7_settle_56, true_or, or_true, zrz_1, zrz_0, zrz_b, true_and, and_true, Nat.reduceAdd, Nat.reduceLeDiff, Nat.reduceMul, Nat.le_refl, Nat.add_zero, Nat.zero_add, zP7_k (sh), f2, m1, Classical.not_not, Bool.not_eq_false, Bool.not_eq_true, zN_add, zN_sub, zN_mul, zN_le, zN_lt, zN_eq, zix_nI, zin_n, zinI_n, zinR_n, zlt_t, zom_t, zLsr, zLsh, zand_low, zL_add, zL_mul, zL_lt, zL_le, zL_sub, zL_div, zN_div, zL_e0, zL_n0, zN_n0, zN11, zN00, false_or, or_false, zZN_add, zNZ_add, zZN_sub, zNZ_sub, zZN_lt, zZN_le, zNZ_lt, zNZ_le, zZN_eq, zZZ_lt, zZZ_le, zZZ_eq, zN_32, Nat.reducePow, Nat.reduceMod, Nat.reduceDiv, zlc_eq, zlc_lt, zlc_ge, zlc_gt, zlc_le, bI_0, zbo_b, zbo_1, zbo_0, zuJ_inj, nI_nat, eq_self, Nat.reduceEqDiff, Nat.reduceSub, zI_sI_eq, zI_sI_ne, zJ_sJ_eq, zJ_sJ_ne, zD_sD_eq, zD_sD_ne, zR_sR_eq, zR_sR_ne, zJ_sI, zR_sI, zSh_sI, zNx_sI, zD_sI, zI_sJ, zR_sJ, zSh_sJ, zNx_sJ, zD_sJ, zI_sD, zJ_sD, zR_sD, zSh_sD, zNx_sD, zI_sR, zJ_sR, zD_sR, zSh_sR, zNx_sR, if_true, if_false, ite_true, ite_false, not_true, not_false_eq_true, forall_const, false_implies, true_implies, implies_true, zN_shr, zN_m31, jZ_low, jZ_add, jZ_sub, jZN_mul]
    exact hK S zGr.refl (by rw [hV0]; exact zTs_0 hto (by omega) hz)
  · refine hX 1000 _ _ _ _ _ _ ?_
    simp +contextual (disch := omega) only [wzq_nop, wzq_nop0, wzq_null, wzq_iconst, wzq_bipush, wzq_sipush, wzq_ldc, wzq_ldc_w, wzq_lconst, wzq_dconst, wzq_ldc2, wzq_ldc2d, wzq_istore, wzq_istore_n0, wzq_istore_n1, wzq_istore_n2, wzq_istore_n3, wzq_lstore, wzq_lstore_n0, wzq_lstore_n1, wzq_lstore_n2, wzq_lstore_n3, wzq_dstore, wzq_dstore_n0, wzq_dstore_n1, wzq_dstore_n2, wzq_dstore_n3, wzq_astore, wzq_astore_n0, wzq_astore_n1, wzq_astore_n2, wzq_astore_n3, wzq_iadd, wzq_isub, wzq_imul, wzq_iand, wzq_ior, wzq_ishr, wzq_iushr, wzq_idiv, wzq_irem, wzq_ineg, wzq_ladd, wzq_lsub, wzq_lmul, wzq_land, wzq_lor, wzq_lxor, wzq_ldiv, wzq_lrem, wzq_lneg, wzq_lshl, wzq_lshr, wzq_lushr, wzq_i2l, wzq_l2i, wzq_lcmp, wzq_dcmp, wzq_dadd, wzq_dsub, wzq_dmul, wzq_ddiv, wzq_dneg, wzq_dup, wzq_pop, wzq_pop2, wzq_dup2J, wzq_dup2D, wzq_dup2I, wzq_goto0, wzq_goto1, wzq_if_eq0, wzq_if_eq1, wzq_icmp_eq0, wzq_icmp_eq1, wzq_if_ne0, wzq_if_ne1, wzq_icmp_ne0, wzq_icmp_ne1, wzq_if_lt0, wzq_if_lt1, wzq_icmp_lt0, wzq_icmp_lt1, wzq_if_ge0, wzq_if_ge1, wzq_icmp_ge0, wzq_icmp_ge1, wzq_if_gt0, wzq_if_gt1, wzq_icmp_gt0, wzq_icmp_gt1, wzq_if_le0, wzq_if_le1, wzq_icmp_le0, wzq_icmp_le1, wzq_ifnull0, wzq_ifnull1, wzq_ifnull_a, wzq_ifnull_b, wzq_ifnonnull0, wzq_ifnonnull1, wzq_ifnonnull_a, wzq_ifnonnull_b, wzq_table, wzq_getfield, wzq_alen, wzq_iaload, wzq_baload, wzq_laload, wzq_daload, wzq_aaload, wzq_iastore, wzq_bastore, wzq_lastore, wzq_dastore, wzq_aastore, wzq_new, wzq_newarray, wzq_anewarray, wzq_d2l, wzq_l2d, wzq_mmax, wzq_mmin, wzq_mmaxl, wzq_mabs, wzq_objInit, wzq_ireturn, wzq_lreturn, wzq_dreturn, wzq_areturn, wzq_return, znth0, zst1_0, zst2_0, znth1, zst1_1, zst2_1, znth2, zst1_2, zst2_2, znth3, zst1_3, zst2_3, znth4, zst1_4, zst2_4, znth5, zst1_5, zst2_5, znth6, zst1_6, zst2_6, znth7, zst1_7, zst2_7, znth8, zst1_8, zst2_8, znth9, zst1_9, zst2_9, znth10, zst1_10, zst2_10, znth11, zst1_11, zst2_11, znth12, zst1_12, zst2_12, znth13, zst1_13, zst2_13, znth14, zst1_14, zst2_14, znth15, zst1_15, zst2_15, znth16, zst1_16, zst2_16, znth17, zst1_17, zst2_17, znth18, zst1_18, zst2_18, znth19, zst1_19, zst2_19, znth20, zst1_20, zst2_20, znth21, zst1_21, zst2_21, znth22, zst1_22, zst2_22, znth23, zst1_23, zst2_23, znth24, zst1_24, zst2_24, znth25, zst1_25, zst2_25, zkill_n, zkill_int, zkill_ref, zkill_null, zkill_long, zkill_double, zkill_rf, zref_s, zref_n, zref_rf, va_rf_s, va_rf_n, zget0, zget1, zget2, zget3, zget4, zget5, zget6, zget7, zget8, zget9, zget10, zget11, zget12, zget13, zget14, zget15, zget16, zget17, zget18, zget19, zget20, zget21, zget22, zget23, zget24, zget25, zwt_0, zwt_int, zcat_int, zwt_ref, zcat_ref, zwt_long, zcat_long, zwt_double, zcat_double, zwt_null, zwt_rf, zcat_null, zcat_rf, ztl_s, ztl_n, zfI, zfZ, zfJ, zfD, zfO, zfA, zsw_0, zsw_s, zYX1_0, zYX1_1, zYX1_2, zYX1_3, zYX1_4, zYX1_5, zYX1_6, zYX1_7, zYX1_8, zYX1_9, zYX1_10, zYX1_11, zYX1_12, zYX1_13, zYX1_14, zNX1, zYX2_0, zYX2_1, zYX2_2, zYX2_3, zYX2_4, zYX2_5, zYX2_6, zYX2_7, zYX2_8, zYX2_9, zYX2_10, zNX2, zYX3_0, zYX3_1, zYX3_2, zYX3_3, zYX3_4, zYX3_5, zYX3_6, zNX3, zYX4_0, zYX4_1, zYX4_2, zYX4_3, zYX4_4, zYX4_5, zNX4, zYX5_0, zYX5_1, zYX5_2, zYX5_3, zYX5_4, zYX5_5, zYX5_6, zYX5_7, zYX5_8, zNX5, zYX6_0, zYX6_1, zYX6_2, zYX6_3, zYX6_4, zNX6, zYX7_0, zYX7_1, zYX7_2, zYX7_3, zNX7, zYX8_0, zYX8_1, zYX8_2, zNX8, zYX9_0, zYX9_1, zYX9_2, zNX9, zYX10_0, zYX10_1, zYX10_2, zYX10_3, zYX10_4, zYX10_5, zYX10_6, zYX10_7, zYX10_8, zNX10, zYX11_0, zYX11_1, zYX11_2, zYX11_3, zYX11_4, zYX11_5, zYX11_6, zYX11_7, zYX11_8, zYX11_9, zYX11_10, zYX11_11, zYX11_12, zYX11_13, zYX11_14, zYX11_15, zYX11_16, zYX11_17, zYX11_18, zYX11_19, zYX11_20, zYX11_21, zYX11_22, zYX11_23, zYX11_24, zYX11_25, zYX11_26, zYX11_27, zYX11_28, zYX11_29, zYX11_30, zYX11_31, zYX11_32, zYX11_33, zYX11_34, zYX11_35, zYX11_36, zYX11_37, zYX11_38, zYX11_39, zYX11_40, zYX11_41, zYX11_42, zYX11_43, zYX11_44, zYX11_45, zYX11_46, zYX11_47, zYX11_48, zYX11_49, zYX11_50, zYX11_51, zYX11_52, zYX11_53, zYX11_54, zYX11_55, zYX11_56, zYX11_57, zNX11, zend_i, zend_l, zend_d, zend_o, zend_v, wzend_z, znle, zisI_s, zgI_s, zisJ_s, zgJ_s, zisD_s, zgD_s, zisA_s, zgA_s, zpokI, zpstI, zpokZ, zpstZ, zpokJ, zpstJ, zpokD, zpstD, zpokO, zpstO, zpokOn, zpstOn, zpokA, zpstA, zpokAn, zpstAn, zpk_0, zptk_0, zpdr_0, zpk_1, zptk_1, zpdr_1, zpk_2, zptk_2, zpdr_2, zpk_3, zptk_3, zpdr_3, zpk_4, zptk_4, zpdr_4, zpk_5, zptk_5, zpdr_5, zpk_6, zptk_6, zpdr_6, zpk_7, zptk_7, zpdr_7, zpk_8, zptk_8, zpdr_8, zisR_s, zgR_s, ztlR_s, zisC_s, zgC_s, zkont_s, zkont_n, zw_iload, zw_iload_n0, zw_iload_n1, zw_iload_n2, zw_iload_n3, zw_lload, zw_lload_n0, zw_lload_n1, zw_lload_n2, zw_lload_n3, zw_dload, zw_dload_n0, zw_dload_n1, zw_dload_n2, zw_dload_n3, zw_aload, zw_aload_n0, zw_aload_n1, zw_aload_n2, zw_aload_n3, zw_iinc, zw_putfield, zw_callS, zw_callV, zw_callI, q_X7_settle, ct_X7_settle, zc_X7_carry, zn_X7_carry, zs_X7_carry, nIm_1, b_X7_settle_0, b_X7_settle_8, b_X7_settle_39, b_X7_settle_40, b_X7_settle_56, k_X7_settle_0, k_X7_settle_8, k_X7_settle_39, k_X7_settle_40, k_X7_settle_56, true_or, or_true, zrz_1, zrz_0, zrz_b, true_and, and_true, Nat.reduceAdd, Nat.reduceLeDiff, Nat.reduceMul, Nat.le_refl, Nat.add_zero, Nat.zero_add, zP7_k (sh), f2, Classical.not_not, Bool.not_eq_false, Bool.not_eq_true, zN_add, zN_sub, zN_mul, zN_le, zN_lt, zN_eq, zix_nI, zin_n, zinI_n, zinR_n, zlt_t, zom_t, zLsr, zLsh, zand_low, zL_add, zL_mul, zL_lt, zL_le, zL_sub, zL_div, zN_div, zL_e0, zL_n0, zN_n0, zN11, zN00, false_or, or_false, zZN_add, zNZ_add, zZN_sub, zNZ_sub, zZN_lt, zZN_le, zNZ_lt, zNZ_le, zZN_eq, zZZ_lt, zZZ_le, zZZ_eq, zN_32, Nat.reducePow, Nat.reduceMod, Nat.reduceDiv, zlc_eq, zlc_lt, zlc_ge, zlc_gt, zlc_le, bI_0, zbo_b, zbo_1, zbo_0, zuJ_inj, nI_nat, eq_self, Nat.reduceEqDiff, Nat.reduceSub, zI_sI_eq, zI_sI_ne, zJ_sJ_eq, zJ_sJ_ne, zD_sD_eq, zD_sD_ne, zR_sR_eq, zR_sR_ne, zJ_sI, zR_sI, zSh_sI, zNx_sI, zD_sI, zI_sJ, zR_sJ, zSh_sJ, zNx_sJ, zD_sJ, zI_sD, zJ_sD, zR_sD, zSh_sD, zNx_sD, zI_sR, zJ_sR, zD_sR, zSh_sR, zNx_sR, if_true, if_false, ite_true, ite_false, not_true, not_false_eq_true, forall_const, false_implies, true_implies, implies_true, zN_shr, zN_m31, jZ_low, jZ_add, jZ_sub, jZN_mul]
    rw [em]
    have hbd : ∀ k, -35184372088832 ≤ dg k ∧ dg k ≤ 35184372088832 := fun k => by obtain ⟨q1, q2⟩ := hb k; omega
    obtain ⟨P, hP⟩ : ∃ P : Int, P = 2 ^ (32 * H) := ⟨_, rfl⟩
    have hP0 : 0 < P := by rw [hP]; exact zip_pos _
    have hVb : -P < V ∧ V < P := by
      obtain ⟨n, hn⟩ : ∃ n, h = n + 1 := ⟨h - 1, by omega⟩
      obtain ⟨q1, q2⟩ := zsv_bd2 (f := dg) (C := 35184372088832) (by decide) hbd n
      rw [← hn, ← zsv_hi (by omega) (fun i h1 h2 => fz i (Or.inr h1)) (n := 136), hV] at q1 q2
      obtain ⟨m, hm2⟩ : ∃ m, H = n + 2 + m := ⟨H - n - 2, by omega⟩
      have e : P = 2 ^ (32 * n) * 18446744073709551616 * 2 ^ (32 * m) := by rw [hP, hm2, show 32 * (n + 2 + m) = 32 * n + 64 + 32 * m by omega, Int.pow_add, Int.pow_add]; rfl
      have p := zip_pos (32 * n)
      have p2 := zip_pos (32 * m)
      generalize (2 : Int) ^ (32 * n) = Q at *
      generalize (2 : Int) ^ (32 * m) = R at *
      have e2 : Q * 18446744073709551616 * 1 ≤ Q * 18446744073709551616 * R := Int.mul_le_mul_of_nonneg_left (by omega) (by omega)
      omega
    have hcar : V / P = if V < 0 then -1 else 0 := by
      split
      · rw [show V = (V + P) + P * (-1) by omega, Int.add_mul_ediv_left _ _ (Int.ne_of_gt hP0), Int.ediv_eq_zero_of_lt (by omega) (by omega)]; rfl
      · exact Int.ediv_eq_zero_of_lt (by omega) (by omega)
    refine ⟨fun _ => ?_, fun h1 => absurd (by omega) h1⟩
    have g1 : zGr (fun b => b = o ∨ b = o + 1) S (zsI S o 2 (iZ ((H : Int) - 1))) := zGr.refl.sI (Or.inl rfl)
    refine ⟨dg, lo, H, false, 1, ⟨⟨zP7_gr g1 sh, ⟨?_, zI_sI_eq, ?_⟩, ⟨b1, by omega⟩, fd, fun k hk => fz k (by omega)⟩, rfl, Or.inl rfl, hbd⟩, fun T hg hto1 => ?_⟩
    · rw [zI_sI_ne (by omega)]; exact f1
    · rw [zI_sI_ne (by omega)]; exact f3
    have kT := zP7_k hto1.1
    have g2 : zGr (fun b => b = o ∨ b = o + 1) S T := g1.trans (hg.mono (fun b h => Or.inr h))
    rw [Int.one_mul, hV] at hto1
    rw [Int.one_mul, hV, ← hP, hcar]
    have hcut := zsv_cut V (h := H) (n := 136) (by omega)
    rw [← hP] at hcut
    have hdig : ∀ k, 0 ≤ (if k < H then zio V k else 0) ∧ (if k < H then zio V k else 0) < 4294967296 := fun k => by
      split
      · exact zio_b V k
      · omega
    have ⟨t1, ⟨t2, t3, t4⟩, t5, t6, t7⟩ := hto1
    refine ⟨fun h1 => ⟨kT, kT, ?_⟩, fun h1 => ⟨kT, kT, kT, ?_⟩⟩
    · have hV0 : ¬ V < 0 := fun h2 => by rw [if_pos h2] at h1; exact absurd h1 (by decide)
      have g3 : zGr (fun b => b = o ∨ b = o + 1) S (zsI T o 3 (nI 0)) := g2.sI (Or.inl rfl)
      refine hK _ g3 ⟨_, lo, H, ⟨zP7_gr g3 sh, ⟨?_, ?_, ?_⟩, t5, t6, t7⟩, by omega, hdig, ?_⟩
      · rw [zI_sI_ne (by omega)]; exact t2
      · rw [zI_sI_ne (by omega)]; exact t3
      · rw [zI_sI_eq, decide_eq_false hV0]; rfl
      · rw [hcut, Int.emod_eq_of_lt (by omega) hVb.2]; omega
    · have hV0 : V < 0 := Int.not_le.mp fun h2 => h1 (by rw [if_neg (by omega)]; exact Int64.le_refl _)
      have g3 : zGr (fun b => b = o ∨ b = o + 1) S (zsI T o 3 (nI 1)) := g2.sI (Or.inl rfl)
      refine ⟨_, lo, H, true, -1, ⟨⟨zP7_gr g3 sh, ⟨?_, ?_, zI_sI_eq⟩, t5, t6, t7⟩, rfl, Or.inr rfl, fun k => ?_⟩, fun T1 g4 hto2 => ?_⟩
      · rw [zI_sI_ne (by omega)]; exact t2
      · rw [zI_sI_ne (by omega)]; exact t3
      · obtain ⟨q1, q2⟩ := hdig k; omega
      · rw [hcut] at hto2
        refine hK T1 (g3.trans (g4.mono (fun b h => Or.inr h))) ⟨fun k => if k < H then zio (-1 * (V % P)) k else 0, lo, H, ?_, by omega, fun k => ?_, ?_⟩
        · rw [decide_eq_true hV0]; exact hto2
        · show 0 ≤ (if k < H then zio (-1 * (V % P)) k else 0) ∧ (if k < H then zio (-1 * (V % P)) k else 0) < 4294967296
          split
          · exact zio_b _ k
          · omega
        · rw [zsv_cut _ (by omega), ← hP]
          have e1 : V % P = V + P := by
            have := Int.add_mul_emod_self_left V P 1
            rw [Int.mul_one] at this
            rw [← this]; exact Int.emod_eq_of_lt (by omega) (by omega)
          have e2 : -1 * (V % P) = -V + P * (-1) := by rw [e1]; omega
          rw [e2, Int.add_mul_emod_self_left, Int.emod_eq_of_lt (by omega) (by omega)]; omega
end ZTOT3
