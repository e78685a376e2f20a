/-! the model's factors: multiplies, pivots -/
section ZMPV
/-- what is a double already -/
theorem zrb_own {m : Nat} {e : Int} (h1 : 4503599627370496 ≤ m) (h2 : m < 9007199254740992) (h3 : -1074 ≤ e) (h4 : e ≤ 971) : zrb false m 1 e = (e + 1074).toNat * 4503599627370496 + m := by
  have e1 : FP.Core.unitsNum m e e = m := by unfold FP.Core.unitsNum; rw [Int.sub_self]; exact Nat.mul_one _
  have e2 : FP.Core.unitsDen 1 e e = 1 := by unfold FP.Core.unitsDen; rw [Int.sub_self]; rfl
  have hb : zbl m = 53 := zbl_eq (by omega) (by omega)
  have hq : zqu m 1 e = e := by
    rw [zqu_rep (m := m) (sc := e) (by omega) (by decide) (by rw [e1, e2, Nat.div_one]) (by omega), hb]; omega
  have a := zcm_rb (up := false) (A := m) (B := 1) (e := e) (by omega) (by decide)
  rw [hq, e1, e2] at a
  have hn : zrn false m 1 = m := by
    unfold zrn FP.Core.nearest
    rw [if_neg (by decide), Nat.mod_one, if_pos (by omega), Nat.div_one]
  rw [hn] at a
  rw [← a]
  unfold zcm
  rw [if_neg (by omega), if_pos h4]
theorem zdhalf {q : UInt64} (h1 : 4611686018427387904 ≤ zmg q) (h2 : zmg q < 9218868437227405312) : FP.dmul q 4602678819172646912 = q - 4503599627370496 := by
  have hl := zu_lt q
  have hf : zUf q = true := by rw [zUf_m]; exact h2
  unfold zmg at h1 h2
  have hE : zfE q.toNat = q.toNat / 4503599627370496 % 2048 := rfl
  have hE0 : zfE q.toNat ≠ 0 := by rw [hE]; omega
  have m1 : zmt q.toNat = q.toNat % 4503599627370496 + 4503599627370496 := by unfold zmt; rw [if_neg hE0]
  have s1 : zsc q.toNat = (zfE q.toNat : Int) - 1075 := by unfold zsc; rw [if_neg hE0]
  apply UInt64.toNat_inj.mp
  rw [zdmul_n hf (by decide), zmul_bits hl (by decide) (zUf_zE hf) (by decide)]
  rw [show zmt (4602678819172646912 : UInt64).toNat = 4503599627370496 by decide, show zsc (4602678819172646912 : UInt64).toNat = -53 by decide, show zsg (4602678819172646912 : UInt64).toNat = false by decide]
  have mv := zrb_mv (up := false) (A := zmt q.toNat) (B := 1) (i := 52) (k := 0) (e := zsc q.toNat - 1) (e' := zsc q.toNat + -53) (by decide) (by omega)
  rw [Nat.pow_zero, Nat.mul_one, show (2 : Nat) ^ 52 = 4503599627370496 from rfl] at mv
  rw [mv, zrb_own (by rw [m1]; omega) (zmt_lt _) (by rw [s1, hE]; omega) (by rw [s1, hE]; omega), UInt64.toNat_sub_of_le _ _ (by rw [UInt64.le_iff_toNat_le]; show 4503599627370496 ≤ _; omega)]
  rw [m1, s1, hE]
  show _ = q.toNat - 4503599627370496
  unfold zsg
  by_cases hs : 9223372036854775808 ≤ q.toNat
  · rw [decide_eq_true hs]
    show 1 * _ + _ = _
    omega
  · rw [decide_eq_false hs]
    show 0 * _ + _ = _
    omega
theorem zpu_c (x : UInt64) (h : zUn x = true) : (if zsg x.toNat = true then zUng (UInt64.ofNat (zcm (zfm x.toNat) (-52))) else UInt64.ofNat (zcm (zfm x.toNat) (-52))) = zpu x := by
  rw [zUn_t] at h
  have h1 := zfm_ge h
  have h2 := zfm_lt x.toNat
  have hl := zu_lt x
  have e : zcm (zfm x.toNat) (-52) = 4602678819172646912 + zfm x.toNat := by
    unfold zcm
    rw [if_neg (by omega), if_pos (by decide)]; rfl
  rw [e]
  apply UInt64.toNat_inj.mp
  unfold zpu zsg
  by_cases hs : 9223372036854775808 ≤ x.toNat
  · rw [if_pos (decide_eq_true hs), zUng_n, zu_of (by omega), zu_of (by omega)]
    unfold zng
    rw [if_pos (by omega)]
    omega
  · rw [if_neg (by rw [decide_eq_false hs]; decide), zu_of (by omega), zu_of (by omega)]
    omega
theorem zpu_f (x : UInt64) : zUf (zpu x) = true := zUf_mg (K := 1024) (zpu_b x) (by decide)
theorem zpn_ng (q : UInt64) (e : Int) : zpn (zUng q) e = (zUng (zpn q e).1, (zpn q e).2) := by
  have hm : zmg (zUng q) = zmg q := by unfold zmg; rw [zUng_n]; exact zng_mag (zu_lt q)
  unfold zpn
  rw [hm]
  by_cases h : zmg q < 4611686018427387904
  · rw [if_pos h, if_pos h]
  · rw [if_neg h, if_neg h]
    have hl := zu_lt q
    unfold zmg at h
    have : zUng q - 4503599627370496 = zUng (q - 4503599627370496) := by
      apply UInt64.toNat_inj.mp
      have le1 : (4503599627370496 : UInt64) ≤ q := by rw [UInt64.le_iff_toNat_le]; show 4503599627370496 ≤ _; omega
      have le2 : (4503599627370496 : UInt64) ≤ zUng q := by
        rw [UInt64.le_iff_toNat_le, zUng_n]
        show 4503599627370496 ≤ _
        unfold zng; split <;> omega
      rw [UInt64.toNat_sub_of_le _ _ le2, zUng_n, zUng_n, UInt64.toNat_sub_of_le _ _ le1]
      show zng q.toNat - 4503599627370496 = zng (q.toNat - 4503599627370496)
      unfold zng
      split <;> split <;> omega
    rw [this]
theorem zpvs_ng {x : UInt64} {s : UInt64 × Int} (hf : zUf s.1 = true) : zpvs x (zUng s.1, s.2) = (zUng (zpvs x s).1, (zpvs x s).2) := by
  unfold zpvs
  rw [zdmul_ng hf (zpu_f x), zpn_ng]
def ct_X11_multiplies : zCt := (fun av S K => ∃ p : Nat, ∃ u : UInt64, ∃ t : Int64, av = [.ref p, .double u, .long t] ∧ (∃ e t', (zP11 S p ∧ zUf (zD S p 21) = true ∧ zUf u = true ∧ t = jZ t' ∧ zJ S p 22 = jZ e ∧ zUf (FP.dmul (zD S p 21) u) = true) ∧ ∀ T, zGq p (fun _ => False) (fun _ => False) S T → zD T p 21 = (zpn (FP.dmul (zD S p 21) u) (e + t')).1 → zJ T p 22 = jZ (zpn (FP.dmul (zD S p 21) u) (e + t')).2 → K none T), 0, 0)
theorem zc_X11_multiplies {S : zS} {K : Option Value → zS → Prop} {p : Nat} {u : UInt64} {t : Int64} : ct_X11_multiplies.1 [.ref p, .double u, .long t] S K = (∃ e t', (zP11 S p ∧ zUf (zD S p 21) = true ∧ zUf u = true ∧ t = jZ t' ∧ zJ S p 22 = jZ e ∧ zUf (FP.dmul (zD S p 21) u) = true) ∧ ∀ T, zGq p (fun _ => False) (fun _ => False) S T → zD T p 21 = (zpn (FP.dmul (zD S p 21) u) (e + t')).1 → zJ T p 22 = jZ (zpn (FP.dmul (zD S p 21) u) (e + t')).2 → K none T) := propext ⟨fun ⟨z0, z1, z2, e, h⟩ => by cases e; exact h, fun h => ⟨p, u, t, rfl, h⟩⟩
theorem zn_X11_multiplies : ct_X11_multiplies.2.1 = 0 := rfl
theorem zs_X11_multiplies : ct_X11_multiplies.2.2 = 0 := rfl
theorem met_X11_multiplies (l : Launch) (G : zG) : zMet l G q_X11_multiplies ct_X11_multiplies := by
  refine zmk 11 false cal_X11_multiplies bl_X11_multiplies pl_X11_multiplies [ct_X11_size] ck_X11_multiplies nm_X11_multiplies ⟨rfl, rfl⟩ wd_X11_multiplies (⟨⟨met_X11_size l G, rfl, rfl⟩, trivial⟩) ?_
  intro X av S K h
  obtain ⟨p, u, t, rfl, h⟩ := h
  refine ⟨Nat.le_of_ble_eq_true rfl, fun hX => ?_⟩
  show X 0 [some (.ref p), some (.double u), none, some (.long t), none] [] S 0 0
  obtain ⟨e, t', ⟨hp, f1, f2, rfl, he, f3⟩, hK⟩ := h
  have kp := zP11_k hp
  have o3 := zUo_f f3
  have o4 := zUab_o o3
  have ov := zvfn o3
  have o2 : zUo 4611686018427387904 := by unfold zUo; decide
  have el : zdN 4611686018427387904 = 4611686018427387904 := rfl
  have eh : zdN 4602678819172646912 = 4602678819172646912 := rfl
  have k2 := zky_ab (FP.dmul (zD S p 21) u)
  have k3 : zky 4611686018427387904 = ((4611686018427387904 : Nat) : Int) := rfl
  have kl : (((zmg (FP.dmul (zD S p 21) u) : Nat) : Int) < ((4611686018427387904 : Nat) : Int)) = (zmg (FP.dmul (zD S p 21) u) < 4611686018427387904) := propext (by omega)
  have hh := zdhalf (q := FP.dmul (zD S p 21) u)
  have mf := zmg_f f3
  unfold zpn at hK
  refine hX 1000 _ _ _ _ _ _ ?_
  simp +contextual (disch := omega) only [wzq_nop, wzq_nop0, wzq_null, wzq_iconst, wzq_bipush, wzq_sipush, wzq_ldc, wzq_ldc_w, wzq_lconst, wzq_dconst, wzq_ldc2, wzq_ldc2d, wzq_istore, wzq_istore_n0, wzq_istore_n1, wzq_istore_n2, wzq_istore_n3, wzq_lstore, wzq_lstore_n0, wzq_lstore_n1, wzq_lstore_n2, wzq_lstore_n3, wzq_dstore, wzq_dstore_n0, wzq_dstore_n1, wzq_dstore_n2, wzq_dstore_n3, wzq_astore, wzq_astore_n0, wzq_astore_n1, wzq_astore_n2, wzq_astore_n3, wzq_iadd, wzq_isub, wzq_imul, wzq_iand, wzq_ior, wzq_ishr, wzq_iushr, wzq_idiv, wzq_irem, wzq_ineg, wzq_ladd, wzq_lsub, wzq_lmul, wzq_land, wzq_lor, wzq_lxor, wzq_ldiv, wzq_lrem, wzq_lneg, wzq_lshl, wzq_lshr, wzq_lushr, wzq_i2l, wzq_l2i, wzq_lcmp, wzq_dcmp, wzq_dadd, wzq_dsub, wzq_dmul, wzq_ddiv, wzq_dneg, wzq_dup, wzq_pop, wzq_pop2, wzq_dup2J, wzq_dup2D, wzq_dup2I, wzq_goto0, wzq_goto1, wzq_if_eq0, wzq_if_eq1, wzq_icmp_eq0, wzq_icmp_eq1, wzq_if_ne0, wzq_if_ne1, wzq_icmp_ne0, wzq_icmp_ne1, wzq_if_lt0, wzq_if_lt1, wzq_icmp_lt0, wzq_icmp_lt1, wzq_if_ge0, wzq_if_ge1, wzq_icmp_ge0, wzq_icmp_ge1, wzq_if_gt0, wzq_if_gt1, wzq_icmp_gt0, wzq_icmp_gt1, wzq_if_le0, wzq_if_le1, wzq_icmp_le0, wzq_icmp_le1, wzq_ifnull0, wzq_ifnull1, wzq_ifnull_a, wzq_ifnull_b, wzq_ifnonnull0, wzq_ifnonnull1, wzq_ifnonnull_a, wzq_ifnonnull_b, wzq_table, wzq_getfield, wzq_alen, wzq_iaload, wzq_baload, wzq_laload, wzq_daload, wzq_aaload, wzq_iastore, wzq_bastore, wzq_lastore, wzq_dastore, wzq_aastore, wzq_new, wzq_newarray, wzq_anewarray, wzq_d2l, wzq_l2d, wzq_mmax, wzq_mmin, wzq_mmaxl, wzq_mabs, wzq_objInit, wzq_ireturn, wzq_lreturn, wzq_dreturn, wzq_areturn, wzq_return, znth0, zst1_0, zst2_0, znth1, zst1_1, zst2_1, znth2, zst1_2, zst2_2, znth3, zst1_3, zst2_3, znth4, zst1_4, zst2_4, znth5, zst1_5, zst2_5, znth6, zst1_6, zst2_6, znth7, zst1_7, zst2_7, znth8, zst1_8, zst2_8, znth9, zst1_9, zst2_9, znth10, zst1_10, zst2_10, znth11, zst1_11, zst2_11, znth12, zst1_12, zst2_12, znth13, zst1_13, zst2_13, znth14, zst1_14, zst2_14, znth15, zst1_15, zst2_15, znth16, zst1_16, zst2_16, znth17, zst1_17, zst2_17, znth18, zst1_18, zst2_18, znth19, zst1_19, zst2_19, znth20, zst1_20, zst2_20, znth21, zst1_21, zst2_21, znth22, zst1_22, zst2_22, znth23, zst1_23, zst2_23, znth24, zst1_24, zst2_24, znth25, zst1_25, zst2_25, zkill_n, zkill_int, zkill_ref, zkill_null, zkill_long, zkill_double, zkill_rf, zref_s, zref_n, zref_rf, va_rf_s, va_rf_n, zget0, zget1, zget2, zget3, zget4, zget5, zget6, zget7, zget8, zget9, zget10, zget11, zget12, zget13, zget14, zget15, zget16, zget17, zget18, zget19, zget20, zget21, zget22, zget23, zget24, zget25, zwt_0, zwt_int, zcat_int, zwt_ref, zcat_ref, zwt_long, zcat_long, zwt_double, zcat_double, zwt_null, zwt_rf, zcat_null, zcat_rf, ztl_s, ztl_n, zfI, zfZ, zfJ, zfD, zfO, zfA, zsw_0, zsw_s, zYX1_0, zYX1_1, zYX1_2, zYX1_3, zYX1_4, zYX1_5, zYX1_6, zYX1_7, zYX1_8, zYX1_9, zYX1_10, zYX1_11, zYX1_12, zYX1_13, zYX1_14, zNX1, zYX2_0, zYX2_1, zYX2_2, zYX2_3, zYX2_4, zYX2_5, zYX2_6, zYX2_7, zYX2_8, zYX2_9, zYX2_10, zNX2, zYX3_0, zYX3_1, zYX3_2, zYX3_3, zYX3_4, zYX3_5, zYX3_6, zNX3, zYX4_0, zYX4_1, zYX4_2, zYX4_3, zYX4_4, zYX4_5, zNX4, zYX5_0, zYX5_1, zYX5_2, zYX5_3, zYX5_4, zYX5_5, zYX5_6, zYX5_7, zYX5_8, zNX5, zYX6_0, zYX6_1, zYX6_2, zYX6_3, zYX6_4, zNX6, zYX7_0, zYX7_1, zYX7_2, zYX7_3, zNX7, zYX8_0, zYX8_1, zYX8_2, zNX8, zYX9_0, zYX9_1, zYX9_2, zNX9, zYX10_0, zYX10_1, zYX10_2, zYX10_3, zYX10_4, zYX10_5, zYX10_6, zYX10_7, zYX10_8, zNX10, zYX11_0, zYX11_1, zYX11_2, zYX11_3, zYX11_4, zYX11_5, zYX11_6, zYX11_7, zYX11_8, zYX11_9, zYX11_10, zYX11_11, zYX11_12, zYX11_13, zYX11_14, zYX11_15, zYX11_16, zYX11_17, zYX11_18, zYX11_19, zYX11_20, zYX11_21, zYX11_22, zYX11_23, zYX11_24, zYX11_25, zYX11_26, zYX11_27, zYX11_28, zYX11_29, zYX11_30, zYX11_31, zYX11_32, zYX11_33, zYX11_34, zYX11_35, zYX11_36, zYX11_37, zYX11_38, zYX11_39, zYX11_40, zYX11_41, zYX11_42, zYX11_43, zYX11_44, zYX11_45, zYX11_46, zYX11_47, zYX11_48, zYX11_49, zYX11_50, zYX11_51, zYX11_52, zYX11_53, zYX11_54, zYX11_55, zYX11_56, zYX11_57, zNX11, zend_i, zend_l, zend_d, zend_o, zend_v, wzend_z, znle, zisI_s, zgI_s, zisJ_s, zgJ_s, zisD_s, zgD_s, zisA_s, zgA_s, zpokI, zpstI, zpokZ, zpstZ, zpokJ, zpstJ, zpokD, zpstD, zpokO, zpstO, zpokOn, zpstOn, zpokA, zpstA, zpokAn, zpstAn, zpk_0, zptk_0, zpdr_0, zpk_1, zptk_1, zpdr_1, zpk_2, zptk_2, zpdr_2, zpk_3, zptk_3, zpdr_3, zpk_4, zptk_4, zpdr_4, zpk_5, zptk_5, zpdr_5, zpk_6, zptk_6, zpdr_6, zpk_7, zptk_7, zpdr_7, zpk_8, zptk_8, zpdr_8, zisR_s, zgR_s, ztlR_s, zisC_s, zgC_s, zkont_s, zkont_n, zw_iload, zw_iload_n0, zw_iload_n1, zw_iload_n2, zw_iload_n3, zw_lload, zw_lload_n0, zw_lload_n1, zw_lload_n2, zw_lload_n3, zw_dload, zw_dload_n0, zw_dload_n1, zw_dload_n2, zw_dload_n3, zw_aload, zw_aload_n0, zw_aload_n1, zw_aload_n2, zw_aload_n3, zw_iinc, zw_putfield, zw_callS, zw_callV, zw_callI, q_X11_multiplies, ct_X11_multiplies, zc_X11_size, zn_X11_size, zs_X11_size, b_X11_multiplies_0, b_X11_multiplies_56, k_X11_multiplies_0, k_X11_multiplies_56, true_or, or_true, zrz_1, zrz_0, zrz_b, true_and, and_true, Nat.reduceAdd, Nat.reduceLeDiff, Nat.reduceMul, Nat.le_refl, Nat.add_zero, Nat.zero_add, zc_X11_size, zP11_k (hp), ov, o3, o4, el, eh, zcI_d o4 o2, zcI_lt, k2, k3, kl, he, jZ_add, Classical.not_not, Bool.not_eq_false, Bool.not_eq_true, zN_add, zN_sub, zN_mul, zN_le, zN_lt, zN_eq, zix_nI, zin_n, zinI_n, zinR_n, zlt_t, zom_t, zLsr, zLsh, zand_low, zL_add, zL_mul, zL_lt, zL_le, zL_sub, zL_div, zN_div, zL_e0, zL_n0, zN_n0, zN11, zN00, false_or, or_false, zZN_add, zNZ_add, zZN_sub, zNZ_sub, zZN_lt, zZN_le, zNZ_lt, zNZ_le, zZN_eq, zZZ_lt, zZZ_le, zZZ_eq, zN_32, Nat.reducePow, Nat.reduceMod, Nat.reduceDiv, zlc_eq, zlc_lt, zlc_ge, zlc_gt, zlc_le, bI_0, zbo_b, zbo_1, zbo_0, zuJ_inj, nI_nat, eq_self, Nat.reduceEqDiff, Nat.reduceSub, zI_sI_eq, zI_sI_ne, zJ_sJ_eq, zJ_sJ_ne, zD_sD_eq, zD_sD_ne, zR_sR_eq, zR_sR_ne, zJ_sI, zR_sI, zSh_sI, zNx_sI, zD_sI, zI_sJ, zR_sJ, zSh_sJ, zNx_sJ, zD_sJ, zI_sD, zJ_sD, zR_sD, zSh_sD, zNx_sD, zI_sR, zJ_sR, zD_sR, zSh_sR, zNx_sR, if_true, if_false, ite_true, ite_false, not_true, not_false_eq_true, forall_const, false_implies, true_implies, implies_true, zN_shr, zN_m31, jZ_low, jZ_sub, jZN_mul]
  trace_state
  sorry
end ZMPV
