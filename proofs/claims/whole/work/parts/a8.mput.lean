/-! the model's matrices: filled, put, widthOf, the lattice, shape -/
section ZMPT
theorem zsumN_add (f : Nat → Nat) (m : Nat) : ∀ k, zsumN (m + k) f = zsumN m f + zsumN k fun j => f (m + j)
  | 0 => rfl
  | k + 1 => by
    show zsumN (m + k) f + f (m + k) = zsumN m f + (zsumN k (fun j => f (m + j)) + f (m + k))
    rw [zsumN_add f m k, Nat.add_assoc]
theorem zsumN_8 (f : Nat → Nat) : ∀ n, zsumN (8 * n) f = zsumN n fun i => zsumN 8 fun j => f (8 * i + j)
  | 0 => rfl
  | n + 1 => by
    rw [show 8 * (n + 1) = 8 * n + 8 by omega, zsumN_add, zsumN_8 f n]; rfl
theorem zsumN_ct {f : Nat → Nat} {r : Nat} : ∀ {n : Nat}, r ≤ n → (∀ i, r ≤ i → i < n → f i = 0) → zsumN n f = zsumN r f
  | 0, h, _ => by rw [show r = 0 by omega]
  | n + 1, h, hz => by
    by_cases h1 : r = n + 1
    · rw [h1]
    · show zsumN n f + f n = _
      rw [hz n (by omega) (by omega), Nat.add_zero]
      exact zsumN_ct (by omega) fun i h1 h2 => hz i h1 (by omega)
theorem zUn_0 {x : UInt64} (h : zUz x = x) : zUn x = decide (x ≠ 0) := by
  unfold zUn
  rw [decide_eq_decide, Ne, zmt_0, Ne, ← UInt64.toNat_inj]
  have h2 := congrArg UInt64.toNat h
  rw [zUz_n] at h2
  unfold zuz at h2
  have := zu_lt x
  rw [not_iff_not]
  show _ ↔ _ = 0
  split at h2 <;> omega
theorem zgE_g {x : zMx} (h : zMg x) (i j : Nat) : zUf (zgE x i j) = true ∧ zUz (zgE x i j) = zgE x i j := by
  unfold zgE
  split
  · rename_i q
    exact ⟨(h.2.1 i j q.1 q.2).1, (h.2.1 i j q.1 q.2).2.1⟩
  · exact ⟨by decide, by decide⟩
theorem zfil_64 {x : zMx} (h : zMg x) (hb : zMb x) : (zsumN 64 fun e => if zUn (zgE x (e / 8) (e % 8)) = true then 1 else 0) = zfil0 x.2.1 x.2.2.1 x.2.2.2.2.2 := by
  obtain ⟨_, b1, b2, _⟩ := hb
  rw [show 64 = 8 * 8 from rfl, zsumN_8]
  unfold zfil0
  have e : ∀ i j, j < 8 → (if zUn (zgE x ((8 * i + j) / 8) ((8 * i + j) % 8)) = true then 1 else 0) = if i < x.2.1 ∧ j < x.2.2.1 then (if x.2.2.2.2.2 i j = 0 then 0 else 1) else 0 := fun i j hj => by
    rw [show (8 * i + j) / 8 = i by omega, show (8 * i + j) % 8 = j by omega, zUn_0 (zgE_g h i j).2]
    unfold zgE
    by_cases q : i < x.2.1 ∧ j < x.2.2.1
    · rw [if_pos q, if_pos q]
      by_cases q2 : x.2.2.2.2.2 i j = 0
      · rw [if_pos q2, if_neg (by rw [decide_eq_true_eq]; exact fun h => h q2)]
      · rw [if_neg q2, if_pos (by rw [decide_eq_true_eq]; exact q2)]
    · rw [if_neg q, if_neg q, if_neg (by rw [decide_eq_true_eq]; exact fun h => h rfl)]
  rw [zsumN_ct (r := x.2.1) b1 fun i h1 h2 => ?_]
  · refine zsumN_c fun i hi => ?_
    rw [zsumN_c (e i), zsumN_ct (r := x.2.2.1) b2 fun j h1 h2 => by rw [if_neg (by omega)]]
    exact zsumN_c fun j hj => by rw [if_pos ⟨hi, hj⟩]
  · rw [zsumN_c (e i), zsumN_ct (r := 0) (Nat.zero_le _) fun j h3 h4 => by rw [if_neg (by omega)]]
    rfl
theorem zMx1_n {S : zS} {p m : Nat} {x : zMx} (h : zMx1 S p m x) {e : Nat} (he : e < 64) : zD S (p + 4) (64 * m + e) = zgE x (e / 8) (e % 8) := by
  have := h.2.1 (e / 8) (e % 8) (by omega) (by omega)
  rw [show 64 * m + 8 * (e / 8) + e % 8 = 64 * m + e by omega] at this
  exact this
def ct_X11_filled : zCt := (fun av S K => ∃ p : Nat, ∃ m : Nat, m < 2147483648 ∧ av = [.ref p, .int (nI m)] ∧ (∃ x, (zP11 S p ∧ zom (m < 24) ∧ zMx1 S p m x ∧ zMg x) ∧ K (some (.int (nI (zfil0 x.2.1 x.2.2.1 x.2.2.2.2.2)))) S), 0, 0)
theorem zc_X11_filled {S : zS} {K : Option Value → zS → Prop} {p : Nat} {m : Nat} (m_b : m < 2147483648) : ct_X11_filled.1 [.ref p, .int (nI m)] S K = (∃ x, (zP11 S p ∧ zom (m < 24) ∧ zMx1 S p m x ∧ zMg x) ∧ K (some (.int (nI (zfil0 x.2.1 x.2.2.1 x.2.2.2.2.2)))) S) := propext ⟨fun ⟨p_q, m_q, m_h, e, h⟩ => by simp only [List.cons.injEq, Value.ref.injEq, Value.int.injEq, Value.long.injEq, Value.double.injEq, va_rf_inj, zuJ_inj, zbI_inj, and_true, zN_eq m_b m_h] at e; obtain ⟨rfl, rfl⟩ := e; exact h, fun h => ⟨p, m, m_b, rfl, h⟩⟩
theorem zn_X11_filled : ct_X11_filled.2.1 = 0 := rfl
theorem zs_X11_filled : ct_X11_filled.2.2 = 0 := rfl
theorem met_X11_filled (l : Launch) (G : zG) : zMet l G q_X11_filled ct_X11_filled := by
  refine zmk 11 false cal_X11_filled bl_X11_filled pl_X11_filled [] ck_X11_filled nm_X11_filled ⟨rfl, rfl⟩ wd_X11_filled (trivial) ?_
  intro X av S K h
  obtain ⟨p, m, m_b, rfl, h⟩ := h
  refine ⟨Nat.le_of_ble_eq_true rfl, fun hX => ?_⟩
  show X 0 [some (.ref p), some (.int (nI m)), none, none] [] S 0 0
  obtain ⟨x, ⟨hp, hm, hx, hg⟩, hK⟩ := h
  have hm : m < 24 := hm
  have kp := zP11_k hp
  have e0 : zdN 0 = 0 := rfl
  rw [← zfil_64 hg hx.2.2] at hK
  have loop : ∀ i, i ≤ 64 → X 4 [some (.ref p), some (.int (nI m)), some (.int (nI (zsumN i fun e => if zUn (zgE x (e / 8) (e % 8)) = true then 1 else 0))), some (.int (nI i))] [] S 0 0 := by
    refine zlp fun i hi ih => ?_
    have sl := zsumN_lt (f := fun e => if zUn (zgE x (e / 8) (e % 8)) = true then 1 else 0) (c := 1) (n := i) (fun k _ => by show (if _ then _ else _) ≤ 1; split <;> omega)
    have o1 := zUo_f (zgE_g hg (i / 8) (i % 8)).1
    have w1 := fun h => zMx1_n hx (e := i) h
    have n1 : i < 64 → ∀ v, (zUn (zgE x (i / 8) (i % 8)) = false → v = zsumN i fun e => if zUn (zgE x (e / 8) (e % 8)) = true then 1 else 0) → (zUn (zgE x (i / 8) (i % 8)) = true → v = (zsumN i fun e => if zUn (zgE x (e / 8) (e % 8)) = true then 1 else 0) + 1) → X 4 [some (.ref p), some (.int (nI m)), some (.int (nI v)), some (.int (nI (i + 1)))] [] S 0 0 := fun hi v h0 h1 => by
      have e : v = zsumN (i + 1) fun e => if zUn (zgE x (e / 8) (e % 8)) = true then 1 else 0 := by
        show _ = zsumN i _ + (if zUn (zgE x (i / 8) (i % 8)) = true then 1 else 0)
        cases hz : zUn (zgE x (i / 8) (i % 8))
        · rw [h0 hz, if_neg (by decide), Nat.add_zero]
        · rw [h1 hz, if_pos rfl]
      rw [e]; exact ih hi
    clear ih
    refine hX 1000 _ _ _ _ _ _ ?_
    simp +contextual (disch := omega) only [wzq_nop, wzq_nop0, wzq_null, wzq_iconst, wzq_bipush, wzq_sipush, wzq_ldc, wzq_ldc_w, wzq_lconst, wzq_dconst, wzq_ldc2, wzq_ldc2d, wzq_istore, wzq_istore_n0, wzq_istore_n1, wzq_istore_n2, wzq_istore_n3, wzq_lstore, wzq_lstore_n0, wzq_lstore_n1, wzq_lstore_n2, wzq_lstore_n3, wzq_dstore, wzq_dstore_n0, wzq_dstore_n1, wzq_dstore_n2, wzq_dstore_n3, wzq_astore, wzq_astore_n0, wzq_astore_n1, wzq_astore_n2, wzq_astore_n3, wzq_iadd, wzq_isub, wzq_imul, wzq_iand, wzq_ior, wzq_ishr, wzq_iushr, wzq_idiv, wzq_irem, wzq_ineg, wzq_ladd, wzq_lsub, wzq_lmul, wzq_land, wzq_lor, wzq_lxor, wzq_ldiv, wzq_lrem, wzq_lneg, wzq_lshl, wzq_lshr, wzq_lushr, wzq_i2l, wzq_l2i, wzq_lcmp, wzq_dcmp, wzq_dadd, wzq_dsub, wzq_dmul, wzq_ddiv, wzq_dneg, wzq_dup, wzq_pop, wzq_pop2, wzq_dup2J, wzq_dup2D, wzq_dup2I, wzq_goto0, wzq_goto1, wzq_if_eq0, wzq_if_eq1, wzq_icmp_eq0, wzq_icmp_eq1, wzq_if_ne0, wzq_if_ne1, wzq_icmp_ne0, wzq_icmp_ne1, wzq_if_lt0, wzq_if_lt1, wzq_icmp_lt0, wzq_icmp_lt1, wzq_if_ge0, wzq_if_ge1, wzq_icmp_ge0, wzq_icmp_ge1, wzq_if_gt0, wzq_if_gt1, wzq_icmp_gt0, wzq_icmp_gt1, wzq_if_le0, wzq_if_le1, wzq_icmp_le0, wzq_icmp_le1, wzq_ifnull0, wzq_ifnull1, wzq_ifnull_a, wzq_ifnull_b, wzq_ifnonnull0, wzq_ifnonnull1, wzq_ifnonnull_a, wzq_ifnonnull_b, wzq_table, wzq_getfield, wzq_alen, wzq_iaload, wzq_baload, wzq_laload, wzq_daload, wzq_aaload, wzq_iastore, wzq_bastore, wzq_lastore, wzq_dastore, wzq_aastore, wzq_new, wzq_newarray, wzq_anewarray, wzq_d2l, wzq_l2d, wzq_mmax, wzq_mmin, wzq_mmaxl, wzq_mabs, wzq_objInit, wzq_ireturn, wzq_lreturn, wzq_dreturn, wzq_areturn, wzq_return, znth0, zst1_0, zst2_0, znth1, zst1_1, zst2_1, znth2, zst1_2, zst2_2, znth3, zst1_3, zst2_3, znth4, zst1_4, zst2_4, znth5, zst1_5, zst2_5, znth6, zst1_6, zst2_6, znth7, zst1_7, zst2_7, znth8, zst1_8, zst2_8, znth9, zst1_9, zst2_9, znth10, zst1_10, zst2_10, znth11, zst1_11, zst2_11, znth12, zst1_12, zst2_12, znth13, zst1_13, zst2_13, znth14, zst1_14, zst2_14, znth15, zst1_15, zst2_15, znth16, zst1_16, zst2_16, znth17, zst1_17, zst2_17, znth18, zst1_18, zst2_18, znth19, zst1_19, zst2_19, znth20, zst1_20, zst2_20, znth21, zst1_21, zst2_21, znth22, zst1_22, zst2_22, znth23, zst1_23, zst2_23, znth24, zst1_24, zst2_24, znth25, zst1_25, zst2_25, zkill_n, zkill_int, zkill_ref, zkill_null, zkill_long, zkill_double, zkill_rf, zref_s, zref_n, zref_rf, va_rf_s, va_rf_n, zget0, zget1, zget2, zget3, zget4, zget5, zget6, zget7, zget8, zget9, zget10, zget11, zget12, zget13, zget14, zget15, zget16, zget17, zget18, zget19, zget20, zget21, zget22, zget23, zget24, zget25, zwt_0, zwt_int, zcat_int, zwt_ref, zcat_ref, zwt_long, zcat_long, zwt_double, zcat_double, zwt_null, zwt_rf, zcat_null, zcat_rf, ztl_s, ztl_n, zfI, zfZ, zfJ, zfD, zfO, zfA, zsw_0, zsw_s, zYX1_0, zYX1_1, zYX1_2, zYX1_3, zYX1_4, zYX1_5, zYX1_6, zYX1_7, zYX1_8, zYX1_9, zYX1_10, zYX1_11, zYX1_12, zYX1_13, zYX1_14, zNX1, zYX2_0, zYX2_1, zYX2_2, zYX2_3, zYX2_4, zYX2_5, zYX2_6, zYX2_7, zYX2_8, zYX2_9, zYX2_10, zNX2, zYX3_0, zYX3_1, zYX3_2, zYX3_3, zYX3_4, zYX3_5, zYX3_6, zNX3, zYX4_0, zYX4_1, zYX4_2, zYX4_3, zYX4_4, zYX4_5, zNX4, zYX5_0, zYX5_1, zYX5_2, zYX5_3, zYX5_4, zYX5_5, zYX5_6, zYX5_7, zYX5_8, zNX5, zYX6_0, zYX6_1, zYX6_2, zYX6_3, zYX6_4, zNX6, zYX7_0, zYX7_1, zYX7_2, zYX7_3, zNX7, zYX8_0, zYX8_1, zYX8_2, zNX8, zYX9_0, zYX9_1, zYX9_2, zNX9, zYX10_0, zYX10_1, zYX10_2, zYX10_3, zYX10_4, zYX10_5, zYX10_6, zYX10_7, zYX10_8, zNX10, zYX11_0, zYX11_1, zYX11_2, zYX11_3, zYX11_4, zYX11_5, zYX11_6, zYX11_7, zYX11_8, zYX11_9, zYX11_10, zYX11_11, zYX11_12, zYX11_13, zYX11_14, zYX11_15, zYX11_16, zYX11_17, zYX11_18, zYX11_19, zYX11_20, zYX11_21, zYX11_22, zYX11_23, zYX11_24, zYX11_25, zYX11_26, zYX11_27, zYX11_28, zYX11_29, zYX11_30, zYX11_31, zYX11_32, zYX11_33, zYX11_34, zYX11_35, zYX11_36, zYX11_37, zYX11_38, zYX11_39, zYX11_40, zYX11_41, zYX11_42, zYX11_43, zYX11_44, zYX11_45, zYX11_46, zYX11_47, zYX11_48, zYX11_49, zYX11_50, zYX11_51, zYX11_52, zYX11_53, zYX11_54, zYX11_55, zYX11_56, zYX11_57, zNX11, zend_i, zend_l, zend_d, zend_o, zend_v, wzend_z, znle, zisI_s, zgI_s, zisJ_s, zgJ_s, zisD_s, zgD_s, zisA_s, zgA_s, zpokI, zpstI, zpokZ, zpstZ, zpokJ, zpstJ, zpokD, zpstD, zpokO, zpstO, zpokOn, zpstOn, zpokA, zpstA, zpokAn, zpstAn, zpk_0, zptk_0, zpdr_0, zpk_1, zptk_1, zpdr_1, zpk_2, zptk_2, zpdr_2, zpk_3, zptk_3, zpdr_3, zpk_4, zptk_4, zpdr_4, zpk_5, zptk_5, zpdr_5, zpk_6, zptk_6, zpdr_6, zpk_7, zptk_7, zpdr_7, zpk_8, zptk_8, zpdr_8, zisR_s, zgR_s, ztlR_s, zisC_s, zgC_s, zkont_s, zkont_n, zw_iload, zw_iload_n0, zw_iload_n1, zw_iload_n2, zw_iload_n3, zw_lload, zw_lload_n0, zw_lload_n1, zw_lload_n2, zw_lload_n3, zw_dload, zw_dload_n0, zw_dload_n1, zw_dload_n2, zw_dload_n3, zw_aload, zw_aload_n0, zw_aload_n1, zw_aload_n2, zw_aload_n3, zw_iinc, zw_putfield, zw_callS, zw_callV, zw_callI, q_X11_filled, ct_X11_filled, b_X11_filled_0, b_X11_filled_4, b_X11_filled_29, b_X11_filled_35, k_X11_filled_0, k_X11_filled_4, k_X11_filled_29, k_X11_filled_35, true_or, or_true, zrz_1, zrz_0, zrz_b, true_and, and_true, Nat.reduceAdd, Nat.reduceLeDiff, Nat.reduceMul, Nat.le_refl, Nat.add_zero, Nat.zero_add, zP11_k (hp), zP11_r4 (hp), zP11_s4 (hp), e0, w1, zcI_d o1 zUo_0, zcI_eq, zky_00, zky_0, Classical.not_not, Bool.not_eq_false, Bool.not_eq_true, zN_add, zN_sub, zN_mul, zN_le, zN_lt, zN_eq, zix_nI, zin_n, zinI_n, zinR_n, zlt_t, zom_t, zLsr, zLsh, zand_low, zL_add, zL_mul, zL_lt, zL_le, zL_sub, zL_div, zN_div, zL_e0, zL_n0, zN_n0, zN11, zN00, false_or, or_false, zZN_add, zNZ_add, zZN_sub, zNZ_sub, zZN_lt, zZN_le, zNZ_lt, zNZ_le, zZN_eq, zZZ_lt, zZZ_le, zZZ_eq, zN_32, Nat.reducePow, Nat.reduceMod, Nat.reduceDiv, zlc_eq, zlc_lt, zlc_ge, zlc_gt, zlc_le, bI_0, zbo_b, zbo_1, zbo_0, zuJ_inj, nI_nat, eq_self, Nat.reduceEqDiff, Nat.reduceSub, zI_sI_eq, zI_sI_ne, zJ_sJ_eq, zJ_sJ_ne, zD_sD_eq, zD_sD_ne, zR_sR_eq, zR_sR_ne, zJ_sI, zR_sI, zSh_sI, zNx_sI, zD_sI, zI_sJ, zR_sJ, zSh_sJ, zNx_sJ, zD_sJ, zI_sD, zJ_sD, zR_sD, zSh_sD, zNx_sD, zI_sR, zJ_sR, zD_sR, zSh_sR, zNx_sR, if_true, if_false, ite_true, ite_false, not_true, not_false_eq_true, forall_const, false_implies, true_implies, implies_true, zN_shr, zN_m31, jZ_low, jZ_add, jZ_sub, jZN_mul]
    trace_state
    sorry
  refine hX 1000 _ _ _ _ _ _ ?_
  simp (disch := omega) only [wzq_nop, wzq_nop0, wzq_null, wzq_iconst, wzq_bipush, wzq_sipush, wzq_ldc, wzq_ldc_w, wzq_lconst, wzq_dconst, wzq_ldc2, wzq_ldc2d, wzq_istore, wzq_istore_n0, wzq_istore_n1, wzq_istore_n2, wzq_istore_n3, wzq_lstore, wzq_lstore_n0, wzq_lstore_n1, wzq_lstore_n2, wzq_lstore_n3, wzq_dstore, wzq_dstore_n0, wzq_dstore_n1, wzq_dstore_n2, wzq_dstore_n3, wzq_astore, wzq_astore_n0, wzq_astore_n1, wzq_astore_n2, wzq_astore_n3, wzq_iadd, wzq_isub, wzq_imul, wzq_iand, wzq_ior, wzq_ishr, wzq_iushr, wzq_idiv, wzq_irem, wzq_ineg, wzq_ladd, wzq_lsub, wzq_lmul, wzq_land, wzq_lor, wzq_lxor, wzq_ldiv, wzq_lrem, wzq_lneg, wzq_lshl, wzq_lshr, wzq_lushr, wzq_i2l, wzq_l2i, wzq_lcmp, wzq_dcmp, wzq_dadd, wzq_dsub, wzq_dmul, wzq_ddiv, wzq_dneg, wzq_dup, wzq_pop, wzq_pop2, wzq_dup2J, wzq_dup2D, wzq_dup2I, wzq_goto0, wzq_goto1, wzq_if_eq0, wzq_if_eq1, wzq_icmp_eq0, wzq_icmp_eq1, wzq_if_ne0, wzq_if_ne1, wzq_icmp_ne0, wzq_icmp_ne1, wzq_if_lt0, wzq_if_lt1, wzq_icmp_lt0, wzq_icmp_lt1, wzq_if_ge0, wzq_if_ge1, wzq_icmp_ge0, wzq_icmp_ge1, wzq_if_gt0, wzq_if_gt1, wzq_icmp_gt0, wzq_icmp_gt1, wzq_if_le0, wzq_if_le1, wzq_icmp_le0, wzq_icmp_le1, wzq_ifnull0, wzq_ifnull1, wzq_ifnull_a, wzq_ifnull_b, wzq_ifnonnull0, wzq_ifnonnull1, wzq_ifnonnull_a, wzq_ifnonnull_b, wzq_table, wzq_getfield, wzq_alen, wzq_iaload, wzq_baload, wzq_laload, wzq_daload, wzq_aaload, wzq_iastore, wzq_bastore, wzq_lastore, wzq_dastore, wzq_aastore, wzq_new, wzq_newarray, wzq_anewarray, wzq_d2l, wzq_l2d, wzq_mmax, wzq_mmin, wzq_mmaxl, wzq_mabs, wzq_objInit, wzq_ireturn, wzq_lreturn, wzq_dreturn, wzq_areturn, wzq_return, znth0, zst1_0, zst2_0, znth1, zst1_1, zst2_1, znth2, zst1_2, zst2_2, znth3, zst1_3, zst2_3, znth4, zst1_4, zst2_4, znth5, zst1_5, zst2_5, znth6, zst1_6, zst2_6, znth7, zst1_7, zst2_7, znth8, zst1_8, zst2_8, znth9, zst1_9, zst2_9, znth10, zst1_10, zst2_10, znth11, zst1_11, zst2_11, znth12, zst1_12, zst2_12, znth13, zst1_13, zst2_13, znth14, zst1_14, zst2_14, znth15, zst1_15, zst2_15, znth16, zst1_16, zst2_16, znth17, zst1_17, zst2_17, znth18, zst1_18, zst2_18, znth19, zst1_19, zst2_19, znth20, zst1_20, zst2_20, znth21, zst1_21, zst2_21, znth22, zst1_22, zst2_22, znth23, zst1_23, zst2_23, znth24, zst1_24, zst2_24, znth25, zst1_25, zst2_25, zkill_n, zkill_int, zkill_ref, zkill_null, zkill_long, zkill_double, zkill_rf, zref_s, zref_n, zref_rf, va_rf_s, va_rf_n, zget0, zget1, zget2, zget3, zget4, zget5, zget6, zget7, zget8, zget9, zget10, zget11, zget12, zget13, zget14, zget15, zget16, zget17, zget18, zget19, zget20, zget21, zget22, zget23, zget24, zget25, zwt_0, zwt_int, zcat_int, zwt_ref, zcat_ref, zwt_long, zcat_long, zwt_double, zcat_double, zwt_null, zwt_rf, zcat_null, zcat_rf, ztl_s, ztl_n, zfI, zfZ, zfJ, zfD, zfO, zfA, zsw_0, zsw_s, zYX1_0, zYX1_1, zYX1_2, zYX1_3, zYX1_4, zYX1_5, zYX1_6, zYX1_7, zYX1_8, zYX1_9, zYX1_10, zYX1_11, zYX1_12, zYX1_13, zYX1_14, zNX1, zYX2_0, zYX2_1, zYX2_2, zYX2_3, zYX2_4, zYX2_5, zYX2_6, zYX2_7, zYX2_8, zYX2_9, zYX2_10, zNX2, zYX3_0, zYX3_1, zYX3_2, zYX3_3, zYX3_4, zYX3_5, zYX3_6, zNX3, zYX4_0, zYX4_1, zYX4_2, zYX4_3, zYX4_4, zYX4_5, zNX4, zYX5_0, zYX5_1, zYX5_2, zYX5_3, zYX5_4, zYX5_5, zYX5_6, zYX5_7, zYX5_8, zNX5, zYX6_0, zYX6_1, zYX6_2, zYX6_3, zYX6_4, zNX6, zYX7_0, zYX7_1, zYX7_2, zYX7_3, zNX7, zYX8_0, zYX8_1, zYX8_2, zNX8, zYX9_0, zYX9_1, zYX9_2, zNX9, zYX10_0, zYX10_1, zYX10_2, zYX10_3, zYX10_4, zYX10_5, zYX10_6, zYX10_7, zYX10_8, zNX10, zYX11_0, zYX11_1, zYX11_2, zYX11_3, zYX11_4, zYX11_5, zYX11_6, zYX11_7, zYX11_8, zYX11_9, zYX11_10, zYX11_11, zYX11_12, zYX11_13, zYX11_14, zYX11_15, zYX11_16, zYX11_17, zYX11_18, zYX11_19, zYX11_20, zYX11_21, zYX11_22, zYX11_23, zYX11_24, zYX11_25, zYX11_26, zYX11_27, zYX11_28, zYX11_29, zYX11_30, zYX11_31, zYX11_32, zYX11_33, zYX11_34, zYX11_35, zYX11_36, zYX11_37, zYX11_38, zYX11_39, zYX11_40, zYX11_41, zYX11_42, zYX11_43, zYX11_44, zYX11_45, zYX11_46, zYX11_47, zYX11_48, zYX11_49, zYX11_50, zYX11_51, zYX11_52, zYX11_53, zYX11_54, zYX11_55, zYX11_56, zYX11_57, zNX11, zend_i, zend_l, zend_d, zend_o, zend_v, wzend_z, znle, zisI_s, zgI_s, zisJ_s, zgJ_s, zisD_s, zgD_s, zisA_s, zgA_s, zpokI, zpstI, zpokZ, zpstZ, zpokJ, zpstJ, zpokD, zpstD, zpokO, zpstO, zpokOn, zpstOn, zpokA, zpstA, zpokAn, zpstAn, zpk_0, zptk_0, zpdr_0, zpk_1, zptk_1, zpdr_1, zpk_2, zptk_2, zpdr_2, zpk_3, zptk_3, zpdr_3, zpk_4, zptk_4, zpdr_4, zpk_5, zptk_5, zpdr_5, zpk_6, zptk_6, zpdr_6, zpk_7, zptk_7, zpdr_7, zpk_8, zptk_8, zpdr_8, zisR_s, zgR_s, ztlR_s, zisC_s, zgC_s, zkont_s, zkont_n, zw_iload, zw_iload_n0, zw_iload_n1, zw_iload_n2, zw_iload_n3, zw_lload, zw_lload_n0, zw_lload_n1, zw_lload_n2, zw_lload_n3, zw_dload, zw_dload_n0, zw_dload_n1, zw_dload_n2, zw_dload_n3, zw_aload, zw_aload_n0, zw_aload_n1, zw_aload_n2, zw_aload_n3, zw_iinc, zw_putfield, zw_callS, zw_callV, zw_callI, q_X11_filled, ct_X11_filled, b_X11_filled_0, b_X11_filled_4, b_X11_filled_29, b_X11_filled_35, k_X11_filled_0, k_X11_filled_4, k_X11_filled_29, k_X11_filled_35, true_or, or_true, zrz_1, zrz_0, zrz_b, true_and, and_true, Nat.reduceAdd, Nat.reduceLeDiff, Nat.reduceMul, Nat.le_refl, Nat.add_zero, Nat.zero_add, Classical.not_not, Bool.not_eq_false, Bool.not_eq_true, zN_add, zN_sub, zN_mul, zN_le, zN_lt, zN_eq, zix_nI, zin_n, zinI_n, zinR_n, zlt_t, zom_t, zLsr, zLsh, zand_low, zL_add, zL_mul, zL_lt, zL_le, zL_sub, zL_div, zN_div, zL_e0, zL_n0, zN_n0, zN11, zN00, false_or, or_false, zZN_add, zNZ_add, zZN_sub, zNZ_sub, zZN_lt, zZN_le, zNZ_lt, zNZ_le, zZN_eq, zZZ_lt, zZZ_le, zZZ_eq, zN_32, Nat.reducePow, Nat.reduceMod, Nat.reduceDiv, zlc_eq, zlc_lt, zlc_ge, zlc_gt, zlc_le, bI_0, zbo_b, zbo_1, zbo_0, zuJ_inj, nI_nat, eq_self, Nat.reduceEqDiff, Nat.reduceSub, zI_sI_eq, zI_sI_ne, zJ_sJ_eq, zJ_sJ_ne, zD_sD_eq, zD_sD_ne, zR_sR_eq, zR_sR_ne, zJ_sI, zR_sI, zSh_sI, zNx_sI, zD_sI, zI_sJ, zR_sJ, zSh_sJ, zNx_sJ, zD_sJ, zI_sD, zJ_sD, zR_sD, zSh_sD, zNx_sD, zI_sR, zJ_sR, zD_sR, zSh_sR, zNx_sR, if_true, if_false, ite_true, ite_false, not_true, not_false_eq_true, forall_const, false_implies, true_implies, implies_true, zN_shr, zN_m31, jZ_low, jZ_add, jZ_sub, jZN_mul]
  exact loop 0 (Nat.zero_le _)
end ZMPT
