/-! the class's elimination: the table of cells; rowWithPivot, exchangeRows */ -/
section ZTAB
/-- the cell of row i, column j -/
def zca (E : Nat) (π : Nat → Nat → Nat) (i j : Nat) : Nat := E + 12 + 2 * π i j
theorem zca_e (E : Nat) (π : Nat → Nat → Nat) (i j : Nat) : zca E π i j = E + 12 + 2 * π i j := rfl
def zTb (S : zS) (E : Nat) (π : Nat → Nat → Nat) : Prop := zP1 S E ∧ (zWs S (E + 2) 56 ∧ zWs S (E + 4) 56 ∧ zWs S (E + 6) 56 ∧ zWs S (E + 8) 28) ∧ (∀ i j, i < 8 → j < 16 → zR S (E + 1) (i * 16 + j) = some (zca E π i j) ∧ π i j < 128 ∧ zWs S (zca E π i j) 28) ∧ ∀ i j a b, i < 8 → j < 16 → a < 8 → b < 16 → π i j = π a b → i = a ∧ j = b
theorem zTb_gr {F : Nat → Prop} {S T : zS} {E : Nat} {π : Nat → Nat → Nat} (h : zGr F S T) (hs : zTb S E π) : zTb T E π := by
  obtain ⟨h1, ⟨h2, h3, h4, h5⟩, h6, h7⟩ := hs
  refine ⟨zP1_gr h h1, ⟨zWs_gr h h2, zWs_gr h h3, zWs_gr h h4, zWs_gr h h5⟩, fun i j hi hj => ?_, h7⟩
  obtain ⟨q1, q2, q3⟩ := h6 i j hi hj
  refine ⟨?_, q2, zWs_gr h q3⟩
  rw [h.2.2.1]; exact q1
theorem zWs_fr {F : Nat → Prop} {S T : zS} {o cap : Nat} (h : zFr F S T) (h1 : ¬ F o) (hs : zWs S o cap) : zWs T o cap := by unfold zWs; rw [h.1, (h.2.2 o h1).2.2.2]; exact hs
theorem zWv_fr {F : Nat → Prop} {S T : zS} {o cap : Nat} {v : Int} (h : zFr F S T) (h1 : ¬ F o) (h2 : ¬ F (o + 1)) (hs : zWv S o cap v) : zWv T o cap v := by
  obtain ⟨hw, len, q⟩ := hs
  refine ⟨zWs_fr h h1 hw, len, ?_⟩
  unfold zLu
  rw [(h.2.2 o h1).1, (h.2.2 (o + 1) h2).1]
  exact q
variable {S : zS} {K : Option Value → zS → Prop} {E i j : Nat} {π : Nat → Nat → Nat}
theorem zTb_a (h : zTb S E π) (hi : i < 8) (hj : j < 16) : zWs S (zca E π i j) 28 := (h.2.2.1 i j hi hj).2.2
theorem zTb_k (h : zTb S E π) (hi : i < 8) (hj : j < 16) : (zSh S (zca E π i j)).1 = 9 := (h.2.2.1 i j hi hj).2.2.1
theorem zTb_b (h : zTb S E π) (hi : i < 8) (hj : j < 16) : π i j < 128 := (h.2.2.1 i j hi hj).2.1
theorem zTb_r (h : zTb S E π) (hi : i < 8) (hj : j < 16) : zR S (E + 1) (i * 16 + j) = some (zca E π i j) := (h.2.2.1 i j hi hj).1
theorem zat (h : zTb S E π) (hi : i < 8) (hj : j < 16) : ct_X1_at.1 [.ref E, .int (nI i), .int (nI j)] S K = K (some (.ref (zca E π i j))) S := by
  rw [zc_X1_at (by omega) (by omega)]
  refine propext ⟨fun ⟨a, ⟨_, _, q⟩, k⟩ => ?_, fun k => ⟨zca E π i j, ⟨h.1, ⟨hi, hj⟩, zTb_r h hi hj⟩, k⟩⟩
  rw [zTb_r h hi hj] at q
  cases q; exact k
theorem zWv_s {o cap : Nat} {v : Int} (h : zWv S o cap v) : zI S o 2 = iZ v.sign := by obtain ⟨_, _, _, _, q, _⟩ := h; exact q
def ct_X1_rowWithPivot : zCt := (fun av S K => ∃ E : Nat, ∃ c : Nat, c < 2147483648 ∧ av = [.ref E, .int (nI c)] ∧ (∃ (π : Nat → Nat → Nat) (m r : Nat) (U : Nat → Nat → Int), (zTb S E π ∧ zom (c < 16 ∧ r ≤ m ∧ m ≤ 8) ∧ zI S E 7 = nI m ∧ zI S E 11 = nI r ∧ ∀ i, r ≤ i → i < m → zWv S (zca E π i c) 28 (U i c)) ∧ K (some (.int (if zbp m c U r < m then nI (zbp m c U r) else iZ (-1)))) S), 0, 0)
theorem zc_X1_rowWithPivot {S : zS} {K : Option Value → zS → Prop} {E : Nat} {c : Nat} (c_b : c < 2147483648) : ct_X1_rowWithPivot.1 [.ref E, .int (nI c)] S K = (∃ (π : Nat → Nat → Nat) (m r : Nat) (U : Nat → Nat → Int), (zTb S E π ∧ zom (c < 16 ∧ r ≤ m ∧ m ≤ 8) ∧ zI S E 7 = nI m ∧ zI S E 11 = nI r ∧ ∀ i, r ≤ i → i < m → zWv S (zca E π i c) 28 (U i c)) ∧ K (some (.int (if zbp m c U r < m then nI (zbp m c U r) else iZ (-1)))) S) := propext ⟨fun ⟨E_q, c_q, c_h, e, h⟩ => by simp only [List.cons.injEq, Value.ref.injEq, Value.int.injEq, Value.long.injEq, Value.double.injEq, va_rf_inj, zuJ_inj, zbI_inj, and_true, zN_eq c_b c_h] at e; obtain ⟨rfl, rfl⟩ := e; exact h, fun h => ⟨E, c, c_b, rfl, h⟩⟩
theorem zn_X1_rowWithPivot : ct_X1_rowWithPivot.2.1 = 0 := rfl
theorem zs_X1_rowWithPivot : ct_X1_rowWithPivot.2.2 = 0 := rfl
theorem met_X1_rowWithPivot (l : Launch) (G : zG) : zMet l G q_X1_rowWithPivot ct_X1_rowWithPivot := by
  refine zmk 1 false cal_X1_rowWithPivot bl_X1_rowWithPivot pl_X1_rowWithPivot [ct_X1_at] ck_X1_rowWithPivot nm_X1_rowWithPivot ⟨rfl, rfl⟩ wd_X1_rowWithPivot (⟨⟨met_X1_at l G, rfl, rfl⟩, trivial⟩) ?_
  intro X av S K h
  obtain ⟨E, c, c_b, rfl, h⟩ := h
  refine ⟨Nat.le_of_ble_eq_true rfl, fun hX => ?_⟩
  show X 0 [some (.ref E), some (.int (nI c)), none] [] S 0 0
  obtain ⟨π, m, r, U, ⟨ht, ⟨hc, hrm, hm⟩, h7, h11, hU⟩, hK⟩ := h
  have hp := ht.1
  have loop : ∀ i, i ≤ m → r ≤ i → (∀ k, r ≤ k → k < i → U k c = 0) → X 5 [some (.ref E), some (.int (nI c)), some (.int (nI i))] [] S 0 0 := by
    refine zlp fun i hi ih hri hz => ?_
    have es : r ≤ i → i < m → (zI S (zca E π i c) 2 = nI 0) = (U i c = 0) := fun h1 h2 => by rw [zWv_s (hU i h1 h2), zsgn_0]
    refine hX 1000 _ _ _ _ _ _ ?_
    simp +contextual (disch := omega) only [wzq_nop, wzq_nop0, wzq_null, wzq_iconst, wzq_bipush, wzq_sipush, wzq_ldc, wzq_ldc_w, wzq_lconst, wzq_dconst, wzq_ldc2, wzq_ldc2d, wzq_istore, wzq_istore_n0, wzq_istore_n1, wzq_istore_n2, wzq_istore_n3, wzq_lstore, wzq_lstore_n0, wzq_lstore_n1, wzq_lstore_n2, wzq_lstore_n3, wzq_dstore, wzq_dstore_n0, wzq_dstore_n1, wzq_dstore_n2, wzq_dstore_n3, wzq_astore, wzq_astore_n0, wzq_astore_n1, wzq_astore_n2, wzq_astore_n3, wzq_iadd, wzq_isub, wzq_imul, wzq_iand, wzq_ior, wzq_ishr, wzq_iushr, wzq_idiv, wzq_irem, wzq_ineg, wzq_ladd, wzq_lsub, wzq_lmul, wzq_land, wzq_lor, wzq_lxor, wzq_ldiv, wzq_lrem, wzq_lneg, wzq_lshl, wzq_lshr, wzq_lushr, wzq_i2l, wzq_l2i, wzq_lcmp, wzq_dcmp, wzq_dadd, wzq_dsub, wzq_dmul, wzq_ddiv, wzq_dneg, wzq_dup, wzq_pop, wzq_pop2, wzq_dup2J, wzq_dup2D, wzq_dup2I, wzq_goto0, wzq_goto1, wzq_if_eq0, wzq_if_eq1, wzq_icmp_eq0, wzq_icmp_eq1, wzq_if_ne0, wzq_if_ne1, wzq_icmp_ne0, wzq_icmp_ne1, wzq_if_lt0, wzq_if_lt1, wzq_icmp_lt0, wzq_icmp_lt1, wzq_if_ge0, wzq_if_ge1, wzq_icmp_ge0, wzq_icmp_ge1, wzq_if_gt0, wzq_if_gt1, wzq_icmp_gt0, wzq_icmp_gt1, wzq_if_le0, wzq_if_le1, wzq_icmp_le0, wzq_icmp_le1, wzq_ifnull0, wzq_ifnull1, wzq_ifnull_a, wzq_ifnull_b, wzq_ifnonnull0, wzq_ifnonnull1, wzq_ifnonnull_a, wzq_ifnonnull_b, wzq_table, wzq_getfield, wzq_alen, wzq_iaload, wzq_baload, wzq_laload, wzq_daload, wzq_aaload, wzq_iastore, wzq_bastore, wzq_lastore, wzq_dastore, wzq_aastore, wzq_new, wzq_newarray, wzq_anewarray, wzq_d2l, wzq_l2d, wzq_mmax, wzq_mmin, wzq_mmaxl, wzq_mabs, wzq_objInit, wzq_ireturn, wzq_lreturn, wzq_dreturn, wzq_areturn, wzq_return, znth0, zst1_0, zst2_0, znth1, zst1_1, zst2_1, znth2, zst1_2, zst2_2, znth3, zst1_3, zst2_3, znth4, zst1_4, zst2_4, znth5, zst1_5, zst2_5, znth6, zst1_6, zst2_6, znth7, zst1_7, zst2_7, znth8, zst1_8, zst2_8, znth9, zst1_9, zst2_9, znth10, zst1_10, zst2_10, znth11, zst1_11, zst2_11, znth12, zst1_12, zst2_12, znth13, zst1_13, zst2_13, znth14, zst1_14, zst2_14, znth15, zst1_15, zst2_15, znth16, zst1_16, zst2_16, znth17, zst1_17, zst2_17, znth18, zst1_18, zst2_18, znth19, zst1_19, zst2_19, znth20, zst1_20, zst2_20, znth21, zst1_21, zst2_21, znth22, zst1_22, zst2_22, znth23, zst1_23, zst2_23, znth24, zst1_24, zst2_24, znth25, zst1_25, zst2_25, zkill_n, zkill_int, zkill_ref, zkill_null, zkill_long, zkill_double, zkill_rf, zref_s, zref_n, zref_rf, va_rf_s, va_rf_n, zget0, zget1, zget2, zget3, zget4, zget5, zget6, zget7, zget8, zget9, zget10, zget11, zget12, zget13, zget14, zget15, zget16, zget17, zget18, zget19, zget20, zget21, zget22, zget23, zget24, zget25, zwt_0, zwt_int, zcat_int, zwt_ref, zcat_ref, zwt_long, zcat_long, zwt_double, zcat_double, zwt_null, zwt_rf, zcat_null, zcat_rf, ztl_s, ztl_n, zfI, zfZ, zfJ, zfD, zfO, zfA, zsw_0, zsw_s, zYX1_0, zYX1_1, zYX1_2, zYX1_3, zYX1_4, zYX1_5, zYX1_6, zYX1_7, zYX1_8, zYX1_9, zYX1_10, zYX1_11, zYX1_12, zYX1_13, zYX1_14, zNX1, zYX2_0, zYX2_1, zYX2_2, zYX2_3, zYX2_4, zYX2_5, zYX2_6, zYX2_7, zYX2_8, zYX2_9, zYX2_10, zNX2, zYX3_0, zYX3_1, zYX3_2, zYX3_3, zYX3_4, zYX3_5, zYX3_6, zNX3, zYX4_0, zYX4_1, zYX4_2, zYX4_3, zYX4_4, zYX4_5, zNX4, zYX5_0, zYX5_1, zYX5_2, zYX5_3, zYX5_4, zYX5_5, zYX5_6, zYX5_7, zYX5_8, zNX5, zYX6_0, zYX6_1, zYX6_2, zYX6_3, zYX6_4, zNX6, zYX7_0, zYX7_1, zYX7_2, zYX7_3, zNX7, zYX8_0, zYX8_1, zYX8_2, zNX8, zYX9_0, zYX9_1, zYX9_2, zNX9, zYX10_0, zYX10_1, zYX10_2, zYX10_3, zYX10_4, zYX10_5, zYX10_6, zYX10_7, zYX10_8, zNX10, zYX11_0, zYX11_1, zYX11_2, zYX11_3, zYX11_4, zYX11_5, zYX11_6, zYX11_7, zYX11_8, zYX11_9, zYX11_10, zYX11_11, zYX11_12, zYX11_13, zYX11_14, zYX11_15, zYX11_16, zYX11_17, zYX11_18, zYX11_19, zYX11_20, zYX11_21, zYX11_22, zYX11_23, zYX11_24, zYX11_25, zYX11_26, zYX11_27, zYX11_28, zYX11_29, zYX11_30, zYX11_31, zYX11_32, zYX11_33, zYX11_34, zYX11_35, zYX11_36, zYX11_37, zYX11_38, zYX11_39, zYX11_40, zYX11_41, zYX11_42, zYX11_43, zYX11_44, zYX11_45, zYX11_46, zYX11_47, zYX11_48, zYX11_49, zYX11_50, zYX11_51, zYX11_52, zYX11_53, zYX11_54, zYX11_55, zYX11_56, zYX11_57, zNX11, zend_i, zend_l, zend_d, zend_o, zend_v, wzend_z, znle, zisI_s, zgI_s, zisJ_s, zgJ_s, zisD_s, zgD_s, zisA_s, zgA_s, zpokI, zpstI, zpokZ, zpstZ, zpokJ, zpstJ, zpokD, zpstD, zpokO, zpstO, zpokOn, zpstOn, zpokA, zpstA, zpokAn, zpstAn, zpk_0, zptk_0, zpdr_0, zpk_1, zptk_1, zpdr_1, zpk_2, zptk_2, zpdr_2, zpk_3, zptk_3, zpdr_3, zpk_4, zptk_4, zpdr_4, zpk_5, zptk_5, zpdr_5, zpk_6, zptk_6, zpdr_6, zpk_7, zptk_7, zpdr_7, zpk_8, zptk_8, zpdr_8, zisR_s, zgR_s, ztlR_s, zisC_s, zgC_s, zkont_s, zkont_n, zw_iload, zw_iload_n0, zw_iload_n1, zw_iload_n2, zw_iload_n3, zw_lload, zw_lload_n0, zw_lload_n1, zw_lload_n2, zw_lload_n3, zw_dload, zw_dload_n0, zw_dload_n1, zw_dload_n2, zw_dload_n3, zw_aload, zw_aload_n0, zw_aload_n1, zw_aload_n2, zw_aload_n3, zw_iinc, zw_putfield, zw_callS, zw_callV, zw_callI, q_X1_rowWithPivot, ct_X1_rowWithPivot, zn_X1_at, zs_X1_at, nIm_1, b_X1_rowWithPivot_0, b_X1_rowWithPivot_5, b_X1_rowWithPivot_27, b_X1_rowWithPivot_33, k_X1_rowWithPivot_0, k_X1_rowWithPivot_5, k_X1_rowWithPivot_27, k_X1_rowWithPivot_33, true_or, or_true, zrz_1, zrz_0, zrz_b, true_and, and_true, Nat.reduceAdd, Nat.reduceLeDiff, Nat.reduceMul, Nat.le_refl, Nat.add_zero, Nat.zero_add, zP1_k (hp), h7, zat ht, zTb_k ht, es hri, Classical.not_not, Bool.not_eq_false, Bool.not_eq_true, zN_add, zN_sub, zN_mul, zN_le, zN_lt, zN_eq, zix_nI, zin_n, zinI_n, zinR_n, zlt_t, zom_t, zLsr, zLsh, zand_low, zL_add, zL_mul, zL_lt, zL_le, zL_sub, zL_div, zN_div, zL_e0, zL_n0, zN_n0, zN11, zN00, false_or, or_false, zZN_add, zNZ_add, zZN_sub, zNZ_sub, zZN_lt, zZN_le, zNZ_lt, zNZ_le, zZN_eq, zZZ_lt, zZZ_le, zZZ_eq, zN_32, Nat.reducePow, Nat.reduceMod, Nat.reduceDiv, zlc_eq, zlc_lt, zlc_ge, zlc_gt, zlc_le, bI_0, zbo_b, zbo_1, zbo_0, zuJ_inj, nI_nat, eq_self, Nat.reduceEqDiff, Nat.reduceSub, zI_sI_eq, zI_sI_ne, zJ_sJ_eq, zJ_sJ_ne, zD_sD_eq, zD_sD_ne, zR_sR_eq, zR_sR_ne, zJ_sI, zR_sI, zSh_sI, zNx_sI, zD_sI, zI_sJ, zR_sJ, zSh_sJ, zNx_sJ, zD_sJ, zI_sD, zJ_sD, zR_sD, zSh_sD, zNx_sD, zI_sR, zJ_sR, zD_sR, zSh_sR, zNx_sR, if_true, if_false, ite_true, ite_false, not_true, not_false_eq_true, forall_const, false_implies, true_implies, implies_true, zN_shr, zN_m31, jZ_low, jZ_add, jZ_sub, jZN_mul]
    refine ⟨fun h1 => ?_, fun h1 => ⟨fun h2 => ih (by omega) (by omega) (fun k a b => ?_), fun h2 => ?_⟩⟩
    · have e : zbp m c U r = m := zfp_eq (f := fun i => decide (U i c ≠ 0)) hrm (by omega) (fun k a b => decide_eq_false (by rw [hz k a (by omega)]; simp)) (fun h => by omega)
      rw [e, if_neg (by omega)] at hK
      exact hK
    · by_cases hk : k = i
      · rw [hk]; exact h2
      · exact hz k a (by omega)
    · have e : zbp m c U r = i := zfp_eq (f := fun i => decide (U i c ≠ 0)) hri (by omega) (fun k a b => decide_eq_false (by rw [hz k a (by omega)]; simp)) (fun h => decide_eq_true h2)
      rw [e, if_pos (by omega)] at hK
      exact hK
  refine hX 1000 _ _ _ _ _ _ ?_
  simp (disch := omega) only [wzq_nop, wzq_nop0, wzq_null, wzq_iconst, wzq_bipush, wzq_sipush, wzq_ldc, wzq_ldc_w, wzq_lconst, wzq_dconst, wzq_ldc2, wzq_ldc2d, wzq_istore, wzq_istore_n0, wzq_istore_n1, wzq_istore_n2, wzq_istore_n3, wzq_lstore, wzq_lstore_n0, wzq_lstore_n1, wzq_lstore_n2, wzq_lstore_n3, wzq_dstore, wzq_dstore_n0, wzq_dstore_n1, wzq_dstore_n2, wzq_dstore_n3, wzq_astore, wzq_astore_n0, wzq_astore_n1, wzq_astore_n2, wzq_astore_n3, wzq_iadd, wzq_isub, wzq_imul, wzq_iand, wzq_ior, wzq_ishr, wzq_iushr, wzq_idiv, wzq_irem, wzq_ineg, wzq_ladd, wzq_lsub, wzq_lmul, wzq_land, wzq_lor, wzq_lxor, wzq_ldiv, wzq_lrem, wzq_lneg, wzq_lshl, wzq_lshr, wzq_lushr, wzq_i2l, wzq_l2i, wzq_lcmp, wzq_dcmp, wzq_dadd, wzq_dsub, wzq_dmul, wzq_ddiv, wzq_dneg, wzq_dup, wzq_pop, wzq_pop2, wzq_dup2J, wzq_dup2D, wzq_dup2I, wzq_goto0, wzq_goto1, wzq_if_eq0, wzq_if_eq1, wzq_icmp_eq0, wzq_icmp_eq1, wzq_if_ne0, wzq_if_ne1, wzq_icmp_ne0, wzq_icmp_ne1, wzq_if_lt0, wzq_if_lt1, wzq_icmp_lt0, wzq_icmp_lt1, wzq_if_ge0, wzq_if_ge1, wzq_icmp_ge0, wzq_icmp_ge1, wzq_if_gt0, wzq_if_gt1, wzq_icmp_gt0, wzq_icmp_gt1, wzq_if_le0, wzq_if_le1, wzq_icmp_le0, wzq_icmp_le1, wzq_ifnull0, wzq_ifnull1, wzq_ifnull_a, wzq_ifnull_b, wzq_ifnonnull0, wzq_ifnonnull1, wzq_ifnonnull_a, wzq_ifnonnull_b, wzq_table, wzq_getfield, wzq_alen, wzq_iaload, wzq_baload, wzq_laload, wzq_daload, wzq_aaload, wzq_iastore, wzq_bastore, wzq_lastore, wzq_dastore, wzq_aastore, wzq_new, wzq_newarray, wzq_anewarray, wzq_d2l, wzq_l2d, wzq_mmax, wzq_mmin, wzq_mmaxl, wzq_mabs, wzq_objInit, wzq_ireturn, wzq_lreturn, wzq_dreturn, wzq_areturn, wzq_return, znth0, zst1_0, zst2_0, znth1, zst1_1, zst2_1, znth2, zst1_2, zst2_2, znth3, zst1_3, zst2_3, znth4, zst1_4, zst2_4, znth5, zst1_5, zst2_5, znth6, zst1_6, zst2_6, znth7, zst1_7, zst2_7, znth8, zst1_8, zst2_8, znth9, zst1_9, zst2_9, znth10, zst1_10, zst2_10, znth11, zst1_11, zst2_11, znth12, zst1_12, zst2_12, znth13, zst1_13, zst2_13, znth14, zst1_14, zst2_14, znth15, zst1_15, zst2_15, znth16, zst1_16, zst2_16, znth17, zst1_17, zst2_17, znth18, zst1_18, zst2_18, znth19, zst1_19, zst2_19, znth20, zst1_20, zst2_20, znth21, zst1_21, zst2_21, znth22, zst1_22, zst2_22, znth23, zst1_23, zst2_23, znth24, zst1_24, zst2_24, znth25, zst1_25, zst2_25, zkill_n, zkill_int, zkill_ref, zkill_null, zkill_long, zkill_double, zkill_rf, zref_s, zref_n, zref_rf, va_rf_s, va_rf_n, zget0, zget1, zget2, zget3, zget4, zget5, zget6, zget7, zget8, zget9, zget10, zget11, zget12, zget13, zget14, zget15, zget16, zget17, zget18, zget19, zget20, zget21, zget22, zget23, zget24, zget25, zwt_0, zwt_int, zcat_int, zwt_ref, zcat_ref, zwt_long, zcat_long, zwt_double, zcat_double, zwt_null, zwt_rf, zcat_null, zcat_rf, ztl_s, ztl_n, zfI, zfZ, zfJ, zfD, zfO, zfA, zsw_0, zsw_s, zYX1_0, zYX1_1, zYX1_2, zYX1_3, zYX1_4, zYX1_5, zYX1_6, zYX1_7, zYX1_8, zYX1_9, zYX1_10, zYX1_11, zYX1_12, zYX1_13, zYX1_14, zNX1, zYX2_0, zYX2_1, zYX2_2, zYX2_3, zYX2_4, zYX2_5, zYX2_6, zYX2_7, zYX2_8, zYX2_9, zYX2_10, zNX2, zYX3_0, zYX3_1, zYX3_2, zYX3_3, zYX3_4, zYX3_5, zYX3_6, zNX3, zYX4_0, zYX4_1, zYX4_2, zYX4_3, zYX4_4, zYX4_5, zNX4, zYX5_0, zYX5_1, zYX5_2, zYX5_3, zYX5_4, zYX5_5, zYX5_6, zYX5_7, zYX5_8, zNX5, zYX6_0, zYX6_1, zYX6_2, zYX6_3, zYX6_4, zNX6, zYX7_0, zYX7_1, zYX7_2, zYX7_3, zNX7, zYX8_0, zYX8_1, zYX8_2, zNX8, zYX9_0, zYX9_1, zYX9_2, zNX9, zYX10_0, zYX10_1, zYX10_2, zYX10_3, zYX10_4, zYX10_5, zYX10_6, zYX10_7, zYX10_8, zNX10, zYX11_0, zYX11_1, zYX11_2, zYX11_3, zYX11_4, zYX11_5, zYX11_6, zYX11_7, zYX11_8, zYX11_9, zYX11_10, zYX11_11, zYX11_12, zYX11_13, zYX11_14, zYX11_15, zYX11_16, zYX11_17, zYX11_18, zYX11_19, zYX11_20, zYX11_21, zYX11_22, zYX11_23, zYX11_24, zYX11_25, zYX11_26, zYX11_27, zYX11_28, zYX11_29, zYX11_30, zYX11_31, zYX11_32, zYX11_33, zYX11_34, zYX11_35, zYX11_36, zYX11_37, zYX11_38, zYX11_39, zYX11_40, zYX11_41, zYX11_42, zYX11_43, zYX11_44, zYX11_45, zYX11_46, zYX11_47, zYX11_48, zYX11_49, zYX11_50, zYX11_51, zYX11_52, zYX11_53, zYX11_54, zYX11_55, zYX11_56, zYX11_57, zNX11, zend_i, zend_l, zend_d, zend_o, zend_v, wzend_z, znle, zisI_s, zgI_s, zisJ_s, zgJ_s, zisD_s, zgD_s, zisA_s, zgA_s, zpokI, zpstI, zpokZ, zpstZ, zpokJ, zpstJ, zpokD, zpstD, zpokO, zpstO, zpokOn, zpstOn, zpokA, zpstA, zpokAn, zpstAn, zpk_0, zptk_0, zpdr_0, zpk_1, zptk_1, zpdr_1, zpk_2, zptk_2, zpdr_2, zpk_3, zptk_3, zpdr_3, zpk_4, zptk_4, zpdr_4, zpk_5, zptk_5, zpdr_5, zpk_6, zptk_6, zpdr_6, zpk_7, zptk_7, zpdr_7, zpk_8, zptk_8, zpdr_8, zisR_s, zgR_s, ztlR_s, zisC_s, zgC_s, zkont_s, zkont_n, zw_iload, zw_iload_n0, zw_iload_n1, zw_iload_n2, zw_iload_n3, zw_lload, zw_lload_n0, zw_lload_n1, zw_lload_n2, zw_lload_n3, zw_dload, zw_dload_n0, zw_dload_n1, zw_dload_n2, zw_dload_n3, zw_aload, zw_aload_n0, zw_aload_n1, zw_aload_n2, zw_aload_n3, zw_iinc, zw_putfield, zw_callS, zw_callV, zw_callI, q_X1_rowWithPivot, ct_X1_rowWithPivot, zc_X1_at, zn_X1_at, zs_X1_at, nIm_1, b_X1_rowWithPivot_0, b_X1_rowWithPivot_5, b_X1_rowWithPivot_27, b_X1_rowWithPivot_33, k_X1_rowWithPivot_0, k_X1_rowWithPivot_5, k_X1_rowWithPivot_27, k_X1_rowWithPivot_33, true_or, or_true, zrz_1, zrz_0, zrz_b, true_and, and_true, Nat.reduceAdd, Nat.reduceLeDiff, Nat.reduceMul, Nat.le_refl, Nat.add_zero, Nat.zero_add, zP1_k (hp), h11, Classical.not_not, Bool.not_eq_false, Bool.not_eq_true, zN_add, zN_sub, zN_mul, zN_le, zN_lt, zN_eq, zix_nI, zin_n, zinI_n, zinR_n, zlt_t, zom_t, zLsr, zLsh, zand_low, zL_add, zL_mul, zL_lt, zL_le, zL_sub, zL_div, zN_div, zL_e0, zL_n0, zN_n0, zN11, zN00, false_or, or_false, zZN_add, zNZ_add, zZN_sub, zNZ_sub, zZN_lt, zZN_le, zNZ_lt, zNZ_le, zZN_eq, zZZ_lt, zZZ_le, zZZ_eq, zN_32, Nat.reducePow, Nat.reduceMod, Nat.reduceDiv, zlc_eq, zlc_lt, zlc_ge, zlc_gt, zlc_le, bI_0, zbo_b, zbo_1, zbo_0, zuJ_inj, nI_nat, eq_self, Nat.reduceEqDiff, Nat.reduceSub, zI_sI_eq, zI_sI_ne, zJ_sJ_eq, zJ_sJ_ne, zD_sD_eq, zD_sD_ne, zR_sR_eq, zR_sR_ne, zJ_sI, zR_sI, zSh_sI, zNx_sI, zD_sI, zI_sJ, zR_sJ, zSh_sJ, zNx_sJ, zD_sJ, zI_sD, zJ_sD, zR_sD, zSh_sD, zNx_sD, zI_sR, zJ_sR, zD_sR, zSh_sR, zNx_sR, if_true, if_false, ite_true, ite_false, not_true, not_false_eq_true, forall_const, false_implies, true_implies, implies_true, zN_shr, zN_m31, jZ_low, jZ_add, jZ_sub, jZN_mul]
  exact loop r hrm (Nat.le_refl _) (fun k a b => by omega)
/-- rows p and q exchanged -/
def zxw (p q i : Nat) : Nat := if i = p then q else if i = q then p else i
theorem zxw_id (p i : Nat) : zxw p p i = i := by
  unfold zxw
  split
  · omega
  · rfl
theorem zxw_lt {p q i n : Nat} (hp : p < n) (hq : q < n) (hi : i < n) : zxw p q i < n := by
  unfold zxw
  split
  · exact hq
  · split
    · exact hp
    · exact hi
theorem zxw_zz (p q i : Nat) : zxw p q (zxw p q i) = i := by
  unfold zxw
  by_cases h1 : i = p
  · rw [if_pos h1]
    by_cases h2 : q = p
    · rw [if_pos h2]; omega
    · rw [if_neg h2, if_pos rfl, h1]
  · rw [if_neg h1]
    by_cases h2 : i = q
    · rw [if_pos h2, if_pos rfl, h2]
    · rw [if_neg h2, if_neg h1, if_neg h2]
theorem zxw_inj {p q i j : Nat} (h : zxw p q i = zxw p q j) : i = j := by
  have := congrArg (zxw p q) h
  rw [zxw_zz, zxw_zz] at this; exact this
def zpx (π : Nat → Nat → Nat) (a p q : Nat) : Nat → Nat → Nat := fun i x => π (if x < a then zxw p q i else i) x
theorem zpx_0 (π : Nat → Nat → Nat) (p q : Nat) : zpx π 0 p q = π := rfl
theorem zpx_id (π : Nat → Nat → Nat) (a p : Nat) : zpx π a p p = π := by
  funext i j; unfold zpx
  rw [zxw_id]; simp
theorem zpx_x {E a p q i j : Nat} {π : Nat → Nat → Nat} (h : j < a) : zca E (zpx π a p q) i j = zca E π (zxw p q i) j := by
  unfold zca zpx; rw [if_pos h]
theorem zpx_y {E a p q i j : Nat} {π : Nat → Nat → Nat} (h : a ≤ j) : zca E (zpx π a p q) i j = zca E π i j := by
  unfold zca zpx; rw [if_neg (by omega)]
theorem zTb_x {S T : zS} {E j p q : Nat} {π : Nat → Nat → Nat} (hp : p < 8) (hq : q < 8) (hj : j < 16) (hpq : p ≠ q) (h : zTb S E (zpx π j p q)) (hT : T = zsR (zsR S (E + 1) (p * 16 + j) (some (zca E (zpx π j p q) q j))) (E + 1) (q * 16 + j) (some (zca E (zpx π j p q) p j))) : zFr (fun b => b = E + 1) S T ∧ zI T = zI S ∧ zTb T E (zpx π (j + 1) p q) := by
  have hf : zFr (fun b => b = E + 1) S T := by
    rw [hT]
    refine ⟨rfl, rfl, fun b hb => ⟨rfl, rfl, rfl, ?_⟩⟩
    funext k
    rw [zR_sR_ne (by omega), zR_sR_ne (by omega)]
  refine ⟨hf, by rw [hT]; rfl, ?_⟩
  have ⟨h1, ⟨h2, h3, h4, h5⟩, h6, h7⟩ := h
  refine ⟨zP1_fr hf (by omega) h1, ⟨zWs_fr hf (by omega) h2, zWs_fr hf (by omega) h3, zWs_fr hf (by omega) h4, zWs_fr hf (by omega) h5⟩, fun i x hi hx => ?_, fun i x a b hi hx ha hb e => ?_⟩
  · have hne : ∀ i, zca E π i x ≠ E + 1 := fun i => by rw [zca_e]; omega
    rcases Nat.lt_trichotomy x j with hxj | hxj | hxj
    · obtain ⟨q1, q2, q3⟩ := h6 i x hi hx
      rw [zpx_x hxj] at q1 q3
      rw [zpx_x (by omega)]
      refine ⟨?_, ?_, zWs_fr hf (hne _) q3⟩
      · rw [hT, zR_sR_ne (by omega), zR_sR_ne (by omega)]; exact q1
      · unfold zpx at q2 ⊢; rw [if_pos hxj] at q2; rw [if_pos (by omega)]; exact q2
    · subst hxj
      obtain ⟨q1, q2, q3⟩ := h6 (zxw p q i) x (zxw_lt hp hq hi) hx
      rw [zpx_y (Nat.le_refl _)] at q1 q3
      rw [zpx_x (by omega)]
      refine ⟨?_, ?_, zWs_fr hf (hne _) q3⟩
      · rw [hT, zpx_y (Nat.le_refl _), zpx_y (Nat.le_refl _)]
        by_cases hip : i = p
        · rw [hip, zR_sR_ne (by omega), zR_sR_eq]; unfold zxw; rw [if_pos rfl]
        · by_cases hiq : i = q
          · rw [hiq, zR_sR_eq]; unfold zxw; rw [if_neg (by omega), if_pos rfl]
          · have e : zxw p q i = i := by unfold zxw; rw [if_neg hip, if_neg hiq]
            rw [e] at q1 ⊢
            rw [zR_sR_ne (by omega), zR_sR_ne (by omega)]; exact q1
      · unfold zpx at q2 ⊢; rw [if_neg (by omega)] at q2; rw [if_pos (by omega)]; exact q2
    · obtain ⟨q1, q2, q3⟩ := h6 i x hi hx
      rw [zpx_y (by omega)] at q1 q3
      rw [zpx_y (by omega)]
      refine ⟨?_, ?_, zWs_fr hf (hne _) q3⟩
      · rw [hT, zR_sR_ne (by omega), zR_sR_ne (by omega)]; exact q1
      · unfold zpx at q2 ⊢; rw [if_neg (by omega)] at q2; rw [if_neg (by omega)]; exact q2
  · -- injective
    have key : ∀ i x a b, i < 8 → x < 16 → a < 8 → b < 16 → π i x = π a b → i = a ∧ x = b := fun i x a b hi hx ha hb e => by
      have q := h7 (if x < j then zxw p q i else i) x (if b < j then zxw p q a else a) b (by split; exact zxw_lt hp hq hi; exact hi) hx (by split; exact zxw_lt hp hq ha; exact ha) hb (by
        unfold zpx
        split
        · split
          · rw [zxw_zz, zxw_zz]; exact e
          · rw [zxw_zz]; exact e
        · split
          · rw [zxw_zz]; exact e
          · exact e)
      obtain ⟨q1, q2⟩ := q
      subst q2
      refine ⟨?_, rfl⟩
      split at q1
      · exact zxw_inj q1
      · exact q1
    unfold zpx at e
    obtain ⟨q1, q2⟩ := key _ x _ b (by split; exact zxw_lt hp hq hi; exact hi) hx (by split; exact zxw_lt hp hq ha; exact ha) hb e
    subst q2
    refine ⟨?_, rfl⟩
    split at q1
    · exact zxw_inj q1
    · exact q1
theorem zCo27 : zCo 27 = 9 := rfl
def ct_X1_exchangeRows : zCt := (fun av S K => ∃ E : Nat, ∃ p : Nat, ∃ q : Nat, p < 2147483648 ∧ q < 2147483648 ∧ av = [.ref E, .int (nI p), .int (nI q)] ∧ (∃ (π : Nat → Nat → Nat) (m a : Nat) (sw : Bool), (zTb S E π ∧ zom (p < m ∧ q < m ∧ m ≤ 8 ∧ a ≤ 16) ∧ zI S E 7 = nI m ∧ zI S E 9 = nI a ∧ zI S E 12 = bI sw) ∧ ∀ T, zFr (fun b => b = E ∨ b = E + 1) S T → zTb T E (zpx π a p q) → (∀ k, k ≠ 12 → zI T E k = zI S E k) → zI T E 12 = bI (sw ^^ decide (q ≠ p)) → K none T), 0, 0)
theorem zc_X1_exchangeRows {S : zS} {K : Option Value → zS → Prop} {E : Nat} {p : Nat} {q : Nat} (p_b : p < 2147483648) (q_b : q < 2147483648) : ct_X1_exchangeRows.1 [.ref E, .int (nI p), .int (nI q)] S K = (∃ (π : Nat → Nat → Nat) (m a : Nat) (sw : Bool), (zTb S E π ∧ zom (p < m ∧ q < m ∧ m ≤ 8 ∧ a ≤ 16) ∧ zI S E 7 = nI m ∧ zI S E 9 = nI a ∧ zI S E 12 = bI sw) ∧ ∀ T, zFr (fun b => b = E ∨ b = E + 1) S T → zTb T E (zpx π a p q) → (∀ k, k ≠ 12 → zI T E k = zI S E k) → zI T E 12 = bI (sw ^^ decide (q ≠ p)) → K none T) := propext ⟨fun ⟨E_q, p_q, q_q, p_h, q_h, e, h⟩ => by simp only [List.cons.injEq, Value.ref.injEq, Value.int.injEq, Value.long.injEq, Value.double.injEq, va_rf_inj, zuJ_inj, zbI_inj, and_true, zN_eq p_b p_h, zN_eq q_b q_h] at e; obtain ⟨rfl, rfl, rfl⟩ := e; exact h, fun h => ⟨E, p, q, p_b, q_b, rfl, h⟩⟩
theorem zn_X1_exchangeRows : ct_X1_exchangeRows.2.1 = 0 := rfl
theorem zs_X1_exchangeRows : ct_X1_exchangeRows.2.2 = 0 := rfl
theorem met_X1_exchangeRows (l : Launch) (G : zG) : zMet l G q_X1_exchangeRows ct_X1_exchangeRows := by
  refine zmk 1 false cal_X1_exchangeRows bl_X1_exchangeRows pl_X1_exchangeRows [ct_X1_at] ck_X1_exchangeRows nm_X1_exchangeRows ⟨rfl, rfl⟩ wd_X1_exchangeRows (⟨⟨met_X1_at l G, rfl, rfl⟩, trivial⟩) ?_
  intro X av S K h
  obtain ⟨E, p, q, p_b, q_b, rfl, h⟩ := h
  refine ⟨Nat.le_of_ble_eq_true rfl, fun hX => ?_⟩
  show X 0 [some (.ref E), some (.int (nI p)), some (.int (nI q)), none, none] [] S 0 0
  obtain ⟨π, m, a, sw, ⟨ht, ⟨hpm, hqm, hm, ha⟩, h7, h9, h12⟩, hK⟩ := h
  have hp := ht.1
  have loop : ∀ j, j ≤ a → p ≠ q → ∀ T {l3 : Option Value}, zFr (fun b => b = E + 1) S T → zI T = zI S → zTb T E (zpx π j p q) → X 32 [some (.ref E), some (.int (nI p)), some (.int (nI q)), some (.int (nI j)), l3] [] T 0 0 := by
    refine zlp fun j hj ih hpq T l3 hf hi htT => ?_
    have hpT := htT.1
    refine hX 1000 _ _ _ _ _ _ ?_
    simp +contextual (disch := omega) only [wzq_nop, wzq_nop0, wzq_null, wzq_iconst, wzq_bipush, wzq_sipush, wzq_ldc, wzq_ldc_w, wzq_lconst, wzq_dconst, wzq_ldc2, wzq_ldc2d, wzq_istore, wzq_istore_n0, wzq_istore_n1, wzq_istore_n2, wzq_istore_n3, wzq_lstore, wzq_lstore_n0, wzq_lstore_n1, wzq_lstore_n2, wzq_lstore_n3, wzq_dstore, wzq_dstore_n0, wzq_dstore_n1, wzq_dstore_n2, wzq_dstore_n3, wzq_astore, wzq_astore_n0, wzq_astore_n1, wzq_astore_n2, wzq_astore_n3, wzq_iadd, wzq_isub, wzq_imul, wzq_iand, wzq_ior, wzq_ishr, wzq_iushr, wzq_idiv, wzq_irem, wzq_ineg, wzq_ladd, wzq_lsub, wzq_lmul, wzq_land, wzq_lor, wzq_lxor, wzq_ldiv, wzq_lrem, wzq_lneg, wzq_lshl, wzq_lshr, wzq_lushr, wzq_i2l, wzq_l2i, wzq_lcmp, wzq_dcmp, wzq_dadd, wzq_dsub, wzq_dmul, wzq_ddiv, wzq_dneg, wzq_dup, wzq_pop, wzq_pop2, wzq_dup2J, wzq_dup2D, wzq_dup2I, wzq_goto0, wzq_goto1, wzq_if_eq0, wzq_if_eq1, wzq_icmp_eq0, wzq_icmp_eq1, wzq_if_ne0, wzq_if_ne1, wzq_icmp_ne0, wzq_icmp_ne1, wzq_if_lt0, wzq_if_lt1, wzq_icmp_lt0, wzq_icmp_lt1, wzq_if_ge0, wzq_if_ge1, wzq_icmp_ge0, wzq_icmp_ge1, wzq_if_gt0, wzq_if_gt1, wzq_icmp_gt0, wzq_icmp_gt1, wzq_if_le0, wzq_if_le1, wzq_icmp_le0, wzq_icmp_le1, wzq_ifnull0, wzq_ifnull1, wzq_ifnull_a, wzq_ifnull_b, wzq_ifnonnull0, wzq_ifnonnull1, wzq_ifnonnull_a, wzq_ifnonnull_b, wzq_table, wzq_getfield, wzq_alen, wzq_iaload, wzq_baload, wzq_laload, wzq_daload, wzq_aaload, wzq_iastore, wzq_bastore, wzq_lastore, wzq_dastore, wzq_aastore, wzq_new, wzq_newarray, wzq_anewarray, wzq_d2l, wzq_l2d, wzq_mmax, wzq_mmin, wzq_mmaxl, wzq_mabs, wzq_objInit, wzq_ireturn, wzq_lreturn, wzq_dreturn, wzq_areturn, wzq_return, znth0, zst1_0, zst2_0, znth1, zst1_1, zst2_1, znth2, zst1_2, zst2_2, znth3, zst1_3, zst2_3, znth4, zst1_4, zst2_4, znth5, zst1_5, zst2_5, znth6, zst1_6, zst2_6, znth7, zst1_7, zst2_7, znth8, zst1_8, zst2_8, znth9, zst1_9, zst2_9, znth10, zst1_10, zst2_10, znth11, zst1_11, zst2_11, znth12, zst1_12, zst2_12, znth13, zst1_13, zst2_13, znth14, zst1_14, zst2_14, znth15, zst1_15, zst2_15, znth16, zst1_16, zst2_16, znth17, zst1_17, zst2_17, znth18, zst1_18, zst2_18, znth19, zst1_19, zst2_19, znth20, zst1_20, zst2_20, znth21, zst1_21, zst2_21, znth22, zst1_22, zst2_22, znth23, zst1_23, zst2_23, znth24, zst1_24, zst2_24, znth25, zst1_25, zst2_25, zkill_n, zkill_int, zkill_ref, zkill_null, zkill_long, zkill_double, zkill_rf, zref_s, zref_n, zref_rf, va_rf_s, va_rf_n, zget0, zget1, zget2, zget3, zget4, zget5, zget6, zget7, zget8, zget9, zget10, zget11, zget12, zget13, zget14, zget15, zget16, zget17, zget18, zget19, zget20, zget21, zget22, zget23, zget24, zget25, zwt_0, zwt_int, zcat_int, zwt_ref, zcat_ref, zwt_long, zcat_long, zwt_double, zcat_double, zwt_null, zwt_rf, zcat_null, zcat_rf, ztl_s, ztl_n, zfI, zfZ, zfJ, zfD, zfO, zfA, zsw_0, zsw_s, zYX1_0, zYX1_1, zYX1_2, zYX1_3, zYX1_4, zYX1_5, zYX1_6, zYX1_7, zYX1_8, zYX1_9, zYX1_10, zYX1_11, zYX1_12, zYX1_13, zYX1_14, zNX1, zYX2_0, zYX2_1, zYX2_2, zYX2_3, zYX2_4, zYX2_5, zYX2_6, zYX2_7, zYX2_8, zYX2_9, zYX2_10, zNX2, zYX3_0, zYX3_1, zYX3_2, zYX3_3, zYX3_4, zYX3_5, zYX3_6, zNX3, zYX4_0, zYX4_1, zYX4_2, zYX4_3, zYX4_4, zYX4_5, zNX4, zYX5_0, zYX5_1, zYX5_2, zYX5_3, zYX5_4, zYX5_5, zYX5_6, zYX5_7, zYX5_8, zNX5, zYX6_0, zYX6_1, zYX6_2, zYX6_3, zYX6_4, zNX6, zYX7_0, zYX7_1, zYX7_2, zYX7_3, zNX7, zYX8_0, zYX8_1, zYX8_2, zNX8, zYX9_0, zYX9_1, zYX9_2, zNX9, zYX10_0, zYX10_1, zYX10_2, zYX10_3, zYX10_4, zYX10_5, zYX10_6, zYX10_7, zYX10_8, zNX10, zYX11_0, zYX11_1, zYX11_2, zYX11_3, zYX11_4, zYX11_5, zYX11_6, zYX11_7, zYX11_8, zYX11_9, zYX11_10, zYX11_11, zYX11_12, zYX11_13, zYX11_14, zYX11_15, zYX11_16, zYX11_17, zYX11_18, zYX11_19, zYX11_20, zYX11_21, zYX11_22, zYX11_23, zYX11_24, zYX11_25, zYX11_26, zYX11_27, zYX11_28, zYX11_29, zYX11_30, zYX11_31, zYX11_32, zYX11_33, zYX11_34, zYX11_35, zYX11_36, zYX11_37, zYX11_38, zYX11_39, zYX11_40, zYX11_41, zYX11_42, zYX11_43, zYX11_44, zYX11_45, zYX11_46, zYX11_47, zYX11_48, zYX11_49, zYX11_50, zYX11_51, zYX11_52, zYX11_53, zYX11_54, zYX11_55, zYX11_56, zYX11_57, zNX11, zend_i, zend_l, zend_d, zend_o, zend_v, wzend_z, znle, zisI_s, zgI_s, zisJ_s, zgJ_s, zisD_s, zgD_s, zisA_s, zgA_s, zpokI, zpstI, zpokZ, zpstZ, zpokJ, zpstJ, zpokD, zpstD, zpokO, zpstO, zpokOn, zpstOn, zpokA, zpstA, zpokAn, zpstAn, zpk_0, zptk_0, zpdr_0, zpk_1, zptk_1, zpdr_1, zpk_2, zptk_2, zpdr_2, zpk_3, zptk_3, zpdr_3, zpk_4, zptk_4, zpdr_4, zpk_5, zptk_5, zpdr_5, zpk_6, zptk_6, zpdr_6, zpk_7, zptk_7, zpdr_7, zpk_8, zptk_8, zpdr_8, zisR_s, zgR_s, ztlR_s, zisC_s, zgC_s, zkont_s, zkont_n, zw_iload, zw_iload_n0, zw_iload_n1, zw_iload_n2, zw_iload_n3, zw_lload, zw_lload_n0, zw_lload_n1, zw_lload_n2, zw_lload_n3, zw_dload, zw_dload_n0, zw_dload_n1, zw_dload_n2, zw_dload_n3, zw_aload, zw_aload_n0, zw_aload_n1, zw_aload_n2, zw_aload_n3, zw_iinc, zw_putfield, zw_callS, zw_callV, zw_callI, q_X1_exchangeRows, ct_X1_exchangeRows, zn_X1_at, zs_X1_at, b_X1_exchangeRows_0, b_X1_exchangeRows_29, b_X1_exchangeRows_30, b_X1_exchangeRows_32, b_X1_exchangeRows_84, b_X1_exchangeRows_96, b_X1_exchangeRows_97, k_X1_exchangeRows_0, k_X1_exchangeRows_29, k_X1_exchangeRows_30, k_X1_exchangeRows_32, k_X1_exchangeRows_84, k_X1_exchangeRows_96, k_X1_exchangeRows_97, true_or, or_true, zrz_1, zrz_0, zrz_b, true_and, and_true, Nat.reduceAdd, Nat.reduceLeDiff, Nat.reduceMul, Nat.le_refl, Nat.add_zero, Nat.zero_add, zP1_k (hpT), zP1_r0 (hpT), zP1_s0 (hpT), hi, h9, h12, zat htT, zTb_k htT, zCo27, Classical.not_not, Bool.not_eq_false, Bool.not_eq_true, zN_add, zN_sub, zN_mul, zN_le, zN_lt, zN_eq, zix_nI, zin_n, zinI_n, zinR_n, zlt_t, zom_t, zLsr, zLsh, zand_low, zL_add, zL_mul, zL_lt, zL_le, zL_sub, zL_div, zN_div, zL_e0, zL_n0, zN_n0, zN11, zN00, false_or, or_false, zZN_add, zNZ_add, zZN_sub, zNZ_sub, zZN_lt, zZN_le, zNZ_lt, zNZ_le, zZN_eq, zZZ_lt, zZZ_le, zZZ_eq, zN_32, Nat.reducePow, Nat.reduceMod, Nat.reduceDiv, zlc_eq, zlc_lt, zlc_ge, zlc_gt, zlc_le, bI_0, zbo_b, zbo_1, zbo_0, zuJ_inj, nI_nat, eq_self, Nat.reduceEqDiff, Nat.reduceSub, zI_sI_eq, zI_sI_ne, zJ_sJ_eq, zJ_sJ_ne, zD_sD_eq, zD_sD_ne, zR_sR_eq, zR_sR_ne, zJ_sI, zR_sI, zSh_sI, zNx_sI, zD_sI, zI_sJ, zR_sJ, zSh_sJ, zNx_sJ, zD_sJ, zI_sD, zJ_sD, zR_sD, zSh_sD, zNx_sD, zI_sR, zJ_sR, zD_sR, zSh_sR, zNx_sR, if_true, if_false, ite_true, ite_false, not_true, not_false_eq_true, forall_const, false_implies, true_implies, implies_true, zN_shr, zN_m31, jZ_low, jZ_add, jZ_sub, jZN_mul]
    have fin : a ≤ j → ∀ sw', sw' = (sw ^^ decide (q ≠ p)) → K none (zsI T E 12 (bI sw')) := fun h1 sw' h2 => by
      have ej : j = a := by omega
      subst ej
      have g0 : zGr (fun b => b = E) T (zsI T E 12 (bI sw')) := zGr.refl.sI rfl
      refine hK _ ?_ (zTb_gr g0 htT) (fun k hk => ?_) ?_
      · refine ⟨hf.1, hf.2.1, fun b hb => ?_⟩
        obtain ⟨f1, f2, f3, f4⟩ := hf.2.2 b (fun h => hb (Or.inr h))
        obtain ⟨g1, g2, g3⟩ := g0.2.2.2 b (fun h => hb (Or.inl h))
        exact ⟨g1.trans f1, f2, f3, f4⟩
      · rw [zI_sI_ne (by omega), hi]
      · rw [zI_sI_eq, h2]
    refine ⟨fun h1 => ⟨fun h2 => fin h1 false ?_, fun h2 => fin h1 true ?_⟩, fun h1 => ?_⟩
    · rw [h2, decide_eq_true (by omega)]; rfl
    · rw [h2, decide_eq_true (by omega)]; rfl
    · obtain ⟨x1, x2, x3⟩ := zTb_x (by omega) (by omega) (by omega) hpq htT rfl
      exact ih (by omega) hpq _ (hf.trans x1) (x2.trans hi) x3
  refine hX 1000 _ _ _ _ _ _ ?_
  simp (disch := omega) only [wzq_nop, wzq_nop0, wzq_null, wzq_iconst, wzq_bipush, wzq_sipush, wzq_ldc, wzq_ldc_w, wzq_lconst, wzq_dconst, wzq_ldc2, wzq_ldc2d, wzq_istore, wzq_istore_n0, wzq_istore_n1, wzq_istore_n2, wzq_istore_n3, wzq_lstore, wzq_lstore_n0, wzq_lstore_n1, wzq_lstore_n2, wzq_lstore_n3, wzq_dstore, wzq_dstore_n0, wzq_dstore_n1, wzq_dstore_n2, wzq_dstore_n3, wzq_astore, wzq_astore_n0, wzq_astore_n1, wzq_astore_n2, wzq_astore_n3, wzq_iadd, wzq_isub, wzq_imul, wzq_iand, wzq_ior, wzq_ishr, wzq_iushr, wzq_idiv, wzq_irem, wzq_ineg, wzq_ladd, wzq_lsub, wzq_lmul, wzq_land, wzq_lor, wzq_lxor, wzq_ldiv, wzq_lrem, wzq_lneg, wzq_lshl, wzq_lshr, wzq_lushr, wzq_i2l, wzq_l2i, wzq_lcmp, wzq_dcmp, wzq_dadd, wzq_dsub, wzq_dmul, wzq_ddiv, wzq_dneg, wzq_dup, wzq_pop, wzq_pop2, wzq_dup2J, wzq_dup2D, wzq_dup2I, wzq_goto0, wzq_goto1, wzq_if_eq0, wzq_if_eq1, wzq_icmp_eq0, wzq_icmp_eq1, wzq_if_ne0, wzq_if_ne1, wzq_icmp_ne0, wzq_icmp_ne1, wzq_if_lt0, wzq_if_lt1, wzq_icmp_lt0, wzq_icmp_lt1, wzq_if_ge0, wzq_if_ge1, wzq_icmp_ge0, wzq_icmp_ge1, wzq_if_gt0, wzq_if_gt1, wzq_icmp_gt0, wzq_icmp_gt1, wzq_if_le0, wzq_if_le1, wzq_icmp_le0, wzq_icmp_le1, wzq_ifnull0, wzq_ifnull1, wzq_ifnull_a, wzq_ifnull_b, wzq_ifnonnull0, wzq_ifnonnull1, wzq_ifnonnull_a, wzq_ifnonnull_b, wzq_table, wzq_getfield, wzq_alen, wzq_iaload, wzq_baload, wzq_laload, wzq_daload, wzq_aaload, wzq_iastore, wzq_bastore, wzq_lastore, wzq_dastore, wzq_aastore, wzq_new, wzq_newarray, wzq_anewarray, wzq_d2l, wzq_l2d, wzq_mmax, wzq_mmin, wzq_mmaxl, wzq_mabs, wzq_objInit, wzq_ireturn, wzq_lreturn, wzq_dreturn, wzq_areturn, wzq_return, znth0, zst1_0, zst2_0, znth1, zst1_1, zst2_1, znth2, zst1_2, zst2_2, znth3, zst1_3, zst2_3, znth4, zst1_4, zst2_4, znth5, zst1_5, zst2_5, znth6, zst1_6, zst2_6, znth7, zst1_7, zst2_7, znth8, zst1_8, zst2_8, znth9, zst1_9, zst2_9, znth10, zst1_10, zst2_10, znth11, zst1_11, zst2_11, znth12, zst1_12, zst2_12, znth13, zst1_13, zst2_13, znth14, zst1_14, zst2_14, znth15, zst1_15, zst2_15, znth16, zst1_16, zst2_16, znth17, zst1_17, zst2_17, znth18, zst1_18, zst2_18, znth19, zst1_19, zst2_19, znth20, zst1_20, zst2_20, znth21, zst1_21, zst2_21, znth22, zst1_22, zst2_22, znth23, zst1_23, zst2_23, znth24, zst1_24, zst2_24, znth25, zst1_25, zst2_25, zkill_n, zkill_int, zkill_ref, zkill_null, zkill_long, zkill_double, zkill_rf, zref_s, zref_n, zref_rf, va_rf_s, va_rf_n, zget0, zget1, zget2, zget3, zget4, zget5, zget6, zget7, zget8, zget9, zget10, zget11, zget12, zget13, zget14, zget15, zget16, zget17, zget18, zget19, zget20, zget21, zget22, zget23, zget24, zget25, zwt_0, zwt_int, zcat_int, zwt_ref, zcat_ref, zwt_long, zcat_long, zwt_double, zcat_double, zwt_null, zwt_rf, zcat_null, zcat_rf, ztl_s, ztl_n, zfI, zfZ, zfJ, zfD, zfO, zfA, zsw_0, zsw_s, zYX1_0, zYX1_1, zYX1_2, zYX1_3, zYX1_4, zYX1_5, zYX1_6, zYX1_7, zYX1_8, zYX1_9, zYX1_10, zYX1_11, zYX1_12, zYX1_13, zYX1_14, zNX1, zYX2_0, zYX2_1, zYX2_2, zYX2_3, zYX2_4, zYX2_5, zYX2_6, zYX2_7, zYX2_8, zYX2_9, zYX2_10, zNX2, zYX3_0, zYX3_1, zYX3_2, zYX3_3, zYX3_4, zYX3_5, zYX3_6, zNX3, zYX4_0, zYX4_1, zYX4_2, zYX4_3, zYX4_4, zYX4_5, zNX4, zYX5_0, zYX5_1, zYX5_2, zYX5_3, zYX5_4, zYX5_5, zYX5_6, zYX5_7, zYX5_8, zNX5, zYX6_0, zYX6_1, zYX6_2, zYX6_3, zYX6_4, zNX6, zYX7_0, zYX7_1, zYX7_2, zYX7_3, zNX7, zYX8_0, zYX8_1, zYX8_2, zNX8, zYX9_0, zYX9_1, zYX9_2, zNX9, zYX10_0, zYX10_1, zYX10_2, zYX10_3, zYX10_4, zYX10_5, zYX10_6, zYX10_7, zYX10_8, zNX10, zYX11_0, zYX11_1, zYX11_2, zYX11_3, zYX11_4, zYX11_5, zYX11_6, zYX11_7, zYX11_8, zYX11_9, zYX11_10, zYX11_11, zYX11_12, zYX11_13, zYX11_14, zYX11_15, zYX11_16, zYX11_17, zYX11_18, zYX11_19, zYX11_20, zYX11_21, zYX11_22, zYX11_23, zYX11_24, zYX11_25, zYX11_26, zYX11_27, zYX11_28, zYX11_29, zYX11_30, zYX11_31, zYX11_32, zYX11_33, zYX11_34, zYX11_35, zYX11_36, zYX11_37, zYX11_38, zYX11_39, zYX11_40, zYX11_41, zYX11_42, zYX11_43, zYX11_44, zYX11_45, zYX11_46, zYX11_47, zYX11_48, zYX11_49, zYX11_50, zYX11_51, zYX11_52, zYX11_53, zYX11_54, zYX11_55, zYX11_56, zYX11_57, zNX11, zend_i, zend_l, zend_d, zend_o, zend_v, wzend_z, znle, zisI_s, zgI_s, zisJ_s, zgJ_s, zisD_s, zgD_s, zisA_s, zgA_s, zpokI, zpstI, zpokZ, zpstZ, zpokJ, zpstJ, zpokD, zpstD, zpokO, zpstO, zpokOn, zpstOn, zpokA, zpstA, zpokAn, zpstAn, zpk_0, zptk_0, zpdr_0, zpk_1, zptk_1, zpdr_1, zpk_2, zptk_2, zpdr_2, zpk_3, zptk_3, zpdr_3, zpk_4, zptk_4, zpdr_4, zpk_5, zptk_5, zpdr_5, zpk_6, zptk_6, zpdr_6, zpk_7, zptk_7, zpdr_7, zpk_8, zptk_8, zpdr_8, zisR_s, zgR_s, ztlR_s, zisC_s, zgC_s, zkont_s, zkont_n, zw_iload, zw_iload_n0, zw_iload_n1, zw_iload_n2, zw_iload_n3, zw_lload, zw_lload_n0, zw_lload_n1, zw_lload_n2, zw_lload_n3, zw_dload, zw_dload_n0, zw_dload_n1, zw_dload_n2, zw_dload_n3, zw_aload, zw_aload_n0, zw_aload_n1, zw_aload_n2, zw_aload_n3, zw_iinc, zw_putfield, zw_callS, zw_callV, zw_callI, q_X1_exchangeRows, ct_X1_exchangeRows, zc_X1_at, zn_X1_at, zs_X1_at, b_X1_exchangeRows_0, b_X1_exchangeRows_29, b_X1_exchangeRows_30, b_X1_exchangeRows_32, b_X1_exchangeRows_84, b_X1_exchangeRows_96, b_X1_exchangeRows_97, k_X1_exchangeRows_0, k_X1_exchangeRows_29, k_X1_exchangeRows_30, k_X1_exchangeRows_32, k_X1_exchangeRows_84, k_X1_exchangeRows_96, k_X1_exchangeRows_97, true_or, or_true, zrz_1, zrz_0, zrz_b, true_and, and_true, Nat.reduceAdd, Nat.reduceLeDiff, Nat.reduceMul, Nat.le_refl, Nat.add_zero, Nat.zero_add, zP1_k (hp), zP1_r0 (hp), zP1_s0 (hp), h7, Classical.not_not, Bool.not_eq_false, Bool.not_eq_true, zN_add, zN_sub, zN_mul, zN_le, zN_lt, zN_eq, zix_nI, zin_n, zinI_n, zinR_n, zlt_t, zom_t, zLsr, zLsh, zand_low, zL_add, zL_mul, zL_lt, zL_le, zL_sub, zL_div, zN_div, zL_e0, zL_n0, zN_n0, zN11, zN00, false_or, or_false, zZN_add, zNZ_add, zZN_sub, zNZ_sub, zZN_lt, zZN_le, zNZ_lt, zNZ_le, zZN_eq, zZZ_lt, zZZ_le, zZZ_eq, zN_32, Nat.reducePow, Nat.reduceMod, Nat.reduceDiv, zlc_eq, zlc_lt, zlc_ge, zlc_gt, zlc_le, bI_0, zbo_b, zbo_1, zbo_0, zuJ_inj, nI_nat, eq_self, Nat.reduceEqDiff, Nat.reduceSub, zI_sI_eq, zI_sI_ne, zJ_sJ_eq, zJ_sJ_ne, zD_sD_eq, zD_sD_ne, zR_sR_eq, zR_sR_ne, zJ_sI, zR_sI, zSh_sI, zNx_sI, zD_sI, zI_sJ, zR_sJ, zSh_sJ, zNx_sJ, zD_sJ, zI_sD, zJ_sD, zR_sD, zSh_sD, zNx_sD, zI_sR, zJ_sR, zD_sR, zSh_sR, zNx_sR, if_true, if_false, ite_true, ite_false, not_true, not_false_eq_true, forall_const, false_implies, true_implies, implies_true, zN_shr, zN_m31, jZ_low, jZ_add, jZ_sub, jZN_mul]
  refine ⟨fun h => ?_, fun h => ⟨fun h1 => absurd h1 (by omega), fun _ => ⟨fun h1 => absurd h1 (by omega), fun _ => ⟨fun h1 => absurd h1 (by omega), fun _ => ⟨fun _ => loop 0 (by omega) h S zFr.refl rfl ht, fun h1 => absurd hqm h1⟩⟩⟩⟩⟩
  refine hK S zFr.refl (by rw [h, zpx_id]; exact ht) (fun _ _ => rfl) ?_
  rw [decide_eq_false (by omega), Bool.xor_false]; exact h12
end ZTAB
