/-! the class's doubles: less; sizes of results -/
section ZDBL7
/-- the other sign -/
def zng (n : Nat) : Nat := if n < 9223372036854775808 then n + 9223372036854775808 else n - 9223372036854775808
theorem zng_lt {n : Nat} (h : n < 18446744073709551616) : zng n < 18446744073709551616 := by unfold zng; split <;> omega
theorem zng_E {n : Nat} (h : n < 18446744073709551616) : zfE (zng n) = zfE n := by unfold zng zfE; split <;> omega
theorem zng_mt {n : Nat} (h : n < 18446744073709551616) : zmt (zng n) = zmt n := by
  unfold zmt; rw [zng_E h]; unfold zng; split <;> split <;> omega
theorem zng_sg {n : Nat} (h : n < 18446744073709551616) : zsg (zng n) = !(zsg n) := by
  unfold zsg zng
  by_cases h1 : n < 9223372036854775808
  · rw [if_pos h1, decide_eq_false (by omega : ¬ 9223372036854775808 ≤ n), decide_eq_true (by omega)]; rfl
  · rw [if_neg h1, decide_eq_true (by omega : 9223372036854775808 ≤ n), decide_eq_false (by omega)]; rfl
theorem zng_ng {n : Nat} (h : n < 18446744073709551616) : zng (zng n) = n := by unfold zng; split <;> split <;> omega
theorem zng_mag {n : Nat} (h : n < 18446744073709551616) : zng n % 9223372036854775808 = n % 9223372036854775808 := by unfold zng; split <;> omega
theorem un_xs (x : Int64) : un (x ^^^ lN 9223372036854775808) = zng (un x) := by
  have h := un_lt x
  rw [un_xor, un_lN (by decide)]
  unfold zng
  by_cases h1 : un x < 9223372036854775808
  · rw [if_pos h1]
    have := xor63 (x := un x) h1
    rw [show (2 : Nat) ^ 63 = 9223372036854775808 from rfl] at this
    omega
  · rw [if_neg h1]
    obtain ⟨r, hr⟩ : ∃ r, un x = 9223372036854775808 + r := ⟨un x - 9223372036854775808, by omega⟩
    have := xor63 (x := r) (by omega)
    rw [show (2 : Nat) ^ 63 = 9223372036854775808 from rfl] at this
    rw [hr, ← this, Nat.xor_assoc, Nat.xor_self, Nat.xor_zero]; omega
theorem zout_lt (s : Bool) {n : Nat} (h : n ≤ 9218868437227405312) : s.toNat * 9223372036854775808 + n < 18446744073709551616 := by
  have : s.toNat ≤ 1 := by cases s <;> decide
  omega
theorem zmul_lt {a b : Nat} (ha : a < 18446744073709551616) (hb : b < 18446744073709551616) (fa : zfE a ≠ 2047) (fb : zfE b ≠ 2047) : FP.Core.mul FP.Core.b64 a b < 18446744073709551616 := by
  rw [zmul_bits ha hb fa fb]; exact zout_lt _ (zrb_le _ _ (by decide) _)
theorem zadd_lt {a b : Nat} (ha : a < 18446744073709551616) (hb : b < 18446744073709551616) (fa : zfE a ≠ 2047) (fb : zfE b ≠ 2047) : FP.Core.add FP.Core.b64 a b < 18446744073709551616 := by
  rw [zadd_bits ha hb fa fb]; exact zout_lt _ (zrb_le _ _ (by decide) _)
theorem zdiv_lt {a b : Nat} (ha : a < 18446744073709551616) (hb : b < 18446744073709551616) (fa : zfE a ≠ 2047) (fb : zfE b ≠ 2047) (h0 : zmt b ≠ 0) : FP.Core.div FP.Core.b64 a b < 18446744073709551616 := by
  rw [zdiv_bits ha hb fa fb h0]; exact zout_lt _ (zrb_le _ _ (by omega) _)
theorem zfma_lt {a b c : Nat} (ha : a < 18446744073709551616) (hb : b < 18446744073709551616) (hc : c < 18446744073709551616) (fa : zfE a ≠ 2047) (fb : zfE b ≠ 2047) (fc : zfE c ≠ 2047) : FP.Core.fma FP.Core.b64 a b c < 18446744073709551616 := by
  rw [zfma_bits ha hb hc fa fb fc]; exact zout_lt _ (zrb_le _ _ (by decide) _)
/-- t - a * b -/
def zlss (fu : Bool) (t a b : Nat) : Nat := if fu then FP.Core.fma FP.Core.b64 (zng a) b t else if zfE (FP.Core.mul FP.Core.b64 a b) = 2047 then FP.Core.mul FP.Core.b64 a b else FP.Core.add FP.Core.b64 t (zng (FP.Core.mul FP.Core.b64 a b))
theorem zlss_lt {fu : Bool} {t a b : Nat} (ht : t < 18446744073709551616) (ha : a < 18446744073709551616) (hb : b < 18446744073709551616) (ft : zfE t ≠ 2047) (fa : zfE a ≠ 2047) (fb : zfE b ≠ 2047) : zlss fu t a b < 18446744073709551616 := by
  unfold zlss
  have hm := zmul_lt ha hb fa fb
  split
  · exact zfma_lt (zng_lt ha) hb ht (by rw [zng_E ha]; exact fa) fb ft
  · split
    · exact hm
    · rename_i h2
      exact zadd_lt ht (zng_lt hm) ft (by rw [zng_E hm]; exact h2)
def ct_X0_less : zCt := (fun av S K => ∃ t : Int64, ∃ a : Int64, ∃ b : Int64, ∃ fu : Int32, av = [.long t, .long a, .long b, .int fu] ∧ ((zfE (un t) ≠ 2047 ∧ zfE (un a) ≠ 2047 ∧ zfE (un b) ≠ 2047) ∧ K (some (.long (lN (zlss (zbo fu) (un t) (un a) (un b))))) S), 0, 0)
theorem zc_X0_less {S : zS} {K : Option Value → zS → Prop} {t : Int64} {a : Int64} {b : Int64} {fu : Int32} : ct_X0_less.1 [.long t, .long a, .long b, .int fu] S K = ((zfE (un t) ≠ 2047 ∧ zfE (un a) ≠ 2047 ∧ zfE (un b) ≠ 2047) ∧ K (some (.long (lN (zlss (zbo fu) (un t) (un a) (un b))))) S) := propext ⟨fun ⟨z0, z1, z2, z3, e, h⟩ => by cases e; exact h, fun h => ⟨t, a, b, fu, rfl, h⟩⟩
theorem zn_X0_less : ct_X0_less.2.1 = 0 := rfl
theorem zs_X0_less : ct_X0_less.2.2 = 0 := rfl
theorem met_X0_less (l : Launch) (G : zG) : zMet l G q_X0_less ct_X0_less := by
  refine zmk 0 false cal_X0_less bl_X0_less pl_X0_less [ct_X0_fused, ct_X0_times, ct_X0_finite, ct_X0_plus] ck_X0_less nm_X0_less ⟨rfl, rfl⟩ wd_X0_less (⟨⟨met_X0_fused l G, rfl, rfl⟩, ⟨⟨met_X0_times l G, rfl, rfl⟩, ⟨⟨met_X0_finite l G, rfl, rfl⟩, ⟨⟨met_X0_plus l G, rfl, rfl⟩, trivial⟩⟩⟩⟩) ?_
  intro X av S K h
  obtain ⟨t, a, b, fu, rfl, h⟩ := h
  refine ⟨Nat.le_of_ble_eq_true rfl, fun hX => ?_⟩
  show X 0 [some (.long t), none, some (.long a), none, some (.long b), none, some (.int fu), none, none] [] S 0 0
  obtain ⟨⟨ht, ha, hb⟩, h⟩ := h
  have hm := zmul_lt (un_lt a) (un_lt b) ha hb
  have e1 : un (lN (FP.Core.mul FP.Core.b64 (un a) (un b))) = FP.Core.mul FP.Core.b64 (un a) (un b) := un_lN hm
  refine hX 1000 _ _ _ _ _ _ ?_
  simp only [wzq_nop, wzq_nop0, wzq_null, wzq_iconst, wzq_bipush, wzq_sipush, wzq_ldc, wzq_ldc_w, wzq_lconst, wzq_dconst, wzq_ldc2, wzq_ldc2d, wzq_istore, wzq_istore_n0, wzq_istore_n1, wzq_istore_n2, wzq_istore_n3, wzq_lstore, wzq_lstore_n0, wzq_lstore_n1, wzq_lstore_n2, wzq_lstore_n3, wzq_dstore, wzq_dstore_n0, wzq_dstore_n1, wzq_dstore_n2, wzq_dstore_n3, wzq_astore, wzq_astore_n0, wzq_astore_n1, wzq_astore_n2, wzq_astore_n3, wzq_iadd, wzq_isub, wzq_imul, wzq_iand, wzq_ior, wzq_ishr, wzq_iushr, wzq_idiv, wzq_irem, wzq_ineg, wzq_ladd, wzq_lsub, wzq_lmul, wzq_land, wzq_lor, wzq_lxor, wzq_ldiv, wzq_lrem, wzq_lneg, wzq_lshl, wzq_lshr, wzq_lushr, wzq_i2l, wzq_l2i, wzq_lcmp, wzq_dcmp, wzq_dadd, wzq_dsub, wzq_dmul, wzq_ddiv, wzq_dneg, wzq_dup, wzq_pop, wzq_pop2, wzq_dup2J, wzq_dup2D, wzq_dup2I, wzq_goto0, wzq_goto1, wzq_if_eq0, wzq_if_eq1, wzq_icmp_eq0, wzq_icmp_eq1, wzq_if_ne0, wzq_if_ne1, wzq_icmp_ne0, wzq_icmp_ne1, wzq_if_lt0, wzq_if_lt1, wzq_icmp_lt0, wzq_icmp_lt1, wzq_if_ge0, wzq_if_ge1, wzq_icmp_ge0, wzq_icmp_ge1, wzq_if_gt0, wzq_if_gt1, wzq_icmp_gt0, wzq_icmp_gt1, wzq_if_le0, wzq_if_le1, wzq_icmp_le0, wzq_icmp_le1, wzq_ifnull0, wzq_ifnull1, wzq_ifnull_a, wzq_ifnull_b, wzq_ifnonnull0, wzq_ifnonnull1, wzq_ifnonnull_a, wzq_ifnonnull_b, wzq_table, wzq_getfield, wzq_alen, wzq_iaload, wzq_baload, wzq_laload, wzq_daload, wzq_aaload, wzq_iastore, wzq_bastore, wzq_lastore, wzq_dastore, wzq_aastore, wzq_new, wzq_newarray, wzq_anewarray, wzq_d2l, wzq_l2d, wzq_mmax, wzq_mmin, wzq_mmaxl, wzq_mabs, wzq_objInit, wzq_ireturn, wzq_lreturn, wzq_dreturn, wzq_areturn, wzq_return, znth0, zst1_0, zst2_0, znth1, zst1_1, zst2_1, znth2, zst1_2, zst2_2, znth3, zst1_3, zst2_3, znth4, zst1_4, zst2_4, znth5, zst1_5, zst2_5, znth6, zst1_6, zst2_6, znth7, zst1_7, zst2_7, znth8, zst1_8, zst2_8, znth9, zst1_9, zst2_9, znth10, zst1_10, zst2_10, znth11, zst1_11, zst2_11, znth12, zst1_12, zst2_12, znth13, zst1_13, zst2_13, znth14, zst1_14, zst2_14, znth15, zst1_15, zst2_15, znth16, zst1_16, zst2_16, znth17, zst1_17, zst2_17, znth18, zst1_18, zst2_18, znth19, zst1_19, zst2_19, znth20, zst1_20, zst2_20, znth21, zst1_21, zst2_21, znth22, zst1_22, zst2_22, znth23, zst1_23, zst2_23, znth24, zst1_24, zst2_24, znth25, zst1_25, zst2_25, zkill_n, zkill_int, zkill_ref, zkill_null, zkill_long, zkill_double, zkill_rf, zref_s, zref_n, zref_rf, va_rf_s, va_rf_n, zget0, zget1, zget2, zget3, zget4, zget5, zget6, zget7, zget8, zget9, zget10, zget11, zget12, zget13, zget14, zget15, zget16, zget17, zget18, zget19, zget20, zget21, zget22, zget23, zget24, zget25, zwt_0, zwt_int, zcat_int, zwt_ref, zcat_ref, zwt_long, zcat_long, zwt_double, zcat_double, zwt_null, zwt_rf, zcat_null, zcat_rf, ztl_s, ztl_n, zfI, zfZ, zfJ, zfD, zfO, zfA, zsw_0, zsw_s, zYX1_0, zYX1_1, zYX1_2, zYX1_3, zYX1_4, zYX1_5, zYX1_6, zYX1_7, zYX1_8, zYX1_9, zYX1_10, zYX1_11, zYX1_12, zYX1_13, zYX1_14, zNX1, zYX2_0, zYX2_1, zYX2_2, zYX2_3, zYX2_4, zYX2_5, zYX2_6, zYX2_7, zYX2_8, zYX2_9, zYX2_10, zNX2, zYX3_0, zYX3_1, zYX3_2, zYX3_3, zYX3_4, zYX3_5, zYX3_6, zNX3, zYX4_0, zYX4_1, zYX4_2, zYX4_3, zYX4_4, zYX4_5, zNX4, zYX5_0, zYX5_1, zYX5_2, zYX5_3, zYX5_4, zYX5_5, zYX5_6, zYX5_7, zYX5_8, zNX5, zYX6_0, zYX6_1, zYX6_2, zYX6_3, zYX6_4, zNX6, zYX7_0, zYX7_1, zYX7_2, zYX7_3, zNX7, zYX8_0, zYX8_1, zYX8_2, zNX8, zYX9_0, zYX9_1, zYX9_2, zNX9, zYX10_0, zYX10_1, zYX10_2, zYX10_3, zYX10_4, zYX10_5, zYX10_6, zYX10_7, zYX10_8, zNX10, zYX11_0, zYX11_1, zYX11_2, zYX11_3, zYX11_4, zYX11_5, zYX11_6, zYX11_7, zYX11_8, zYX11_9, zYX11_10, zYX11_11, zYX11_12, zYX11_13, zYX11_14, zYX11_15, zYX11_16, zYX11_17, zYX11_18, zYX11_19, zYX11_20, zYX11_21, zYX11_22, zYX11_23, zYX11_24, zYX11_25, zYX11_26, zYX11_27, zYX11_28, zYX11_29, zYX11_30, zYX11_31, zYX11_32, zYX11_33, zYX11_34, zYX11_35, zYX11_36, zYX11_37, zYX11_38, zYX11_39, zYX11_40, zYX11_41, zYX11_42, zYX11_43, zYX11_44, zYX11_45, zYX11_46, zYX11_47, zYX11_48, zYX11_49, zYX11_50, zYX11_51, zYX11_52, zYX11_53, zYX11_54, zYX11_55, zYX11_56, zYX11_57, zNX11, zend_i, zend_l, zend_d, zend_o, zend_v, wzend_z, znle, zisI_s, zgI_s, zisJ_s, zgJ_s, zisD_s, zgD_s, zisA_s, zgA_s, zpokI, zpstI, zpokZ, zpstZ, zpokJ, zpstJ, zpokD, zpstD, zpokO, zpstO, zpokOn, zpstOn, zpokA, zpstA, zpokAn, zpstAn, zpk_0, zptk_0, zpdr_0, zpk_1, zptk_1, zpdr_1, zpk_2, zptk_2, zpdr_2, zpk_3, zptk_3, zpdr_3, zpk_4, zptk_4, zpdr_4, zpk_5, zptk_5, zpdr_5, zpk_6, zptk_6, zpdr_6, zpk_7, zptk_7, zpdr_7, zpk_8, zptk_8, zpdr_8, zisR_s, zgR_s, ztlR_s, zisC_s, zgC_s, zkont_s, zkont_n, zw_iload, zw_iload_n0, zw_iload_n1, zw_iload_n2, zw_iload_n3, zw_lload, zw_lload_n0, zw_lload_n1, zw_lload_n2, zw_lload_n3, zw_dload, zw_dload_n0, zw_dload_n1, zw_dload_n2, zw_dload_n3, zw_aload, zw_aload_n0, zw_aload_n1, zw_aload_n2, zw_aload_n3, zw_iinc, zw_putfield, zw_callS, zw_callV, zw_callI, q_X0_less, ct_X0_less, zc_X0_fused, zn_X0_fused, zs_X0_fused, zc_X0_times, zn_X0_times, zs_X0_times, zc_X0_finite, zn_X0_finite, zs_X0_finite, zc_X0_plus, zn_X0_plus, zs_X0_plus, b_X0_less_0, b_X0_less_17, b_X0_less_46, b_X0_less_48, k_X0_less_0, k_X0_less_17, k_X0_less_46, k_X0_less_48, true_or, or_true, zrz_1, zrz_0, zrz_b, true_and, and_true, Nat.reduceAdd, Nat.reduceLeDiff, Nat.reduceMul, Nat.le_refl, Nat.add_zero, Nat.zero_add, zbo_e fu, bI_0, e1, un_xs]
  unfold zlss at h
  refine ⟨fun h1 => ⟨⟨ha, hb⟩, fun h2 => ?_, fun h2 => ⟨⟨ht, ?_⟩, ?_⟩⟩, fun h1 => ⟨⟨by rw [zng_E (un_lt a)]; exact ha, hb, ht⟩, ?_⟩⟩
  · rw [h1, if_neg (by decide), if_pos (by simpa using h2)] at h; exact h
  · rw [zng_E hm]; simpa using h2
  · rw [h1, if_neg (by decide), if_neg (by simpa using h2)] at h; exact h
  · rw [zbt h1, if_pos rfl] at h; exact h
end ZDBL7
