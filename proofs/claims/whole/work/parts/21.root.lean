/-! the class's doubles: root -/
section ZROOT
theorem zI_odd {z : Int} (h1 : -2147483648 ≤ z) (h2 : z < 2147483648) : (iZ z &&& nI 1 = nI 0) = (z % 2 = 0) := by
  have e : iZ z &&& nI 1 = nI (z % 2).toNat := by
    apply Int32.toBitVec_inj.mp
    rw [Int32.toBitVec_and]
    apply BitVec.eq_of_toNat_eq
    have hz : (iZ z).toBitVec.toNat = (z % 4294967296).toNat := by
      show (BitVec.ofInt 32 z).toNat = _
      rw [BitVec.toNat_ofInt]; rfl
    rw [BitVec.toNat_and, hz, zN_tn (by omega), zN_tn (by omega)]
    have := Nat.and_two_pow_sub_one_eq_mod (z % 4294967296).toNat 1
    rw [show 2 ^ 1 - 1 = 1 from rfl] at this
    rw [this]; omega
  rw [e]
  exact propext (by rw [zN_eq (by omega) (by decide)]; omega)
theorem zI_half (z : Int) (h1 : -2147483648 ≤ z) (h2 : z < 2147483648) : iZ z >>> (nI 1 &&& 31) = iZ (z / 2) := by
  apply Int32.toInt_inj.mp
  have hd : ((nI 1 &&& 31 : Int32).toBitVec.smod 32).toNat = 1 := by decide +kernel
  have e : (iZ z >>> (nI 1 &&& 31)).toInt = (iZ z).toInt >>> 1 := by
    rw [← hd]
    exact BitVec.toInt_sshiftRight ..
  rw [e, Int.shiftRight_eq_div_pow, iZ_t h1 h2, iZ_t (by omega) (by omega)]
  rfl
theorem zsqrt_u {s f X : Nat} (h1 : s * s ≤ X) (h2 : X < (s + 1) * (s + 1)) (h3 : f * f ≤ X) (h4 : X < (f + 1) * (f + 1)) : s = f := by
  rcases Nat.lt_trichotomy s f with h | h | h
  · have := Nat.mul_self_le_mul_self (show s + 1 ≤ f from h); omega
  · exact h
  · have := Nat.mul_self_le_mul_self (show f + 1 ≤ s from h); omega
theorem zsqrt_r {f r X : Nat} (h : X = f * f + r) (hr : r ≤ 2 * f) : FP.Core.sqrtFloor X = f := by
  obtain ⟨a1, a2⟩ := FP.Core.sqrtFloor_spec X
  refine zsqrt_u a1 a2 (by omega) ?_
  rw [Nat.add_mul, Nat.mul_add]; omega
/-- the leading digits to the base 4 -/
def zX4 (m i : Nat) : Nat := if i ≤ 27 then m / 4 ^ (27 - i) else m * 4 ^ (i - 27)
theorem zX4_s (m i : Nat) : zX4 m (i + 1) = 4 * zX4 m i + (if i < 27 then m / 2 ^ (52 - 2 * i) % 4 else 0) := by
  unfold zX4
  by_cases h : i < 27
  · rw [if_pos (by omega), if_pos (by omega), if_pos h, show 27 - i = (27 - (i + 1)) + 1 by omega, Nat.pow_succ, ← Nat.div_div_eq_div_mul]
    have : (4 : Nat) ^ (27 - (i + 1)) = 2 ^ (52 - 2 * i) := by rw [show (4 : Nat) = 2 ^ 2 from rfl, ← Nat.pow_mul]; congr 1; omega
    rw [this]; omega
  · rw [if_neg h, if_neg (by omega)]
    by_cases h2 : i ≤ 27
    · have : i = 27 := by omega
      subst this
      rw [if_pos (by omega)]
      show m * 4 ^ 1 = 4 * (m / 4 ^ 0) + 0
      omega
    · rw [if_neg h2, show i + 1 - 27 = (i - 27) + 1 by omega, Nat.pow_succ]
      rw [← Nat.mul_assoc, Nat.mul_comm 4]; rfl
theorem zX4_lt {m i : Nat} (hm : m < 2 ^ 54) (hi : i ≤ 57) : zX4 m i < 2 ^ 114 := by
  unfold zX4
  split
  · exact Nat.lt_of_le_of_lt (Nat.div_le_self _ _) (Nat.lt_of_lt_of_le hm (Nat.pow_le_pow_right (by decide) (by decide)))
  · have h1 : m * 4 ^ (i - 27) < 2 ^ 54 * 4 ^ (i - 27) := (Nat.mul_lt_mul_right (Nat.pow_pos (by decide))).mpr hm
    have h2 : 2 ^ 54 * 4 ^ (i - 27) ≤ 2 ^ 54 * 4 ^ 30 := Nat.mul_le_mul_left _ (Nat.pow_le_pow_right (by decide) (by omega))
    exact Nat.lt_of_lt_of_le h1 (Nat.le_trans h2 (by decide))
def zrtM (n : Nat) : Nat := if zfsc n % 2 = 0 then zfm n else zfm n * 2
def zrtS (n : Nat) : Int := zfsc n / 2
/-- the root of a number above 0 -/
def zrt (n : Nat) : Nat := zrR (FP.Core.sqrtFloor (zrtM n * 4 ^ 30)) (decide (FP.Core.sqrtFloor (zrtM n * 4 ^ 30) * FP.Core.sqrtFloor (zrtM n * 4 ^ 30) ≠ zrtM n * 4 ^ 30)) (zrtS n - 30) false
def ct_X0_root : zCt := (fun av S K => ∃ x : Int64, av = [.long x] ∧ ((zfE (un x) ≠ 2047 ∧ zmt (un x) ≠ 0) ∧ K (some (.long (lN (zrt (un x))))) S), 0, 0)
theorem zc_X0_root {S : zS} {K : Option Value → zS → Prop} {x : Int64} : ct_X0_root.1 [.long x] S K = ((zfE (un x) ≠ 2047 ∧ zmt (un x) ≠ 0) ∧ K (some (.long (lN (zrt (un x))))) S) := propext ⟨fun ⟨z0, e, h⟩ => by cases e; exact h, fun h => ⟨x, rfl, h⟩⟩
theorem zn_X0_root : ct_X0_root.2.1 = 0 := rfl
theorem zs_X0_root : ct_X0_root.2.2 = 0 := rfl
theorem met_X0_root (l : Launch) (G : zG) : zMet l G q_X0_root ct_X0_root := by
  refine zmk 0 false cal_X0_root bl_X0_root pl_X0_root [ct_X0_fullMantissa, ct_X0_fullScale, ct_X0_rounded] ck_X0_root nm_X0_root ⟨rfl, rfl⟩ wd_X0_root (⟨⟨met_X0_fullMantissa l G, rfl, rfl⟩, ⟨⟨met_X0_fullScale l G, rfl, rfl⟩, ⟨⟨met_X0_rounded l G, rfl, rfl⟩, trivial⟩⟩⟩) ?_
  intro X av S K h
  obtain ⟨x, rfl, h⟩ := h
  refine ⟨Nat.le_of_ble_eq_true rfl, fun hX => ?_⟩
  show X 0 [some (.long x), none, none, none, none, none, none, none, none, none, none, none] [] S 0 0
  obtain ⟨⟨hx, h0⟩, h⟩ := h
  have b1 := zfsc_ge (un x)
  have b4 := zfsc_le (un x)
  have m1 := zfm_lt (un x)
  have m2 := zfm_ge h0
  have zsh : ∀ n k : Nat, k < 64 → lN n <<< ((nI k).toInt64 &&& 63) = lN (n * 2 ^ k) := fun n k hk => wb_shl n hk
  have z1 : ∀ n, lN n <<< ((nI 1).toInt64 &&& 63) = lN (n * 2) := fun n => zsh n 1 (by decide)
  have z2 : ∀ n, lN n <<< ((nI 2).toInt64 &&& 63) = lN (n * 4) := fun n => zsh n 2 (by decide)
  have hM : zrtM (un x) < 2 ^ 54 ∧ 2 ^ 52 ≤ zrtM (un x) := by unfold zrtM; split <;> omega
  have loop : ∀ j i f r : Nat, ∀ (m : Nat) (sc : Int) {r10 r11 : Option Value}, i + j = 57 → m = zrtM (un x) → sc / 2 = zrtS (un x) → -2000 ≤ sc → sc ≤ 2000 → zX4 m i = f * f + r → r ≤ 2 * f → X 34 [some (.long x), none, some (.long (lN m)), none, some (.int (iZ sc)), some (.long (lN f)), none, some (.long (lN r)), none, some (.int (nI i)), r10, r11] [] S 0 0 := by
    intro j
    induction j with
    | zero =>
      intro i f r m sc r10 r11 hij hm hsc hs1 hs2 hX4 hr
      obtain rfl : i = 57 := by omega
      have e1 : zX4 m 57 = m * 4 ^ 30 := rfl
      rw [e1] at hX4
      have hf := zsqrt_r hX4 hr
      have hlt : m * 4 ^ 30 < 2 ^ 114 := by have := zX4_lt (m := m) (i := 57) (by rw [hm]; exact hM.1) (by decide); exact this
      have hge : 2 ^ 112 ≤ m * 4 ^ 30 := by
        have := Nat.mul_le_mul_right (4 ^ 30) (show 2 ^ 52 ≤ m by rw [hm]; exact hM.2)
        exact Nat.le_trans (by decide) this
      have f1 : f < 2 ^ 57 := Nat.lt_of_not_le fun h => by
        have := Nat.mul_self_le_mul_self h
        have e : (2 : Nat) ^ 57 * 2 ^ 57 = 2 ^ 114 := by decide
        omega
      have f2 : 2 ^ 54 ≤ f := Nat.le_of_not_lt fun h => by
        have := Nat.mul_self_le_mul_self (show f + 1 ≤ 2 ^ 54 from h)
        have e : (2 : Nat) ^ 54 * 2 ^ 54 < 2 ^ 112 := by decide
        rw [Nat.add_mul, Nat.mul_add] at this
        omega
      have f1' : f < 144115188075855872 := f1
      have f2' : 18014398509481984 ≤ f := f2
      have eh : (iZ sc >>> (nI 1 &&& 31) - nI 30).toInt = sc / 2 - 30 := by
        rw [zI_half sc (by omega) (by omega), nI_z, iZ_sub, iZ_t (by omega) (by omega)]; rfl
      have u1 : un (lN f) = f := un_lN (by omega)
      have u2 : (lN r = lN 0) = (r = 0) := propext (lN_inj (by omega) (by decide))
      refine hX 1000 _ _ _ _ _ _ ?_
      simp only [wzq_nop, wzq_nop0, wzq_null, wzq_iconst, wzq_bipush, wzq_sipush, wzq_ldc, wzq_ldc_w, wzq_lconst, wzq_dconst, wzq_ldc2, wzq_ldc2d, wzq_istore, wzq_istore_n0, wzq_istore_n1, wzq_istore_n2, wzq_istore_n3, wzq_lstore, wzq_lstore_n0, wzq_lstore_n1, wzq_lstore_n2, wzq_lstore_n3, wzq_dstore, wzq_dstore_n0, wzq_dstore_n1, wzq_dstore_n2, wzq_dstore_n3, wzq_astore, wzq_astore_n0, wzq_astore_n1, wzq_astore_n2, wzq_astore_n3, wzq_iadd, wzq_isub, wzq_imul, wzq_iand, wzq_ior, wzq_ishr, wzq_iushr, wzq_idiv, wzq_irem, wzq_ineg, wzq_ladd, wzq_lsub, wzq_lmul, wzq_land, wzq_lor, wzq_lxor, wzq_ldiv, wzq_lrem, wzq_lneg, wzq_lshl, wzq_lshr, wzq_lushr, wzq_i2l, wzq_l2i, wzq_lcmp, wzq_dcmp, wzq_dadd, wzq_dsub, wzq_dmul, wzq_ddiv, wzq_dneg, wzq_dup, wzq_pop, wzq_pop2, wzq_dup2J, wzq_dup2D, wzq_dup2I, wzq_goto0, wzq_goto1, wzq_if_eq0, wzq_if_eq1, wzq_icmp_eq0, wzq_icmp_eq1, wzq_if_ne0, wzq_if_ne1, wzq_icmp_ne0, wzq_icmp_ne1, wzq_if_lt0, wzq_if_lt1, wzq_icmp_lt0, wzq_icmp_lt1, wzq_if_ge0, wzq_if_ge1, wzq_icmp_ge0, wzq_icmp_ge1, wzq_if_gt0, wzq_if_gt1, wzq_icmp_gt0, wzq_icmp_gt1, wzq_if_le0, wzq_if_le1, wzq_icmp_le0, wzq_icmp_le1, wzq_ifnull0, wzq_ifnull1, wzq_ifnull_a, wzq_ifnull_b, wzq_ifnonnull0, wzq_ifnonnull1, wzq_ifnonnull_a, wzq_ifnonnull_b, wzq_table, wzq_getfield, wzq_alen, wzq_iaload, wzq_baload, wzq_laload, wzq_daload, wzq_aaload, wzq_iastore, wzq_bastore, wzq_lastore, wzq_dastore, wzq_aastore, wzq_new, wzq_newarray, wzq_anewarray, wzq_d2l, wzq_l2d, wzq_mmax, wzq_mmin, wzq_mmaxl, wzq_mabs, wzq_objInit, wzq_ireturn, wzq_lreturn, wzq_dreturn, wzq_areturn, wzq_return, znth0, zst1_0, zst2_0, znth1, zst1_1, zst2_1, znth2, zst1_2, zst2_2, znth3, zst1_3, zst2_3, znth4, zst1_4, zst2_4, znth5, zst1_5, zst2_5, znth6, zst1_6, zst2_6, znth7, zst1_7, zst2_7, znth8, zst1_8, zst2_8, znth9, zst1_9, zst2_9, znth10, zst1_10, zst2_10, znth11, zst1_11, zst2_11, znth12, zst1_12, zst2_12, znth13, zst1_13, zst2_13, znth14, zst1_14, zst2_14, znth15, zst1_15, zst2_15, znth16, zst1_16, zst2_16, znth17, zst1_17, zst2_17, znth18, zst1_18, zst2_18, znth19, zst1_19, zst2_19, znth20, zst1_20, zst2_20, znth21, zst1_21, zst2_21, znth22, zst1_22, zst2_22, znth23, zst1_23, zst2_23, znth24, zst1_24, zst2_24, znth25, zst1_25, zst2_25, zkill_n, zkill_int, zkill_ref, zkill_null, zkill_long, zkill_double, zkill_rf, zref_s, zref_n, zref_rf, va_rf_s, va_rf_n, zget0, zget1, zget2, zget3, zget4, zget5, zget6, zget7, zget8, zget9, zget10, zget11, zget12, zget13, zget14, zget15, zget16, zget17, zget18, zget19, zget20, zget21, zget22, zget23, zget24, zget25, zwt_0, zwt_int, zcat_int, zwt_ref, zcat_ref, zwt_long, zcat_long, zwt_double, zcat_double, zwt_null, zwt_rf, zcat_null, zcat_rf, ztl_s, ztl_n, zfI, zfZ, zfJ, zfD, zfO, zfA, zsw_0, zsw_s, zYX1_0, zYX1_1, zYX1_2, zYX1_3, zYX1_4, zYX1_5, zYX1_6, zYX1_7, zYX1_8, zYX1_9, zYX1_10, zYX1_11, zYX1_12, zYX1_13, zYX1_14, zNX1, zYX2_0, zYX2_1, zYX2_2, zYX2_3, zYX2_4, zYX2_5, zYX2_6, zYX2_7, zYX2_8, zYX2_9, zYX2_10, zNX2, zYX3_0, zYX3_1, zYX3_2, zYX3_3, zYX3_4, zYX3_5, zYX3_6, zNX3, zYX4_0, zYX4_1, zYX4_2, zYX4_3, zYX4_4, zYX4_5, zNX4, zYX5_0, zYX5_1, zYX5_2, zYX5_3, zYX5_4, zYX5_5, zYX5_6, zYX5_7, zYX5_8, zNX5, zYX6_0, zYX6_1, zYX6_2, zYX6_3, zYX6_4, zNX6, zYX7_0, zYX7_1, zYX7_2, zYX7_3, zNX7, zYX8_0, zYX8_1, zYX8_2, zNX8, zYX9_0, zYX9_1, zYX9_2, zNX9, zYX10_0, zYX10_1, zYX10_2, zYX10_3, zYX10_4, zYX10_5, zYX10_6, zYX10_7, zYX10_8, zNX10, zYX11_0, zYX11_1, zYX11_2, zYX11_3, zYX11_4, zYX11_5, zYX11_6, zYX11_7, zYX11_8, zYX11_9, zYX11_10, zYX11_11, zYX11_12, zYX11_13, zYX11_14, zYX11_15, zYX11_16, zYX11_17, zYX11_18, zYX11_19, zYX11_20, zYX11_21, zYX11_22, zYX11_23, zYX11_24, zYX11_25, zYX11_26, zYX11_27, zYX11_28, zYX11_29, zYX11_30, zYX11_31, zYX11_32, zYX11_33, zYX11_34, zYX11_35, zYX11_36, zYX11_37, zYX11_38, zYX11_39, zYX11_40, zYX11_41, zYX11_42, zYX11_43, zYX11_44, zYX11_45, zYX11_46, zYX11_47, zYX11_48, zYX11_49, zYX11_50, zYX11_51, zYX11_52, zYX11_53, zYX11_54, zYX11_55, zYX11_56, zYX11_57, zNX11, zend_i, zend_l, zend_d, zend_o, zend_v, wzend_z, znle, zisI_s, zgI_s, zisJ_s, zgJ_s, zisD_s, zgD_s, zisA_s, zgA_s, zpokI, zpstI, zpokZ, zpstZ, zpokJ, zpstJ, zpokD, zpstD, zpokO, zpstO, zpokOn, zpstOn, zpokA, zpstA, zpokAn, zpstAn, zpk_0, zptk_0, zpdr_0, zpk_1, zptk_1, zpdr_1, zpk_2, zptk_2, zpdr_2, zpk_3, zptk_3, zpdr_3, zpk_4, zptk_4, zpdr_4, zpk_5, zptk_5, zpdr_5, zpk_6, zptk_6, zpdr_6, zpk_7, zptk_7, zpdr_7, zpk_8, zptk_8, zpdr_8, zisR_s, zgR_s, ztlR_s, zisC_s, zgC_s, zkont_s, zkont_n, zw_iload, zw_iload_n0, zw_iload_n1, zw_iload_n2, zw_iload_n3, zw_lload, zw_lload_n0, zw_lload_n1, zw_lload_n2, zw_lload_n3, zw_dload, zw_dload_n0, zw_dload_n1, zw_dload_n2, zw_dload_n3, zw_aload, zw_aload_n0, zw_aload_n1, zw_aload_n2, zw_aload_n3, zw_iinc, zw_putfield, zw_callS, zw_callV, zw_callI, q_X0_root, ct_X0_root, zc_X0_fullMantissa, zn_X0_fullMantissa, zs_X0_fullMantissa, zc_X0_fullScale, zn_X0_fullScale, zs_X0_fullScale, zc_X0_rounded, zn_X0_rounded, zs_X0_rounded, nIm_1, b_X0_root_0, b_X0_root_25, b_X0_root_34, b_X0_root_68, b_X0_root_69, b_X0_root_107, b_X0_root_113, b_X0_root_127, b_X0_root_128, k_X0_root_0, k_X0_root_25, k_X0_root_34, k_X0_root_68, k_X0_root_69, k_X0_root_107, k_X0_root_113, k_X0_root_127, k_X0_root_128, true_or, or_true, zrz_1, zrz_0, zrz_b, true_and, and_true, Nat.reduceAdd, Nat.reduceLeDiff, Nat.reduceMul, Nat.le_refl, Nat.add_zero, Nat.zero_add, zlc_eq, zbo_0, zbo_1, eh, u1, u2]
      unfold zrt at h
      rw [← hm, hf, ← hsc] at h
      have hb : -4000 ≤ sc / 2 - 30 ∧ sc / 2 - 30 ≤ 4000 := ⟨by omega, by omega⟩
      refine ⟨fun _ => ⟨fun h1 => ⟨⟨by omega, hb.1, hb.2, fun h => by cases h⟩, ?_⟩, fun h1 => ⟨⟨by omega, hb.1, hb.2, fun _ => f2'⟩, ?_⟩⟩, fun h1 => absurd (by decide) h1⟩
      · rw [decide_eq_false (by rw [hX4, h1]; simp)] at h
        rw [show (false).toNat * 9223372036854775808 = 0 from rfl, Nat.zero_add]; exact h
      · rw [decide_eq_true (by rw [hX4]; omega)] at h
        rw [show (false).toNat * 9223372036854775808 = 0 from rfl, Nat.zero_add]; exact h
    | succ j ih =>
      intro i f r m sc r10 r11 hij hm hsc hs1 hs2 hX4 hr
      have hlt := zX4_lt (m := m) (i := i) (by rw [hm]; exact hM.1) (by omega)
      have f1 : f < 144115188075855872 := Nat.lt_of_not_le fun h => by
        have := Nat.mul_self_le_mul_self h
        have e : 144115188075855872 * 144115188075855872 = 2 ^ 114 := by decide
        omega
      have step : ∀ dg : Nat, dg < 4 → zX4 m (i + 1) = 4 * zX4 m i + dg →
          (lN (r * 4 + dg) < lN (f * 4 + 1) → X 34 [some (.long x), none, some (.long (lN m)), none, some (.int (iZ sc)), some (.long (lN (f * 2))), none, some (.long (lN (r * 4 + dg))), none, some (.int (nI (i + 1))), some (.long (lN (f * 4 + 1))), none] [] S 0 0) ∧
          (¬ lN (r * 4 + dg) < lN (f * 4 + 1) → X 34 [some (.long x), none, some (.long (lN m)), none, some (.int (iZ sc)), some (.long (lN (f * 2 + 1))), none, some (.long (lN (r * 4 + dg) - lN (f * 4 + 1))), none, some (.int (nI (i + 1))), some (.long (lN (f * 4 + 1))), none] [] S 0 0) := by
        intro dg hdg hs
        rw [hX4] at hs
        rw [zL_lt (by omega) (by omega)]
        have e1 : f * 2 * (f * 2) = 4 * (f * f) := by rw [show (4 : Nat) = 2 * 2 from rfl]; ac_rfl
        have e2 : (f * 2 + 1) * (f * 2 + 1) = 4 * (f * f) + 4 * f + 1 := by rw [Nat.add_mul, Nat.mul_add, e1]; omega
        refine ⟨fun h1 => ih (i + 1) (f * 2) (r * 4 + dg) m sc (by omega) hm hsc hs1 hs2 (by rw [hs, e1]; omega) (by omega), fun h1 => ?_⟩
        rw [zL_sub (by omega)]
        exact ih (i + 1) (f * 2 + 1) (r * 4 + dg - (f * 4 + 1)) m sc (by omega) hm hsc hs1 hs2 (by rw [hs, e2]; omega) (by omega)
      have e57 : (nI 57 ≤ nI i) = False := eq_false (by rw [zN_le (by decide) (by omega)]; omega)
      have e27 : (nI 27 ≤ nI i) = (27 ≤ i) := propext (zN_le (by decide) (by omega))
      have hs := zX4_s m i
      refine hX 1000 _ _ _ _ _ _ ?_
      simp only [wzq_nop, wzq_nop0, wzq_null, wzq_iconst, wzq_bipush, wzq_sipush, wzq_ldc, wzq_ldc_w, wzq_lconst, wzq_dconst, wzq_ldc2, wzq_ldc2d, wzq_istore, wzq_istore_n0, wzq_istore_n1, wzq_istore_n2, wzq_istore_n3, wzq_lstore, wzq_lstore_n0, wzq_lstore_n1, wzq_lstore_n2, wzq_lstore_n3, wzq_dstore, wzq_dstore_n0, wzq_dstore_n1, wzq_dstore_n2, wzq_dstore_n3, wzq_astore, wzq_astore_n0, wzq_astore_n1, wzq_astore_n2, wzq_astore_n3, wzq_iadd, wzq_isub, wzq_imul, wzq_iand, wzq_ior, wzq_ishr, wzq_iushr, wzq_idiv, wzq_irem, wzq_ineg, wzq_ladd, wzq_lsub, wzq_lmul, wzq_land, wzq_lor, wzq_lxor, wzq_ldiv, wzq_lrem, wzq_lneg, wzq_lshl, wzq_lshr, wzq_lushr, wzq_i2l, wzq_l2i, wzq_lcmp, wzq_dcmp, wzq_dadd, wzq_dsub, wzq_dmul, wzq_ddiv, wzq_dneg, wzq_dup, wzq_pop, wzq_pop2, wzq_dup2J, wzq_dup2D, wzq_dup2I, wzq_goto0, wzq_goto1, wzq_if_eq0, wzq_if_eq1, wzq_icmp_eq0, wzq_icmp_eq1, wzq_if_ne0, wzq_if_ne1, wzq_icmp_ne0, wzq_icmp_ne1, wzq_if_lt0, wzq_if_lt1, wzq_icmp_lt0, wzq_icmp_lt1, wzq_if_ge0, wzq_if_ge1, wzq_icmp_ge0, wzq_icmp_ge1, wzq_if_gt0, wzq_if_gt1, wzq_icmp_gt0, wzq_icmp_gt1, wzq_if_le0, wzq_if_le1, wzq_icmp_le0, wzq_icmp_le1, wzq_ifnull0, wzq_ifnull1, wzq_ifnull_a, wzq_ifnull_b, wzq_ifnonnull0, wzq_ifnonnull1, wzq_ifnonnull_a, wzq_ifnonnull_b, wzq_table, wzq_getfield, wzq_alen, wzq_iaload, wzq_baload, wzq_laload, wzq_daload, wzq_aaload, wzq_iastore, wzq_bastore, wzq_lastore, wzq_dastore, wzq_aastore, wzq_new, wzq_newarray, wzq_anewarray, wzq_d2l, wzq_l2d, wzq_mmax, wzq_mmin, wzq_mmaxl, wzq_mabs, wzq_objInit, wzq_ireturn, wzq_lreturn, wzq_dreturn, wzq_areturn, wzq_return, znth0, zst1_0, zst2_0, znth1, zst1_1, zst2_1, znth2, zst1_2, zst2_2, znth3, zst1_3, zst2_3, znth4, zst1_4, zst2_4, znth5, zst1_5, zst2_5, znth6, zst1_6, zst2_6, znth7, zst1_7, zst2_7, znth8, zst1_8, zst2_8, znth9, zst1_9, zst2_9, znth10, zst1_10, zst2_10, znth11, zst1_11, zst2_11, znth12, zst1_12, zst2_12, znth13, zst1_13, zst2_13, znth14, zst1_14, zst2_14, znth15, zst1_15, zst2_15, znth16, zst1_16, zst2_16, znth17, zst1_17, zst2_17, znth18, zst1_18, zst2_18, znth19, zst1_19, zst2_19, znth20, zst1_20, zst2_20, znth21, zst1_21, zst2_21, znth22, zst1_22, zst2_22, znth23, zst1_23, zst2_23, znth24, zst1_24, zst2_24, znth25, zst1_25, zst2_25, zkill_n, zkill_int, zkill_ref, zkill_null, zkill_long, zkill_double, zkill_rf, zref_s, zref_n, zref_rf, va_rf_s, va_rf_n, zget0, zget1, zget2, zget3, zget4, zget5, zget6, zget7, zget8, zget9, zget10, zget11, zget12, zget13, zget14, zget15, zget16, zget17, zget18, zget19, zget20, zget21, zget22, zget23, zget24, zget25, zwt_0, zwt_int, zcat_int, zwt_ref, zcat_ref, zwt_long, zcat_long, zwt_double, zcat_double, zwt_null, zwt_rf, zcat_null, zcat_rf, ztl_s, ztl_n, zfI, zfZ, zfJ, zfD, zfO, zfA, zsw_0, zsw_s, zYX1_0, zYX1_1, zYX1_2, zYX1_3, zYX1_4, zYX1_5, zYX1_6, zYX1_7, zYX1_8, zYX1_9, zYX1_10, zYX1_11, zYX1_12, zYX1_13, zYX1_14, zNX1, zYX2_0, zYX2_1, zYX2_2, zYX2_3, zYX2_4, zYX2_5, zYX2_6, zYX2_7, zYX2_8, zYX2_9, zYX2_10, zNX2, zYX3_0, zYX3_1, zYX3_2, zYX3_3, zYX3_4, zYX3_5, zYX3_6, zNX3, zYX4_0, zYX4_1, zYX4_2, zYX4_3, zYX4_4, zYX4_5, zNX4, zYX5_0, zYX5_1, zYX5_2, zYX5_3, zYX5_4, zYX5_5, zYX5_6, zYX5_7, zYX5_8, zNX5, zYX6_0, zYX6_1, zYX6_2, zYX6_3, zYX6_4, zNX6, zYX7_0, zYX7_1, zYX7_2, zYX7_3, zNX7, zYX8_0, zYX8_1, zYX8_2, zNX8, zYX9_0, zYX9_1, zYX9_2, zNX9, zYX10_0, zYX10_1, zYX10_2, zYX10_3, zYX10_4, zYX10_5, zYX10_6, zYX10_7, zYX10_8, zNX10, zYX11_0, zYX11_1, zYX11_2, zYX11_3, zYX11_4, zYX11_5, zYX11_6, zYX11_7, zYX11_8, zYX11_9, zYX11_10, zYX11_11, zYX11_12, zYX11_13, zYX11_14, zYX11_15, zYX11_16, zYX11_17, zYX11_18, zYX11_19, zYX11_20, zYX11_21, zYX11_22, zYX11_23, zYX11_24, zYX11_25, zYX11_26, zYX11_27, zYX11_28, zYX11_29, zYX11_30, zYX11_31, zYX11_32, zYX11_33, zYX11_34, zYX11_35, zYX11_36, zYX11_37, zYX11_38, zYX11_39, zYX11_40, zYX11_41, zYX11_42, zYX11_43, zYX11_44, zYX11_45, zYX11_46, zYX11_47, zYX11_48, zYX11_49, zYX11_50, zYX11_51, zYX11_52, zYX11_53, zYX11_54, zYX11_55, zYX11_56, zYX11_57, zNX11, zend_i, zend_l, zend_d, zend_o, zend_v, wzend_z, znle, zisI_s, zgI_s, zisJ_s, zgJ_s, zisD_s, zgD_s, zisA_s, zgA_s, zpokI, zpstI, zpokZ, zpstZ, zpokJ, zpstJ, zpokD, zpstD, zpokO, zpstO, zpokOn, zpstOn, zpokA, zpstA, zpokAn, zpstAn, zpk_0, zptk_0, zpdr_0, zpk_1, zptk_1, zpdr_1, zpk_2, zptk_2, zpdr_2, zpk_3, zptk_3, zpdr_3, zpk_4, zptk_4, zpdr_4, zpk_5, zptk_5, zpdr_5, zpk_6, zptk_6, zpdr_6, zpk_7, zptk_7, zpdr_7, zpk_8, zptk_8, zpdr_8, zisR_s, zgR_s, ztlR_s, zisC_s, zgC_s, zkont_s, zkont_n, zw_iload, zw_iload_n0, zw_iload_n1, zw_iload_n2, zw_iload_n3, zw_lload, zw_lload_n0, zw_lload_n1, zw_lload_n2, zw_lload_n3, zw_dload, zw_dload_n0, zw_dload_n1, zw_dload_n2, zw_dload_n3, zw_aload, zw_aload_n0, zw_aload_n1, zw_aload_n2, zw_aload_n3, zw_iinc, zw_putfield, zw_callS, zw_callV, zw_callI, q_X0_root, ct_X0_root, zc_X0_fullMantissa, zn_X0_fullMantissa, zs_X0_fullMantissa, zc_X0_fullScale, zn_X0_fullScale, zs_X0_fullScale, zc_X0_rounded, zn_X0_rounded, zs_X0_rounded, nIm_1, b_X0_root_0, b_X0_root_25, b_X0_root_34, b_X0_root_68, b_X0_root_69, b_X0_root_107, b_X0_root_113, b_X0_root_127, b_X0_root_128, k_X0_root_0, k_X0_root_25, k_X0_root_34, k_X0_root_68, k_X0_root_69, k_X0_root_107, k_X0_root_113, k_X0_root_127, k_X0_root_128, true_or, or_true, zrz_1, zrz_0, zrz_b, true_and, and_true, Nat.reduceAdd, Nat.reduceLeDiff, Nat.reduceMul, Nat.le_refl, Nat.add_zero, Nat.zero_add, zlc_lt, z1, z2, zL_add, e57, e27, zN_add]
      refine ⟨fun h => h.elim, fun _ => ⟨fun h27 => ?_, fun h27 => ?_⟩⟩
      · rw [if_neg (by omega)] at hs
        exact step 0 (by decide) hs
      · rw [if_pos (by omega)] at hs
        have ed : ((lN m).toUInt64 >>> ((nI 52 - nI 2 * nI i).toInt64.toUInt64 &&& Int64.toUInt64 63)).toInt64 &&& lN 3 = lN (m / 2 ^ (52 - 2 * i) % 4) := by
          have hm64 : m < 2 ^ 64 := by have := hM.1; rw [← hm] at this; omega
          rw [zN_mul, zN_sub (by omega), wb_shr hm64 (by omega)]
          exact wb_mask (k := 2) (Nat.lt_of_le_of_lt (Nat.div_le_self _ _) hm64) (by decide)
        rw [ed, zL_add]
        exact step _ (Nat.mod_lt _ (by decide)) hs
  have hX0 : ∀ m, m < 2 ^ 54 → zX4 m 0 = 0 * 0 + 0 := fun m hm => by
    unfold zX4
    rw [if_pos (by decide)]
    exact Nat.div_eq_of_lt (Nat.lt_of_lt_of_le hm (by decide))
  refine hX 1000 _ _ _ _ _ _ ?_
  simp only [wzq_nop, wzq_nop0, wzq_null, wzq_iconst, wzq_bipush, wzq_sipush, wzq_ldc, wzq_ldc_w, wzq_lconst, wzq_dconst, wzq_ldc2, wzq_ldc2d, wzq_istore, wzq_istore_n0, wzq_istore_n1, wzq_istore_n2, wzq_istore_n3, wzq_lstore, wzq_lstore_n0, wzq_lstore_n1, wzq_lstore_n2, wzq_lstore_n3, wzq_dstore, wzq_dstore_n0, wzq_dstore_n1, wzq_dstore_n2, wzq_dstore_n3, wzq_astore, wzq_astore_n0, wzq_astore_n1, wzq_astore_n2, wzq_astore_n3, wzq_iadd, wzq_isub, wzq_imul, wzq_iand, wzq_ior, wzq_ishr, wzq_iushr, wzq_idiv, wzq_irem, wzq_ineg, wzq_ladd, wzq_lsub, wzq_lmul, wzq_land, wzq_lor, wzq_lxor, wzq_ldiv, wzq_lrem, wzq_lneg, wzq_lshl, wzq_lshr, wzq_lushr, wzq_i2l, wzq_l2i, wzq_lcmp, wzq_dcmp, wzq_dadd, wzq_dsub, wzq_dmul, wzq_ddiv, wzq_dneg, wzq_dup, wzq_pop, wzq_pop2, wzq_dup2J, wzq_dup2D, wzq_dup2I, wzq_goto0, wzq_goto1, wzq_if_eq0, wzq_if_eq1, wzq_icmp_eq0, wzq_icmp_eq1, wzq_if_ne0, wzq_if_ne1, wzq_icmp_ne0, wzq_icmp_ne1, wzq_if_lt0, wzq_if_lt1, wzq_icmp_lt0, wzq_icmp_lt1, wzq_if_ge0, wzq_if_ge1, wzq_icmp_ge0, wzq_icmp_ge1, wzq_if_gt0, wzq_if_gt1, wzq_icmp_gt0, wzq_icmp_gt1, wzq_if_le0, wzq_if_le1, wzq_icmp_le0, wzq_icmp_le1, wzq_ifnull0, wzq_ifnull1, wzq_ifnull_a, wzq_ifnull_b, wzq_ifnonnull0, wzq_ifnonnull1, wzq_ifnonnull_a, wzq_ifnonnull_b, wzq_table, wzq_getfield, wzq_alen, wzq_iaload, wzq_baload, wzq_laload, wzq_daload, wzq_aaload, wzq_iastore, wzq_bastore, wzq_lastore, wzq_dastore, wzq_aastore, wzq_new, wzq_newarray, wzq_anewarray, wzq_d2l, wzq_l2d, wzq_mmax, wzq_mmin, wzq_mmaxl, wzq_mabs, wzq_objInit, wzq_ireturn, wzq_lreturn, wzq_dreturn, wzq_areturn, wzq_return, znth0, zst1_0, zst2_0, znth1, zst1_1, zst2_1, znth2, zst1_2, zst2_2, znth3, zst1_3, zst2_3, znth4, zst1_4, zst2_4, znth5, zst1_5, zst2_5, znth6, zst1_6, zst2_6, znth7, zst1_7, zst2_7, znth8, zst1_8, zst2_8, znth9, zst1_9, zst2_9, znth10, zst1_10, zst2_10, znth11, zst1_11, zst2_11, znth12, zst1_12, zst2_12, znth13, zst1_13, zst2_13, znth14, zst1_14, zst2_14, znth15, zst1_15, zst2_15, znth16, zst1_16, zst2_16, znth17, zst1_17, zst2_17, znth18, zst1_18, zst2_18, znth19, zst1_19, zst2_19, znth20, zst1_20, zst2_20, znth21, zst1_21, zst2_21, znth22, zst1_22, zst2_22, znth23, zst1_23, zst2_23, znth24, zst1_24, zst2_24, znth25, zst1_25, zst2_25, zkill_n, zkill_int, zkill_ref, zkill_null, zkill_long, zkill_double, zkill_rf, zref_s, zref_n, zref_rf, va_rf_s, va_rf_n, zget0, zget1, zget2, zget3, zget4, zget5, zget6, zget7, zget8, zget9, zget10, zget11, zget12, zget13, zget14, zget15, zget16, zget17, zget18, zget19, zget20, zget21, zget22, zget23, zget24, zget25, zwt_0, zwt_int, zcat_int, zwt_ref, zcat_ref, zwt_long, zcat_long, zwt_double, zcat_double, zwt_null, zwt_rf, zcat_null, zcat_rf, ztl_s, ztl_n, zfI, zfZ, zfJ, zfD, zfO, zfA, zsw_0, zsw_s, zYX1_0, zYX1_1, zYX1_2, zYX1_3, zYX1_4, zYX1_5, zYX1_6, zYX1_7, zYX1_8, zYX1_9, zYX1_10, zYX1_11, zYX1_12, zYX1_13, zYX1_14, zNX1, zYX2_0, zYX2_1, zYX2_2, zYX2_3, zYX2_4, zYX2_5, zYX2_6, zYX2_7, zYX2_8, zYX2_9, zYX2_10, zNX2, zYX3_0, zYX3_1, zYX3_2, zYX3_3, zYX3_4, zYX3_5, zYX3_6, zNX3, zYX4_0, zYX4_1, zYX4_2, zYX4_3, zYX4_4, zYX4_5, zNX4, zYX5_0, zYX5_1, zYX5_2, zYX5_3, zYX5_4, zYX5_5, zYX5_6, zYX5_7, zYX5_8, zNX5, zYX6_0, zYX6_1, zYX6_2, zYX6_3, zYX6_4, zNX6, zYX7_0, zYX7_1, zYX7_2, zYX7_3, zNX7, zYX8_0, zYX8_1, zYX8_2, zNX8, zYX9_0, zYX9_1, zYX9_2, zNX9, zYX10_0, zYX10_1, zYX10_2, zYX10_3, zYX10_4, zYX10_5, zYX10_6, zYX10_7, zYX10_8, zNX10, zYX11_0, zYX11_1, zYX11_2, zYX11_3, zYX11_4, zYX11_5, zYX11_6, zYX11_7, zYX11_8, zYX11_9, zYX11_10, zYX11_11, zYX11_12, zYX11_13, zYX11_14, zYX11_15, zYX11_16, zYX11_17, zYX11_18, zYX11_19, zYX11_20, zYX11_21, zYX11_22, zYX11_23, zYX11_24, zYX11_25, zYX11_26, zYX11_27, zYX11_28, zYX11_29, zYX11_30, zYX11_31, zYX11_32, zYX11_33, zYX11_34, zYX11_35, zYX11_36, zYX11_37, zYX11_38, zYX11_39, zYX11_40, zYX11_41, zYX11_42, zYX11_43, zYX11_44, zYX11_45, zYX11_46, zYX11_47, zYX11_48, zYX11_49, zYX11_50, zYX11_51, zYX11_52, zYX11_53, zYX11_54, zYX11_55, zYX11_56, zYX11_57, zNX11, zend_i, zend_l, zend_d, zend_o, zend_v, wzend_z, znle, zisI_s, zgI_s, zisJ_s, zgJ_s, zisD_s, zgD_s, zisA_s, zgA_s, zpokI, zpstI, zpokZ, zpstZ, zpokJ, zpstJ, zpokD, zpstD, zpokO, zpstO, zpokOn, zpstOn, zpokA, zpstA, zpokAn, zpstAn, zpk_0, zptk_0, zpdr_0, zpk_1, zptk_1, zpdr_1, zpk_2, zptk_2, zpdr_2, zpk_3, zptk_3, zpdr_3, zpk_4, zptk_4, zpdr_4, zpk_5, zptk_5, zpdr_5, zpk_6, zptk_6, zpdr_6, zpk_7, zptk_7, zpdr_7, zpk_8, zptk_8, zpdr_8, zisR_s, zgR_s, ztlR_s, zisC_s, zgC_s, zkont_s, zkont_n, zw_iload, zw_iload_n0, zw_iload_n1, zw_iload_n2, zw_iload_n3, zw_lload, zw_lload_n0, zw_lload_n1, zw_lload_n2, zw_lload_n3, zw_dload, zw_dload_n0, zw_dload_n1, zw_dload_n2, zw_dload_n3, zw_aload, zw_aload_n0, zw_aload_n1, zw_aload_n2, zw_aload_n3, zw_iinc, zw_putfield, zw_callS, zw_callV, zw_callI, q_X0_root, ct_X0_root, zc_X0_fullMantissa, zn_X0_fullMantissa, zs_X0_fullMantissa, zc_X0_fullScale, zn_X0_fullScale, zs_X0_fullScale, zc_X0_rounded, zn_X0_rounded, zs_X0_rounded, nIm_1, b_X0_root_0, b_X0_root_25, b_X0_root_34, b_X0_root_68, b_X0_root_69, b_X0_root_107, b_X0_root_113, b_X0_root_127, b_X0_root_128, k_X0_root_0, k_X0_root_25, k_X0_root_34, k_X0_root_68, k_X0_root_69, k_X0_root_107, k_X0_root_113, k_X0_root_127, k_X0_root_128, true_or, or_true, zrz_1, zrz_0, zrz_b, true_and, and_true, Nat.reduceAdd, Nat.reduceLeDiff, Nat.reduceMul, Nat.le_refl, Nat.add_zero, Nat.zero_add, zI_odd (show -2147483648 ≤ zfsc (un x) by omega) (by omega), z1]
  refine ⟨fun h1 => ?_, fun h1 => ?_⟩
  · refine loop 57 0 0 0 _ _ (by decide) ?_ rfl (by omega) (by omega) (hX0 _ (by omega)) (by decide)
    unfold zrtM; rw [if_pos h1]
  · rw [iZ_add]
    refine loop 57 0 0 0 _ _ (by decide) ?_ ?_ (by omega) (by omega) (hX0 _ (by omega)) (by decide)
    · unfold zrtM; rw [if_neg h1]
    · unfold zrtS; omega
end ZROOT
