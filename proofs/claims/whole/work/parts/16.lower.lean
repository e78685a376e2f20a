/-! the class's doubles: lowerPart -/
section ZDBL5
theorem zor_1 {x : Nat} (h : x < 18446744073709551616) : lN x ||| lN 1 = lN (x / 2 * 2 + 1) := by
  have e := g_or (k := 1) (p := 2) (a := 1) (b := x / 2) (by decide) (by decide) (by omega)
  rcases Nat.mod_two_eq_zero_or_one x with h1 | h1
  · rw [show x / 2 * 2 = x by omega] at e ⊢; exact e
  · have hx : lN x = lN (x / 2 * 2) ||| lN 1 := by rw [e]; congr 1; omega
    rw [hx, Int64.or_assoc, Int64.or_self, e]
theorem zor_0 (x : Int64) : x ||| lN 0 = x := by
  have : lN 0 = (0 : Int64) := rfl
  rw [this, Int64.or_zero]
theorem zjm_0 {N d : Nat} (h : N % 2 ^ d = 0) : zjm N d = N / 2 ^ d := if_pos h
theorem zjm_1 {N d : Nat} (h : N % 2 ^ d ≠ 0) : zjm N d = N / 2 ^ d / 2 * 2 + 1 := if_neg h
theorem zjm_hi {N d : Nat} : zjm N d / 18446744073709551616 = N / 2 ^ d / 18446744073709551616 := by unfold zjm; split <;> omega
theorem zjm_lo {N d : Nat} (h : N % 2 ^ d ≠ 0) : zjm N d % 18446744073709551616 = N / 2 ^ d % 18446744073709551616 / 2 * 2 + 1 := by rw [zjm_1 h]; omega
theorem zlN0' (n : Nat) : (lN n = lN 0) ↔ n % 18446744073709551616 = 0 := Iff.of_eq (zlN0 n)
theorem zlow_a {a b P Q : Nat} (hP : 0 < P) (hPQ : P * Q = 18446744073709551616) (hb : b < 18446744073709551616) :
    (a * 18446744073709551616 + b) % P = b % P ∧ (a * 18446744073709551616 + b) / P % 18446744073709551616 = (a % P) * Q + b / P ∧ b / P < Q ∧ a * Q % 18446744073709551616 = (a % P) * Q ∧ (b * Q % 18446744073709551616 = 0 ↔ b % P = 0) := by
  have hQ : 0 < Q := Nat.pos_of_ne_zero fun h => by rw [h, Nat.mul_zero] at hPQ; omega
  have hbQ : b / P < Q := (Nat.div_lt_iff_lt_mul hP).mpr (by rw [Nat.mul_comm, hPQ]; exact hb)
  have e : a * 18446744073709551616 + b = P * (a * Q) + b := by rw [← hPQ]; congr 1; ac_rfl
  have e2 : a * Q % 18446744073709551616 = (a % P) * Q := by rw [← hPQ, Nat.mul_mod_mul_right]
  refine ⟨by rw [e, Nat.mul_add_mod], ?_, hbQ, e2, ?_⟩
  · rw [e, Nat.mul_add_div hP]
    have h1 := Nat.div_add_mod a P
    have h2 : a * Q = 18446744073709551616 * (a / P) + (a % P) * Q := by
      rw [← hPQ]
      calc a * Q = (P * (a / P) + a % P) * Q := by rw [h1]
        _ = P * Q * (a / P) + (a % P) * Q := by rw [Nat.add_mul]; congr 1; ac_rfl
    have h3 : (a % P) * Q + Q ≤ P * Q := by
      have := Nat.mul_le_mul_right Q (Nat.mod_lt a hP)
      rw [Nat.succ_mul] at this; exact this
    rw [h2, Nat.add_assoc, Nat.mul_add_mod, Nat.mod_eq_of_lt (by omega)]
  · rw [← hPQ, Nat.mul_mod_mul_right]
    constructor
    · intro h
      rcases Nat.mul_eq_zero.mp h with h | h
      · exact h
      · omega
    · intro h; rw [h, Nat.zero_mul]
def ct_X0_lowerPart : zCt := (fun av S K => ∃ hi : Int64, ∃ lo : Int64, ∃ d : Int32, av = [.long hi, .long lo, .int d] ∧ ((un hi < 9223372036854775808 ∧ 0 ≤ d.toInt ∧ d.toInt ≤ 9000) ∧ K (some (.long (lN (zjm (un hi * 18446744073709551616 + un lo) d.toInt.toNat % 18446744073709551616)))) S), 0, 0)
theorem zc_X0_lowerPart {S : zS} {K : Option Value → zS → Prop} {hi : Int64} {lo : Int64} {d : Int32} : ct_X0_lowerPart.1 [.long hi, .long lo, .int d] S K = ((un hi < 9223372036854775808 ∧ 0 ≤ d.toInt ∧ d.toInt ≤ 9000) ∧ K (some (.long (lN (zjm (un hi * 18446744073709551616 + un lo) d.toInt.toNat % 18446744073709551616)))) S) := propext ⟨fun ⟨z0, z1, z2, e, h⟩ => by cases e; exact h, fun h => ⟨hi, lo, d, rfl, h⟩⟩
theorem zn_X0_lowerPart : ct_X0_lowerPart.2.1 = 0 := rfl
theorem zs_X0_lowerPart : ct_X0_lowerPart.2.2 = 0 := rfl
theorem met_X0_lowerPart (l : Launch) (G : zG) : zMet l G q_X0_lowerPart ct_X0_lowerPart := by
  refine zmk 0 false cal_X0_lowerPart bl_X0_lowerPart pl_X0_lowerPart [] ck_X0_lowerPart nm_X0_lowerPart ⟨rfl, rfl⟩ wd_X0_lowerPart (trivial) ?_
  intro X av S K h
  obtain ⟨hi, lo, d, rfl, h⟩ := h
  refine ⟨Nat.le_of_ble_eq_true rfl, fun hX => ?_⟩
  show X 0 [some (.long hi), none, some (.long lo), none, some (.int d)] [] S 0 0
  obtain ⟨⟨hh, hd1, hd2⟩, h⟩ := h
  have hl := un_lt lo
  generalize hd : d.toInt = z at *
  have ez : d = iZ z := by rw [← hd, iZ_of]
  subst ez
  obtain ⟨k, rfl⟩ := Int.eq_ofNat_of_zero_le hd1
  rw [Int.toNat_natCast] at h
  obtain ⟨a, ha, rfl⟩ := wb_of hi
  obtain ⟨b, hb, rfl⟩ := wb_of lo
  rw [un_lN ha] at hh h
  rw [un_lN hb] at hl h
  have e0 : (nI 0 < iZ (k : Int)) = (0 < k) := propext (by rw [nI_z, iZ_lt (by decide) (by omega)]; omega)
  have e1 : (nI 64 ≤ iZ (k : Int)) = (64 ≤ k) := propext (by rw [nI_z, iZ_le (by decide) (by omega)]; omega)
  have e2 : (iZ (k : Int) = nI 64) = (k = 64) := propext (by rw [nI_z, iZ_eq (by omega) (by decide)]; omega)
  have e3 : (nI 128 ≤ iZ (k : Int)) = (128 ≤ k) := propext (by rw [nI_z, iZ_le (by decide) (by omega)]; omega)
  have i1 : (nI 1).toInt64 = lN 1 := by decide
  have i0 : (nI 0).toInt64 = lN 0 := by decide
  refine hX 1000 _ _ _ _ _ _ ?_
  simp only [wzq_nop, wzq_nop0, wzq_null, wzq_iconst, wzq_bipush, wzq_sipush, wzq_ldc, wzq_ldc_w, wzq_lconst, wzq_dconst, wzq_ldc2, wzq_ldc2d, wzq_istore, wzq_istore_n0, wzq_istore_n1, wzq_istore_n2, wzq_istore_n3, wzq_lstore, wzq_lstore_n0, wzq_lstore_n1, wzq_lstore_n2, wzq_lstore_n3, wzq_dstore, wzq_dstore_n0, wzq_dstore_n1, wzq_dstore_n2, wzq_dstore_n3, wzq_astore, wzq_astore_n0, wzq_astore_n1, wzq_astore_n2, wzq_astore_n3, wzq_iadd, wzq_isub, wzq_imul, wzq_iand, wzq_ior, wzq_ishr, wzq_iushr, wzq_idiv, wzq_irem, wzq_ineg, wzq_ladd, wzq_lsub, wzq_lmul, wzq_land, wzq_lor, wzq_lxor, wzq_ldiv, wzq_lrem, wzq_lneg, wzq_lshl, wzq_lshr, wzq_lushr, wzq_i2l, wzq_l2i, wzq_lcmp, wzq_dcmp, wzq_dadd, wzq_dsub, wzq_dmul, wzq_ddiv, wzq_dneg, wzq_dup, wzq_pop, wzq_pop2, wzq_dup2J, wzq_dup2D, wzq_dup2I, wzq_goto0, wzq_goto1, wzq_if_eq0, wzq_if_eq1, wzq_icmp_eq0, wzq_icmp_eq1, wzq_if_ne0, wzq_if_ne1, wzq_icmp_ne0, wzq_icmp_ne1, wzq_if_lt0, wzq_if_lt1, wzq_icmp_lt0, wzq_icmp_lt1, wzq_if_ge0, wzq_if_ge1, wzq_icmp_ge0, wzq_icmp_ge1, wzq_if_gt0, wzq_if_gt1, wzq_icmp_gt0, wzq_icmp_gt1, wzq_if_le0, wzq_if_le1, wzq_icmp_le0, wzq_icmp_le1, wzq_ifnull0, wzq_ifnull1, wzq_ifnull_a, wzq_ifnull_b, wzq_ifnonnull0, wzq_ifnonnull1, wzq_ifnonnull_a, wzq_ifnonnull_b, wzq_table, wzq_getfield, wzq_alen, wzq_iaload, wzq_baload, wzq_laload, wzq_daload, wzq_aaload, wzq_iastore, wzq_bastore, wzq_lastore, wzq_dastore, wzq_aastore, wzq_new, wzq_newarray, wzq_anewarray, wzq_d2l, wzq_l2d, wzq_mmax, wzq_mmin, wzq_mmaxl, wzq_mabs, wzq_objInit, wzq_ireturn, wzq_lreturn, wzq_dreturn, wzq_areturn, wzq_return, znth0, zst1_0, zst2_0, znth1, zst1_1, zst2_1, znth2, zst1_2, zst2_2, znth3, zst1_3, zst2_3, znth4, zst1_4, zst2_4, znth5, zst1_5, zst2_5, znth6, zst1_6, zst2_6, znth7, zst1_7, zst2_7, znth8, zst1_8, zst2_8, znth9, zst1_9, zst2_9, znth10, zst1_10, zst2_10, znth11, zst1_11, zst2_11, znth12, zst1_12, zst2_12, znth13, zst1_13, zst2_13, znth14, zst1_14, zst2_14, znth15, zst1_15, zst2_15, znth16, zst1_16, zst2_16, znth17, zst1_17, zst2_17, znth18, zst1_18, zst2_18, znth19, zst1_19, zst2_19, znth20, zst1_20, zst2_20, znth21, zst1_21, zst2_21, znth22, zst1_22, zst2_22, znth23, zst1_23, zst2_23, znth24, zst1_24, zst2_24, znth25, zst1_25, zst2_25, zkill_n, zkill_int, zkill_ref, zkill_null, zkill_long, zkill_double, zkill_rf, zref_s, zref_n, zref_rf, va_rf_s, va_rf_n, zget0, zget1, zget2, zget3, zget4, zget5, zget6, zget7, zget8, zget9, zget10, zget11, zget12, zget13, zget14, zget15, zget16, zget17, zget18, zget19, zget20, zget21, zget22, zget23, zget24, zget25, zwt_0, zwt_int, zcat_int, zwt_ref, zcat_ref, zwt_long, zcat_long, zwt_double, zcat_double, zwt_null, zwt_rf, zcat_null, zcat_rf, ztl_s, ztl_n, zfI, zfZ, zfJ, zfD, zfO, zfA, zsw_0, zsw_s, zYX1_0, zYX1_1, zYX1_2, zYX1_3, zYX1_4, zYX1_5, zYX1_6, zYX1_7, zYX1_8, zYX1_9, zYX1_10, zYX1_11, zYX1_12, zYX1_13, zYX1_14, zNX1, zYX2_0, zYX2_1, zYX2_2, zYX2_3, zYX2_4, zYX2_5, zYX2_6, zYX2_7, zYX2_8, zYX2_9, zYX2_10, zNX2, zYX3_0, zYX3_1, zYX3_2, zYX3_3, zYX3_4, zYX3_5, zYX3_6, zNX3, zYX4_0, zYX4_1, zYX4_2, zYX4_3, zYX4_4, zYX4_5, zNX4, zYX5_0, zYX5_1, zYX5_2, zYX5_3, zYX5_4, zYX5_5, zYX5_6, zYX5_7, zYX5_8, zNX5, zYX6_0, zYX6_1, zYX6_2, zYX6_3, zYX6_4, zNX6, zYX7_0, zYX7_1, zYX7_2, zYX7_3, zNX7, zYX8_0, zYX8_1, zYX8_2, zNX8, zYX9_0, zYX9_1, zYX9_2, zNX9, zYX10_0, zYX10_1, zYX10_2, zYX10_3, zYX10_4, zYX10_5, zYX10_6, zYX10_7, zYX10_8, zNX10, zYX11_0, zYX11_1, zYX11_2, zYX11_3, zYX11_4, zYX11_5, zYX11_6, zYX11_7, zYX11_8, zYX11_9, zYX11_10, zYX11_11, zYX11_12, zYX11_13, zYX11_14, zYX11_15, zYX11_16, zYX11_17, zYX11_18, zYX11_19, zYX11_20, zYX11_21, zYX11_22, zYX11_23, zYX11_24, zYX11_25, zYX11_26, zYX11_27, zYX11_28, zYX11_29, zYX11_30, zYX11_31, zYX11_32, zYX11_33, zYX11_34, zYX11_35, zYX11_36, zYX11_37, zYX11_38, zYX11_39, zYX11_40, zYX11_41, zYX11_42, zYX11_43, zYX11_44, zYX11_45, zYX11_46, zYX11_47, zYX11_48, zYX11_49, zYX11_50, zYX11_51, zYX11_52, zYX11_53, zYX11_54, zYX11_55, zYX11_56, zYX11_57, zNX11, zend_i, zend_l, zend_d, zend_o, zend_v, wzend_z, znle, zisI_s, zgI_s, zisJ_s, zgJ_s, zisD_s, zgD_s, zisA_s, zgA_s, zpokI, zpstI, zpokZ, zpstZ, zpokJ, zpstJ, zpokD, zpstD, zpokO, zpstO, zpokOn, zpstOn, zpokA, zpstA, zpokAn, zpstAn, zpk_0, zptk_0, zpdr_0, zpk_1, zptk_1, zpdr_1, zpk_2, zptk_2, zpdr_2, zpk_3, zptk_3, zpdr_3, zpk_4, zptk_4, zpdr_4, zpk_5, zptk_5, zpdr_5, zpk_6, zptk_6, zpdr_6, zpk_7, zptk_7, zpdr_7, zpk_8, zptk_8, zpdr_8, zisR_s, zgR_s, ztlR_s, zisC_s, zgC_s, zkont_s, zkont_n, zw_iload, zw_iload_n0, zw_iload_n1, zw_iload_n2, zw_iload_n3, zw_lload, zw_lload_n0, zw_lload_n1, zw_lload_n2, zw_lload_n3, zw_dload, zw_dload_n0, zw_dload_n1, zw_dload_n2, zw_dload_n3, zw_aload, zw_aload_n0, zw_aload_n1, zw_aload_n2, zw_aload_n3, zw_iinc, zw_putfield, zw_callS, zw_callV, zw_callI, q_X0_lowerPart, ct_X0_lowerPart, b_X0_lowerPart_0, b_X0_lowerPart_7, b_X0_lowerPart_42, b_X0_lowerPart_43, b_X0_lowerPart_46, b_X0_lowerPart_64, b_X0_lowerPart_65, b_X0_lowerPart_68, b_X0_lowerPart_102, b_X0_lowerPart_106, b_X0_lowerPart_107, b_X0_lowerPart_110, b_X0_lowerPart_122, b_X0_lowerPart_123, k_X0_lowerPart_0, k_X0_lowerPart_7, k_X0_lowerPart_42, k_X0_lowerPart_43, k_X0_lowerPart_46, k_X0_lowerPart_64, k_X0_lowerPart_65, k_X0_lowerPart_68, k_X0_lowerPart_102, k_X0_lowerPart_106, k_X0_lowerPart_107, k_X0_lowerPart_110, k_X0_lowerPart_122, k_X0_lowerPart_123, true_or, or_true, zrz_1, zrz_0, zrz_b, true_and, and_true, Nat.reduceAdd, Nat.reduceLeDiff, Nat.reduceMul, Nat.le_refl, Nat.add_zero, Nat.zero_add, zlc_eq, e0, e1, e2, e3, i1, i0, zor_0]
  have hkk : (k : Int).toNat = k := Int.toNat_natCast k
  by_cases hk0 : 0 < k
  · refine ⟨fun _ => ⟨fun h64 => ⟨fun hn => ⟨fun h128 => ?_, fun h128 => ?_⟩, fun hn => ?_⟩, fun h64 => ?_⟩, fun h => absurd hk0 h⟩
    · -- all is lost
      have hp : 2 ^ 128 ≤ 2 ^ k := Nat.pow_le_pow_right (by decide) h128
      have hN : a * 18446744073709551616 + b < 2 ^ k := by omega
      rw [wb_or ha hb, zlN0', Nat.mod_eq_of_lt (Nat.or_lt_two_pow (n := 64) ha hb), Nat.or_eq_zero_iff]
      refine ⟨fun h0 => ?_, fun h0 => ?_⟩
      · rw [h0.1, h0.2, zjm_0 (by rw [Nat.zero_mul, Nat.zero_mod]), Nat.zero_mul, Nat.zero_div] at h; exact h
      · have : (a * 18446744073709551616 + b) % 2 ^ k ≠ 0 := by rw [Nat.mod_eq_of_lt hN]; omega
        rw [zjm_lo this, Nat.div_eq_of_lt hN] at h; exact h
    · obtain ⟨j, rfl⟩ : ∃ j, k = 64 + j := ⟨k - 64, by omega⟩
      have hpj := Nat.two_pow_pos j
      have hPQ : 2 ^ j * 2 ^ (64 - j) = 18446744073709551616 := by rw [← Nat.pow_add, show j + (64 - j) = 64 by omega]
      have e128 : lN a <<< ((nI 128 - iZ ((64 + j : Nat) : Int)).toInt64 &&& 63) = lN (a * 2 ^ (64 - j)) := by
        rw [nI_z, iZ_sub, lN_shl (by omega) (by omega)]; congr 3; omega
      have esh : ((lN a).toUInt64 >>> ((iZ ((64 + j : Nat) : Int) - nI 64).toInt64.toUInt64 &&& Int64.toUInt64 63)).toInt64 = lN (a / 2 ^ j) := by
        rw [nI_z, iZ_sub, lN_shr ha (by omega) (by omega)]; congr 3; omega
      have hz := (zlow_a (a := 0) (b := a) hpj hPQ ha).2.2.2.2
      have hdm : (a * 18446744073709551616 + b) % 2 ^ (64 + j) = b + 18446744073709551616 * (a % 2 ^ j) := by
        rw [Nat.pow_add, Nat.mod_mul, show (2 : Nat) ^ 64 = 18446744073709551616 from rfl]
        rw [show (a * 18446744073709551616 + b) % 18446744073709551616 = b by omega, show (a * 18446744073709551616 + b) / 18446744073709551616 = a by omega]
      have hdd : (a * 18446744073709551616 + b) / 2 ^ (64 + j) = a / 2 ^ j := by
        rw [Nat.pow_add, ← Nat.div_div_eq_div_mul, show (2 : Nat) ^ 64 = 18446744073709551616 from rfl, show (a * 18446744073709551616 + b) / 18446744073709551616 = a by omega]
      have hlt : a / 2 ^ j < 18446744073709551616 := Nat.lt_of_le_of_lt (Nat.div_le_self _ _) ha
      have one : (a * 18446744073709551616 + b) % 2 ^ (64 + j) ≠ 0 → K (some (.long (lN (a / 2 ^ j) ||| lN 1))) S := fun hne => by
        rw [zjm_lo hne, hdd, Nat.mod_eq_of_lt hlt] at h
        rw [zor_1 hlt]; exact h
      rw [e128, esh, zlN0', hz, zlN0', Nat.mod_eq_of_lt hb]
      refine ⟨fun h0 => one (by rw [hdm]; omega), fun h0 => ⟨fun h1 => ?_, fun h1 => one (by rw [hdm]; omega)⟩⟩
      have h0 := Classical.not_not.mp h0
      rw [zjm_0 (by rw [hdm, h0, h1]), hdd, Nat.mod_eq_of_lt hlt] at h; exact h
    · have hn := Classical.not_not.mp hn
      subst hn
      have e1 : (a * 18446744073709551616 + b) % 2 ^ 64 = b := by omega
      have e2 : (a * 18446744073709551616 + b) / 2 ^ 64 = a := by omega
      rw [zlN0', Nat.mod_eq_of_lt hb, zor_1 ha]
      refine ⟨fun h0 => ?_, fun h0 => ?_⟩
      · rw [zjm_0 (by rw [e1]; exact h0), e2, Nat.mod_eq_of_lt ha] at h; exact h
      · rw [zjm_lo (by rw [e1]; exact h0), e2, Nat.mod_eq_of_lt ha] at h; exact h
    · have hp := Nat.two_pow_pos k
      have hPQ : 2 ^ k * 2 ^ (64 - k) = 18446744073709551616 := by rw [← Nat.pow_add, show k + (64 - k) = 64 by omega]
      obtain ⟨w1, w2, w3, w4, w5⟩ := zlow_a (a := a) (b := b) hp hPQ hb
      have hsh : ∀ c, lN c <<< ((nI 64 - iZ (k : Int)).toInt64 &&& 63) = lN (c * 2 ^ (64 - k)) := fun c => by
        rw [nI_z, iZ_sub, lN_shl (by omega) (by omega)]; congr 3; omega
      have hsr : ((lN b).toUInt64 >>> ((iZ (k : Int)).toInt64.toUInt64 &&& Int64.toUInt64 63)).toInt64 = lN (b / 2 ^ k) := by
        rw [lN_shr hb (by omega) (by omega)]; rfl
      have hor : lN (a * 2 ^ (64 - k)) ||| lN (b / 2 ^ k) = lN ((a % 2 ^ k) * 2 ^ (64 - k) + b / 2 ^ k) := by
        rw [wb_mod (a * 2 ^ (64 - k)), show (2 : Nat) ^ 64 = 18446744073709551616 from rfl, w4]
        exact g_or rfl w3 (by rw [← w2]; exact Nat.mod_lt _ (by decide))
      rw [hsh, hsh, hsr, hor, ← w2, zlN0', w5]
      refine ⟨fun h0 => ?_, fun h0 => ?_⟩
      · rw [zjm_0 (by rw [w1]; exact h0)] at h; exact h
      · rw [zjm_lo (by rw [w1]; exact h0)] at h
        rw [zor_1 (Nat.mod_lt _ (by decide))]; exact h
  · refine ⟨fun h => absurd h hk0, fun _ => ?_⟩
    obtain rfl : k = 0 := by omega
    rw [zjm_0 (Nat.mod_one _), Nat.pow_zero, Nat.div_one, show (a * 18446744073709551616 + b) % 18446744073709551616 = b by omega] at h
    exact h
end ZDBL5
