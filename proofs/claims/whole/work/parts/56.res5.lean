/-! the class's residuals: boundOf */ -/
section ZRES5
theorem zrb_ge {A : Nat} {e : Int} (h : 2 ^ 52 ≤ A * 2 ^ (e + 1074).toNat) (he : -1074 ≤ e) (up : Bool) : 4503599627370496 ≤ zrb up A 1 e := by
  have hA : 0 < A := by
    refine Nat.pos_of_ne_zero fun h0 => ?_
    rw [h0, Nat.zero_mul] at h; omega
  obtain ⟨h1, h2⟩ := zqu_bd (up := up) (A := A) (B := 1) (e := e) hA (by decide)
  have hq := zqu_ge A 1 e
  unfold zrb
  rw [if_neg (by omega)]
  split
  · by_cases h3 : zqu A 1 e = -1074
    · have e1 : FP.Core.unitsNum A e (-1074) = A * 2 ^ (e + 1074).toNat := by unfold FP.Core.unitsNum; rw [show e - -1074 = e + 1074 by omega]
      have e2 : FP.Core.unitsDen 1 e (-1074) = 1 := by unfold FP.Core.unitsDen; rw [show ((-1074 : Int) - e).toNat = 0 by omega]
      have q := zrn_ge (up := up) (x := FP.Core.unitsNum A e (zqu A 1 e)) (y := FP.Core.unitsDen 1 e (zqu A 1 e)) (M := 4503599627370496) (by rw [h3, e2]; decide) (by rw [h3, e1, e2]; omega)
      omega
    · rcases h2 with h2 | h2
      · exact absurd h2 h3
      · omega
  · omega
/-- 1 less a number below 1 -/
theorem zone_sub {G : UInt64} (h : G.toNat < 4607182418800017408) : 4503599627370496 ≤ (FP.dadd 4607182418800017408 (zUng G)).toNat ∧ (FP.dadd 4607182418800017408 (zUng G)).toNat ≤ 9218868437227405312 := by
  have f1 : zUf 4607182418800017408 = true := by decide
  have n1 : (4607182418800017408 : UInt64).toNat = 4607182418800017408 := rfl
  have hG : zUf G = true := by rw [zUf_m]; omega
  have f2 : zUf (zUng G) = true := by rw [zUf_m, zUng_n, zng_mag (zu_lt G)]; omega
  have fa := f1
  have fb := f2
  rw [zUf_t] at fa fb
  rw [zdadd_n f1 f2, zadd_bits (zu_lt _) (zu_lt _) fa fb, zUng_n, zng_mt (zu_lt G), zng_sg (zu_lt G), n1]
  have es : zsc (zng G.toNat) = zsc G.toNat := by unfold zsc; rw [zng_E (zu_lt G)]
  have s1 : zsg 4607182418800017408 = false := by decide
  have s2 : zsg G.toNat = false := decide_eq_false (by omega)
  have m1 : zmt 4607182418800017408 = 4503599627370496 := by decide
  have c1 : zsc 4607182418800017408 = -52 := by decide
  have gE : zfE G.toNat ≤ 1022 := by unfold zfE; omega
  have gs : -1074 ≤ zsc G.toNat ∧ zsc G.toNat ≤ -53 := ⟨zsc_ge _, by unfold zsc; split <;> omega⟩
  have gm := zmt_lt G.toNat
  rw [es, s1, s2, m1, c1]
  have hmin : min (-52) (zsc G.toNat) = zsc G.toNat := by omega
  rw [hmin]
  obtain ⟨k, hk⟩ : ∃ k : Nat, zsc G.toNat = -(k : Int) - 53 := ⟨(-(zsc G.toNat) - 53).toNat, by omega⟩
  have hk2 : k ≤ 1021 := by omega
  have ev : FP.Core.sumUnits false 4503599627370496 (-52) (!false) (zmt G.toNat) (zsc G.toNat) (zsc G.toNat) = (9007199254740992 * 2 ^ k : Nat) - (zmt G.toNat : Int) := by
    unfold FP.Core.sumUnits FP.Core.inUnits
    have e1 : ((-52 : Int) - zsc G.toNat).toNat = k + 1 := by omega
    rw [e1, Int.sub_self, zsigF, show (!false) = true from rfl, zsigT, Nat.pow_succ]
    show (_ : Int) + -(((zmt G.toNat * 1 : Nat)) : Int) = _
    rw [Nat.mul_one]
    have e2 : 4503599627370496 * (2 ^ k * 2) = 9007199254740992 * 2 ^ k := by omega
    rw [e2]; omega
  have hp := Nat.two_pow_pos k
  rw [ev]
  have hpos : 0 < ((9007199254740992 * 2 ^ k : Nat) : Int) - (zmt G.toNat : Int) := by omega
  have hs : FP.Core.sumSign false (!false) (((9007199254740992 * 2 ^ k : Nat) : Int) - (zmt G.toNat : Int)) = false := by
    rw [zsumSign_ne (by omega)]; exact decide_eq_false (by omega)
  have hA : (((9007199254740992 * 2 ^ k : Nat) : Int) - (zmt G.toNat : Int)).natAbs = 9007199254740992 * 2 ^ k - zmt G.toNat := by omega
  rw [hs, hA]
  have hge : 2 ^ k ≤ 9007199254740992 * 2 ^ k - zmt G.toNat := by
    by_cases h0 : k = 0
    · rw [h0]; omega
    · have : 2 ≤ 2 ^ k := by
        have := Nat.pow_le_pow_right (show 0 < 2 by decide) (show 1 ≤ k by omega)
        omega
      omega
  have q := zrb_ge (A := 9007199254740992 * 2 ^ k - zmt G.toNat) (e := zsc G.toNat) (by
    have e1 : (zsc G.toNat + 1074).toNat = 1021 - k := by omega
    rw [e1]
    have := Nat.mul_le_mul_right (2 ^ (1021 - k)) hge
    rw [← Nat.pow_add, show k + (1021 - k) = 1021 by omega] at this
    have h52 : 2 ^ 52 ≤ 2 ^ 1021 := Nat.pow_le_pow_right (by decide) (by decide)
    omega) gs.1 false
  have q2 := zrb_le false (9007199254740992 * 2 ^ k - zmt G.toNat) (B := 1) (by decide) (zsc G.toNat)
  show _ ≤ 0 * 9223372036854775808 + _ ∧ 0 * 9223372036854775808 + _ ≤ _
  omega
theorem zru_n (N : Nat) : (zru N).toNat = zrb true N 1 (-2176) := by
  have := zrb_le true N (B := 1) (by decide) (-2176)
  unfold zru zout
  rw [zu_of (by show 0 * 9223372036854775808 + _ < _; omega)]
  show 0 * 9223372036854775808 + _ = _
  omega
theorem zru_lt (N : Nat) : (zru N).toNat < 9223372036854775808 := by rw [zru_n]; have := zrb_le true N (B := 1) (by decide) (-2176); omega
def zbnF (n : Nat) (g : Nat → Nat → UInt64) (G q : UInt64) : UInt64 := match zsb n n g with
  | none => 13830554455654793216
  | some m => if zUf q = true then (if zUf (zUnx (FP.dmul m q)) = true then (if zUf (zUnx (FP.ddiv (zUnx (FP.dmul m q)) (FP.dadd 4607182418800017408 (zUng G) - 1))) = true then zUnx (FP.ddiv (zUnx (FP.dmul m q)) (FP.dadd 4607182418800017408 (zUng G) - 1)) else 13830554455654793216) else 13830554455654793216) else 13830554455654793216
def zbnd (n : Nat) (g w : Nat → Nat → UInt64) (s rr : Nat → UInt64) : UInt64 :=
  if (zru (zgN g w n)).toNat < 4607182418800017408 then zbnF n g (zru (zgN g w n)) (zru (zmxN (fun i => zrv (w i) s (rr i) n) n)) else 13830554455654793216
def ct_X5_boundOf : zCt := (fun av S K => ∃ o : Nat, ∃ x : Nat, ∃ y : Nat, ∃ a : Nat, ∃ b : Nat, av = [.ref o, .ref x, .ref y, .ref a, .ref b] ∧ (∃ (n : Nat) (g w : Nat → Nat → UInt64) (s rr : Nat → UInt64), (zRok S o ∧ zMag S x n n g ∧ zMag S y n n w ∧ (zSh S a = (22, 8) ∧ zSh S b = (22, 8)) ∧ (∀ i j, i < n → j < n → zUf (g i j) = true ∧ zUf (w i j) = true) ∧ (∀ j, j < n → zJ S a j = zuJ (s j) ∧ zUf (s j) = true) ∧ (∀ i, i < n → zJ S b i = zuJ (rr i) ∧ zUf (rr i) = true) ∧ zom (n ≤ 8 ∧ o + 13 < x ∧ o + 13 < y ∧ o + 13 < a ∧ o + 13 < b)) ∧ ∀ T, zGr (fun b => o + 1 ≤ b ∧ b ≤ o + 13) S T → zRok T o → K (some (.long (zuJ (zbnd n g w s rr)))) T), 0, 0)
theorem zc_X5_boundOf {S : zS} {K : Option Value → zS → Prop} {o : Nat} {x : Nat} {y : Nat} {a : Nat} {b : Nat} : ct_X5_boundOf.1 [.ref o, .ref x, .ref y, .ref a, .ref b] S K = (∃ (n : Nat) (g w : Nat → Nat → UInt64) (s rr : Nat → UInt64), (zRok S o ∧ zMag S x n n g ∧ zMag S y n n w ∧ (zSh S a = (22, 8) ∧ zSh S b = (22, 8)) ∧ (∀ i j, i < n → j < n → zUf (g i j) = true ∧ zUf (w i j) = true) ∧ (∀ j, j < n → zJ S a j = zuJ (s j) ∧ zUf (s j) = true) ∧ (∀ i, i < n → zJ S b i = zuJ (rr i) ∧ zUf (rr i) = true) ∧ zom (n ≤ 8 ∧ o + 13 < x ∧ o + 13 < y ∧ o + 13 < a ∧ o + 13 < b)) ∧ ∀ T, zGr (fun b => o + 1 ≤ b ∧ b ≤ o + 13) S T → zRok T o → K (some (.long (zuJ (zbnd n g w s rr)))) T) := propext ⟨fun ⟨z0, z1, z2, z3, z4, e, h⟩ => by cases e; exact h, fun h => ⟨o, x, y, a, b, rfl, h⟩⟩
theorem zn_X5_boundOf : ct_X5_boundOf.2.1 = 0 := rfl
theorem zs_X5_boundOf : ct_X5_boundOf.2.2 = 0 := rfl
theorem met_X5_boundOf (l : Launch) (G : zG) : zMet l G q_X5_boundOf ct_X5_boundOf := by
  refine zmk 5 false cal_X5_boundOf bl_X5_boundOf pl_X5_boundOf [ct_X5_gapOf, ct_X5_sumAbove, ct_X5_greatestUp, ct_X0_finite, ct_X0_plus, ct_X0_times, ct_X0_above, ct_X0_over] ck_X5_boundOf nm_X5_boundOf ⟨rfl, rfl⟩ wd_X5_boundOf (⟨⟨met_X5_gapOf l G, rfl, rfl⟩, ⟨⟨met_X5_sumAbove l G, rfl, rfl⟩, ⟨⟨met_X5_greatestUp l G, rfl, rfl⟩, ⟨⟨met_X0_finite l G, rfl, rfl⟩, ⟨⟨met_X0_plus l G, rfl, rfl⟩, ⟨⟨met_X0_times l G, rfl, rfl⟩, ⟨⟨met_X0_above l G, rfl, rfl⟩, ⟨⟨met_X0_over l G, rfl, rfl⟩, trivial⟩⟩⟩⟩⟩⟩⟩⟩) ?_
  intro X av S K h
  obtain ⟨o, x, y, a, b, rfl, h⟩ := h
  refine ⟨Nat.le_of_ble_eq_true rfl, fun hX => ?_⟩
  show X 0 [some (.ref o), some (.ref x), some (.ref y), some (.ref a), some (.ref b), none, none, none, none, none, none, none, none, none, none, none, none] [] S 0 0
  obtain ⟨n, g, w, s, rr, ⟨hok, hm, hmy, ⟨sa, sb⟩, hfin, hs, hr, hom⟩, hK⟩ := h
  have ⟨hn8, hx, hy, ha, hb⟩ : n ≤ 8 ∧ o + 13 < x ∧ o + 13 < y ∧ o + 13 < a ∧ o + 13 < b := hom
  have l1 : lN 13830554455654793216 = zuJ 13830554455654793216 := rfl
  have l2 : lN 4607182418800017408 = zuJ 4607182418800017408 := rfl
  have sb1 : ∀ z : UInt64, zuJ z - lN 1 = zuJ (z - 1) := fun z => rfl
  have glt : ∀ N, (zuJ (zru N) < zuJ 4607182418800017408) = ((zru N).toNat < 4607182418800017408) := fun N => by
    rw [← l2, ← lN_un (zuJ (zru N)), zuJ_un, zL_lt (zru_lt N) (by decide)]
  unfold zbnd at hK
  refine hX 1000 _ _ _ _ _ _ ?_
  simp +contextual (disch := omega) only [wzq_nop, wzq_nop0, wzq_null, wzq_iconst, wzq_bipush, wzq_sipush, wzq_ldc, wzq_ldc_w, wzq_lconst, wzq_dconst, wzq_ldc2, wzq_ldc2d, wzq_istore, wzq_istore_n0, wzq_istore_n1, wzq_istore_n2, wzq_istore_n3, wzq_lstore, wzq_lstore_n0, wzq_lstore_n1, wzq_lstore_n2, wzq_lstore_n3, wzq_dstore, wzq_dstore_n0, wzq_dstore_n1, wzq_dstore_n2, wzq_dstore_n3, wzq_astore, wzq_astore_n0, wzq_astore_n1, wzq_astore_n2, wzq_astore_n3, wzq_iadd, wzq_isub, wzq_imul, wzq_iand, wzq_ior, wzq_ishr, wzq_iushr, wzq_idiv, wzq_irem, wzq_ineg, wzq_ladd, wzq_lsub, wzq_lmul, wzq_land, wzq_lor, wzq_lxor, wzq_ldiv, wzq_lrem, wzq_lneg, wzq_lshl, wzq_lshr, wzq_lushr, wzq_i2l, wzq_l2i, wzq_lcmp, wzq_dcmp, wzq_dadd, wzq_dsub, wzq_dmul, wzq_ddiv, wzq_dneg, wzq_dup, wzq_pop, wzq_pop2, wzq_dup2J, wzq_dup2D, wzq_dup2I, wzq_goto0, wzq_goto1, wzq_if_eq0, wzq_if_eq1, wzq_icmp_eq0, wzq_icmp_eq1, wzq_if_ne0, wzq_if_ne1, wzq_icmp_ne0, wzq_icmp_ne1, wzq_if_lt0, wzq_if_lt1, wzq_icmp_lt0, wzq_icmp_lt1, wzq_if_ge0, wzq_if_ge1, wzq_icmp_ge0, wzq_icmp_ge1, wzq_if_gt0, wzq_if_gt1, wzq_icmp_gt0, wzq_icmp_gt1, wzq_if_le0, wzq_if_le1, wzq_icmp_le0, wzq_icmp_le1, wzq_ifnull0, wzq_ifnull1, wzq_ifnull_a, wzq_ifnull_b, wzq_ifnonnull0, wzq_ifnonnull1, wzq_ifnonnull_a, wzq_ifnonnull_b, wzq_table, wzq_getfield, wzq_alen, wzq_iaload, wzq_baload, wzq_laload, wzq_daload, wzq_aaload, wzq_iastore, wzq_bastore, wzq_lastore, wzq_dastore, wzq_aastore, wzq_new, wzq_newarray, wzq_anewarray, wzq_d2l, wzq_l2d, wzq_mmax, wzq_mmin, wzq_mmaxl, wzq_mabs, wzq_objInit, wzq_ireturn, wzq_lreturn, wzq_dreturn, wzq_areturn, wzq_return, znth0, zst1_0, zst2_0, znth1, zst1_1, zst2_1, znth2, zst1_2, zst2_2, znth3, zst1_3, zst2_3, znth4, zst1_4, zst2_4, znth5, zst1_5, zst2_5, znth6, zst1_6, zst2_6, znth7, zst1_7, zst2_7, znth8, zst1_8, zst2_8, znth9, zst1_9, zst2_9, znth10, zst1_10, zst2_10, znth11, zst1_11, zst2_11, znth12, zst1_12, zst2_12, znth13, zst1_13, zst2_13, znth14, zst1_14, zst2_14, znth15, zst1_15, zst2_15, znth16, zst1_16, zst2_16, znth17, zst1_17, zst2_17, znth18, zst1_18, zst2_18, znth19, zst1_19, zst2_19, znth20, zst1_20, zst2_20, znth21, zst1_21, zst2_21, znth22, zst1_22, zst2_22, znth23, zst1_23, zst2_23, znth24, zst1_24, zst2_24, znth25, zst1_25, zst2_25, zkill_n, zkill_int, zkill_ref, zkill_null, zkill_long, zkill_double, zkill_rf, zref_s, zref_n, zref_rf, va_rf_s, va_rf_n, zget0, zget1, zget2, zget3, zget4, zget5, zget6, zget7, zget8, zget9, zget10, zget11, zget12, zget13, zget14, zget15, zget16, zget17, zget18, zget19, zget20, zget21, zget22, zget23, zget24, zget25, zwt_0, zwt_int, zcat_int, zwt_ref, zcat_ref, zwt_long, zcat_long, zwt_double, zcat_double, zwt_null, zwt_rf, zcat_null, zcat_rf, ztl_s, ztl_n, zfI, zfZ, zfJ, zfD, zfO, zfA, zsw_0, zsw_s, zYX1_0, zYX1_1, zYX1_2, zYX1_3, zYX1_4, zYX1_5, zYX1_6, zYX1_7, zYX1_8, zYX1_9, zYX1_10, zYX1_11, zYX1_12, zYX1_13, zYX1_14, zNX1, zYX2_0, zYX2_1, zYX2_2, zYX2_3, zYX2_4, zYX2_5, zYX2_6, zYX2_7, zYX2_8, zYX2_9, zYX2_10, zNX2, zYX3_0, zYX3_1, zYX3_2, zYX3_3, zYX3_4, zYX3_5, zYX3_6, zNX3, zYX4_0, zYX4_1, zYX4_2, zYX4_3, zYX4_4, zYX4_5, zNX4, zYX5_0, zYX5_1, zYX5_2, zYX5_3, zYX5_4, zYX5_5, zYX5_6, zYX5_7, zYX5_8, zNX5, zYX6_0, zYX6_1, zYX6_2, zYX6_3, zYX6_4, zNX6, zYX7_0, zYX7_1, zYX7_2, zYX7_3, zNX7, zYX8_0, zYX8_1, zYX8_2, zNX8, zYX9_0, zYX9_1, zYX9_2, zNX9, zYX10_0, zYX10_1, zYX10_2, zYX10_3, zYX10_4, zYX10_5, zYX10_6, zYX10_7, zYX10_8, zNX10, zYX11_0, zYX11_1, zYX11_2, zYX11_3, zYX11_4, zYX11_5, zYX11_6, zYX11_7, zYX11_8, zYX11_9, zYX11_10, zYX11_11, zYX11_12, zYX11_13, zYX11_14, zYX11_15, zYX11_16, zYX11_17, zYX11_18, zYX11_19, zYX11_20, zYX11_21, zYX11_22, zYX11_23, zYX11_24, zYX11_25, zYX11_26, zYX11_27, zYX11_28, zYX11_29, zYX11_30, zYX11_31, zYX11_32, zYX11_33, zYX11_34, zYX11_35, zYX11_36, zYX11_37, zYX11_38, zYX11_39, zYX11_40, zYX11_41, zYX11_42, zYX11_43, zYX11_44, zYX11_45, zYX11_46, zYX11_47, zYX11_48, zYX11_49, zYX11_50, zYX11_51, zYX11_52, zYX11_53, zYX11_54, zYX11_55, zYX11_56, zYX11_57, zNX11, zend_i, zend_l, zend_d, zend_o, zend_v, wzend_z, znle, zisI_s, zgI_s, zisJ_s, zgJ_s, zisD_s, zgD_s, zisA_s, zgA_s, zpokI, zpstI, zpokZ, zpstZ, zpokJ, zpstJ, zpokD, zpstD, zpokO, zpstO, zpokOn, zpstOn, zpokA, zpstA, zpokAn, zpstAn, zpk_0, zptk_0, zpdr_0, zpk_1, zptk_1, zpdr_1, zpk_2, zptk_2, zpdr_2, zpk_3, zptk_3, zpdr_3, zpk_4, zptk_4, zpdr_4, zpk_5, zptk_5, zpdr_5, zpk_6, zptk_6, zpdr_6, zpk_7, zptk_7, zpdr_7, zpk_8, zptk_8, zpdr_8, zisR_s, zgR_s, ztlR_s, zisC_s, zgC_s, zkont_s, zkont_n, zw_iload, zw_iload_n0, zw_iload_n1, zw_iload_n2, zw_iload_n3, zw_lload, zw_lload_n0, zw_lload_n1, zw_lload_n2, zw_lload_n3, zw_dload, zw_dload_n0, zw_dload_n1, zw_dload_n2, zw_dload_n3, zw_aload, zw_aload_n0, zw_aload_n1, zw_aload_n2, zw_aload_n3, zw_iinc, zw_putfield, zw_callS, zw_callV, zw_callI, q_X5_boundOf, ct_X5_boundOf, zc_X5_gapOf, zn_X5_gapOf, zs_X5_gapOf, zc_X5_sumAbove, zn_X5_sumAbove, zs_X5_sumAbove, zc_X5_greatestUp, zn_X5_greatestUp, zs_X5_greatestUp, zcu_X0_finite, zn_X0_finite, zs_X0_finite, zcu_X0_plus, zn_X0_plus, zs_X0_plus, zcu_X0_times, zn_X0_times, zs_X0_times, zcu_X0_above, zn_X0_above, zs_X0_above, zcu_X0_over, zn_X0_over, zs_X0_over, b_X5_boundOf_0, b_X5_boundOf_21, b_X5_boundOf_53, b_X5_boundOf_57, b_X5_boundOf_97, b_X5_boundOf_122, b_X5_boundOf_125, k_X5_boundOf_0, k_X5_boundOf_21, k_X5_boundOf_53, k_X5_boundOf_57, k_X5_boundOf_97, k_X5_boundOf_122, k_X5_boundOf_125, true_or, or_true, zrz_1, zrz_0, zrz_b, true_and, and_true, Nat.reduceAdd, Nat.reduceLeDiff, Nat.reduceMul, Nat.le_refl, Nat.add_zero, Nat.zero_add, zP5_k hok.1, Classical.not_not, Bool.not_eq_false, Bool.not_eq_true, zN_add, zN_sub, zN_mul, zN_le, zN_lt, zN_eq, zix_nI, zin_n, zinI_n, zinR_n, zlt_t, zom_t, zLsr, zLsh, zand_low, zL_add, zL_mul, zL_lt, zL_le, zL_sub, zL_div, zN_div, zL_e0, zL_n0, zN_n0, zN11, zN00, false_or, or_false, zZN_add, zNZ_add, zZN_sub, zNZ_sub, zZN_lt, zZN_le, zNZ_lt, zNZ_le, zZN_eq, zZZ_lt, zZZ_le, zZZ_eq, zN_32, Nat.reducePow, Nat.reduceMod, Nat.reduceDiv, zlc_eq, zlc_lt, zlc_ge, zlc_gt, zlc_le, bI_0, zbo_b, zbo_1, zbo_0, zuJ_inj, nI_nat, eq_self, Nat.reduceEqDiff, Nat.reduceSub, zI_sI_eq, zI_sI_ne, zJ_sJ_eq, zJ_sJ_ne, zD_sD_eq, zD_sD_ne, zR_sR_eq, zR_sR_ne, zJ_sI, zR_sI, zSh_sI, zNx_sI, zD_sI, zI_sJ, zR_sJ, zSh_sJ, zNx_sJ, zD_sJ, zI_sD, zJ_sD, zR_sD, zSh_sD, zNx_sD, zI_sR, zJ_sR, zD_sR, zSh_sR, zNx_sR, if_true, if_false, ite_true, ite_false, not_true, not_false_eq_true, forall_const, false_implies, true_implies, implies_true, zN_shr, zN_m31, jZ_low, jZ_add, jZ_sub, jZN_mul]
  refine ⟨n, g, w, ⟨hok, hm, hmy, hfin, by unfold zom; omega⟩, fun T hg rk => ?_⟩
  have hmT := zMag_gr hg (by omega) (by omega) hm
  have hmyT := zMag_gr hg (by omega) (by omega) hmy
  have g13 : zGr (fun b => o + 1 ≤ b ∧ b ≤ o + 13) S T := hg.mono (fun b hb => by omega)
  have hKT := hK T g13 rk
  generalize hG : zru (zgN g w n) = G at hKT glt hK
  have glt' : (zuJ G < lN 4607182418800017408) = (G.toNat < 4607182418800017408) := by rw [← hG, l2, glt]
  have sa' : zSh T a = (22, 8) := by rw [hg.1]; exact sa
  have sb' : zSh T b = (22, 8) := by rw [hg.1]; exact sb
  have hs' : ∀ j, j < n → zJ T a j = zuJ (s j) ∧ zUf (s j) = true := fun j hj => by rw [(hg.2.2.2 a (by omega)).2.1]; exact hs j hj
  have hr' : ∀ i, i < n → zJ T b i = zuJ (rr i) ∧ zUf (rr i) = true := fun j hj => by rw [(hg.2.2.2 b (by omega)).2.1]; exact hr j hj
  have kk := zP5_k rk.1
  have fin2 : ∀ i j, i < n → j < n → zUf (w i j) = true := fun i j hi hj => (hfin i j hi hj).2
  have hz : zom (n ≤ 8 ∧ n ≤ 8 ∧ o + 13 < y ∧ o + 13 < a ∧ o + 13 < b) := by unfold zom; omega
  refine ⟨fun h => ⟨n, n, g, ⟨hmT, fun i j hi hj => (hfin i j hi hj).1, by unfold zom; omega⟩, fun m hm1 hm2 hm3 => ⟨kk, n, n, w, s, rr, ⟨hmyT, ⟨sa', sb'⟩, fin2, hs', hr', hz⟩, fun T1 g1 rk1 => ?_⟩, fun hn v hv => ⟨kk, n, n, w, s, rr, ⟨hmyT, ⟨sa', sb'⟩, fin2, hs', hr', hz⟩, fun T1 g1 rk1 => ?_⟩⟩, fun h => ?_⟩
  · rw [glt'] at h
    have hK1 := hK T1 (g13.trans (g1.mono (fun b hb => by omega))) rk1
    rw [if_pos h] at hK1
    unfold zbnF at hK1
    rw [hm1] at hK1
    dsimp only at hK1
    obtain ⟨d1, d2⟩ := zone_sub h
    generalize hq : zru (zmxN (fun i => zrv (w i) s (rr i) n) n) = q at hK1 ⊢
    refine ⟨fun h => absurd h (by decide), fun hqf => ?_, fun hqf => ?_⟩
    · rw [if_pos hqf] at hK1
      have f1 : zUf 4607182418800017408 = true := by decide
      have hGf : zUf G = true := by rw [zUf_m]; omega
      have f2 : zUf (zUng G) = true := by rw [zUf_m, zUng_n, zng_mag (zu_lt G)]; rw [zUf_m] at hGf; exact hGf
      obtain ⟨D, hD⟩ : ∃ D, FP.dadd 4607182418800017408 (zUng G) - 1 = D := ⟨_, rfl⟩
      have hDn : D.toNat = (FP.dadd 4607182418800017408 (zUng G)).toNat - 1 := by
        rw [← hD, UInt64.toNat_sub_of_le]
        · rfl
        · rw [UInt64.le_iff_toNat_le]; show 1 ≤ _; omega
      have f3 : zUf D = true := by rw [zUf_m]; omega
      have f4 : zUn D = true := by rw [zUn_t]; intro h0; rw [zmt_0] at h0; omega
      rw [hD] at hK1
      simp (disch := omega) only [wzq_nop, wzq_nop0, wzq_null, wzq_iconst, wzq_bipush, wzq_sipush, wzq_ldc, wzq_ldc_w, wzq_lconst, wzq_dconst, wzq_ldc2, wzq_ldc2d, wzq_istore, wzq_istore_n0, wzq_istore_n1, wzq_istore_n2, wzq_istore_n3, wzq_lstore, wzq_lstore_n0, wzq_lstore_n1, wzq_lstore_n2, wzq_lstore_n3, wzq_dstore, wzq_dstore_n0, wzq_dstore_n1, wzq_dstore_n2, wzq_dstore_n3, wzq_astore, wzq_astore_n0, wzq_astore_n1, wzq_astore_n2, wzq_astore_n3, wzq_iadd, wzq_isub, wzq_imul, wzq_iand, wzq_ior, wzq_ishr, wzq_iushr, wzq_idiv, wzq_irem, wzq_ineg, wzq_ladd, wzq_lsub, wzq_lmul, wzq_land, wzq_lor, wzq_lxor, wzq_ldiv, wzq_lrem, wzq_lneg, wzq_lshl, wzq_lshr, wzq_lushr, wzq_i2l, wzq_l2i, wzq_lcmp, wzq_dcmp, wzq_dadd, wzq_dsub, wzq_dmul, wzq_ddiv, wzq_dneg, wzq_dup, wzq_pop, wzq_pop2, wzq_dup2J, wzq_dup2D, wzq_dup2I, wzq_goto0, wzq_goto1, wzq_if_eq0, wzq_if_eq1, wzq_icmp_eq0, wzq_icmp_eq1, wzq_if_ne0, wzq_if_ne1, wzq_icmp_ne0, wzq_icmp_ne1, wzq_if_lt0, wzq_if_lt1, wzq_icmp_lt0, wzq_icmp_lt1, wzq_if_ge0, wzq_if_ge1, wzq_icmp_ge0, wzq_icmp_ge1, wzq_if_gt0, wzq_if_gt1, wzq_icmp_gt0, wzq_icmp_gt1, wzq_if_le0, wzq_if_le1, wzq_icmp_le0, wzq_icmp_le1, wzq_ifnull0, wzq_ifnull1, wzq_ifnull_a, wzq_ifnull_b, wzq_ifnonnull0, wzq_ifnonnull1, wzq_ifnonnull_a, wzq_ifnonnull_b, wzq_table, wzq_getfield, wzq_alen, wzq_iaload, wzq_baload, wzq_laload, wzq_daload, wzq_aaload, wzq_iastore, wzq_bastore, wzq_lastore, wzq_dastore, wzq_aastore, wzq_new, wzq_newarray, wzq_anewarray, wzq_d2l, wzq_l2d, wzq_mmax, wzq_mmin, wzq_mmaxl, wzq_mabs, wzq_objInit, wzq_ireturn, wzq_lreturn, wzq_dreturn, wzq_areturn, wzq_return, znth0, zst1_0, zst2_0, znth1, zst1_1, zst2_1, znth2, zst1_2, zst2_2, znth3, zst1_3, zst2_3, znth4, zst1_4, zst2_4, znth5, zst1_5, zst2_5, znth6, zst1_6, zst2_6, znth7, zst1_7, zst2_7, znth8, zst1_8, zst2_8, znth9, zst1_9, zst2_9, znth10, zst1_10, zst2_10, znth11, zst1_11, zst2_11, znth12, zst1_12, zst2_12, znth13, zst1_13, zst2_13, znth14, zst1_14, zst2_14, znth15, zst1_15, zst2_15, znth16, zst1_16, zst2_16, znth17, zst1_17, zst2_17, znth18, zst1_18, zst2_18, znth19, zst1_19, zst2_19, znth20, zst1_20, zst2_20, znth21, zst1_21, zst2_21, znth22, zst1_22, zst2_22, znth23, zst1_23, zst2_23, znth24, zst1_24, zst2_24, znth25, zst1_25, zst2_25, zkill_n, zkill_int, zkill_ref, zkill_null, zkill_long, zkill_double, zkill_rf, zref_s, zref_n, zref_rf, va_rf_s, va_rf_n, zget0, zget1, zget2, zget3, zget4, zget5, zget6, zget7, zget8, zget9, zget10, zget11, zget12, zget13, zget14, zget15, zget16, zget17, zget18, zget19, zget20, zget21, zget22, zget23, zget24, zget25, zwt_0, zwt_int, zcat_int, zwt_ref, zcat_ref, zwt_long, zcat_long, zwt_double, zcat_double, zwt_null, zwt_rf, zcat_null, zcat_rf, ztl_s, ztl_n, zfI, zfZ, zfJ, zfD, zfO, zfA, zsw_0, zsw_s, zYX1_0, zYX1_1, zYX1_2, zYX1_3, zYX1_4, zYX1_5, zYX1_6, zYX1_7, zYX1_8, zYX1_9, zYX1_10, zYX1_11, zYX1_12, zYX1_13, zYX1_14, zNX1, zYX2_0, zYX2_1, zYX2_2, zYX2_3, zYX2_4, zYX2_5, zYX2_6, zYX2_7, zYX2_8, zYX2_9, zYX2_10, zNX2, zYX3_0, zYX3_1, zYX3_2, zYX3_3, zYX3_4, zYX3_5, zYX3_6, zNX3, zYX4_0, zYX4_1, zYX4_2, zYX4_3, zYX4_4, zYX4_5, zNX4, zYX5_0, zYX5_1, zYX5_2, zYX5_3, zYX5_4, zYX5_5, zYX5_6, zYX5_7, zYX5_8, zNX5, zYX6_0, zYX6_1, zYX6_2, zYX6_3, zYX6_4, zNX6, zYX7_0, zYX7_1, zYX7_2, zYX7_3, zNX7, zYX8_0, zYX8_1, zYX8_2, zNX8, zYX9_0, zYX9_1, zYX9_2, zNX9, zYX10_0, zYX10_1, zYX10_2, zYX10_3, zYX10_4, zYX10_5, zYX10_6, zYX10_7, zYX10_8, zNX10, zYX11_0, zYX11_1, zYX11_2, zYX11_3, zYX11_4, zYX11_5, zYX11_6, zYX11_7, zYX11_8, zYX11_9, zYX11_10, zYX11_11, zYX11_12, zYX11_13, zYX11_14, zYX11_15, zYX11_16, zYX11_17, zYX11_18, zYX11_19, zYX11_20, zYX11_21, zYX11_22, zYX11_23, zYX11_24, zYX11_25, zYX11_26, zYX11_27, zYX11_28, zYX11_29, zYX11_30, zYX11_31, zYX11_32, zYX11_33, zYX11_34, zYX11_35, zYX11_36, zYX11_37, zYX11_38, zYX11_39, zYX11_40, zYX11_41, zYX11_42, zYX11_43, zYX11_44, zYX11_45, zYX11_46, zYX11_47, zYX11_48, zYX11_49, zYX11_50, zYX11_51, zYX11_52, zYX11_53, zYX11_54, zYX11_55, zYX11_56, zYX11_57, zNX11, zend_i, zend_l, zend_d, zend_o, zend_v, wzend_z, znle, zisI_s, zgI_s, zisJ_s, zgJ_s, zisD_s, zgD_s, zisA_s, zgA_s, zpokI, zpstI, zpokZ, zpstZ, zpokJ, zpstJ, zpokD, zpstD, zpokO, zpstO, zpokOn, zpstOn, zpokA, zpstA, zpokAn, zpstAn, zpk_0, zptk_0, zpdr_0, zpk_1, zptk_1, zpdr_1, zpk_2, zptk_2, zpdr_2, zpk_3, zptk_3, zpdr_3, zpk_4, zptk_4, zpdr_4, zpk_5, zptk_5, zpdr_5, zpk_6, zptk_6, zpdr_6, zpk_7, zptk_7, zpdr_7, zpk_8, zptk_8, zpdr_8, zisR_s, zgR_s, ztlR_s, zisC_s, zgC_s, zkont_s, zkont_n, zw_iload, zw_iload_n0, zw_iload_n1, zw_iload_n2, zw_iload_n3, zw_lload, zw_lload_n0, zw_lload_n1, zw_lload_n2, zw_lload_n3, zw_dload, zw_dload_n0, zw_dload_n1, zw_dload_n2, zw_dload_n3, zw_aload, zw_aload_n0, zw_aload_n1, zw_aload_n2, zw_aload_n3, zw_iinc, zw_putfield, zw_callS, zw_callV, zw_callI, q_X5_boundOf, ct_X5_boundOf, zc_X5_gapOf, zn_X5_gapOf, zs_X5_gapOf, zc_X5_sumAbove, zn_X5_sumAbove, zs_X5_sumAbove, zc_X5_greatestUp, zn_X5_greatestUp, zs_X5_greatestUp, zcu_X0_finite, zn_X0_finite, zs_X0_finite, zcu_X0_plus, zn_X0_plus, zs_X0_plus, zcu_X0_times, zn_X0_times, zs_X0_times, zcu_X0_above, zn_X0_above, zs_X0_above, zcu_X0_over, zn_X0_over, zs_X0_over, b_X5_boundOf_0, b_X5_boundOf_21, b_X5_boundOf_53, b_X5_boundOf_57, b_X5_boundOf_97, b_X5_boundOf_122, b_X5_boundOf_125, k_X5_boundOf_0, k_X5_boundOf_21, k_X5_boundOf_53, k_X5_boundOf_57, k_X5_boundOf_97, k_X5_boundOf_122, k_X5_boundOf_125, true_or, or_true, zrz_1, zrz_0, zrz_b, true_and, and_true, Nat.reduceAdd, Nat.reduceLeDiff, Nat.reduceMul, Nat.le_refl, Nat.add_zero, Nat.zero_add, l2, zuJ_xs, sb1, f1, f2, hm2, hqf, hD, f3, f4, Classical.not_not, Bool.not_eq_false, Bool.not_eq_true, zN_add, zN_sub, zN_mul, zN_le, zN_lt, zN_eq, zix_nI, zin_n, zinI_n, zinR_n, zlt_t, zom_t, zLsr, zLsh, zand_low, zL_add, zL_mul, zL_lt, zL_le, zL_sub, zL_div, zN_div, zL_e0, zL_n0, zN_n0, zN11, zN00, false_or, or_false, zZN_add, zNZ_add, zZN_sub, zNZ_sub, zZN_lt, zZN_le, zNZ_lt, zNZ_le, zZN_eq, zZZ_lt, zZZ_le, zZZ_eq, zN_32, Nat.reducePow, Nat.reduceMod, Nat.reduceDiv, zlc_eq, zlc_lt, zlc_ge, zlc_gt, zlc_le, bI_0, zbo_b, zbo_1, zbo_0, zuJ_inj, nI_nat, eq_self, Nat.reduceEqDiff, Nat.reduceSub, zI_sI_eq, zI_sI_ne, zJ_sJ_eq, zJ_sJ_ne, zD_sD_eq, zD_sD_ne, zR_sR_eq, zR_sR_ne, zJ_sI, zR_sI, zSh_sI, zNx_sI, zD_sI, zI_sJ, zR_sJ, zSh_sJ, zNx_sJ, zD_sJ, zI_sD, zJ_sD, zR_sD, zSh_sD, zNx_sD, zI_sR, zJ_sR, zD_sR, zSh_sR, zNx_sR, if_true, if_false, ite_true, ite_false, not_true, not_false_eq_true, forall_const, false_implies, true_implies, implies_true, zN_shr, zN_m31, jZ_low, jZ_add, jZ_sub, jZN_mul]
      refine ⟨fun h1 => ⟨h1, fun h2 => ?_, fun h2 => ?_⟩, fun h1 => ?_⟩
      · rw [if_pos h1, if_neg (by rw [h2]; decide)] at hK1; exact hK1
      · rw [if_pos h1, if_pos h2] at hK1; exact hK1
      · rw [if_neg (by rw [h1]; decide)] at hK1; exact hK1
    · rw [if_neg (by rw [hqf]; decide)] at hK1; exact hK1
  · rw [glt'] at h
    have hK1 := hK T1 (g13.trans (g1.mono (fun b hb => by omega))) rk1
    rw [if_pos h] at hK1
    unfold zbnF at hK1
    rw [hn] at hK1
    exact hK1
  · rw [glt'] at h
    rw [if_neg h] at hKT; exact hKT
end ZRES5
