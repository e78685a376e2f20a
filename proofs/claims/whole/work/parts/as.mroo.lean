/-! the model's root -/
section ZMRO
theorem zrtM_b {n : Nat} (h0 : zmt n ≠ 0) : 2 ^ 52 ≤ zrtM n ∧ zrtM n < 2 ^ 54 := by
  have m2 := zfm_ge h0
  have := zfm_lt n
  unfold zrtM; split <;> omega
theorem zrt_odd {M f r : Nat} (h : M * 4 ^ 27 = f * f + r) (hf : f % 2 = 1) : 0 < r := by
  refine Nat.pos_of_ne_zero fun h0 => ?_
  rw [h0, Nat.add_zero] at h
  have e : f * f % 2 = 1 := by rw [Nat.mul_mod, hf]
  have e2 : M * 4 ^ 27 % 2 = 0 := by rw [Nat.mul_mod, show 4 ^ 27 % 2 = 0 by decide, Nat.mul_zero]
  omega
theorem zrt_q {n f r : Nat} (h0 : zmt n ≠ 0) (hX : zrtM n * 4 ^ 27 = f * f + r) (hr : r ≤ 2 * f) : zcm (f / 2 + f % 2) (zrtS n - 26) = zrt n := by
  obtain ⟨hM1, hM2⟩ := zrtM_b h0
  have od := fun h => zrt_odd hX h
  obtain ⟨R, hR⟩ : ∃ R, FP.Core.sqrtFloor (zrtM n * 4 ^ 30) = R := ⟨_, rfl⟩
  obtain ⟨q1, q2⟩ := FP.Core.sqrtFloor_spec (zrtM n * 4 ^ 30)
  rw [hR] at q1 q2
  obtain ⟨M, hM⟩ : ∃ M, zrtM n = M := ⟨_, rfl⟩
  have hS : -564 ≤ zrtS n ∧ zrtS n ≤ 600 := by have := zfsc_ge n; have := zfsc_le n; unfold zrtS; omega
  unfold zrt
  rw [hR]
  rw [hM] at hM1 hM2 hX q1 q2 ⊢
  obtain ⟨Y, hY⟩ : ∃ Y, M * 4 ^ 27 = Y := ⟨_, rfl⟩
  have e30 : M * 4 ^ 30 = 64 * Y := by rw [← hY, show (4 : Nat) ^ 30 = 4 ^ 27 * 64 from rfl, ← Nat.mul_assoc, Nat.mul_comm]
  have hge : 2 ^ 112 ≤ M * 4 ^ 30 := Nat.le_trans (by decide) (Nat.mul_le_mul_right (4 ^ 30) hM1)
  have hlt : M * 4 ^ 30 < 2 ^ 114 := (Nat.mul_lt_mul_right (show 0 < 4 ^ 30 by decide)).mpr hM2
  rw [hY] at hX
  rw [e30] at q1 q2 hge hlt ⊢
  have h1 : 2 ^ 56 ≤ R := by
    refine Nat.le_of_not_lt fun h => ?_
    have := Nat.mul_le_mul (Nat.succ_le_of_lt h) (Nat.succ_le_of_lt h)
    change (R + 1) * (R + 1) ≤ _ at this
    omega
  have h2 : R < 2 ^ 57 := by
    refine Nat.lt_of_not_le fun h => ?_
    have := Nat.mul_le_mul h h
    omega
  clear hge hlt hM1 hM2 hM h0 e30 hY
  have hf : R / 8 = f := by
    refine zsqrt_u (X := Y) ?_ ?_ (by omega) (by rw [Nat.add_mul, Nat.mul_add]; omega)
    · have := Nat.mul_self_le_mul_self (show 8 * (R / 8) ≤ R by omega)
      have e : 8 * (R / 8) * (8 * (R / 8)) = 64 * (R / 8 * (R / 8)) := by rw [show (64 : Nat) = 8 * 8 from rfl]; ac_rfl
      omega
    · have := Nat.mul_self_le_mul_self (show R + 1 ≤ 8 * (R / 8 + 1) by omega)
      have e : 8 * (R / 8 + 1) * (8 * (R / 8 + 1)) = 64 * ((R / 8 + 1) * (R / 8 + 1)) := by rw [show (64 : Nat) = 8 * 8 from rfl]; ac_rfl
      omega
  obtain ⟨st, hst⟩ : ∃ st, decide (R * R ≠ 64 * Y) = st := ⟨_, rfl⟩
  have tie : f % 2 = 1 → st = false → R % 8 ≠ 0 := fun h3 h4 h5 => by
    rw [h4] at hst
    have h6 := Classical.not_not.mp (of_decide_eq_false hst)
    have h7 : R = 8 * f := by omega
    have e : 8 * f * (8 * f) = 64 * (f * f) := by rw [show (64 : Nat) = 8 * 8 from rfl]; ac_rfl
    have := od h3
    rw [h7] at h6
    omega
  rw [hst]
  obtain ⟨A, hA⟩ : ∃ A, 2 * R + st.toNat = A := ⟨_, rfl⟩
  have st1 : st.toNat = 0 ∧ st = false ∨ st.toNat = 1 ∧ st = true := by cases st <;> simp
  rw [zrR_eq (A := A) (B := 2) (by decide) (by omega) (by omega) (by
    rcases st1 with ⟨a, b⟩ | ⟨a, b⟩
    · rw [b]; exact ⟨fun h => absurd h Bool.false_ne_true, fun h => absurd (by omega) h⟩
    · rw [b]; exact ⟨fun _ => by omega, fun _ => rfl⟩) (fun _ => by omega)]
  obtain ⟨i, hi⟩ : ∃ i : Nat, zrtS n + 2145 = i := ⟨(zrtS n + 2145).toNat, by omega⟩
  have hp := Nat.two_pow_pos i
  rw [zrb_congr (A' := A * 2 ^ i) (B' := 1) (e' := -2176) (by decide) (by decide) (by
    rw [show (zrtS n - 30 - -2176).toNat = i + 1 by omega, show ((-2176 : Int) - (zrtS n - 30)).toNat = 0 by omega, Nat.pow_succ]
    show A * 1 * (2 ^ i * 2) = A * 2 ^ i * 2 * 1
    rw [Nat.mul_one, Nat.mul_one, Nat.mul_assoc])]
  have h57 : 2 ^ (57 + i) ≤ A * 2 ^ i := by rw [Nat.pow_add]; exact Nat.mul_le_mul_right _ (by omega)
  have h58 : A * 2 ^ i < 2 ^ (57 + i + 1) := by rw [show 57 + i + 1 = 58 + i by omega, Nat.pow_add]; exact (Nat.mul_lt_mul_right hp).mpr (by omega)
  have c := (zrb_cut (up := false) h57 h58 (show i + 5 = max 1102 (57 + i - 52) by omega)).1
  rw [← c, show (2 : Nat) ^ (i + 5) = 32 * 2 ^ i by rw [Nat.pow_add, Nat.mul_comm], zrn_scale _ _ _ _ hp]
  have en : zrn false A 32 = f / 2 + f % 2 := by
    show FP.Core.nearest A 32 = _
    unfold FP.Core.nearest
    have a1 : A / 32 = f / 2 := by omega
    rw [a1]
    rcases Nat.mod_two_eq_zero_or_one f with h3 | h3
    · rw [if_pos (by omega)]; omega
    · have h8 : 0 < 2 * (R % 8) + st.toNat := by
        rcases st1 with ⟨a, b⟩ | ⟨a, b⟩
        · have := tie h3 b; omega
        · omega
      rw [if_neg (by omega), if_pos (by omega)]; omega
  rw [en]
  congr 1
  omega
theorem zI_rem {z : Int} (h1 : -2147483648 < z) (h2 : z < 2147483648) : (iZ z - iZ z / nI 2 * nI 2 = nI 0) = (z % 2 = 0) := by
  have ht : z.tdiv 2 = if 0 ≤ z then z / 2 else -((-z) / 2) := by
    by_cases h : 0 ≤ z
    · rw [if_pos h, Int.tdiv_eq_ediv_of_nonneg h]
    · rw [if_neg h, ← Int.tdiv_eq_ediv_of_nonneg (show 0 ≤ -z by omega), Int.neg_tdiv, Int.neg_neg]
  have hb : -2147483648 ≤ z.tdiv 2 ∧ z.tdiv 2 < 2147483648 := by rw [ht]; split <;> omega
  have e : iZ z / nI 2 = iZ (z.tdiv 2) := by
    apply Int32.toInt_inj.mp
    rw [Int32.toInt_div, iZ_t (by omega) h2, iZ_t (by omega) (by omega)]
    show (z.tdiv 2).bmod (2 ^ 32) = _
    exact Int.bmod_eq_of_le (by omega) (by omega)
  rw [e, nI_z, nI_z, iZ_mul, iZ_sub]
  apply propext
  rw [ht, iZ_eq (by split <;> omega) (by omega)]
  split <;> omega
theorem zI_div2 {z : Int} (h1 : -2147483648 < z) (h2 : z < 2147483648) (h : z % 2 = 0) : iZ z / nI 2 = iZ (z / 2) := by
  apply Int32.toInt_inj.mp
  rw [Int32.toInt_div, iZ_t (by omega) h2, iZ_t (by omega) (by omega)]
  show (z.tdiv 2).bmod (2 ^ 32) = _
  rw [Int.tdiv_eq_ediv_of_dvd (by omega)]
  exact Int.bmod_eq_of_le (by omega) (by omega)
def ct_X11_root : zCt := (fun av S K => ∃ x : UInt64, av = [.double x] ∧ ((zUf x = true ∧ zUn x = true) ∧ K (some (.double (zUrt x))) S), 0, 0)
theorem zc_X11_root {S : zS} {K : Option Value → zS → Prop} {x : UInt64} : ct_X11_root.1 [.double x] S K = ((zUf x = true ∧ zUn x = true) ∧ K (some (.double (zUrt x))) S) := propext ⟨fun ⟨z0, e, h⟩ => by cases e; exact h, fun h => ⟨x, rfl, h⟩⟩
theorem zn_X11_root : ct_X11_root.2.1 = 0 := rfl
theorem zs_X11_root : ct_X11_root.2.2 = 0 := rfl
theorem met_X11_root (l : Launch) (G : zG) : zMet l G q_X11_root ct_X11_root := by
  refine zmk 11 false cal_X11_root bl_X11_root pl_X11_root [ct_X11_whole, ct_X11_power, ct_X11_composed] ck_X11_root nm_X11_root ⟨rfl, rfl⟩ wd_X11_root (⟨⟨met_X11_whole l G, rfl, rfl⟩, ⟨⟨met_X11_power l G, rfl, rfl⟩, ⟨⟨met_X11_composed l G, rfl, rfl⟩, trivial⟩⟩⟩) ?_
  intro X av S K h
  obtain ⟨x, rfl, h⟩ := h
  refine ⟨Nat.le_of_ble_eq_true rfl, fun hX => ?_⟩
  show X 0 [some (.double x), none, none, none, none, none, none, none, none, none, none, none, none, none] [] S 0 0
  obtain ⟨⟨hf, hn⟩, h⟩ := h
  have ox := zUo_f hf
  have mz : zmt x.toNat ≠ 0 := by rw [zUn_t] at hn; exact hn
  have sc1 := zsc_ge x.toNat
  have sc2 := zsc_lt x.toNat
  have b1 := zfsc_ge x.toNat
  have b4 := zfsc_le x.toNat
  have z1 : ∀ n : Nat, lN n * lN 2 = lN (n * 2) := fun n => by first | exact zL_mul | exact zL_mul _ _
  obtain ⟨hM1, hM2⟩ := zrtM_b mz
  have digits : ∀ i, i ≤ 54 → ∀ (f r : Nat) {l10 l11 l12 l13 : Option Value}, zX4 (zrtM x.toNat) i = f * f + r → r ≤ 2 * f → X 56 [some (.double x), none, some (.long (lN (zrtM x.toNat))), none, some (.int (iZ (2 * zrtS x.toNat))), some (.long (lN r)), none, some (.long (lN f)), none, some (.int (nI i)), l10, l11, l12, l13] [] S 0 0 := by
    refine zlp fun i hi ih f r l10 l11 l12 l13 hX4 hr => ?_
    obtain ⟨M, hM⟩ : ∃ M, zrtM x.toNat = M := ⟨_, rfl⟩
    rw [hM] at hX4 hM1 hM2 ih ⊢
    have hlt := zX4_lt (m := M) (i := i) hM2 (by omega)
    have f1 : f < 144115188075855872 := Nat.lt_of_not_le fun h => by
      have := Nat.mul_self_le_mul_self h
      have e : 144115188075855872 * 144115188075855872 = 2 ^ 114 := by decide
      omega
    by_cases h54 : i < 54
    · have hs := zX4_s M i
      rw [hX4] at hs
      have e1 : f * 2 * (f * 2) = 4 * (f * f) := by rw [show (4 : Nat) = 2 * 2 from rfl]; ac_rfl
      have e2 : (f * 2 + 1) * (f * 2 + 1) = 4 * (f * f) + 4 * f + 1 := by rw [Nat.add_mul, Nat.mul_add, e1]; omega
      have step : ∀ dg : Nat, dg < 4 → zX4 M (i + 1) = 4 * zX4 M i + dg → ∀ l10 l11 l12 l13, (4 * r + dg < 4 * f + 1 → X 56 [some (.double x), none, some (.long (lN M)), none, some (.int (iZ (2 * zrtS x.toNat))), some (.long (lN (4 * r + dg))), none, some (.long (lN (f * 2))), none, some (.int (nI (i + 1))), l10, l11, l12, l13] [] S 0 0) ∧ (¬ 4 * r + dg < 4 * f + 1 → X 56 [some (.double x), none, some (.long (lN M)), none, some (.int (iZ (2 * zrtS x.toNat))), some (.long (lN (4 * r + dg - (4 * f + 1)))), none, some (.long (lN (f * 2 + 1))), none, some (.int (nI (i + 1))), l10, l11, l12, l13] [] S 0 0) := by
        intro dg hdg hs l10 l11 l12 l13
        rw [hX4] at hs
        exact ⟨fun h1 => ih h54 (f * 2) (4 * r + dg) (by rw [hs, e1]; omega) (by omega), fun h1 => ih h54 (f * 2 + 1) (4 * r + dg - (4 * f + 1)) (by rw [hs, e2]; omega) (by omega)⟩
      have hs := zX4_s M i
      clear ih
      by_cases h27 : i < 27
      · rw [if_pos h27] at hs
        have ea : lN M >>> ((nI (52 - 2 * i)).toInt64 &&& 63) &&& lN 3 = lN (M / 2 ^ (52 - 2 * i) % 4) := by
          rw [zLasr (by omega) (by omega)]
          exact wb_mask (k := 2) (Nat.lt_of_le_of_lt (Nat.div_le_self _ _) (by omega)) (by decide)
        have hd : M / 2 ^ (52 - 2 * i) % 4 < 4 := Nat.mod_lt _ (by decide)
        have st := step _ hd hs
        clear step
        generalize M / 2 ^ (52 - 2 * i) % 4 = dg at st ea hd
        refine hX 1000 _ _ _ _ _ _ ?_
        simp +contextual (disch := omega) only [wzq_nop, wzq_nop0, wzq_null, wzq_iconst, wzq_bipush, wzq_sipush, wzq_ldc, wzq_ldc_w, wzq_lconst, wzq_dconst, wzq_ldc2, wzq_ldc2d, wzq_istore, wzq_istore_n0, wzq_istore_n1, wzq_istore_n2, wzq_istore_n3, wzq_lstore, wzq_lstore_n0, wzq_lstore_n1, wzq_lstore_n2, wzq_lstore_n3, wzq_dstore, wzq_dstore_n0, wzq_dstore_n1, wzq_dstore_n2, wzq_dstore_n3, wzq_astore, wzq_astore_n0, wzq_astore_n1, wzq_astore_n2, wzq_astore_n3, wzq_iadd, wzq_isub, wzq_imul, wzq_iand, wzq_ior, wzq_ishr, wzq_iushr, wzq_idiv, wzq_irem, wzq_ineg, wzq_ladd, wzq_lsub, wzq_lmul, wzq_land, wzq_lor, wzq_lxor, wzq_ldiv, wzq_lrem, wzq_lneg, wzq_lshl, wzq_lshr, wzq_lushr, wzq_i2l, wzq_l2i, wzq_lcmp, wzq_dcmp, wzq_dadd, wzq_dsub, wzq_dmul, wzq_ddiv, wzq_dneg, wzq_dup, wzq_pop, wzq_pop2, wzq_dup2J, wzq_dup2D, wzq_dup2I, wzq_goto0, wzq_goto1, wzq_if_eq0, wzq_if_eq1, wzq_icmp_eq0, wzq_icmp_eq1, wzq_if_ne0, wzq_if_ne1, wzq_icmp_ne0, wzq_icmp_ne1, wzq_if_lt0, wzq_if_lt1, wzq_icmp_lt0, wzq_icmp_lt1, wzq_if_ge0, wzq_if_ge1, wzq_icmp_ge0, wzq_icmp_ge1, wzq_if_gt0, wzq_if_gt1, wzq_icmp_gt0, wzq_icmp_gt1, wzq_if_le0, wzq_if_le1, wzq_icmp_le0, wzq_icmp_le1, wzq_ifnull0, wzq_ifnull1, wzq_ifnull_a, wzq_ifnull_b, wzq_ifnonnull0, wzq_ifnonnull1, wzq_ifnonnull_a, wzq_ifnonnull_b, wzq_table, wzq_getfield, wzq_alen, wzq_iaload, wzq_baload, wzq_laload, wzq_daload, wzq_aaload, wzq_iastore, wzq_bastore, wzq_lastore, wzq_dastore, wzq_aastore, wzq_new, wzq_newarray, wzq_anewarray, wzq_d2l, wzq_l2d, wzq_mmax, wzq_mmin, wzq_mmaxl, wzq_mabs, wzq_objInit, wzq_ireturn, wzq_lreturn, wzq_dreturn, wzq_areturn, wzq_return, znth0, zst1_0, zst2_0, znth1, zst1_1, zst2_1, znth2, zst1_2, zst2_2, znth3, zst1_3, zst2_3, znth4, zst1_4, zst2_4, znth5, zst1_5, zst2_5, znth6, zst1_6, zst2_6, znth7, zst1_7, zst2_7, znth8, zst1_8, zst2_8, znth9, zst1_9, zst2_9, znth10, zst1_10, zst2_10, znth11, zst1_11, zst2_11, znth12, zst1_12, zst2_12, znth13, zst1_13, zst2_13, znth14, zst1_14, zst2_14, znth15, zst1_15, zst2_15, znth16, zst1_16, zst2_16, znth17, zst1_17, zst2_17, znth18, zst1_18, zst2_18, znth19, zst1_19, zst2_19, znth20, zst1_20, zst2_20, znth21, zst1_21, zst2_21, znth22, zst1_22, zst2_22, znth23, zst1_23, zst2_23, znth24, zst1_24, zst2_24, znth25, zst1_25, zst2_25, zkill_n, zkill_int, zkill_ref, zkill_null, zkill_long, zkill_double, zkill_rf, zref_s, zref_n, zref_rf, va_rf_s, va_rf_n, zget0, zget1, zget2, zget3, zget4, zget5, zget6, zget7, zget8, zget9, zget10, zget11, zget12, zget13, zget14, zget15, zget16, zget17, zget18, zget19, zget20, zget21, zget22, zget23, zget24, zget25, zwt_0, zwt_int, zcat_int, zwt_ref, zcat_ref, zwt_long, zcat_long, zwt_double, zcat_double, zwt_null, zwt_rf, zcat_null, zcat_rf, ztl_s, ztl_n, zfI, zfZ, zfJ, zfD, zfO, zfA, zsw_0, zsw_s, zYX1_0, zYX1_1, zYX1_2, zYX1_3, zYX1_4, zYX1_5, zYX1_6, zYX1_7, zYX1_8, zYX1_9, zYX1_10, zYX1_11, zYX1_12, zYX1_13, zYX1_14, zNX1, zYX2_0, zYX2_1, zYX2_2, zYX2_3, zYX2_4, zYX2_5, zYX2_6, zYX2_7, zYX2_8, zYX2_9, zYX2_10, zNX2, zYX3_0, zYX3_1, zYX3_2, zYX3_3, zYX3_4, zYX3_5, zYX3_6, zNX3, zYX4_0, zYX4_1, zYX4_2, zYX4_3, zYX4_4, zYX4_5, zNX4, zYX5_0, zYX5_1, zYX5_2, zYX5_3, zYX5_4, zYX5_5, zYX5_6, zYX5_7, zYX5_8, zNX5, zYX6_0, zYX6_1, zYX6_2, zYX6_3, zYX6_4, zNX6, zYX7_0, zYX7_1, zYX7_2, zYX7_3, zNX7, zYX8_0, zYX8_1, zYX8_2, zNX8, zYX9_0, zYX9_1, zYX9_2, zNX9, zYX10_0, zYX10_1, zYX10_2, zYX10_3, zYX10_4, zYX10_5, zYX10_6, zYX10_7, zYX10_8, zNX10, zYX11_0, zYX11_1, zYX11_2, zYX11_3, zYX11_4, zYX11_5, zYX11_6, zYX11_7, zYX11_8, zYX11_9, zYX11_10, zYX11_11, zYX11_12, zYX11_13, zYX11_14, zYX11_15, zYX11_16, zYX11_17, zYX11_18, zYX11_19, zYX11_20, zYX11_21, zYX11_22, zYX11_23, zYX11_24, zYX11_25, zYX11_26, zYX11_27, zYX11_28, zYX11_29, zYX11_30, zYX11_31, zYX11_32, zYX11_33, zYX11_34, zYX11_35, zYX11_36, zYX11_37, zYX11_38, zYX11_39, zYX11_40, zYX11_41, zYX11_42, zYX11_43, zYX11_44, zYX11_45, zYX11_46, zYX11_47, zYX11_48, zYX11_49, zYX11_50, zYX11_51, zYX11_52, zYX11_53, zYX11_54, zYX11_55, zYX11_56, zYX11_57, zNX11, zend_i, zend_l, zend_d, zend_o, zend_v, wzend_z, znle, zisI_s, zgI_s, zisJ_s, zgJ_s, zisD_s, zgD_s, zisA_s, zgA_s, zpokI, zpstI, zpokZ, zpstZ, zpokJ, zpstJ, zpokD, zpstD, zpokO, zpstO, zpokOn, zpstOn, zpokA, zpstA, zpokAn, zpstAn, zpk_0, zptk_0, zpdr_0, zpk_1, zptk_1, zpdr_1, zpk_2, zptk_2, zpdr_2, zpk_3, zptk_3, zpdr_3, zpk_4, zptk_4, zpdr_4, zpk_5, zptk_5, zpdr_5, zpk_6, zptk_6, zpdr_6, zpk_7, zptk_7, zpdr_7, zpk_8, zptk_8, zpdr_8, zisR_s, zgR_s, ztlR_s, zisC_s, zgC_s, zkont_s, zkont_n, zw_iload, zw_iload_n0, zw_iload_n1, zw_iload_n2, zw_iload_n3, zw_lload, zw_lload_n0, zw_lload_n1, zw_lload_n2, zw_lload_n3, zw_dload, zw_dload_n0, zw_dload_n1, zw_dload_n2, zw_dload_n3, zw_aload, zw_aload_n0, zw_aload_n1, zw_aload_n2, zw_aload_n3, zw_iinc, zw_putfield, zw_callS, zw_callV, zw_callI, q_X11_root, ct_X11_root, zn_X11_whole, zs_X11_whole, zn_X11_power, zs_X11_power, zn_X11_composed, zs_X11_composed, nIm_1, b_X11_root_0, b_X11_root_11, b_X11_root_31, b_X11_root_47, b_X11_root_56, b_X11_root_86, b_X11_root_87, b_X11_root_139, b_X11_root_145, b_X11_root_177, k_X11_root_0, k_X11_root_11, k_X11_root_31, k_X11_root_47, k_X11_root_56, k_X11_root_86, k_X11_root_87, k_X11_root_139, k_X11_root_145, k_X11_root_177, true_or, or_true, zrz_1, zrz_0, zrz_b, true_and, and_true, Nat.reduceAdd, Nat.reduceLeDiff, Nat.reduceMul, Nat.le_refl, Nat.add_zero, Nat.zero_add, z1, ea, Classical.not_not, Bool.not_eq_false, Bool.not_eq_true, zN_add, zN_sub, zN_mul, zN_le, zN_lt, zN_eq, zix_nI, zin_n, zinI_n, zinR_n, zlt_t, zom_t, zLsr, zLsh, zand_low, zL_add, zL_mul, zL_lt, zL_le, zL_sub, zL_div, zN_div, zL_e0, zL_n0, zN_n0, zN11, zN00, false_or, or_false, zZN_add, zNZ_add, zZN_sub, zNZ_sub, zZN_lt, zZN_le, zNZ_lt, zNZ_le, zZN_eq, zZZ_lt, zZZ_le, zZZ_eq, zN_32, Nat.reducePow, Nat.reduceMod, Nat.reduceDiv, zlc_eq, zlc_lt, zlc_ge, zlc_gt, zlc_le, bI_0, zbo_b, zbo_1, zbo_0, zuJ_inj, nI_nat, eq_self, Nat.reduceEqDiff, Nat.reduceSub, zI_sI_eq, zI_sI_ne, zJ_sJ_eq, zJ_sJ_ne, zD_sD_eq, zD_sD_ne, zR_sR_eq, zR_sR_ne, zJ_sI, zR_sI, zSh_sI, zNx_sI, zD_sI, zI_sJ, zR_sJ, zSh_sJ, zNx_sJ, zD_sJ, zI_sD, zJ_sD, zR_sD, zSh_sD, zNx_sD, zI_sR, zJ_sR, zD_sR, zSh_sR, zNx_sR, if_true, if_false, ite_true, ite_false, not_true, not_false_eq_true, forall_const, false_implies, true_implies, implies_true, zN_shr, zN_m31, jZ_low, jZ_add, jZ_sub, jZN_mul]
        exact ⟨fun h => absurd h (by omega), fun _ => ⟨fun h => absurd h (by omega), fun _ => st _ _ _ _⟩⟩
      · rw [if_neg h27] at hs
        have st := step 0 (by decide) hs
        clear step
        refine hX 1000 _ _ _ _ _ _ ?_
        simp +contextual (disch := omega) only [wzq_nop, wzq_nop0, wzq_null, wzq_iconst, wzq_bipush, wzq_sipush, wzq_ldc, wzq_ldc_w, wzq_lconst, wzq_dconst, wzq_ldc2, wzq_ldc2d, wzq_istore, wzq_istore_n0, wzq_istore_n1, wzq_istore_n2, wzq_istore_n3, wzq_lstore, wzq_lstore_n0, wzq_lstore_n1, wzq_lstore_n2, wzq_lstore_n3, wzq_dstore, wzq_dstore_n0, wzq_dstore_n1, wzq_dstore_n2, wzq_dstore_n3, wzq_astore, wzq_astore_n0, wzq_astore_n1, wzq_astore_n2, wzq_astore_n3, wzq_iadd, wzq_isub, wzq_imul, wzq_iand, wzq_ior, wzq_ishr, wzq_iushr, wzq_idiv, wzq_irem, wzq_ineg, wzq_ladd, wzq_lsub, wzq_lmul, wzq_land, wzq_lor, wzq_lxor, wzq_ldiv, wzq_lrem, wzq_lneg, wzq_lshl, wzq_lshr, wzq_lushr, wzq_i2l, wzq_l2i, wzq_lcmp, wzq_dcmp, wzq_dadd, wzq_dsub, wzq_dmul, wzq_ddiv, wzq_dneg, wzq_dup, wzq_pop, wzq_pop2, wzq_dup2J, wzq_dup2D, wzq_dup2I, wzq_goto0, wzq_goto1, wzq_if_eq0, wzq_if_eq1, wzq_icmp_eq0, wzq_icmp_eq1, wzq_if_ne0, wzq_if_ne1, wzq_icmp_ne0, wzq_icmp_ne1, wzq_if_lt0, wzq_if_lt1, wzq_icmp_lt0, wzq_icmp_lt1, wzq_if_ge0, wzq_if_ge1, wzq_icmp_ge0, wzq_icmp_ge1, wzq_if_gt0, wzq_if_gt1, wzq_icmp_gt0, wzq_icmp_gt1, wzq_if_le0, wzq_if_le1, wzq_icmp_le0, wzq_icmp_le1, wzq_ifnull0, wzq_ifnull1, wzq_ifnull_a, wzq_ifnull_b, wzq_ifnonnull0, wzq_ifnonnull1, wzq_ifnonnull_a, wzq_ifnonnull_b, wzq_table, wzq_getfield, wzq_alen, wzq_iaload, wzq_baload, wzq_laload, wzq_daload, wzq_aaload, wzq_iastore, wzq_bastore, wzq_lastore, wzq_dastore, wzq_aastore, wzq_new, wzq_newarray, wzq_anewarray, wzq_d2l, wzq_l2d, wzq_mmax, wzq_mmin, wzq_mmaxl, wzq_mabs, wzq_objInit, wzq_ireturn, wzq_lreturn, wzq_dreturn, wzq_areturn, wzq_return, znth0, zst1_0, zst2_0, znth1, zst1_1, zst2_1, znth2, zst1_2, zst2_2, znth3, zst1_3, zst2_3, znth4, zst1_4, zst2_4, znth5, zst1_5, zst2_5, znth6, zst1_6, zst2_6, znth7, zst1_7, zst2_7, znth8, zst1_8, zst2_8, znth9, zst1_9, zst2_9, znth10, zst1_10, zst2_10, znth11, zst1_11, zst2_11, znth12, zst1_12, zst2_12, znth13, zst1_13, zst2_13, znth14, zst1_14, zst2_14, znth15, zst1_15, zst2_15, znth16, zst1_16, zst2_16, znth17, zst1_17, zst2_17, znth18, zst1_18, zst2_18, znth19, zst1_19, zst2_19, znth20, zst1_20, zst2_20, znth21, zst1_21, zst2_21, znth22, zst1_22, zst2_22, znth23, zst1_23, zst2_23, znth24, zst1_24, zst2_24, znth25, zst1_25, zst2_25, zkill_n, zkill_int, zkill_ref, zkill_null, zkill_long, zkill_double, zkill_rf, zref_s, zref_n, zref_rf, va_rf_s, va_rf_n, zget0, zget1, zget2, zget3, zget4, zget5, zget6, zget7, zget8, zget9, zget10, zget11, zget12, zget13, zget14, zget15, zget16, zget17, zget18, zget19, zget20, zget21, zget22, zget23, zget24, zget25, zwt_0, zwt_int, zcat_int, zwt_ref, zcat_ref, zwt_long, zcat_long, zwt_double, zcat_double, zwt_null, zwt_rf, zcat_null, zcat_rf, ztl_s, ztl_n, zfI, zfZ, zfJ, zfD, zfO, zfA, zsw_0, zsw_s, zYX1_0, zYX1_1, zYX1_2, zYX1_3, zYX1_4, zYX1_5, zYX1_6, zYX1_7, zYX1_8, zYX1_9, zYX1_10, zYX1_11, zYX1_12, zYX1_13, zYX1_14, zNX1, zYX2_0, zYX2_1, zYX2_2, zYX2_3, zYX2_4, zYX2_5, zYX2_6, zYX2_7, zYX2_8, zYX2_9, zYX2_10, zNX2, zYX3_0, zYX3_1, zYX3_2, zYX3_3, zYX3_4, zYX3_5, zYX3_6, zNX3, zYX4_0, zYX4_1, zYX4_2, zYX4_3, zYX4_4, zYX4_5, zNX4, zYX5_0, zYX5_1, zYX5_2, zYX5_3, zYX5_4, zYX5_5, zYX5_6, zYX5_7, zYX5_8, zNX5, zYX6_0, zYX6_1, zYX6_2, zYX6_3, zYX6_4, zNX6, zYX7_0, zYX7_1, zYX7_2, zYX7_3, zNX7, zYX8_0, zYX8_1, zYX8_2, zNX8, zYX9_0, zYX9_1, zYX9_2, zNX9, zYX10_0, zYX10_1, zYX10_2, zYX10_3, zYX10_4, zYX10_5, zYX10_6, zYX10_7, zYX10_8, zNX10, zYX11_0, zYX11_1, zYX11_2, zYX11_3, zYX11_4, zYX11_5, zYX11_6, zYX11_7, zYX11_8, zYX11_9, zYX11_10, zYX11_11, zYX11_12, zYX11_13, zYX11_14, zYX11_15, zYX11_16, zYX11_17, zYX11_18, zYX11_19, zYX11_20, zYX11_21, zYX11_22, zYX11_23, zYX11_24, zYX11_25, zYX11_26, zYX11_27, zYX11_28, zYX11_29, zYX11_30, zYX11_31, zYX11_32, zYX11_33, zYX11_34, zYX11_35, zYX11_36, zYX11_37, zYX11_38, zYX11_39, zYX11_40, zYX11_41, zYX11_42, zYX11_43, zYX11_44, zYX11_45, zYX11_46, zYX11_47, zYX11_48, zYX11_49, zYX11_50, zYX11_51, zYX11_52, zYX11_53, zYX11_54, zYX11_55, zYX11_56, zYX11_57, zNX11, zend_i, zend_l, zend_d, zend_o, zend_v, wzend_z, znle, zisI_s, zgI_s, zisJ_s, zgJ_s, zisD_s, zgD_s, zisA_s, zgA_s, zpokI, zpstI, zpokZ, zpstZ, zpokJ, zpstJ, zpokD, zpstD, zpokO, zpstO, zpokOn, zpstOn, zpokA, zpstA, zpokAn, zpstAn, zpk_0, zptk_0, zpdr_0, zpk_1, zptk_1, zpdr_1, zpk_2, zptk_2, zpdr_2, zpk_3, zptk_3, zpdr_3, zpk_4, zptk_4, zpdr_4, zpk_5, zptk_5, zpdr_5, zpk_6, zptk_6, zpdr_6, zpk_7, zptk_7, zpdr_7, zpk_8, zptk_8, zpdr_8, zisR_s, zgR_s, ztlR_s, zisC_s, zgC_s, zkont_s, zkont_n, zw_iload, zw_iload_n0, zw_iload_n1, zw_iload_n2, zw_iload_n3, zw_lload, zw_lload_n0, zw_lload_n1, zw_lload_n2, zw_lload_n3, zw_dload, zw_dload_n0, zw_dload_n1, zw_dload_n2, zw_dload_n3, zw_aload, zw_aload_n0, zw_aload_n1, zw_aload_n2, zw_aload_n3, zw_iinc, zw_putfield, zw_callS, zw_callV, zw_callI, q_X11_root, ct_X11_root, zn_X11_whole, zs_X11_whole, zn_X11_power, zs_X11_power, zn_X11_composed, zs_X11_composed, nIm_1, b_X11_root_0, b_X11_root_11, b_X11_root_31, b_X11_root_47, b_X11_root_56, b_X11_root_86, b_X11_root_87, b_X11_root_139, b_X11_root_145, b_X11_root_177, k_X11_root_0, k_X11_root_11, k_X11_root_31, k_X11_root_47, k_X11_root_56, k_X11_root_86, k_X11_root_87, k_X11_root_139, k_X11_root_145, k_X11_root_177, true_or, or_true, zrz_1, zrz_0, zrz_b, true_and, and_true, Nat.reduceAdd, Nat.reduceLeDiff, Nat.reduceMul, Nat.le_refl, Nat.add_zero, Nat.zero_add, z1, Classical.not_not, Bool.not_eq_false, Bool.not_eq_true, zN_add, zN_sub, zN_mul, zN_le, zN_lt, zN_eq, zix_nI, zin_n, zinI_n, zinR_n, zlt_t, zom_t, zLsr, zLsh, zand_low, zL_add, zL_mul, zL_lt, zL_le, zL_sub, zL_div, zN_div, zL_e0, zL_n0, zN_n0, zN11, zN00, false_or, or_false, zZN_add, zNZ_add, zZN_sub, zNZ_sub, zZN_lt, zZN_le, zNZ_lt, zNZ_le, zZN_eq, zZZ_lt, zZZ_le, zZZ_eq, zN_32, Nat.reducePow, Nat.reduceMod, Nat.reduceDiv, zlc_eq, zlc_lt, zlc_ge, zlc_gt, zlc_le, bI_0, zbo_b, zbo_1, zbo_0, zuJ_inj, nI_nat, eq_self, Nat.reduceEqDiff, Nat.reduceSub, zI_sI_eq, zI_sI_ne, zJ_sJ_eq, zJ_sJ_ne, zD_sD_eq, zD_sD_ne, zR_sR_eq, zR_sR_ne, zJ_sI, zR_sI, zSh_sI, zNx_sI, zD_sI, zI_sJ, zR_sJ, zSh_sJ, zNx_sJ, zD_sJ, zI_sD, zJ_sD, zR_sD, zSh_sD, zNx_sD, zI_sR, zJ_sR, zD_sR, zSh_sR, zNx_sR, if_true, if_false, ite_true, ite_false, not_true, not_false_eq_true, forall_const, false_implies, true_implies, implies_true, zN_shr, zN_m31, jZ_low, jZ_add, jZ_sub, jZN_mul]
        exact ⟨fun h => absurd h (by omega), fun _ => ⟨fun _ => st _ _ _ _, fun h => absurd (by omega) h⟩⟩
    · have ei : i = 54 := by omega
      rw [ei] at hX4 hlt
      have ep : zX4 M 54 = M * 4 ^ 27 := rfl
      have hlt2 : M * 4 ^ 27 < 2 ^ 108 := (Nat.mul_lt_mul_right (show 0 < 4 ^ 27 by decide)).mpr hM2
      rw [ep] at hX4
      have f54 : f < 18014398509481984 := Nat.lt_of_not_le fun h => by
        have := Nat.mul_self_le_mul_self h
        have e : 18014398509481984 * 18014398509481984 = 2 ^ 108 := by decide
        rw [hX4] at hlt2
        omega
      have q := zrt_q mz (by rw [hM]; exact hX4) hr
      have od := zrt_odd hX4
      have hS : -564 ≤ zrtS x.toNat ∧ zrtS x.toNat ≤ 600 := by unfold zrtS; omega
      have eh : lN f >>> ((nI 1).toInt64 &&& 63) = lN (f / 2) := by rw [zLasr (by omega) (by decide)]
      have eo : lN f &&& lN 1 = lN (f % 2) := wb_mask (k := 1) (by omega) (by decide)
      have ed : iZ (2 * zrtS x.toNat - ((54 : Nat) : Int)) / nI 2 + nI 1 = iZ (zrtS x.toNat - 26) := by
        rw [zI_div2 (by omega) (by omega) (by omega), nI_z, iZ_add]
        congr 1
        omega
      have c1 := fun K => zcu_X11_composed (S := S) (K := K) (n := f / 2) (P := zrtS x.toNat - 26) (by omega) (by omega)
      have c2 := fun K => zcu_X11_composed (S := S) (K := K) (n := f / 2 + 1) (P := zrtS x.toNat - 26) (by omega) (by omega)
      unfold zUrt at h
      rw [← q] at h
      clear ih hX4 hlt hlt2 ep q
      have e1 : (lN (f % 2) = lN 1) = (f % 2 = 1) := propext (lN_inj (by omega) (by decide))
      refine hX 1000 _ _ _ _ _ _ ?_
      simp +contextual (disch := omega) only [wzq_nop, wzq_nop0, wzq_null, wzq_iconst, wzq_bipush, wzq_sipush, wzq_ldc, wzq_ldc_w, wzq_lconst, wzq_dconst, wzq_ldc2, wzq_ldc2d, wzq_istore, wzq_istore_n0, wzq_istore_n1, wzq_istore_n2, wzq_istore_n3, wzq_lstore, wzq_lstore_n0, wzq_lstore_n1, wzq_lstore_n2, wzq_lstore_n3, wzq_dstore, wzq_dstore_n0, wzq_dstore_n1, wzq_dstore_n2, wzq_dstore_n3, wzq_astore, wzq_astore_n0, wzq_astore_n1, wzq_astore_n2, wzq_astore_n3, wzq_iadd, wzq_isub, wzq_imul, wzq_iand, wzq_ior, wzq_ishr, wzq_iushr, wzq_idiv, wzq_irem, wzq_ineg, wzq_ladd, wzq_lsub, wzq_lmul, wzq_land, wzq_lor, wzq_lxor, wzq_ldiv, wzq_lrem, wzq_lneg, wzq_lshl, wzq_lshr, wzq_lushr, wzq_i2l, wzq_l2i, wzq_lcmp, wzq_dcmp, wzq_dadd, wzq_dsub, wzq_dmul, wzq_ddiv, wzq_dneg, wzq_dup, wzq_pop, wzq_pop2, wzq_dup2J, wzq_dup2D, wzq_dup2I, wzq_goto0, wzq_goto1, wzq_if_eq0, wzq_if_eq1, wzq_icmp_eq0, wzq_icmp_eq1, wzq_if_ne0, wzq_if_ne1, wzq_icmp_ne0, wzq_icmp_ne1, wzq_if_lt0, wzq_if_lt1, wzq_icmp_lt0, wzq_icmp_lt1, wzq_if_ge0, wzq_if_ge1, wzq_icmp_ge0, wzq_icmp_ge1, wzq_if_gt0, wzq_if_gt1, wzq_icmp_gt0, wzq_icmp_gt1, wzq_if_le0, wzq_if_le1, wzq_icmp_le0, wzq_icmp_le1, wzq_ifnull0, wzq_ifnull1, wzq_ifnull_a, wzq_ifnull_b, wzq_ifnonnull0, wzq_ifnonnull1, wzq_ifnonnull_a, wzq_ifnonnull_b, wzq_table, wzq_getfield, wzq_alen, wzq_iaload, wzq_baload, wzq_laload, wzq_daload, wzq_aaload, wzq_iastore, wzq_bastore, wzq_lastore, wzq_dastore, wzq_aastore, wzq_new, wzq_newarray, wzq_anewarray, wzq_d2l, wzq_l2d, wzq_mmax, wzq_mmin, wzq_mmaxl, wzq_mabs, wzq_objInit, wzq_ireturn, wzq_lreturn, wzq_dreturn, wzq_areturn, wzq_return, znth0, zst1_0, zst2_0, znth1, zst1_1, zst2_1, znth2, zst1_2, zst2_2, znth3, zst1_3, zst2_3, znth4, zst1_4, zst2_4, znth5, zst1_5, zst2_5, znth6, zst1_6, zst2_6, znth7, zst1_7, zst2_7, znth8, zst1_8, zst2_8, znth9, zst1_9, zst2_9, znth10, zst1_10, zst2_10, znth11, zst1_11, zst2_11, znth12, zst1_12, zst2_12, znth13, zst1_13, zst2_13, znth14, zst1_14, zst2_14, znth15, zst1_15, zst2_15, znth16, zst1_16, zst2_16, znth17, zst1_17, zst2_17, znth18, zst1_18, zst2_18, znth19, zst1_19, zst2_19, znth20, zst1_20, zst2_20, znth21, zst1_21, zst2_21, znth22, zst1_22, zst2_22, znth23, zst1_23, zst2_23, znth24, zst1_24, zst2_24, znth25, zst1_25, zst2_25, zkill_n, zkill_int, zkill_ref, zkill_null, zkill_long, zkill_double, zkill_rf, zref_s, zref_n, zref_rf, va_rf_s, va_rf_n, zget0, zget1, zget2, zget3, zget4, zget5, zget6, zget7, zget8, zget9, zget10, zget11, zget12, zget13, zget14, zget15, zget16, zget17, zget18, zget19, zget20, zget21, zget22, zget23, zget24, zget25, zwt_0, zwt_int, zcat_int, zwt_ref, zcat_ref, zwt_long, zcat_long, zwt_double, zcat_double, zwt_null, zwt_rf, zcat_null, zcat_rf, ztl_s, ztl_n, zfI, zfZ, zfJ, zfD, zfO, zfA, zsw_0, zsw_s, zYX1_0, zYX1_1, zYX1_2, zYX1_3, zYX1_4, zYX1_5, zYX1_6, zYX1_7, zYX1_8, zYX1_9, zYX1_10, zYX1_11, zYX1_12, zYX1_13, zYX1_14, zNX1, zYX2_0, zYX2_1, zYX2_2, zYX2_3, zYX2_4, zYX2_5, zYX2_6, zYX2_7, zYX2_8, zYX2_9, zYX2_10, zNX2, zYX3_0, zYX3_1, zYX3_2, zYX3_3, zYX3_4, zYX3_5, zYX3_6, zNX3, zYX4_0, zYX4_1, zYX4_2, zYX4_3, zYX4_4, zYX4_5, zNX4, zYX5_0, zYX5_1, zYX5_2, zYX5_3, zYX5_4, zYX5_5, zYX5_6, zYX5_7, zYX5_8, zNX5, zYX6_0, zYX6_1, zYX6_2, zYX6_3, zYX6_4, zNX6, zYX7_0, zYX7_1, zYX7_2, zYX7_3, zNX7, zYX8_0, zYX8_1, zYX8_2, zNX8, zYX9_0, zYX9_1, zYX9_2, zNX9, zYX10_0, zYX10_1, zYX10_2, zYX10_3, zYX10_4, zYX10_5, zYX10_6, zYX10_7, zYX10_8, zNX10, zYX11_0, zYX11_1, zYX11_2, zYX11_3, zYX11_4, zYX11_5, zYX11_6, zYX11_7, zYX11_8, zYX11_9, zYX11_10, zYX11_11, zYX11_12, zYX11_13, zYX11_14, zYX11_15, zYX11_16, zYX11_17, zYX11_18, zYX11_19, zYX11_20, zYX11_21, zYX11_22, zYX11_23, zYX11_24, zYX11_25, zYX11_26, zYX11_27, zYX11_28, zYX11_29, zYX11_30, zYX11_31, zYX11_32, zYX11_33, zYX11_34, zYX11_35, zYX11_36, zYX11_37, zYX11_38, zYX11_39, zYX11_40, zYX11_41, zYX11_42, zYX11_43, zYX11_44, zYX11_45, zYX11_46, zYX11_47, zYX11_48, zYX11_49, zYX11_50, zYX11_51, zYX11_52, zYX11_53, zYX11_54, zYX11_55, zYX11_56, zYX11_57, zNX11, zend_i, zend_l, zend_d, zend_o, zend_v, wzend_z, znle, zisI_s, zgI_s, zisJ_s, zgJ_s, zisD_s, zgD_s, zisA_s, zgA_s, zpokI, zpstI, zpokZ, zpstZ, zpokJ, zpstJ, zpokD, zpstD, zpokO, zpstO, zpokOn, zpstOn, zpokA, zpstA, zpokAn, zpstAn, zpk_0, zptk_0, zpdr_0, zpk_1, zptk_1, zpdr_1, zpk_2, zptk_2, zpdr_2, zpk_3, zptk_3, zpdr_3, zpk_4, zptk_4, zpdr_4, zpk_5, zptk_5, zpdr_5, zpk_6, zptk_6, zpdr_6, zpk_7, zptk_7, zpdr_7, zpk_8, zptk_8, zpdr_8, zisR_s, zgR_s, ztlR_s, zisC_s, zgC_s, zkont_s, zkont_n, zw_iload, zw_iload_n0, zw_iload_n1, zw_iload_n2, zw_iload_n3, zw_lload, zw_lload_n0, zw_lload_n1, zw_lload_n2, zw_lload_n3, zw_dload, zw_dload_n0, zw_dload_n1, zw_dload_n2, zw_dload_n3, zw_aload, zw_aload_n0, zw_aload_n1, zw_aload_n2, zw_aload_n3, zw_iinc, zw_putfield, zw_callS, zw_callV, zw_callI, q_X11_root, ct_X11_root, zn_X11_whole, zs_X11_whole, zn_X11_power, zs_X11_power, zn_X11_composed, zs_X11_composed, nIm_1, b_X11_root_0, b_X11_root_11, b_X11_root_31, b_X11_root_47, b_X11_root_56, b_X11_root_86, b_X11_root_87, b_X11_root_139, b_X11_root_145, b_X11_root_177, k_X11_root_0, k_X11_root_11, k_X11_root_31, k_X11_root_47, k_X11_root_56, k_X11_root_86, k_X11_root_87, k_X11_root_139, k_X11_root_145, k_X11_root_177, true_or, or_true, zrz_1, zrz_0, zrz_b, true_and, and_true, Nat.reduceAdd, Nat.reduceLeDiff, Nat.reduceMul, Nat.le_refl, Nat.add_zero, Nat.zero_add, z1, eh, eo, e1, ed, c1, c2, Classical.not_not, Bool.not_eq_false, Bool.not_eq_true, zN_add, zN_sub, zN_mul, zN_le, zN_lt, zN_eq, zix_nI, zin_n, zinI_n, zinR_n, zlt_t, zom_t, zLsr, zLsh, zand_low, zL_add, zL_mul, zL_lt, zL_le, zL_sub, zL_div, zN_div, zL_e0, zL_n0, zN_n0, zN11, zN00, false_or, or_false, zZN_add, zNZ_add, zZN_sub, zNZ_sub, zZN_lt, zZN_le, zNZ_lt, zNZ_le, zZN_eq, zZZ_lt, zZZ_le, zZZ_eq, zN_32, Nat.reducePow, Nat.reduceMod, Nat.reduceDiv, zlc_eq, zlc_lt, zlc_ge, zlc_gt, zlc_le, bI_0, zbo_b, zbo_1, zbo_0, zuJ_inj, nI_nat, eq_self, Nat.reduceEqDiff, Nat.reduceSub, zI_sI_eq, zI_sI_ne, zJ_sJ_eq, zJ_sJ_ne, zD_sD_eq, zD_sD_ne, zR_sR_eq, zR_sR_ne, zJ_sI, zR_sI, zSh_sI, zNx_sI, zD_sI, zI_sJ, zR_sJ, zSh_sJ, zNx_sJ, zD_sJ, zI_sD, zJ_sD, zR_sD, zSh_sD, zNx_sD, zI_sR, zJ_sR, zD_sR, zSh_sR, zNx_sR, if_true, if_false, ite_true, ite_false, not_true, not_false_eq_true, forall_const, false_implies, true_implies, implies_true, zN_shr, zN_m31, jZ_low, jZ_add, jZ_sub, jZN_mul]
      refine ⟨fun _ => ⟨fun h1 => ?_, fun h1 => ⟨fun h2 => absurd (od h1) (by omega), fun h2 => ?_⟩⟩, fun h => absurd (by omega) h⟩
      · rw [show f / 2 + f % 2 = f / 2 by omega] at h; exact h
      · rw [h1] at h; exact h
  have norm : ∀ d, d ≤ 53 - zbl (zmt x.toNat) → X 11 [some (.double x), none, some (.long (lN (zmt x.toNat * 2 ^ d))), none, some (.int (iZ (zsc x.toNat - d))), none, none, none, none, none, none, none, none, none] [] S 0 0 := by
    refine zlp fun d hd ih => ?_
    obtain ⟨b1, b2⟩ := zfm_nx mz hd
    have e2 : zmt x.toNat * 2 ^ d * 2 = zmt x.toNat * 2 ^ (d + 1) := by rw [Nat.pow_succ, Nat.mul_assoc]
    obtain ⟨M, hMM⟩ : ∃ M, zmt x.toNat * 2 ^ d = M := ⟨_, rfl⟩
    rw [hMM] at b1 b2 e2 ⊢
    have e3 : iZ (zsc x.toNat - d) + iZ (-1) = iZ (zsc x.toNat - (d + 1 : Nat)) := by
      have : zsc x.toNat - (d : Int) + -1 = zsc x.toNat - ((d + 1 : Nat) : Int) := by omega
      rw [iZ_add, this]
    have e4 : (lN 4503599627370496 ≤ lN M) = (4503599627370496 ≤ M) := propext (zL_le (by omega) (by omega))
    have zm : 4503599627370496 ≤ M → M = zfm x.toNat ∧ zsc x.toNat - d = zfsc x.toNat := fun h => by
      have : d = 53 - zbl (zmt x.toNat) := by
        have : ¬ d < 53 - zbl (zmt x.toNat) := fun r => absurd (b2.mpr r) (by omega)
        omega
      unfold zfm zfsc
      rw [← hMM, this]; exact ⟨rfl, rfl⟩
    have hr2 := zI_rem (z := zsc x.toNat - d) (by omega) (by omega)
    have dg := digits 0 (Nat.zero_le _) 0 0 (l10 := none) (l11 := none) (l12 := none) (l13 := none)
    clear digits
    refine hX 1000 _ _ _ _ _ _ ?_
    simp +contextual (disch := omega) only [wzq_nop, wzq_nop0, wzq_null, wzq_iconst, wzq_bipush, wzq_sipush, wzq_ldc, wzq_ldc_w, wzq_lconst, wzq_dconst, wzq_ldc2, wzq_ldc2d, wzq_istore, wzq_istore_n0, wzq_istore_n1, wzq_istore_n2, wzq_istore_n3, wzq_lstore, wzq_lstore_n0, wzq_lstore_n1, wzq_lstore_n2, wzq_lstore_n3, wzq_dstore, wzq_dstore_n0, wzq_dstore_n1, wzq_dstore_n2, wzq_dstore_n3, wzq_astore, wzq_astore_n0, wzq_astore_n1, wzq_astore_n2, wzq_astore_n3, wzq_iadd, wzq_isub, wzq_imul, wzq_iand, wzq_ior, wzq_ishr, wzq_iushr, wzq_idiv, wzq_irem, wzq_ineg, wzq_ladd, wzq_lsub, wzq_lmul, wzq_land, wzq_lor, wzq_lxor, wzq_ldiv, wzq_lrem, wzq_lneg, wzq_lshl, wzq_lshr, wzq_lushr, wzq_i2l, wzq_l2i, wzq_lcmp, wzq_dcmp, wzq_dadd, wzq_dsub, wzq_dmul, wzq_ddiv, wzq_dneg, wzq_dup, wzq_pop, wzq_pop2, wzq_dup2J, wzq_dup2D, wzq_dup2I, wzq_goto0, wzq_goto1, wzq_if_eq0, wzq_if_eq1, wzq_icmp_eq0, wzq_icmp_eq1, wzq_if_ne0, wzq_if_ne1, wzq_icmp_ne0, wzq_icmp_ne1, wzq_if_lt0, wzq_if_lt1, wzq_icmp_lt0, wzq_icmp_lt1, wzq_if_ge0, wzq_if_ge1, wzq_icmp_ge0, wzq_icmp_ge1, wzq_if_gt0, wzq_if_gt1, wzq_icmp_gt0, wzq_icmp_gt1, wzq_if_le0, wzq_if_le1, wzq_icmp_le0, wzq_icmp_le1, wzq_ifnull0, wzq_ifnull1, wzq_ifnull_a, wzq_ifnull_b, wzq_ifnonnull0, wzq_ifnonnull1, wzq_ifnonnull_a, wzq_ifnonnull_b, wzq_table, wzq_getfield, wzq_alen, wzq_iaload, wzq_baload, wzq_laload, wzq_daload, wzq_aaload, wzq_iastore, wzq_bastore, wzq_lastore, wzq_dastore, wzq_aastore, wzq_new, wzq_newarray, wzq_anewarray, wzq_d2l, wzq_l2d, wzq_mmax, wzq_mmin, wzq_mmaxl, wzq_mabs, wzq_objInit, wzq_ireturn, wzq_lreturn, wzq_dreturn, wzq_areturn, wzq_return, znth0, zst1_0, zst2_0, znth1, zst1_1, zst2_1, znth2, zst1_2, zst2_2, znth3, zst1_3, zst2_3, znth4, zst1_4, zst2_4, znth5, zst1_5, zst2_5, znth6, zst1_6, zst2_6, znth7, zst1_7, zst2_7, znth8, zst1_8, zst2_8, znth9, zst1_9, zst2_9, znth10, zst1_10, zst2_10, znth11, zst1_11, zst2_11, znth12, zst1_12, zst2_12, znth13, zst1_13, zst2_13, znth14, zst1_14, zst2_14, znth15, zst1_15, zst2_15, znth16, zst1_16, zst2_16, znth17, zst1_17, zst2_17, znth18, zst1_18, zst2_18, znth19, zst1_19, zst2_19, znth20, zst1_20, zst2_20, znth21, zst1_21, zst2_21, znth22, zst1_22, zst2_22, znth23, zst1_23, zst2_23, znth24, zst1_24, zst2_24, znth25, zst1_25, zst2_25, zkill_n, zkill_int, zkill_ref, zkill_null, zkill_long, zkill_double, zkill_rf, zref_s, zref_n, zref_rf, va_rf_s, va_rf_n, zget0, zget1, zget2, zget3, zget4, zget5, zget6, zget7, zget8, zget9, zget10, zget11, zget12, zget13, zget14, zget15, zget16, zget17, zget18, zget19, zget20, zget21, zget22, zget23, zget24, zget25, zwt_0, zwt_int, zcat_int, zwt_ref, zcat_ref, zwt_long, zcat_long, zwt_double, zcat_double, zwt_null, zwt_rf, zcat_null, zcat_rf, ztl_s, ztl_n, zfI, zfZ, zfJ, zfD, zfO, zfA, zsw_0, zsw_s, zYX1_0, zYX1_1, zYX1_2, zYX1_3, zYX1_4, zYX1_5, zYX1_6, zYX1_7, zYX1_8, zYX1_9, zYX1_10, zYX1_11, zYX1_12, zYX1_13, zYX1_14, zNX1, zYX2_0, zYX2_1, zYX2_2, zYX2_3, zYX2_4, zYX2_5, zYX2_6, zYX2_7, zYX2_8, zYX2_9, zYX2_10, zNX2, zYX3_0, zYX3_1, zYX3_2, zYX3_3, zYX3_4, zYX3_5, zYX3_6, zNX3, zYX4_0, zYX4_1, zYX4_2, zYX4_3, zYX4_4, zYX4_5, zNX4, zYX5_0, zYX5_1, zYX5_2, zYX5_3, zYX5_4, zYX5_5, zYX5_6, zYX5_7, zYX5_8, zNX5, zYX6_0, zYX6_1, zYX6_2, zYX6_3, zYX6_4, zNX6, zYX7_0, zYX7_1, zYX7_2, zYX7_3, zNX7, zYX8_0, zYX8_1, zYX8_2, zNX8, zYX9_0, zYX9_1, zYX9_2, zNX9, zYX10_0, zYX10_1, zYX10_2, zYX10_3, zYX10_4, zYX10_5, zYX10_6, zYX10_7, zYX10_8, zNX10, zYX11_0, zYX11_1, zYX11_2, zYX11_3, zYX11_4, zYX11_5, zYX11_6, zYX11_7, zYX11_8, zYX11_9, zYX11_10, zYX11_11, zYX11_12, zYX11_13, zYX11_14, zYX11_15, zYX11_16, zYX11_17, zYX11_18, zYX11_19, zYX11_20, zYX11_21, zYX11_22, zYX11_23, zYX11_24, zYX11_25, zYX11_26, zYX11_27, zYX11_28, zYX11_29, zYX11_30, zYX11_31, zYX11_32, zYX11_33, zYX11_34, zYX11_35, zYX11_36, zYX11_37, zYX11_38, zYX11_39, zYX11_40, zYX11_41, zYX11_42, zYX11_43, zYX11_44, zYX11_45, zYX11_46, zYX11_47, zYX11_48, zYX11_49, zYX11_50, zYX11_51, zYX11_52, zYX11_53, zYX11_54, zYX11_55, zYX11_56, zYX11_57, zNX11, zend_i, zend_l, zend_d, zend_o, zend_v, wzend_z, znle, zisI_s, zgI_s, zisJ_s, zgJ_s, zisD_s, zgD_s, zisA_s, zgA_s, zpokI, zpstI, zpokZ, zpstZ, zpokJ, zpstJ, zpokD, zpstD, zpokO, zpstO, zpokOn, zpstOn, zpokA, zpstA, zpokAn, zpstAn, zpk_0, zptk_0, zpdr_0, zpk_1, zptk_1, zpdr_1, zpk_2, zptk_2, zpdr_2, zpk_3, zptk_3, zpdr_3, zpk_4, zptk_4, zpdr_4, zpk_5, zptk_5, zpdr_5, zpk_6, zptk_6, zpdr_6, zpk_7, zptk_7, zpdr_7, zpk_8, zptk_8, zpdr_8, zisR_s, zgR_s, ztlR_s, zisC_s, zgC_s, zkont_s, zkont_n, zw_iload, zw_iload_n0, zw_iload_n1, zw_iload_n2, zw_iload_n3, zw_lload, zw_lload_n0, zw_lload_n1, zw_lload_n2, zw_lload_n3, zw_dload, zw_dload_n0, zw_dload_n1, zw_dload_n2, zw_dload_n3, zw_aload, zw_aload_n0, zw_aload_n1, zw_aload_n2, zw_aload_n3, zw_iinc, zw_putfield, zw_callS, zw_callV, zw_callI, q_X11_root, ct_X11_root, zn_X11_whole, zs_X11_whole, zn_X11_power, zs_X11_power, zn_X11_composed, zs_X11_composed, nIm_1, b_X11_root_0, b_X11_root_11, b_X11_root_31, b_X11_root_47, b_X11_root_56, b_X11_root_86, b_X11_root_87, b_X11_root_139, b_X11_root_145, b_X11_root_177, k_X11_root_0, k_X11_root_11, k_X11_root_31, k_X11_root_47, k_X11_root_56, k_X11_root_86, k_X11_root_87, k_X11_root_139, k_X11_root_145, k_X11_root_177, true_or, or_true, zrz_1, zrz_0, zrz_b, true_and, and_true, Nat.reduceAdd, Nat.reduceLeDiff, Nat.reduceMul, Nat.le_refl, Nat.add_zero, Nat.zero_add, z1, e2, e3, e4, hr2, Classical.not_not, Bool.not_eq_false, Bool.not_eq_true, zN_add, zN_sub, zN_mul, zN_le, zN_lt, zN_eq, zix_nI, zin_n, zinI_n, zinR_n, zlt_t, zom_t, zLsr, zLsh, zand_low, zL_add, zL_mul, zL_lt, zL_le, zL_sub, zL_div, zN_div, zL_e0, zL_n0, zN_n0, zN11, zN00, false_or, or_false, zZN_add, zNZ_add, zZN_sub, zNZ_sub, zZN_lt, zZN_le, zNZ_lt, zNZ_le, zZN_eq, zZZ_lt, zZZ_le, zZZ_eq, zN_32, Nat.reducePow, Nat.reduceMod, Nat.reduceDiv, zlc_eq, zlc_lt, zlc_ge, zlc_gt, zlc_le, bI_0, zbo_b, zbo_1, zbo_0, zuJ_inj, nI_nat, eq_self, Nat.reduceEqDiff, Nat.reduceSub, zI_sI_eq, zI_sI_ne, zJ_sJ_eq, zJ_sJ_ne, zD_sD_eq, zD_sD_ne, zR_sR_eq, zR_sR_ne, zJ_sI, zR_sI, zSh_sI, zNx_sI, zD_sI, zI_sJ, zR_sJ, zSh_sJ, zNx_sJ, zD_sJ, zI_sD, zJ_sD, zR_sD, zSh_sD, zNx_sD, zI_sR, zJ_sR, zD_sR, zSh_sR, zNx_sR, if_true, if_false, ite_true, ite_false, not_true, not_false_eq_true, forall_const, false_implies, true_implies, implies_true, zN_shr, zN_m31, jZ_low, jZ_add, jZ_sub, jZN_mul]
    refine ⟨fun h1 => ?_, fun h1 => ih (b2.mp (by omega))⟩
    obtain ⟨a, b⟩ := zm h1
    have hX0 : zX4 (zrtM x.toNat) 0 = 0 * 0 + 0 := by
      unfold zX4
      rw [if_pos (by decide)]
      exact Nat.div_eq_of_lt (Nat.lt_of_lt_of_le hM2 (by decide))
    have dg := dg hX0 (by decide)
    unfold zrtM zrtS at dg
    refine ⟨fun h2 => ?_, fun h2 => ?_⟩
    · rw [if_pos (by rw [← b]; exact h2), ← a, show 2 * (zfsc x.toNat / 2) = zsc x.toNat - d by omega] at dg
      exact dg
    · rw [if_neg (by rw [← b]; exact h2), ← a, show 2 * (zfsc x.toNat / 2) = zsc x.toNat - ((d + 1 : Nat) : Int) by omega, e2] at dg
      exact dg
  have n0 := norm 0 (Nat.zero_le _)
  rw [Nat.pow_zero, Nat.mul_one, show zsc x.toNat - ((0 : Nat) : Int) = zsc x.toNat by omega] at n0
  clear norm digits
  refine hX 1000 _ _ _ _ _ _ ?_
  simp +contextual (disch := omega) only [wzq_nop, wzq_nop0, wzq_null, wzq_iconst, wzq_bipush, wzq_sipush, wzq_ldc, wzq_ldc_w, wzq_lconst, wzq_dconst, wzq_ldc2, wzq_ldc2d, wzq_istore, wzq_istore_n0, wzq_istore_n1, wzq_istore_n2, wzq_istore_n3, wzq_lstore, wzq_lstore_n0, wzq_lstore_n1, wzq_lstore_n2, wzq_lstore_n3, wzq_dstore, wzq_dstore_n0, wzq_dstore_n1, wzq_dstore_n2, wzq_dstore_n3, wzq_astore, wzq_astore_n0, wzq_astore_n1, wzq_astore_n2, wzq_astore_n3, wzq_iadd, wzq_isub, wzq_imul, wzq_iand, wzq_ior, wzq_ishr, wzq_iushr, wzq_idiv, wzq_irem, wzq_ineg, wzq_ladd, wzq_lsub, wzq_lmul, wzq_land, wzq_lor, wzq_lxor, wzq_ldiv, wzq_lrem, wzq_lneg, wzq_lshl, wzq_lshr, wzq_lushr, wzq_i2l, wzq_l2i, wzq_lcmp, wzq_dcmp, wzq_dadd, wzq_dsub, wzq_dmul, wzq_ddiv, wzq_dneg, wzq_dup, wzq_pop, wzq_pop2, wzq_dup2J, wzq_dup2D, wzq_dup2I, wzq_goto0, wzq_goto1, wzq_if_eq0, wzq_if_eq1, wzq_icmp_eq0, wzq_icmp_eq1, wzq_if_ne0, wzq_if_ne1, wzq_icmp_ne0, wzq_icmp_ne1, wzq_if_lt0, wzq_if_lt1, wzq_icmp_lt0, wzq_icmp_lt1, wzq_if_ge0, wzq_if_ge1, wzq_icmp_ge0, wzq_icmp_ge1, wzq_if_gt0, wzq_if_gt1, wzq_icmp_gt0, wzq_icmp_gt1, wzq_if_le0, wzq_if_le1, wzq_icmp_le0, wzq_icmp_le1, wzq_ifnull0, wzq_ifnull1, wzq_ifnull_a, wzq_ifnull_b, wzq_ifnonnull0, wzq_ifnonnull1, wzq_ifnonnull_a, wzq_ifnonnull_b, wzq_table, wzq_getfield, wzq_alen, wzq_iaload, wzq_baload, wzq_laload, wzq_daload, wzq_aaload, wzq_iastore, wzq_bastore, wzq_lastore, wzq_dastore, wzq_aastore, wzq_new, wzq_newarray, wzq_anewarray, wzq_d2l, wzq_l2d, wzq_mmax, wzq_mmin, wzq_mmaxl, wzq_mabs, wzq_objInit, wzq_ireturn, wzq_lreturn, wzq_dreturn, wzq_areturn, wzq_return, znth0, zst1_0, zst2_0, znth1, zst1_1, zst2_1, znth2, zst1_2, zst2_2, znth3, zst1_3, zst2_3, znth4, zst1_4, zst2_4, znth5, zst1_5, zst2_5, znth6, zst1_6, zst2_6, znth7, zst1_7, zst2_7, znth8, zst1_8, zst2_8, znth9, zst1_9, zst2_9, znth10, zst1_10, zst2_10, znth11, zst1_11, zst2_11, znth12, zst1_12, zst2_12, znth13, zst1_13, zst2_13, znth14, zst1_14, zst2_14, znth15, zst1_15, zst2_15, znth16, zst1_16, zst2_16, znth17, zst1_17, zst2_17, znth18, zst1_18, zst2_18, znth19, zst1_19, zst2_19, znth20, zst1_20, zst2_20, znth21, zst1_21, zst2_21, znth22, zst1_22, zst2_22, znth23, zst1_23, zst2_23, znth24, zst1_24, zst2_24, znth25, zst1_25, zst2_25, zkill_n, zkill_int, zkill_ref, zkill_null, zkill_long, zkill_double, zkill_rf, zref_s, zref_n, zref_rf, va_rf_s, va_rf_n, zget0, zget1, zget2, zget3, zget4, zget5, zget6, zget7, zget8, zget9, zget10, zget11, zget12, zget13, zget14, zget15, zget16, zget17, zget18, zget19, zget20, zget21, zget22, zget23, zget24, zget25, zwt_0, zwt_int, zcat_int, zwt_ref, zcat_ref, zwt_long, zcat_long, zwt_double, zcat_double, zwt_null, zwt_rf, zcat_null, zcat_rf, ztl_s, ztl_n, zfI, zfZ, zfJ, zfD, zfO, zfA, zsw_0, zsw_s, zYX1_0, zYX1_1, zYX1_2, zYX1_3, zYX1_4, zYX1_5, zYX1_6, zYX1_7, zYX1_8, zYX1_9, zYX1_10, zYX1_11, zYX1_12, zYX1_13, zYX1_14, zNX1, zYX2_0, zYX2_1, zYX2_2, zYX2_3, zYX2_4, zYX2_5, zYX2_6, zYX2_7, zYX2_8, zYX2_9, zYX2_10, zNX2, zYX3_0, zYX3_1, zYX3_2, zYX3_3, zYX3_4, zYX3_5, zYX3_6, zNX3, zYX4_0, zYX4_1, zYX4_2, zYX4_3, zYX4_4, zYX4_5, zNX4, zYX5_0, zYX5_1, zYX5_2, zYX5_3, zYX5_4, zYX5_5, zYX5_6, zYX5_7, zYX5_8, zNX5, zYX6_0, zYX6_1, zYX6_2, zYX6_3, zYX6_4, zNX6, zYX7_0, zYX7_1, zYX7_2, zYX7_3, zNX7, zYX8_0, zYX8_1, zYX8_2, zNX8, zYX9_0, zYX9_1, zYX9_2, zNX9, zYX10_0, zYX10_1, zYX10_2, zYX10_3, zYX10_4, zYX10_5, zYX10_6, zYX10_7, zYX10_8, zNX10, zYX11_0, zYX11_1, zYX11_2, zYX11_3, zYX11_4, zYX11_5, zYX11_6, zYX11_7, zYX11_8, zYX11_9, zYX11_10, zYX11_11, zYX11_12, zYX11_13, zYX11_14, zYX11_15, zYX11_16, zYX11_17, zYX11_18, zYX11_19, zYX11_20, zYX11_21, zYX11_22, zYX11_23, zYX11_24, zYX11_25, zYX11_26, zYX11_27, zYX11_28, zYX11_29, zYX11_30, zYX11_31, zYX11_32, zYX11_33, zYX11_34, zYX11_35, zYX11_36, zYX11_37, zYX11_38, zYX11_39, zYX11_40, zYX11_41, zYX11_42, zYX11_43, zYX11_44, zYX11_45, zYX11_46, zYX11_47, zYX11_48, zYX11_49, zYX11_50, zYX11_51, zYX11_52, zYX11_53, zYX11_54, zYX11_55, zYX11_56, zYX11_57, zNX11, zend_i, zend_l, zend_d, zend_o, zend_v, wzend_z, znle, zisI_s, zgI_s, zisJ_s, zgJ_s, zisD_s, zgD_s, zisA_s, zgA_s, zpokI, zpstI, zpokZ, zpstZ, zpokJ, zpstJ, zpokD, zpstD, zpokO, zpstO, zpokOn, zpstOn, zpokA, zpstA, zpokAn, zpstAn, zpk_0, zptk_0, zpdr_0, zpk_1, zptk_1, zpdr_1, zpk_2, zptk_2, zpdr_2, zpk_3, zptk_3, zpdr_3, zpk_4, zptk_4, zpdr_4, zpk_5, zptk_5, zpdr_5, zpk_6, zptk_6, zpdr_6, zpk_7, zptk_7, zpdr_7, zpk_8, zptk_8, zpdr_8, zisR_s, zgR_s, ztlR_s, zisC_s, zgC_s, zkont_s, zkont_n, zw_iload, zw_iload_n0, zw_iload_n1, zw_iload_n2, zw_iload_n3, zw_lload, zw_lload_n0, zw_lload_n1, zw_lload_n2, zw_lload_n3, zw_dload, zw_dload_n0, zw_dload_n1, zw_dload_n2, zw_dload_n3, zw_aload, zw_aload_n0, zw_aload_n1, zw_aload_n2, zw_aload_n3, zw_iinc, zw_putfield, zw_callS, zw_callV, zw_callI, q_X11_root, ct_X11_root, zc_X11_whole, zn_X11_whole, zs_X11_whole, zc_X11_power, zn_X11_power, zs_X11_power, zn_X11_composed, zs_X11_composed, nIm_1, b_X11_root_0, b_X11_root_11, b_X11_root_31, b_X11_root_47, b_X11_root_56, b_X11_root_86, b_X11_root_87, b_X11_root_139, b_X11_root_145, b_X11_root_177, k_X11_root_0, k_X11_root_11, k_X11_root_31, k_X11_root_47, k_X11_root_56, k_X11_root_86, k_X11_root_87, k_X11_root_139, k_X11_root_145, k_X11_root_177, true_or, or_true, zrz_1, zrz_0, zrz_b, true_and, and_true, Nat.reduceAdd, Nat.reduceLeDiff, Nat.reduceMul, Nat.le_refl, Nat.add_zero, Nat.zero_add, zc_X11_whole, zc_X11_power, ox, Classical.not_not, Bool.not_eq_false, Bool.not_eq_true, zN_add, zN_sub, zN_mul, zN_le, zN_lt, zN_eq, zix_nI, zin_n, zinI_n, zinR_n, zlt_t, zom_t, zLsr, zLsh, zand_low, zL_add, zL_mul, zL_lt, zL_le, zL_sub, zL_div, zN_div, zL_e0, zL_n0, zN_n0, zN11, zN00, false_or, or_false, zZN_add, zNZ_add, zZN_sub, zNZ_sub, zZN_lt, zZN_le, zNZ_lt, zNZ_le, zZN_eq, zZZ_lt, zZZ_le, zZZ_eq, zN_32, Nat.reducePow, Nat.reduceMod, Nat.reduceDiv, zlc_eq, zlc_lt, zlc_ge, zlc_gt, zlc_le, bI_0, zbo_b, zbo_1, zbo_0, zuJ_inj, nI_nat, eq_self, Nat.reduceEqDiff, Nat.reduceSub, zI_sI_eq, zI_sI_ne, zJ_sJ_eq, zJ_sJ_ne, zD_sD_eq, zD_sD_ne, zR_sR_eq, zR_sR_ne, zJ_sI, zR_sI, zSh_sI, zNx_sI, zD_sI, zI_sJ, zR_sJ, zSh_sJ, zNx_sJ, zD_sJ, zI_sD, zJ_sD, zR_sD, zSh_sD, zNx_sD, zI_sR, zJ_sR, zD_sR, zSh_sR, zNx_sR, if_true, if_false, ite_true, ite_false, not_true, not_false_eq_true, forall_const, false_implies, true_implies, implies_true, zN_shr, zN_m31, jZ_low, jZ_add, jZ_sub, jZN_mul]
  exact n0
end ZMRO
