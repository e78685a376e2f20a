/-! the class's exact sums: addPiece, addNumber, addProduct */ -/
section ZTOT4
def zupI (f : Nat → Int) (k : Nat) (x : Int) : Nat → Int := fun j => if j = k then x else f j
theorem zsv_upd (f : Nat → Int) (x : Int) {k : Nat} : ∀ {n : Nat}, k < n → zsv (zupI f k x) n = zsv f n + (x - f k) * 2 ^ (32 * k)
  | 0, h => by omega
  | n + 1, h => by
    rw [zsv_s, zsv_s]
    by_cases h1 : k = n
    · subst h1
      rw [zsv_congr (f := zupI f k x) (g := f) (fun i hi => if_neg (by omega)), show zupI f k x k = x from if_pos rfl]
      grind
    · rw [zsv_upd f x (show k < n by omega), show zupI f k x n = f n from if_neg (by omega)]
      grind
/-- three digits that are added -/
theorem zsv_add3 (f : Nat → Int) (σ a b c : Int) {d n : Nat} (h : d + 2 < n) : zsv (zupI (zupI (zupI f d (f d + σ * a)) (d + 1) (f (d + 1) + σ * b)) (d + 2) (f (d + 2) + σ * c)) n = zsv f n + σ * (a + b * 4294967296 + c * 18446744073709551616) * 2 ^ (32 * d) := by
  rw [zsv_upd _ _ h, zsv_upd _ _ (show d + 1 < n by omega), zsv_upd _ _ (show d < n by omega)]
  have e1 : zupI (zupI f d (f d + σ * a)) (d + 1) (f (d + 1) + σ * b) (d + 2) = f (d + 2) := by
    unfold zupI; rw [if_neg (by omega), if_neg (by omega)]
  have e2 : zupI f d (f d + σ * a) (d + 1) = f (d + 1) := if_neg (by omega)
  rw [e1, e2, show 32 * (d + 2) = 32 * d + 64 by omega, show 32 * (d + 1) = 32 * d + 32 by omega, Int.pow_add, Int.pow_add, show (2 : Int) ^ 64 = 18446744073709551616 from rfl, show (2 : Int) ^ 32 = 4294967296 from rfl]
  generalize (2 : Int) ^ (32 * d) = P
  grind
def ct_X7_addPiece : zCt := (fun av S K => ∃ o : Nat, ∃ v : Int64, ∃ sc : Int32, ∃ mi : Int32, av = [.ref o, .long v, .int sc, .int mi] ∧ (∃ V c hm u s, (zTa S o V c hm ∧ v = lN u ∧ sc = iZ s ∧ zom (u < 18014398509481984 ∧ -2176 ≤ s ∧ s ≤ 2000 ∧ c < 1024 ∧ 133 ≤ hm)) ∧ ∀ T, zGr (fun b => b = o ∨ b = o + 1) S T → zTa T o (V + (if zbo mi = true then -1 else 1) * ((u : Int) * 2 ^ (s + 2176).toNat)) (c + 1) hm → K none T), 0, 0)
theorem zc_X7_addPiece {S : zS} {K : Option Value → zS → Prop} {o : Nat} {v : Int64} {sc : Int32} {mi : Int32} : ct_X7_addPiece.1 [.ref o, .long v, .int sc, .int mi] S K = (∃ V c hm u s, (zTa S o V c hm ∧ v = lN u ∧ sc = iZ s ∧ zom (u < 18014398509481984 ∧ -2176 ≤ s ∧ s ≤ 2000 ∧ c < 1024 ∧ 133 ≤ hm)) ∧ ∀ T, zGr (fun b => b = o ∨ b = o + 1) S T → zTa T o (V + (if zbo mi = true then -1 else 1) * ((u : Int) * 2 ^ (s + 2176).toNat)) (c + 1) hm → K none T) := propext ⟨fun ⟨z0, z1, z2, z3, e, h⟩ => by cases e; exact h, fun h => ⟨o, v, sc, mi, rfl, h⟩⟩
theorem zn_X7_addPiece : ct_X7_addPiece.2.1 = 0 := rfl
theorem zs_X7_addPiece : ct_X7_addPiece.2.2 = 0 := rfl
theorem met_X7_addPiece (l : Launch) (G : zG) : zMet l G q_X7_addPiece ct_X7_addPiece := by
  refine zmk 7 false cal_X7_addPiece bl_X7_addPiece pl_X7_addPiece [] ck_X7_addPiece nm_X7_addPiece ⟨rfl, rfl⟩ wd_X7_addPiece (trivial) ?_
  intro X av S K h
  obtain ⟨o, v, sc, mi, rfl, h⟩ := h
  refine ⟨Nat.le_of_ble_eq_true rfl, fun hX => ?_⟩
  show X 0 [some (.ref o), some (.long v), none, some (.int sc), some (.int mi), none, none, none, none, none, none, none, none, none] [] S 0 0
  obtain ⟨V, c, hm, u, s, ⟨⟨dg, lo, h, ⟨sh, ⟨f1, f2, f3⟩, ⟨b1, b2⟩, fd, fz⟩, hh, hV, hc, hb⟩, rfl, rfl, hom⟩, hK⟩ := h
  have ⟨hu, hs1, hs2, hc2, hm2⟩ : u < 18014398509481984 ∧ -2176 ≤ s ∧ s ≤ 2000 ∧ c < 1024 ∧ 133 ≤ hm := hom
  obtain ⟨i, hi⟩ : ∃ i : Nat, s + 2176 = (i : Int) := ⟨(s + 2176).toNat, by omega⟩
  have e1 : iZ s - iZ (-2176) = nI i := by rw [iZ_sub, nI_z, ← hi]; congr 1
  obtain ⟨d, hd⟩ : ∃ d, i / 32 = d := ⟨_, rfl⟩
  obtain ⟨r, hr⟩ : ∃ r, i % 32 = r := ⟨_, rfl⟩
  have hir : i = 32 * d + r := by omega
  have hr32 : r < 32 := by omega
  have hu1 : u % 4294967296 * 2 ^ r < 18446744073709551616 := by
    have : 2 ^ r ≤ 2 ^ 31 := Nat.pow_le_pow_right (by decide) (by omega)
    have := Nat.mul_le_mul (show u % 4294967296 ≤ 4294967295 by omega) this
    omega
  have hu2 : u / 4294967296 * 2 ^ r < 18446744073709551616 := by
    have : 2 ^ r ≤ 2 ^ 31 := Nat.pow_le_pow_right (by decide) (by omega)
    have := Nat.mul_le_mul (show u / 4294967296 ≤ 4194304 by omega) this
    omega
  obtain ⟨x, hx⟩ : ∃ x, u % 4294967296 * 2 ^ r = x := ⟨_, rfl⟩
  obtain ⟨y, hy⟩ : ∃ y, u / 4294967296 * 2 ^ r = y := ⟨_, rfl⟩
  rw [hx] at hu1
  rw [hy] at hu2
  have h32 : (2 : Nat) ^ 5 = 32 := rfl
  refine hX 1000 _ _ _ _ _ _ ?_
  simp +contextual (disch := omega) only [wzq_nop, wzq_nop0, wzq_null, wzq_iconst, wzq_bipush, wzq_sipush, wzq_ldc, wzq_ldc_w, wzq_lconst, wzq_dconst, wzq_ldc2, wzq_ldc2d, wzq_istore, wzq_istore_n0, wzq_istore_n1, wzq_istore_n2, wzq_istore_n3, wzq_lstore, wzq_lstore_n0, wzq_lstore_n1, wzq_lstore_n2, wzq_lstore_n3, wzq_dstore, wzq_dstore_n0, wzq_dstore_n1, wzq_dstore_n2, wzq_dstore_n3, wzq_astore, wzq_astore_n0, wzq_astore_n1, wzq_astore_n2, wzq_astore_n3, wzq_iadd, wzq_isub, wzq_imul, wzq_iand, wzq_ior, wzq_ishr, wzq_iushr, wzq_idiv, wzq_irem, wzq_ineg, wzq_ladd, wzq_lsub, wzq_lmul, wzq_land, wzq_lor, wzq_lxor, wzq_ldiv, wzq_lrem, wzq_lneg, wzq_lshl, wzq_lshr, wzq_lushr, wzq_i2l, wzq_l2i, wzq_lcmp, wzq_dcmp, wzq_dadd, wzq_dsub, wzq_dmul, wzq_ddiv, wzq_dneg, wzq_dup, wzq_pop, wzq_pop2, wzq_dup2J, wzq_dup2D, wzq_dup2I, wzq_goto0, wzq_goto1, wzq_if_eq0, wzq_if_eq1, wzq_icmp_eq0, wzq_icmp_eq1, wzq_if_ne0, wzq_if_ne1, wzq_icmp_ne0, wzq_icmp_ne1, wzq_if_lt0, wzq_if_lt1, wzq_icmp_lt0, wzq_icmp_lt1, wzq_if_ge0, wzq_if_ge1, wzq_icmp_ge0, wzq_icmp_ge1, wzq_if_gt0, wzq_if_gt1, wzq_icmp_gt0, wzq_icmp_gt1, wzq_if_le0, wzq_if_le1, wzq_icmp_le0, wzq_icmp_le1, wzq_ifnull0, wzq_ifnull1, wzq_ifnull_a, wzq_ifnull_b, wzq_ifnonnull0, wzq_ifnonnull1, wzq_ifnonnull_a, wzq_ifnonnull_b, wzq_table, wzq_getfield, wzq_alen, wzq_iaload, wzq_baload, wzq_laload, wzq_daload, wzq_aaload, wzq_iastore, wzq_bastore, wzq_lastore, wzq_dastore, wzq_aastore, wzq_new, wzq_newarray, wzq_anewarray, wzq_d2l, wzq_l2d, wzq_mmax, wzq_mmin, wzq_mmaxl, wzq_mabs, wzq_objInit, wzq_ireturn, wzq_lreturn, wzq_dreturn, wzq_areturn, wzq_return, znth0, zst1_0, zst2_0, znth1, zst1_1, zst2_1, znth2, zst1_2, zst2_2, znth3, zst1_3, zst2_3, znth4, zst1_4, zst2_4, znth5, zst1_5, zst2_5, znth6, zst1_6, zst2_6, znth7, zst1_7, zst2_7, znth8, zst1_8, zst2_8, znth9, zst1_9, zst2_9, znth10, zst1_10, zst2_10, znth11, zst1_11, zst2_11, znth12, zst1_12, zst2_12, znth13, zst1_13, zst2_13, znth14, zst1_14, zst2_14, znth15, zst1_15, zst2_15, znth16, zst1_16, zst2_16, znth17, zst1_17, zst2_17, znth18, zst1_18, zst2_18, znth19, zst1_19, zst2_19, znth20, zst1_20, zst2_20, znth21, zst1_21, zst2_21, znth22, zst1_22, zst2_22, znth23, zst1_23, zst2_23, znth24, zst1_24, zst2_24, znth25, zst1_25, zst2_25, zkill_n, zkill_int, zkill_ref, zkill_null, zkill_long, zkill_double, zkill_rf, zref_s, zref_n, zref_rf, va_rf_s, va_rf_n, zget0, zget1, zget2, zget3, zget4, zget5, zget6, zget7, zget8, zget9, zget10, zget11, zget12, zget13, zget14, zget15, zget16, zget17, zget18, zget19, zget20, zget21, zget22, zget23, zget24, zget25, zwt_0, zwt_int, zcat_int, zwt_ref, zcat_ref, zwt_long, zcat_long, zwt_double, zcat_double, zwt_null, zwt_rf, zcat_null, zcat_rf, ztl_s, ztl_n, zfI, zfZ, zfJ, zfD, zfO, zfA, zsw_0, zsw_s, zYX1_0, zYX1_1, zYX1_2, zYX1_3, zYX1_4, zYX1_5, zYX1_6, zYX1_7, zYX1_8, zYX1_9, zYX1_10, zYX1_11, zYX1_12, zYX1_13, zYX1_14, zNX1, zYX2_0, zYX2_1, zYX2_2, zYX2_3, zYX2_4, zYX2_5, zYX2_6, zYX2_7, zYX2_8, zYX2_9, zYX2_10, zNX2, zYX3_0, zYX3_1, zYX3_2, zYX3_3, zYX3_4, zYX3_5, zYX3_6, zNX3, zYX4_0, zYX4_1, zYX4_2, zYX4_3, zYX4_4, zYX4_5, zNX4, zYX5_0, zYX5_1, zYX5_2, zYX5_3, zYX5_4, zYX5_5, zYX5_6, zYX5_7, zYX5_8, zNX5, zYX6_0, zYX6_1, zYX6_2, zYX6_3, zYX6_4, zNX6, zYX7_0, zYX7_1, zYX7_2, zYX7_3, zNX7, zYX8_0, zYX8_1, zYX8_2, zNX8, zYX9_0, zYX9_1, zYX9_2, zNX9, zYX10_0, zYX10_1, zYX10_2, zYX10_3, zYX10_4, zYX10_5, zYX10_6, zYX10_7, zYX10_8, zNX10, zYX11_0, zYX11_1, zYX11_2, zYX11_3, zYX11_4, zYX11_5, zYX11_6, zYX11_7, zYX11_8, zYX11_9, zYX11_10, zYX11_11, zYX11_12, zYX11_13, zYX11_14, zYX11_15, zYX11_16, zYX11_17, zYX11_18, zYX11_19, zYX11_20, zYX11_21, zYX11_22, zYX11_23, zYX11_24, zYX11_25, zYX11_26, zYX11_27, zYX11_28, zYX11_29, zYX11_30, zYX11_31, zYX11_32, zYX11_33, zYX11_34, zYX11_35, zYX11_36, zYX11_37, zYX11_38, zYX11_39, zYX11_40, zYX11_41, zYX11_42, zYX11_43, zYX11_44, zYX11_45, zYX11_46, zYX11_47, zYX11_48, zYX11_49, zYX11_50, zYX11_51, zYX11_52, zYX11_53, zYX11_54, zYX11_55, zYX11_56, zYX11_57, zNX11, zend_i, zend_l, zend_d, zend_o, zend_v, wzend_z, znle, zisI_s, zgI_s, zisJ_s, zgJ_s, zisD_s, zgD_s, zisA_s, zgA_s, zpokI, zpstI, zpokZ, zpstZ, zpokJ, zpstJ, zpokD, zpstD, zpokO, zpstO, zpokOn, zpstOn, zpokA, zpstA, zpokAn, zpstAn, zpk_0, zptk_0, zpdr_0, zpk_1, zptk_1, zpdr_1, zpk_2, zptk_2, zpdr_2, zpk_3, zptk_3, zpdr_3, zpk_4, zptk_4, zpdr_4, zpk_5, zptk_5, zpdr_5, zpk_6, zptk_6, zpdr_6, zpk_7, zptk_7, zpdr_7, zpk_8, zptk_8, zpdr_8, zisR_s, zgR_s, ztlR_s, zisC_s, zgC_s, zkont_s, zkont_n, zw_iload, zw_iload_n0, zw_iload_n1, zw_iload_n2, zw_iload_n3, zw_lload, zw_lload_n0, zw_lload_n1, zw_lload_n2, zw_lload_n3, zw_dload, zw_dload_n0, zw_dload_n1, zw_dload_n2, zw_dload_n3, zw_aload, zw_aload_n0, zw_aload_n1, zw_aload_n2, zw_aload_n3, zw_iinc, zw_putfield, zw_callS, zw_callV, zw_callI, q_X7_addPiece, ct_X7_addPiece, nIm_2176, b_X7_addPiece_0, b_X7_addPiece_34, b_X7_addPiece_35, b_X7_addPiece_72, b_X7_addPiece_73, k_X7_addPiece_0, k_X7_addPiece_34, k_X7_addPiece_35, k_X7_addPiece_72, k_X7_addPiece_73, true_or, or_true, zrz_1, zrz_0, zrz_b, true_and, and_true, Nat.reduceAdd, Nat.reduceLeDiff, Nat.reduceMul, Nat.le_refl, Nat.add_zero, Nat.zero_add, zP7_k (sh), zP7_r0 (sh), zP7_s0 (sh), f1, f2, e1, h32, hd, hr, hx, hy, fd, lNm1, zbo_e mi, Classical.not_not, Bool.not_eq_false, Bool.not_eq_true, zN_add, zN_sub, zN_mul, zN_le, zN_lt, zN_eq, zix_nI, zin_n, zinI_n, zinR_n, zlt_t, zom_t, zLsr, zLsh, zand_low, zL_add, zL_mul, zL_lt, zL_le, zL_sub, zL_div, zN_div, zL_e0, zL_n0, zN_n0, zN11, zN00, false_or, or_false, zZN_add, zNZ_add, zZN_sub, zNZ_sub, zZN_lt, zZN_le, zNZ_lt, zNZ_le, zZN_eq, zZZ_lt, zZZ_le, zZZ_eq, zN_32, Nat.reducePow, Nat.reduceMod, Nat.reduceDiv, zlc_eq, zlc_lt, zlc_ge, zlc_gt, zlc_le, bI_0, zbo_b, zbo_1, zbo_0, zuJ_inj, nI_nat, eq_self, Nat.reduceEqDiff, Nat.reduceSub, zI_sI_eq, zI_sI_ne, zJ_sJ_eq, zJ_sJ_ne, zD_sD_eq, zD_sD_ne, zR_sR_eq, zR_sR_ne, zJ_sI, zR_sI, zSh_sI, zNx_sI, zD_sI, zI_sJ, zR_sJ, zSh_sJ, zNx_sJ, zD_sJ, zI_sD, zJ_sD, zR_sD, zSh_sD, zNx_sD, zI_sR, zJ_sR, zD_sR, zSh_sR, zNx_sR, if_true, if_false, ite_true, ite_false, not_true, not_false_eq_true, forall_const, false_implies, true_implies, implies_true, zN_shr, zN_m31, jZ_low, jZ_add, jZ_sub, jZN_mul]
  have eV : ∀ σ : Int, σ * (((x % 4294967296 : Nat) : Int) + ((x / 4294967296 + y % 4294967296 : Nat) : Int) * 4294967296 + ((y / 4294967296 : Nat) : Int) * 18446744073709551616) * 2 ^ (32 * d) = σ * ((u : Int) * 2 ^ (s + 2176).toNat) := fun σ => by
    have q1 : ((x % 4294967296 : Nat) : Int) + ((x / 4294967296 + y % 4294967296 : Nat) : Int) * 4294967296 + ((y / 4294967296 : Nat) : Int) * 18446744073709551616 = (x : Int) + (y : Int) * 4294967296 := by omega
    have q2 : (x : Int) + (y : Int) * 4294967296 = (u : Int) * 2 ^ r := by
      have : x + y * 4294967296 = u * 2 ^ r := by
        have e : u % 4294967296 + u / 4294967296 * 4294967296 = u := by omega
        rw [← hx, ← hy, Nat.mul_right_comm, ← Nat.add_mul, e]
      have := congrArg (fun n : Nat => (n : Int)) this
      simp only [Int.natCast_add, Int.natCast_mul, Int.natCast_pow] at this
      exact this
    rw [q1, q2, hi, Int.toNat_natCast, hir, Nat.add_comm, Int.pow_add]
    grind
  have bx : x % 4294967296 < 4294967296 ∧ x / 4294967296 < 4294967296 ∧ y % 4294967296 < 4294967296 ∧ y / 4294967296 < 4294967296 := by omega
  obtain ⟨a1, ha1⟩ : ∃ a1, x % 4294967296 = a1 := ⟨_, rfl⟩
  obtain ⟨a2, ha2⟩ : ∃ a2, x / 4294967296 + y % 4294967296 = a2 := ⟨_, rfl⟩
  obtain ⟨a3, ha3⟩ : ∃ a3, y / 4294967296 = a3 := ⟨_, rfl⟩
  have ba : a1 < 4294967296 ∧ a2 < 8589934592 ∧ a3 < 4294967296 := by omega
  rw [ha1, ha2, ha3]
  simp only [ha1, ha2, ha3] at eV
  have elo : (if d < lo then nI d else nI lo) = nI (min d lo) := by
    split
    · rw [Nat.min_eq_left (by omega)]
    · rw [Nat.min_eq_right (by omega)]
  have ehi : (if (h : Int) - 1 < ((d + 2 : Nat) : Int) then nI (d + 2) else iZ ((h : Int) - 1)) = iZ (((max h (d + 3) : Nat) : Int) - 1) := by
    split
    · have e : ((d + 2 : Nat) : Int) = ((d + 3 : Nat) : Int) - 1 := by omega
      rw [Nat.max_eq_right (by omega), nI_z, e]
    · rw [Nat.max_eq_left (by omega)]
  have fin : ∀ σ : Int, (σ = 1 ∨ σ = -1) → σ = (if zbo mi = true then -1 else 1) → K none (zsI (zsI (zsJ (zsJ (zsJ S (o + 1) d (jZ (dg d + σ * (a1 : Int)))) (o + 1) (d + 1) (jZ (dg (d + 1) + σ * (a2 : Int)))) (o + 1) (d + 2) (jZ (dg (d + 2) + σ * (a3 : Int)))) o 1 (nI (min d lo))) o 2 (iZ (((max h (d + 3) : Nat) : Int) - 1))) := fun σ hσ hσ2 => by
    have g : zGr (fun b => b = o ∨ b = o + 1) S (zsI (zsI (zsJ (zsJ (zsJ S (o + 1) d (jZ (dg d + σ * (a1 : Int)))) (o + 1) (d + 1) (jZ (dg (d + 1) + σ * (a2 : Int)))) (o + 1) (d + 2) (jZ (dg (d + 2) + σ * (a3 : Int)))) o 1 (nI (min d lo))) o 2 (iZ (((max h (d + 3) : Nat) : Int) - 1))) := ((((zGr.refl.sJ (by omega)).sJ (by omega)).sJ (by omega)).sI (by omega)).sI (by omega)
    refine hK _ g ⟨zupI (zupI (zupI dg d (dg d + σ * (a1 : Int))) (d + 1) (dg (d + 1) + σ * (a2 : Int))) (d + 2) (dg (d + 2) + σ * (a3 : Int)), min d lo, max h (d + 3), ⟨zP7_gr g sh, ⟨?_, zI_sI_eq, ?_⟩, ⟨by omega, by omega⟩, fun k hk => ?_, fun k hk => ?_⟩, by omega, ?_, by omega, fun k => ?_⟩
    · rw [zI_sI_ne (by omega), zI_sI_eq]
    · rw [zI_sI_ne (by omega), zI_sI_ne (by omega)]; exact f3
    · rw [zJ_sI, zJ_sI]
      unfold zupI
      by_cases h1 : k = d + 2
      · rw [h1, zJ_sJ_eq, if_pos rfl]
      · rw [zJ_sJ_ne (by omega), if_neg h1]
        by_cases h2 : k = d + 1
        · rw [h2, zJ_sJ_eq, if_pos rfl]
        · rw [zJ_sJ_ne (by omega), if_neg h2]
          by_cases h3 : k = d
          · rw [h3, zJ_sJ_eq, if_pos rfl]
          · rw [zJ_sJ_ne (by omega), if_neg h3]; exact fd k hk
    · unfold zupI
      rw [if_neg (by omega), if_neg (by omega), if_neg (by omega)]
      exact fz k (by omega)
    · rw [zsv_add3 _ _ _ _ _ (by omega), eV, hV, ← hσ2]
    · have hbk := hb k
      have b0 := hb d
      have b1 := hb (d + 1)
      have b2 := hb (d + 2)
      unfold zupI
      split
      · rcases hσ with rfl | rfl <;> omega
      · split
        · rcases hσ with rfl | rfl <;> omega
        · split
          · rcases hσ with rfl | rfl <;> omega
          · omega
  have e11 : ∀ a : Nat, ∀ z : Int, jZ z + lN (1 * a) = jZ (z + 1 * (a : Int)) := fun a z => by rw [lN_z, jZ_add, Nat.one_mul, Int.one_mul]
  rw [e11, e11, e11, elo, ehi]
  refine ⟨fun h1 => ?_, fun h1 => ⟨fun h2 => absurd h2 (by omega), fun _ => ⟨fun _ => ⟨fun h3 => ?_, fun h3 => ?_⟩, fun h2 => absurd (by omega) h2⟩⟩⟩
  · refine hK S zGr.refl ⟨dg, lo, h, ⟨sh, ⟨f1, f2, f3⟩, ⟨b1, b2⟩, fd, fz⟩, hh, ?_, by omega, fun k => by have := hb k; omega⟩
    rw [hV, h1]; simp
  · exact fin 1 (Or.inl rfl) (by rw [h3]; rfl)
  · exact fin (-1) (Or.inr rfl) (by rw [h3]; rfl)
/-- what a number, and a product of two, come to in the sums -/
def zxn (x : UInt64) : Int := (if zsg x.toNat = true then -1 else 1) * ((zmt x.toNat : Int) * 2 ^ (zsc x.toNat + 2176).toNat)
def zxp (a b : UInt64) : Int := (if (zsg a.toNat != zsg b.toNat) = true then -1 else 1) * (((zmt a.toNat * zmt b.toNat : Nat) : Int) * 2 ^ (zsc a.toNat + zsc b.toNat + 2176).toNat)
theorem zuJ_neg (x : UInt64) : (lN 0 ≤ zuJ x) = (zsg x.toNat = false) := by
  have h := un_neg (x := zuJ x)
  rw [zuJ_un] at h
  unfold zsg
  rw [show lN 0 = 0 from rfl, decide_eq_false_iff_not]
  apply propext
  rw [← h, Int64.le_iff_toInt_le, Int64.lt_iff_toInt_lt]; omega
def ct_X7_addNumber : zCt := (fun av S K => ∃ o : Nat, ∃ x : UInt64, ∃ mi : Bool, av = [.ref o, .long (zuJ x), .int (bI mi)] ∧ (∃ V c hm, (zTa S o V c hm ∧ zUf x = true ∧ zom (c < 1024 ∧ 133 ≤ hm)) ∧ ∀ T, zGr (fun b => b = o ∨ b = o + 1) S T → zTa T o (V + (if mi = true then -1 else 1) * zxn x) (c + 1) hm → K none T), 0, 0)
theorem zc_X7_addNumber {S : zS} {K : Option Value → zS → Prop} {o : Nat} {x : UInt64} {mi : Bool} : ct_X7_addNumber.1 [.ref o, .long (zuJ x), .int (bI mi)] S K = (∃ V c hm, (zTa S o V c hm ∧ zUf x = true ∧ zom (c < 1024 ∧ 133 ≤ hm)) ∧ ∀ T, zGr (fun b => b = o ∨ b = o + 1) S T → zTa T o (V + (if mi = true then -1 else 1) * zxn x) (c + 1) hm → K none T) := propext ⟨fun ⟨o_q, x_q, mi_q, e, h⟩ => by simp only [List.cons.injEq, Value.ref.injEq, Value.int.injEq, Value.long.injEq, Value.double.injEq, va_rf_inj, zuJ_inj, zbI_inj, and_true] at e; obtain ⟨rfl, rfl, rfl⟩ := e; exact h, fun h => ⟨o, x, mi, rfl, h⟩⟩
theorem zcb1_X7_addNumber {S : zS} {K : Option Value → zS → Prop} {o : Nat} {x : UInt64} : ct_X7_addNumber.1 [.ref o, .long (zuJ x), .int (nI 1)] S K = (∃ V c hm, (zTa S o V c hm ∧ zUf x = true ∧ zom (c < 1024 ∧ 133 ≤ hm)) ∧ ∀ T, zGr (fun b => b = o ∨ b = o + 1) S T → zTa T o (V + (if true = true then -1 else 1) * zxn x) (c + 1) hm → K none T) := zc_X7_addNumber (mi := true) 
theorem zcb0_X7_addNumber {S : zS} {K : Option Value → zS → Prop} {o : Nat} {x : UInt64} : ct_X7_addNumber.1 [.ref o, .long (zuJ x), .int (nI 0)] S K = (∃ V c hm, (zTa S o V c hm ∧ zUf x = true ∧ zom (c < 1024 ∧ 133 ≤ hm)) ∧ ∀ T, zGr (fun b => b = o ∨ b = o + 1) S T → zTa T o (V + (if false = true then -1 else 1) * zxn x) (c + 1) hm → K none T) := zc_X7_addNumber (mi := false) 
theorem zn_X7_addNumber : ct_X7_addNumber.2.1 = 0 := rfl
theorem zs_X7_addNumber : ct_X7_addNumber.2.2 = 0 := rfl
theorem met_X7_addNumber (l : Launch) (G : zG) : zMet l G q_X7_addNumber ct_X7_addNumber := by
  refine zmk 7 false cal_X7_addNumber bl_X7_addNumber pl_X7_addNumber [ct_X0_mantissa, ct_X0_scale, ct_X7_addPiece] ck_X7_addNumber nm_X7_addNumber ⟨rfl, rfl⟩ wd_X7_addNumber (⟨⟨met_X0_mantissa l G, rfl, rfl⟩, ⟨⟨met_X0_scale l G, rfl, rfl⟩, ⟨⟨met_X7_addPiece l G, rfl, rfl⟩, trivial⟩⟩⟩) ?_
  intro X av S K h
  obtain ⟨o, x, mi, rfl, h⟩ := h
  refine ⟨Nat.le_of_ble_eq_true rfl, fun hX => ?_⟩
  show X 0 [some (.ref o), some (.long (zuJ x)), none, some (.int (bI mi))] [] S 0 0
  obtain ⟨V, c, hm, ⟨hV, hf, hc⟩, hK⟩ := h
  have ⟨hc, hmm⟩ : c < 1024 ∧ 133 ≤ hm := hc
  have hk := zP7_k hV.choose_spec.choose_spec.choose_spec.1.1
  have hmt := zmt_lt x.toNat
  have hs1 := zsc_ge x.toNat
  have hs2 := zsc_lt x.toNat
  have go : ∀ b : Int32, zbo b = (zsg x.toNat != mi) → ∃ V c hm u s, (zTa S o V c hm ∧ lN (zmt x.toNat) = lN u ∧ iZ (zsc x.toNat) = iZ s ∧ zom (u < 18014398509481984 ∧ -2176 ≤ s ∧ s ≤ 2000 ∧ c < 1024 ∧ 133 ≤ hm)) ∧ ∀ T, zGr (fun b => b = o ∨ b = o + 1) S T → zTa T o (V + (if zbo b = true then -1 else 1) * ((u : Int) * 2 ^ (s + 2176).toNat)) (c + 1) hm → K none T := fun b hb => by
    refine ⟨V, c, hm, zmt x.toNat, zsc x.toNat, ⟨hV, rfl, rfl, by omega, by omega, by omega, hc, hmm⟩, fun T g1 g2 => hK T g1 ?_⟩
    have e : (if mi = true then -1 else 1) * zxn x = (if zbo b = true then -1 else 1) * ((zmt x.toNat : Int) * 2 ^ (zsc x.toNat + 2176).toNat) := by
      unfold zxn
      rw [hb]
      cases mi <;> cases zsg x.toNat <;> simp
    rw [e]; exact g2
  have b1 : ∀ m, (nI 1 = bI m) = (m = true) := fun m => by cases m <;> simp [bI] <;> decide
  have b0 : ∀ m, (nI 0 = bI m) = (m = false) := fun m => by cases m <;> simp [bI] <;> decide
  refine hX 1000 _ _ _ _ _ _ ?_
  simp (disch := omega) only [wzq_nop, wzq_nop0, wzq_null, wzq_iconst, wzq_bipush, wzq_sipush, wzq_ldc, wzq_ldc_w, wzq_lconst, wzq_dconst, wzq_ldc2, wzq_ldc2d, wzq_istore, wzq_istore_n0, wzq_istore_n1, wzq_istore_n2, wzq_istore_n3, wzq_lstore, wzq_lstore_n0, wzq_lstore_n1, wzq_lstore_n2, wzq_lstore_n3, wzq_dstore, wzq_dstore_n0, wzq_dstore_n1, wzq_dstore_n2, wzq_dstore_n3, wzq_astore, wzq_astore_n0, wzq_astore_n1, wzq_astore_n2, wzq_astore_n3, wzq_iadd, wzq_isub, wzq_imul, wzq_iand, wzq_ior, wzq_ishr, wzq_iushr, wzq_idiv, wzq_irem, wzq_ineg, wzq_ladd, wzq_lsub, wzq_lmul, wzq_land, wzq_lor, wzq_lxor, wzq_ldiv, wzq_lrem, wzq_lneg, wzq_lshl, wzq_lshr, wzq_lushr, wzq_i2l, wzq_l2i, wzq_lcmp, wzq_dcmp, wzq_dadd, wzq_dsub, wzq_dmul, wzq_ddiv, wzq_dneg, wzq_dup, wzq_pop, wzq_pop2, wzq_dup2J, wzq_dup2D, wzq_dup2I, wzq_goto0, wzq_goto1, wzq_if_eq0, wzq_if_eq1, wzq_icmp_eq0, wzq_icmp_eq1, wzq_if_ne0, wzq_if_ne1, wzq_icmp_ne0, wzq_icmp_ne1, wzq_if_lt0, wzq_if_lt1, wzq_icmp_lt0, wzq_icmp_lt1, wzq_if_ge0, wzq_if_ge1, wzq_icmp_ge0, wzq_icmp_ge1, wzq_if_gt0, wzq_if_gt1, wzq_icmp_gt0, wzq_icmp_gt1, wzq_if_le0, wzq_if_le1, wzq_icmp_le0, wzq_icmp_le1, wzq_ifnull0, wzq_ifnull1, wzq_ifnull_a, wzq_ifnull_b, wzq_ifnonnull0, wzq_ifnonnull1, wzq_ifnonnull_a, wzq_ifnonnull_b, wzq_table, wzq_getfield, wzq_alen, wzq_iaload, wzq_baload, wzq_laload, wzq_daload, wzq_aaload, wzq_iastore, wzq_bastore, wzq_lastore, wzq_dastore, wzq_aastore, wzq_new, wzq_newarray, wzq_anewarray, wzq_d2l, wzq_l2d, wzq_mmax, wzq_mmin, wzq_mmaxl, wzq_mabs, wzq_objInit, wzq_ireturn, wzq_lreturn, wzq_dreturn, wzq_areturn, wzq_return, znth0, zst1_0, zst2_0, znth1, zst1_1, zst2_1, znth2, zst1_2, zst2_2, znth3, zst1_3, zst2_3, znth4, zst1_4, zst2_4, znth5, zst1_5, zst2_5, znth6, zst1_6, zst2_6, znth7, zst1_7, zst2_7, znth8, zst1_8, zst2_8, znth9, zst1_9, zst2_9, znth10, zst1_10, zst2_10, znth11, zst1_11, zst2_11, znth12, zst1_12, zst2_12, znth13, zst1_13, zst2_13, znth14, zst1_14, zst2_14, znth15, zst1_15, zst2_15, znth16, zst1_16, zst2_16, znth17, zst1_17, zst2_17, znth18, zst1_18, zst2_18, znth19, zst1_19, zst2_19, znth20, zst1_20, zst2_20, znth21, zst1_21, zst2_21, znth22, zst1_22, zst2_22, znth23, zst1_23, zst2_23, znth24, zst1_24, zst2_24, znth25, zst1_25, zst2_25, zkill_n, zkill_int, zkill_ref, zkill_null, zkill_long, zkill_double, zkill_rf, zref_s, zref_n, zref_rf, va_rf_s, va_rf_n, zget0, zget1, zget2, zget3, zget4, zget5, zget6, zget7, zget8, zget9, zget10, zget11, zget12, zget13, zget14, zget15, zget16, zget17, zget18, zget19, zget20, zget21, zget22, zget23, zget24, zget25, zwt_0, zwt_int, zcat_int, zwt_ref, zcat_ref, zwt_long, zcat_long, zwt_double, zcat_double, zwt_null, zwt_rf, zcat_null, zcat_rf, ztl_s, ztl_n, zfI, zfZ, zfJ, zfD, zfO, zfA, zsw_0, zsw_s, zYX1_0, zYX1_1, zYX1_2, zYX1_3, zYX1_4, zYX1_5, zYX1_6, zYX1_7, zYX1_8, zYX1_9, zYX1_10, zYX1_11, zYX1_12, zYX1_13, zYX1_14, zNX1, zYX2_0, zYX2_1, zYX2_2, zYX2_3, zYX2_4, zYX2_5, zYX2_6, zYX2_7, zYX2_8, zYX2_9, zYX2_10, zNX2, zYX3_0, zYX3_1, zYX3_2, zYX3_3, zYX3_4, zYX3_5, zYX3_6, zNX3, zYX4_0, zYX4_1, zYX4_2, zYX4_3, zYX4_4, zYX4_5, zNX4, zYX5_0, zYX5_1, zYX5_2, zYX5_3, zYX5_4, zYX5_5, zYX5_6, zYX5_7, zYX5_8, zNX5, zYX6_0, zYX6_1, zYX6_2, zYX6_3, zYX6_4, zNX6, zYX7_0, zYX7_1, zYX7_2, zYX7_3, zNX7, zYX8_0, zYX8_1, zYX8_2, zNX8, zYX9_0, zYX9_1, zYX9_2, zNX9, zYX10_0, zYX10_1, zYX10_2, zYX10_3, zYX10_4, zYX10_5, zYX10_6, zYX10_7, zYX10_8, zNX10, zYX11_0, zYX11_1, zYX11_2, zYX11_3, zYX11_4, zYX11_5, zYX11_6, zYX11_7, zYX11_8, zYX11_9, zYX11_10, zYX11_11, zYX11_12, zYX11_13, zYX11_14, zYX11_15, zYX11_16, zYX11_17, zYX11_18, zYX11_19, zYX11_20, zYX11_21, zYX11_22, zYX11_23, zYX11_24, zYX11_25, zYX11_26, zYX11_27, zYX11_28, zYX11_29, zYX11_30, zYX11_31, zYX11_32, zYX11_33, zYX11_34, zYX11_35, zYX11_36, zYX11_37, zYX11_38, zYX11_39, zYX11_40, zYX11_41, zYX11_42, zYX11_43, zYX11_44, zYX11_45, zYX11_46, zYX11_47, zYX11_48, zYX11_49, zYX11_50, zYX11_51, zYX11_52, zYX11_53, zYX11_54, zYX11_55, zYX11_56, zYX11_57, zNX11, zend_i, zend_l, zend_d, zend_o, zend_v, wzend_z, znle, zisI_s, zgI_s, zisJ_s, zgJ_s, zisD_s, zgD_s, zisA_s, zgA_s, zpokI, zpstI, zpokZ, zpstZ, zpokJ, zpstJ, zpokD, zpstD, zpokO, zpstO, zpokOn, zpstOn, zpokA, zpstA, zpokAn, zpstAn, zpk_0, zptk_0, zpdr_0, zpk_1, zptk_1, zpdr_1, zpk_2, zptk_2, zpdr_2, zpk_3, zptk_3, zpdr_3, zpk_4, zptk_4, zpdr_4, zpk_5, zptk_5, zpdr_5, zpk_6, zptk_6, zpdr_6, zpk_7, zptk_7, zpdr_7, zpk_8, zptk_8, zpdr_8, zisR_s, zgR_s, ztlR_s, zisC_s, zgC_s, zkont_s, zkont_n, zw_iload, zw_iload_n0, zw_iload_n1, zw_iload_n2, zw_iload_n3, zw_lload, zw_lload_n0, zw_lload_n1, zw_lload_n2, zw_lload_n3, zw_dload, zw_dload_n0, zw_dload_n1, zw_dload_n2, zw_dload_n3, zw_aload, zw_aload_n0, zw_aload_n1, zw_aload_n2, zw_aload_n3, zw_iinc, zw_putfield, zw_callS, zw_callV, zw_callI, q_X7_addNumber, ct_X7_addNumber, zc_X0_mantissa, zn_X0_mantissa, zs_X0_mantissa, zc_X0_scale, zn_X0_scale, zs_X0_scale, zc_X7_addPiece, zn_X7_addPiece, zs_X7_addPiece, b_X7_addNumber_0, b_X7_addNumber_19, b_X7_addNumber_20, b_X7_addNumber_28, b_X7_addNumber_29, k_X7_addNumber_0, k_X7_addNumber_19, k_X7_addNumber_20, k_X7_addNumber_28, k_X7_addNumber_29, true_or, or_true, zrz_1, zrz_0, zrz_b, true_and, and_true, Nat.reduceAdd, Nat.reduceLeDiff, Nat.reduceMul, Nat.le_refl, Nat.add_zero, Nat.zero_add, hk, zuJ_neg, zuJ_un, b1, b0, Classical.not_not, Bool.not_eq_false, Bool.not_eq_true, zN_add, zN_sub, zN_mul, zN_le, zN_lt, zN_eq, zix_nI, zin_n, zinI_n, zinR_n, zlt_t, zom_t, zLsr, zLsh, zand_low, zL_add, zL_mul, zL_lt, zL_le, zL_sub, zL_div, zN_div, zL_e0, zL_n0, zN_n0, zN11, zN00, false_or, or_false, zZN_add, zNZ_add, zZN_sub, zNZ_sub, zZN_lt, zZN_le, zNZ_lt, zNZ_le, zZN_eq, zZZ_lt, zZZ_le, zZZ_eq, zN_32, Nat.reducePow, Nat.reduceMod, Nat.reduceDiv, zlc_eq, zlc_lt, zlc_ge, zlc_gt, zlc_le, bI_0, zbo_b, zbo_1, zbo_0, zuJ_inj, nI_nat, eq_self, Nat.reduceEqDiff, Nat.reduceSub, zI_sI_eq, zI_sI_ne, zJ_sJ_eq, zJ_sJ_ne, zD_sD_eq, zD_sD_ne, zR_sR_eq, zR_sR_ne, zJ_sI, zR_sI, zSh_sI, zNx_sI, zD_sI, zI_sJ, zR_sJ, zSh_sJ, zNx_sJ, zD_sJ, zI_sD, zJ_sD, zR_sD, zSh_sD, zNx_sD, zI_sR, zJ_sR, zD_sR, zSh_sR, zNx_sR, if_true, if_false, ite_true, ite_false, not_true, not_false_eq_true, forall_const, false_implies, true_implies, implies_true, zN_shr, zN_m31, jZ_low, jZ_add, jZ_sub, jZN_mul]
  refine ⟨fun h1 => ⟨fun h2 => ?_, fun h2 => ?_⟩, fun h1 => ⟨fun h2 => ?_, fun h2 => ?_⟩⟩
  · exact go (nI 0) (by rw [h1, h2]; rfl)
  · exact go (nI 1) (by rw [h1, h2]; rfl)
  · exact go (nI 0) (by rw [h1, h2]; rfl)
  · exact go (nI 1) (by rw [h1, h2]; rfl)
def ct_X7_addProduct : zCt := (fun av S K => ∃ o : Nat, ∃ a : UInt64, ∃ b : UInt64, ∃ mi : Bool, av = [.ref o, .long (zuJ a), .long (zuJ b), .int (bI mi)] ∧ (∃ V c hm, (zTa S o V c hm ∧ zUf a = true ∧ zUf b = true ∧ zom (c < 1023 ∧ 133 ≤ hm)) ∧ ∀ T, zGr (fun b => b = o ∨ b = o + 1) S T → zTa T o (V + (if mi = true then -1 else 1) * zxp a b) (c + 2) hm → K none T), 0, 0)
theorem zc_X7_addProduct {S : zS} {K : Option Value → zS → Prop} {o : Nat} {a : UInt64} {b : UInt64} {mi : Bool} : ct_X7_addProduct.1 [.ref o, .long (zuJ a), .long (zuJ b), .int (bI mi)] S K = (∃ V c hm, (zTa S o V c hm ∧ zUf a = true ∧ zUf b = true ∧ zom (c < 1023 ∧ 133 ≤ hm)) ∧ ∀ T, zGr (fun b => b = o ∨ b = o + 1) S T → zTa T o (V + (if mi = true then -1 else 1) * zxp a b) (c + 2) hm → K none T) := propext ⟨fun ⟨o_q, a_q, b_q, mi_q, e, h⟩ => by simp only [List.cons.injEq, Value.ref.injEq, Value.int.injEq, Value.long.injEq, Value.double.injEq, va_rf_inj, zuJ_inj, zbI_inj, and_true] at e; obtain ⟨rfl, rfl, rfl, rfl⟩ := e; exact h, fun h => ⟨o, a, b, mi, rfl, h⟩⟩
theorem zcb1_X7_addProduct {S : zS} {K : Option Value → zS → Prop} {o : Nat} {a : UInt64} {b : UInt64} : ct_X7_addProduct.1 [.ref o, .long (zuJ a), .long (zuJ b), .int (nI 1)] S K = (∃ V c hm, (zTa S o V c hm ∧ zUf a = true ∧ zUf b = true ∧ zom (c < 1023 ∧ 133 ≤ hm)) ∧ ∀ T, zGr (fun b => b = o ∨ b = o + 1) S T → zTa T o (V + (if true = true then -1 else 1) * zxp a b) (c + 2) hm → K none T) := zc_X7_addProduct (mi := true) 
theorem zcb0_X7_addProduct {S : zS} {K : Option Value → zS → Prop} {o : Nat} {a : UInt64} {b : UInt64} : ct_X7_addProduct.1 [.ref o, .long (zuJ a), .long (zuJ b), .int (nI 0)] S K = (∃ V c hm, (zTa S o V c hm ∧ zUf a = true ∧ zUf b = true ∧ zom (c < 1023 ∧ 133 ≤ hm)) ∧ ∀ T, zGr (fun b => b = o ∨ b = o + 1) S T → zTa T o (V + (if false = true then -1 else 1) * zxp a b) (c + 2) hm → K none T) := zc_X7_addProduct (mi := false) 
theorem zn_X7_addProduct : ct_X7_addProduct.2.1 = 0 := rfl
theorem zs_X7_addProduct : ct_X7_addProduct.2.2 = 0 := rfl
theorem met_X7_addProduct (l : Launch) (G : zG) : zMet l G q_X7_addProduct ct_X7_addProduct := by
  refine zmk 7 false cal_X7_addProduct bl_X7_addProduct pl_X7_addProduct [ct_X0_mantissa, ct_X0_high, ct_X0_scale, ct_X7_addPiece] ck_X7_addProduct nm_X7_addProduct ⟨rfl, rfl⟩ wd_X7_addProduct (⟨⟨met_X0_mantissa l G, rfl, rfl⟩, ⟨⟨met_X0_high l G, rfl, rfl⟩, ⟨⟨met_X0_scale l G, rfl, rfl⟩, ⟨⟨met_X7_addPiece l G, rfl, rfl⟩, trivial⟩⟩⟩⟩) ?_
  intro X av S K h
  obtain ⟨o, a, b, mi, rfl, h⟩ := h
  refine ⟨Nat.le_of_ble_eq_true rfl, fun hX => ?_⟩
  show X 0 [some (.ref o), some (.long (zuJ a)), none, some (.long (zuJ b)), none, some (.int (bI mi)), none, none, none, none, none, none, none, none, none, none] [] S 0 0
  obtain ⟨V, c, hm, ⟨hV, hfa, hfb, hc⟩, hK⟩ := h
  have ⟨hc, hmm⟩ : c < 1023 ∧ 133 ≤ hm := hc
  have hk := zP7_k hV.choose_spec.choose_spec.choose_spec.1.1
  have hma := zmt_lt a.toNat
  have hmb := zmt_lt b.toNat
  have a1 := zsc_ge a.toNat
  have a2 := zsc_lt a.toNat
  have a3 := zsc_ge b.toNat
  have a4 := zsc_lt b.toNat
  rw [zUf_t] at hfa hfb
  have a5 := zsc_le hfa
  have a6 := zsc_le hfb
  have hM : zmt a.toNat * zmt b.toNat < 9007199254740992 * 9007199254740992 := Nat.mul_lt_mul'' hma hmb
  obtain ⟨M, hMe⟩ : ∃ M, zmt a.toNat * zmt b.toNat = M := ⟨_, rfl⟩
  have b1 : ∀ m, (nI 1 = bI m) = (m = true) := fun m => by cases m <;> simp [bI] <;> decide
  have b0 : ∀ m, (nI 0 = bI m) = (m = false) := fun m => by cases m <;> simp [bI] <;> decide
  have ea : un (lN (zmt a.toNat)) = zmt a.toNat := un_lN (by omega)
  have eb : un (lN (zmt b.toNat)) = zmt b.toNat := un_lN (by omega)
  have exo : zuJ a ^^^ zuJ b = zuJ (a ^^^ b) := rfl
  have esg : zsg (a ^^^ b).toNat = (zsg a.toNat != zsg b.toNat) := zsg_xor (zuJ a) (zuJ b)
  have l1 : zmt a.toNat < 9223372036854775808 := by omega
  have l2 : zmt b.toNat < 9223372036854775808 := by omega
  have ez : iZ (zsc a.toNat) + iZ (zsc b.toNat) = iZ (zsc a.toNat + zsc b.toNat) := iZ_add _ _
  have p1 : lN M &&& lN 18014398509481983 = lN (M % 18014398509481984) := by
    rw [wb_mod M]
    have e := g_mask (a := M % 2 ^ 64) (s := 54) (p := 18014398509481984) (by decide) (by decide) (Nat.mod_lt _ (by decide))
    have e2 : M % 2 ^ 64 % 18014398509481984 = M % 18014398509481984 := by omega
    rw [e2] at e; exact e
  have p2 : lN (M / 18446744073709551616 * 1024) ||| ((lN M).toUInt64 >>> ((nI 54).toInt64.toUInt64 &&& Int64.toUInt64 63)).toInt64 = lN (M / 18014398509481984) := by
    rw [wb_mod M, zLsr (Nat.mod_lt _ (by decide)) (by decide)]
    have e := g_or (k := 10) (p := 1024) (a := M % 2 ^ 64 / 2 ^ 54) (b := M / 18446744073709551616) (by decide) (by omega) (by omega)
    have e2 : M / 18446744073709551616 * 1024 + M % 2 ^ 64 / 2 ^ 54 = M / 18014398509481984 := by omega
    rw [e2] at e; exact e
  have go : ∀ σ : Int, σ = (if ((zsg a.toNat != zsg b.toNat) != mi) = true then -1 else 1) → ∃ V c hm u s, (zTa S o V c hm ∧ lN M &&& lN 18014398509481983 = lN u ∧ iZ (zsc a.toNat + zsc b.toNat) = iZ s ∧ zom (u < 18014398509481984 ∧ -2176 ≤ s ∧ s ≤ 2000 ∧ c < 1024 ∧ 133 ≤ hm)) ∧ ∀ T, zGr (fun b => b = o ∨ b = o + 1) S T → zTa T o (V + σ * ((u : Int) * 2 ^ (s + 2176).toNat)) (c + 1) hm → (zSh T o).1 = 7 ∧ ∃ V c hm u s, (zTa T o V c hm ∧ lN (M / 18446744073709551616 * 1024) ||| ((lN M).toUInt64 >>> ((nI 54).toInt64.toUInt64 &&& Int64.toUInt64 63)).toInt64 = lN u ∧ iZ (zsc a.toNat + zsc b.toNat + ((54 : Nat) : Int)) = iZ s ∧ zom (u < 18014398509481984 ∧ -2176 ≤ s ∧ s ≤ 2000 ∧ c < 1024 ∧ 133 ≤ hm)) ∧ ∀ T_1, zGr (fun b => b = o ∨ b = o + 1) T T_1 → zTa T_1 o (V + σ * ((u : Int) * 2 ^ (s + 2176).toNat)) (c + 1) hm → K none T_1 := fun σ hσ => by
    refine ⟨V, c, hm, M % 18014398509481984, zsc a.toNat + zsc b.toNat, ⟨hV, p1, rfl, by omega, by omega, by omega, by omega, hmm⟩, fun T g1 t1 => ⟨zP7_k t1.choose_spec.choose_spec.choose_spec.1.1, _, _, _, M / 18014398509481984, _, ⟨t1, p2, rfl, by omega, by omega, by omega, by omega, hmm⟩, fun T2 g2 t2 => hK T2 (g1.trans g2) ?_⟩⟩
    have e3 : (zsc a.toNat + zsc b.toNat + ((54 : Nat) : Int) + 2176).toNat = (zsc a.toNat + zsc b.toNat + 2176).toNat + 54 := by omega
    have e4 : V + σ * (((M % 18014398509481984 : Nat) : Int) * 2 ^ (zsc a.toNat + zsc b.toNat + 2176).toNat) + σ * (((M / 18014398509481984 : Nat) : Int) * 2 ^ (zsc a.toNat + zsc b.toNat + ((54 : Nat) : Int) + 2176).toNat) = V + (if mi = true then -1 else 1) * zxp a b := by
      unfold zxp
      rw [e3, hMe, Int.pow_add, show (2 : Int) ^ 54 = 18014398509481984 from rfl, hσ]
      have e5 : (M : Int) = ((M % 18014398509481984 : Nat) : Int) + ((M / 18014398509481984 : Nat) : Int) * 18014398509481984 := by omega
      rw [e5]
      generalize (2 : Int) ^ (zsc a.toNat + zsc b.toNat + 2176).toNat = P
      generalize ((M % 18014398509481984 : Nat) : Int) = A
      generalize ((M / 18014398509481984 : Nat) : Int) = B
      cases mi <;> cases (zsg a.toNat != zsg b.toNat) <;> simp <;> grind
    rw [← e4]; exact t2
  refine hX 1000 _ _ _ _ _ _ ?_
  simp (disch := omega) only [wzq_nop, wzq_nop0, wzq_null, wzq_iconst, wzq_bipush, wzq_sipush, wzq_ldc, wzq_ldc_w, wzq_lconst, wzq_dconst, wzq_ldc2, wzq_ldc2d, wzq_istore, wzq_istore_n0, wzq_istore_n1, wzq_istore_n2, wzq_istore_n3, wzq_lstore, wzq_lstore_n0, wzq_lstore_n1, wzq_lstore_n2, wzq_lstore_n3, wzq_dstore, wzq_dstore_n0, wzq_dstore_n1, wzq_dstore_n2, wzq_dstore_n3, wzq_astore, wzq_astore_n0, wzq_astore_n1, wzq_astore_n2, wzq_astore_n3, wzq_iadd, wzq_isub, wzq_imul, wzq_iand, wzq_ior, wzq_ishr, wzq_iushr, wzq_idiv, wzq_irem, wzq_ineg, wzq_ladd, wzq_lsub, wzq_lmul, wzq_land, wzq_lor, wzq_lxor, wzq_ldiv, wzq_lrem, wzq_lneg, wzq_lshl, wzq_lshr, wzq_lushr, wzq_i2l, wzq_l2i, wzq_lcmp, wzq_dcmp, wzq_dadd, wzq_dsub, wzq_dmul, wzq_ddiv, wzq_dneg, wzq_dup, wzq_pop, wzq_pop2, wzq_dup2J, wzq_dup2D, wzq_dup2I, wzq_goto0, wzq_goto1, wzq_if_eq0, wzq_if_eq1, wzq_icmp_eq0, wzq_icmp_eq1, wzq_if_ne0, wzq_if_ne1, wzq_icmp_ne0, wzq_icmp_ne1, wzq_if_lt0, wzq_if_lt1, wzq_icmp_lt0, wzq_icmp_lt1, wzq_if_ge0, wzq_if_ge1, wzq_icmp_ge0, wzq_icmp_ge1, wzq_if_gt0, wzq_if_gt1, wzq_icmp_gt0, wzq_icmp_gt1, wzq_if_le0, wzq_if_le1, wzq_icmp_le0, wzq_icmp_le1, wzq_ifnull0, wzq_ifnull1, wzq_ifnull_a, wzq_ifnull_b, wzq_ifnonnull0, wzq_ifnonnull1, wzq_ifnonnull_a, wzq_ifnonnull_b, wzq_table, wzq_getfield, wzq_alen, wzq_iaload, wzq_baload, wzq_laload, wzq_daload, wzq_aaload, wzq_iastore, wzq_bastore, wzq_lastore, wzq_dastore, wzq_aastore, wzq_new, wzq_newarray, wzq_anewarray, wzq_d2l, wzq_l2d, wzq_mmax, wzq_mmin, wzq_mmaxl, wzq_mabs, wzq_objInit, wzq_ireturn, wzq_lreturn, wzq_dreturn, wzq_areturn, wzq_return, znth0, zst1_0, zst2_0, znth1, zst1_1, zst2_1, znth2, zst1_2, zst2_2, znth3, zst1_3, zst2_3, znth4, zst1_4, zst2_4, znth5, zst1_5, zst2_5, znth6, zst1_6, zst2_6, znth7, zst1_7, zst2_7, znth8, zst1_8, zst2_8, znth9, zst1_9, zst2_9, znth10, zst1_10, zst2_10, znth11, zst1_11, zst2_11, znth12, zst1_12, zst2_12, znth13, zst1_13, zst2_13, znth14, zst1_14, zst2_14, znth15, zst1_15, zst2_15, znth16, zst1_16, zst2_16, znth17, zst1_17, zst2_17, znth18, zst1_18, zst2_18, znth19, zst1_19, zst2_19, znth20, zst1_20, zst2_20, znth21, zst1_21, zst2_21, znth22, zst1_22, zst2_22, znth23, zst1_23, zst2_23, znth24, zst1_24, zst2_24, znth25, zst1_25, zst2_25, zkill_n, zkill_int, zkill_ref, zkill_null, zkill_long, zkill_double, zkill_rf, zref_s, zref_n, zref_rf, va_rf_s, va_rf_n, zget0, zget1, zget2, zget3, zget4, zget5, zget6, zget7, zget8, zget9, zget10, zget11, zget12, zget13, zget14, zget15, zget16, zget17, zget18, zget19, zget20, zget21, zget22, zget23, zget24, zget25, zwt_0, zwt_int, zcat_int, zwt_ref, zcat_ref, zwt_long, zcat_long, zwt_double, zcat_double, zwt_null, zwt_rf, zcat_null, zcat_rf, ztl_s, ztl_n, zfI, zfZ, zfJ, zfD, zfO, zfA, zsw_0, zsw_s, zYX1_0, zYX1_1, zYX1_2, zYX1_3, zYX1_4, zYX1_5, zYX1_6, zYX1_7, zYX1_8, zYX1_9, zYX1_10, zYX1_11, zYX1_12, zYX1_13, zYX1_14, zNX1, zYX2_0, zYX2_1, zYX2_2, zYX2_3, zYX2_4, zYX2_5, zYX2_6, zYX2_7, zYX2_8, zYX2_9, zYX2_10, zNX2, zYX3_0, zYX3_1, zYX3_2, zYX3_3, zYX3_4, zYX3_5, zYX3_6, zNX3, zYX4_0, zYX4_1, zYX4_2, zYX4_3, zYX4_4, zYX4_5, zNX4, zYX5_0, zYX5_1, zYX5_2, zYX5_3, zYX5_4, zYX5_5, zYX5_6, zYX5_7, zYX5_8, zNX5, zYX6_0, zYX6_1, zYX6_2, zYX6_3, zYX6_4, zNX6, zYX7_0, zYX7_1, zYX7_2, zYX7_3, zNX7, zYX8_0, zYX8_1, zYX8_2, zNX8, zYX9_0, zYX9_1, zYX9_2, zNX9, zYX10_0, zYX10_1, zYX10_2, zYX10_3, zYX10_4, zYX10_5, zYX10_6, zYX10_7, zYX10_8, zNX10, zYX11_0, zYX11_1, zYX11_2, zYX11_3, zYX11_4, zYX11_5, zYX11_6, zYX11_7, zYX11_8, zYX11_9, zYX11_10, zYX11_11, zYX11_12, zYX11_13, zYX11_14, zYX11_15, zYX11_16, zYX11_17, zYX11_18, zYX11_19, zYX11_20, zYX11_21, zYX11_22, zYX11_23, zYX11_24, zYX11_25, zYX11_26, zYX11_27, zYX11_28, zYX11_29, zYX11_30, zYX11_31, zYX11_32, zYX11_33, zYX11_34, zYX11_35, zYX11_36, zYX11_37, zYX11_38, zYX11_39, zYX11_40, zYX11_41, zYX11_42, zYX11_43, zYX11_44, zYX11_45, zYX11_46, zYX11_47, zYX11_48, zYX11_49, zYX11_50, zYX11_51, zYX11_52, zYX11_53, zYX11_54, zYX11_55, zYX11_56, zYX11_57, zNX11, zend_i, zend_l, zend_d, zend_o, zend_v, wzend_z, znle, zisI_s, zgI_s, zisJ_s, zgJ_s, zisD_s, zgD_s, zisA_s, zgA_s, zpokI, zpstI, zpokZ, zpstZ, zpokJ, zpstJ, zpokD, zpstD, zpokO, zpstO, zpokOn, zpstOn, zpokA, zpstA, zpokAn, zpstAn, zpk_0, zptk_0, zpdr_0, zpk_1, zptk_1, zpdr_1, zpk_2, zptk_2, zpdr_2, zpk_3, zptk_3, zpdr_3, zpk_4, zptk_4, zpdr_4, zpk_5, zptk_5, zpdr_5, zpk_6, zptk_6, zpdr_6, zpk_7, zptk_7, zpdr_7, zpk_8, zptk_8, zpdr_8, zisR_s, zgR_s, ztlR_s, zisC_s, zgC_s, zkont_s, zkont_n, zw_iload, zw_iload_n0, zw_iload_n1, zw_iload_n2, zw_iload_n3, zw_lload, zw_lload_n0, zw_lload_n1, zw_lload_n2, zw_lload_n3, zw_dload, zw_dload_n0, zw_dload_n1, zw_dload_n2, zw_dload_n3, zw_aload, zw_aload_n0, zw_aload_n1, zw_aload_n2, zw_aload_n3, zw_iinc, zw_putfield, zw_callS, zw_callV, zw_callI, q_X7_addProduct, ct_X7_addProduct, zc_X0_mantissa, zn_X0_mantissa, zs_X0_mantissa, zc_X0_high, zn_X0_high, zs_X0_high, zc_X0_scale, zn_X0_scale, zs_X0_scale, zc_X7_addPiece, zn_X7_addPiece, zs_X7_addPiece, b_X7_addProduct_0, b_X7_addProduct_60, b_X7_addProduct_61, b_X7_addProduct_70, b_X7_addProduct_71, k_X7_addProduct_0, k_X7_addProduct_60, k_X7_addProduct_61, k_X7_addProduct_70, k_X7_addProduct_71, true_or, or_true, zrz_1, zrz_0, zrz_b, true_and, and_true, Nat.reduceAdd, Nat.reduceLeDiff, Nat.reduceMul, Nat.le_refl, Nat.add_zero, Nat.zero_add, hk, zuJ_neg, zuJ_un, ea, eb, exo, esg, b1, b0, l1, l2, hMe, ez, Classical.not_not, Bool.not_eq_false, Bool.not_eq_true, zN_add, zN_sub, zN_mul, zN_le, zN_lt, zN_eq, zix_nI, zin_n, zinI_n, zinR_n, zlt_t, zom_t, zLsr, zLsh, zand_low, zL_add, zL_mul, zL_lt, zL_le, zL_sub, zL_div, zN_div, zL_e0, zL_n0, zN_n0, zN11, zN00, false_or, or_false, zZN_add, zNZ_add, zZN_sub, zNZ_sub, zZN_lt, zZN_le, zNZ_lt, zNZ_le, zZN_eq, zZZ_lt, zZZ_le, zZZ_eq, zN_32, Nat.reducePow, Nat.reduceMod, Nat.reduceDiv, zlc_eq, zlc_lt, zlc_ge, zlc_gt, zlc_le, bI_0, zbo_b, zbo_1, zbo_0, zuJ_inj, nI_nat, eq_self, Nat.reduceEqDiff, Nat.reduceSub, zI_sI_eq, zI_sI_ne, zJ_sJ_eq, zJ_sJ_ne, zD_sD_eq, zD_sD_ne, zR_sR_eq, zR_sR_ne, zJ_sI, zR_sI, zSh_sI, zNx_sI, zD_sI, zI_sJ, zR_sJ, zSh_sJ, zNx_sJ, zD_sJ, zI_sD, zJ_sD, zR_sD, zSh_sD, zNx_sD, zI_sR, zJ_sR, zD_sR, zSh_sR, zNx_sR, if_true, if_false, ite_true, ite_false, not_true, not_false_eq_true, forall_const, false_implies, true_implies, implies_true, zN_shr, zN_m31, jZ_low, jZ_add, jZ_sub, jZN_mul]
  refine ⟨fun h1 => ⟨fun h2 => ?_, fun h2 => ?_⟩, fun h1 => ⟨fun h2 => ?_, fun h2 => ?_⟩⟩
  · exact go 1 (by rw [h1, h2]; rfl)
  · exact go (-1) (by rw [h1, h2]; rfl)
  · exact go 1 (by rw [h1, h2]; rfl)
  · exact go (-1) (by rw [h1, h2]; rfl)
end ZTOT4
