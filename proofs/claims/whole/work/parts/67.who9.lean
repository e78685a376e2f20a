/-! the class's whole numbers: becomeQuotient */ -/
section ZWHO9
theorem zdg_dg0 {f : Nat → Nat} (hf : ∀ k, f k < 4294967296) {n len : Nat} (h : n ≤ len) : zdg f len % 2 ^ (32 * n) = zdg f n := by
  obtain ⟨m, rfl⟩ : ∃ m, len = n + m := ⟨len - n, by omega⟩
  rw [zdg_split, Nat.add_mul_mod_self_left, Nat.mod_eq_of_lt (zdg_lt (fun k _ => hf k))]
def ct_X9_becomeQuotient : zCt := (fun av S K => ∃ o : Nat, ∃ x : Nat, ∃ p : Nat, ∃ v : Int32, av = [.ref o, .ref x, .ref p, .int v] ∧ (∃ (cap cx cp : Nat) (Q w V : Int), (zWs S o cap ∧ zWv S x cx (Q * w) ∧ zWv S p cp w ∧ zom (x ≠ o ∧ p ≠ o ∧ x ≠ p ∧ 1 ≤ cap) ∧ v = iZ V ∧ (w.natAbs * V) % 4294967296 = 1 ∧ Q.natAbs < 2 ^ (32 * (cap - 1))) ∧ ∀ T, zGr (fun b => b = o ∨ b = o + 1 ∨ b = x + 1) S T → zWv T o cap Q → K none T), 0, 0)
theorem zc_X9_becomeQuotient {S : zS} {K : Option Value → zS → Prop} {o : Nat} {x : Nat} {p : Nat} {v : Int32} : ct_X9_becomeQuotient.1 [.ref o, .ref x, .ref p, .int v] S K = (∃ (cap cx cp : Nat) (Q w V : Int), (zWs S o cap ∧ zWv S x cx (Q * w) ∧ zWv S p cp w ∧ zom (x ≠ o ∧ p ≠ o ∧ x ≠ p ∧ 1 ≤ cap) ∧ v = iZ V ∧ (w.natAbs * V) % 4294967296 = 1 ∧ Q.natAbs < 2 ^ (32 * (cap - 1))) ∧ ∀ T, zGr (fun b => b = o ∨ b = o + 1 ∨ b = x + 1) S T → zWv T o cap Q → K none T) := propext ⟨fun ⟨z0, z1, z2, z3, e, h⟩ => by cases e; exact h, fun h => ⟨o, x, p, v, rfl, h⟩⟩
theorem zn_X9_becomeQuotient : ct_X9_becomeQuotient.2.1 = 0 := rfl
theorem zs_X9_becomeQuotient : ct_X9_becomeQuotient.2.2 = 0 := rfl
theorem met_X9_becomeQuotient (l : Launch) (G : zG) : zMet l G q_X9_becomeQuotient ct_X9_becomeQuotient := by
  refine zmk 9 false cal_X9_becomeQuotient bl_X9_becomeQuotient pl_X9_becomeQuotient [ct_X9_zero, ct_X9_takeMultiple, ct_X9_trim] ck_X9_becomeQuotient nm_X9_becomeQuotient ⟨rfl, rfl⟩ wd_X9_becomeQuotient (⟨⟨met_X9_zero l G, rfl, rfl⟩, ⟨⟨met_X9_takeMultiple l G, rfl, rfl⟩, ⟨⟨met_X9_trim l G, rfl, rfl⟩, trivial⟩⟩⟩) ?_
  intro X av S K h
  obtain ⟨o, x, p, v, rfl, h⟩ := h
  refine ⟨Nat.le_of_ble_eq_true rfl, fun hX => ?_⟩
  show X 0 [some (.ref o), some (.ref x), some (.ref p), some (.int v), none, none, none] [] S 0 0
  obtain ⟨cap, cx, cp, Q, w, V, ⟨hs, ⟨xs, lx, x1, x2, x3, x4, x5⟩, ⟨ps, lp, p1, p2, p3, p4, p5⟩, ⟨hn1, hn2, hn3, hcp⟩, hv, hV, hf⟩, hK⟩ := h
  have ⟨s1, s2, s3, s4⟩ := hs
  have ⟨xs1, xs2, xs3, xs4⟩ := xs
  have ⟨ps1, ps2, ps3, ps4⟩ := ps
  refine hX 1000 _ _ _ _ _ _ ?_
  simp (disch := omega) only [wzq_nop, wzq_nop0, wzq_null, wzq_iconst, wzq_bipush, wzq_sipush, wzq_ldc, wzq_ldc_w, wzq_lconst, wzq_dconst, wzq_ldc2, wzq_ldc2d, wzq_istore, wzq_istore_n0, wzq_istore_n1, wzq_istore_n2, wzq_istore_n3, wzq_lstore, wzq_lstore_n0, wzq_lstore_n1, wzq_lstore_n2, wzq_lstore_n3, wzq_dstore, wzq_dstore_n0, wzq_dstore_n1, wzq_dstore_n2, wzq_dstore_n3, wzq_astore, wzq_astore_n0, wzq_astore_n1, wzq_astore_n2, wzq_astore_n3, wzq_iadd, wzq_isub, wzq_imul, wzq_iand, wzq_ior, wzq_ishr, wzq_iushr, wzq_idiv, wzq_irem, wzq_ineg, wzq_ladd, wzq_lsub, wzq_lmul, wzq_land, wzq_lor, wzq_lxor, wzq_ldiv, wzq_lrem, wzq_lneg, wzq_lshl, wzq_lshr, wzq_lushr, wzq_i2l, wzq_l2i, wzq_lcmp, wzq_dcmp, wzq_dadd, wzq_dsub, wzq_dmul, wzq_ddiv, wzq_dneg, wzq_dup, wzq_pop, wzq_pop2, wzq_dup2J, wzq_dup2D, wzq_dup2I, wzq_goto0, wzq_goto1, wzq_if_eq0, wzq_if_eq1, wzq_icmp_eq0, wzq_icmp_eq1, wzq_if_ne0, wzq_if_ne1, wzq_icmp_ne0, wzq_icmp_ne1, wzq_if_lt0, wzq_if_lt1, wzq_icmp_lt0, wzq_icmp_lt1, wzq_if_ge0, wzq_if_ge1, wzq_icmp_ge0, wzq_icmp_ge1, wzq_if_gt0, wzq_if_gt1, wzq_icmp_gt0, wzq_icmp_gt1, wzq_if_le0, wzq_if_le1, wzq_icmp_le0, wzq_icmp_le1, wzq_ifnull0, wzq_ifnull1, wzq_ifnull_a, wzq_ifnull_b, wzq_ifnonnull0, wzq_ifnonnull1, wzq_ifnonnull_a, wzq_ifnonnull_b, wzq_table, wzq_getfield, wzq_alen, wzq_iaload, wzq_baload, wzq_laload, wzq_daload, wzq_aaload, wzq_iastore, wzq_bastore, wzq_lastore, wzq_dastore, wzq_aastore, wzq_new, wzq_newarray, wzq_anewarray, wzq_d2l, wzq_l2d, wzq_mmax, wzq_mmin, wzq_mmaxl, wzq_mabs, wzq_objInit, wzq_ireturn, wzq_lreturn, wzq_dreturn, wzq_areturn, wzq_return, znth0, zst1_0, zst2_0, znth1, zst1_1, zst2_1, znth2, zst1_2, zst2_2, znth3, zst1_3, zst2_3, znth4, zst1_4, zst2_4, znth5, zst1_5, zst2_5, znth6, zst1_6, zst2_6, znth7, zst1_7, zst2_7, znth8, zst1_8, zst2_8, znth9, zst1_9, zst2_9, znth10, zst1_10, zst2_10, znth11, zst1_11, zst2_11, znth12, zst1_12, zst2_12, znth13, zst1_13, zst2_13, znth14, zst1_14, zst2_14, znth15, zst1_15, zst2_15, znth16, zst1_16, zst2_16, znth17, zst1_17, zst2_17, znth18, zst1_18, zst2_18, znth19, zst1_19, zst2_19, znth20, zst1_20, zst2_20, znth21, zst1_21, zst2_21, znth22, zst1_22, zst2_22, znth23, zst1_23, zst2_23, znth24, zst1_24, zst2_24, znth25, zst1_25, zst2_25, zkill_n, zkill_int, zkill_ref, zkill_null, zkill_long, zkill_double, zkill_rf, zref_s, zref_n, zref_rf, va_rf_s, va_rf_n, zget0, zget1, zget2, zget3, zget4, zget5, zget6, zget7, zget8, zget9, zget10, zget11, zget12, zget13, zget14, zget15, zget16, zget17, zget18, zget19, zget20, zget21, zget22, zget23, zget24, zget25, zwt_0, zwt_int, zcat_int, zwt_ref, zcat_ref, zwt_long, zcat_long, zwt_double, zcat_double, zwt_null, zwt_rf, zcat_null, zcat_rf, ztl_s, ztl_n, zfI, zfZ, zfJ, zfD, zfO, zfA, zsw_0, zsw_s, zYX1_0, zYX1_1, zYX1_2, zYX1_3, zYX1_4, zYX1_5, zYX1_6, zYX1_7, zYX1_8, zYX1_9, zYX1_10, zYX1_11, zYX1_12, zYX1_13, zYX1_14, zNX1, zYX2_0, zYX2_1, zYX2_2, zYX2_3, zYX2_4, zYX2_5, zYX2_6, zYX2_7, zYX2_8, zYX2_9, zYX2_10, zNX2, zYX3_0, zYX3_1, zYX3_2, zYX3_3, zYX3_4, zYX3_5, zYX3_6, zNX3, zYX4_0, zYX4_1, zYX4_2, zYX4_3, zYX4_4, zYX4_5, zNX4, zYX5_0, zYX5_1, zYX5_2, zYX5_3, zYX5_4, zYX5_5, zYX5_6, zYX5_7, zYX5_8, zNX5, zYX6_0, zYX6_1, zYX6_2, zYX6_3, zYX6_4, zNX6, zYX7_0, zYX7_1, zYX7_2, zYX7_3, zNX7, zYX8_0, zYX8_1, zYX8_2, zNX8, zYX9_0, zYX9_1, zYX9_2, zNX9, zYX10_0, zYX10_1, zYX10_2, zYX10_3, zYX10_4, zYX10_5, zYX10_6, zYX10_7, zYX10_8, zNX10, zYX11_0, zYX11_1, zYX11_2, zYX11_3, zYX11_4, zYX11_5, zYX11_6, zYX11_7, zYX11_8, zYX11_9, zYX11_10, zYX11_11, zYX11_12, zYX11_13, zYX11_14, zYX11_15, zYX11_16, zYX11_17, zYX11_18, zYX11_19, zYX11_20, zYX11_21, zYX11_22, zYX11_23, zYX11_24, zYX11_25, zYX11_26, zYX11_27, zYX11_28, zYX11_29, zYX11_30, zYX11_31, zYX11_32, zYX11_33, zYX11_34, zYX11_35, zYX11_36, zYX11_37, zYX11_38, zYX11_39, zYX11_40, zYX11_41, zYX11_42, zYX11_43, zYX11_44, zYX11_45, zYX11_46, zYX11_47, zYX11_48, zYX11_49, zYX11_50, zYX11_51, zYX11_52, zYX11_53, zYX11_54, zYX11_55, zYX11_56, zYX11_57, zNX11, zend_i, zend_l, zend_d, zend_o, zend_v, wzend_z, znle, zisI_s, zgI_s, zisJ_s, zgJ_s, zisD_s, zgD_s, zisA_s, zgA_s, zpokI, zpstI, zpokZ, zpstZ, zpokJ, zpstJ, zpokD, zpstD, zpokO, zpstO, zpokOn, zpstOn, zpokA, zpstA, zpokAn, zpstAn, zpk_0, zptk_0, zpdr_0, zpk_1, zptk_1, zpdr_1, zpk_2, zptk_2, zpdr_2, zpk_3, zptk_3, zpdr_3, zpk_4, zptk_4, zpdr_4, zpk_5, zptk_5, zpdr_5, zpk_6, zptk_6, zpdr_6, zpk_7, zptk_7, zpdr_7, zpk_8, zptk_8, zpdr_8, zisR_s, zgR_s, ztlR_s, zisC_s, zgC_s, zkont_s, zkont_n, zw_iload, zw_iload_n0, zw_iload_n1, zw_iload_n2, zw_iload_n3, zw_lload, zw_lload_n0, zw_lload_n1, zw_lload_n2, zw_lload_n3, zw_dload, zw_dload_n0, zw_dload_n1, zw_dload_n2, zw_dload_n3, zw_aload, zw_aload_n0, zw_aload_n1, zw_aload_n2, zw_aload_n3, zw_iinc, zw_putfield, zw_callS, zw_callV, zw_callI, q_X9_becomeQuotient, ct_X9_becomeQuotient, zc_X9_zero, zn_X9_zero, zs_X9_zero, zc_X9_takeMultiple, zn_X9_takeMultiple, zs_X9_takeMultiple, zc_X9_trim, zn_X9_trim, zs_X9_trim, b_X9_becomeQuotient_0, b_X9_becomeQuotient_40, b_X9_becomeQuotient_41, b_X9_becomeQuotient_44, b_X9_becomeQuotient_93, k_X9_becomeQuotient_0, k_X9_becomeQuotient_40, k_X9_becomeQuotient_41, k_X9_becomeQuotient_44, k_X9_becomeQuotient_93, true_or, or_true, zrz_1, zrz_0, zrz_b, true_and, and_true, Nat.reduceAdd, Nat.reduceLeDiff, Nat.reduceMul, Nat.le_refl, Nat.add_zero, Nat.zero_add, s1, s2, s3, Classical.not_not, Bool.not_eq_false, Bool.not_eq_true, zN_add, zN_sub, zN_mul, zN_le, zN_lt, zN_eq, zix_nI, zin_n, zinI_n, zinR_n, zlt_t, zom_t, zLsr, zLsh, zand_low, zL_add, zL_mul, zL_lt, zL_le, zL_sub, zL_div, zN_div, zL_e0, zL_n0, zN_n0, zN11, zN00, false_or, or_false, zZN_add, zNZ_add, zZN_sub, zNZ_sub, zZN_lt, zZN_le, zNZ_lt, zNZ_le, zZN_eq, zZZ_lt, zZZ_le, zZZ_eq, zN_32, Nat.reducePow, Nat.reduceMod, Nat.reduceDiv, zlc_eq, zlc_lt, zlc_ge, zlc_gt, zlc_le, bI_0, zbo_b, zbo_1, zbo_0, zuJ_inj, nI_nat, eq_self, Nat.reduceEqDiff, Nat.reduceSub, zI_sI_eq, zI_sI_ne, zJ_sJ_eq, zJ_sJ_ne, zD_sD_eq, zD_sD_ne, zR_sR_eq, zR_sR_ne, zJ_sI, zR_sI, zSh_sI, zNx_sI, zD_sI, zI_sJ, zR_sJ, zSh_sJ, zNx_sJ, zD_sJ, zI_sD, zJ_sD, zR_sD, zSh_sD, zNx_sD, zI_sR, zJ_sR, zD_sR, zSh_sR, zNx_sR, if_true, if_false, ite_true, ite_false, not_true, not_false_eq_true, forall_const, false_implies, true_implies, implies_true, zN_shr, zN_m31, jZ_low, jZ_add, jZ_sub, jZN_mul]
  refine ⟨cap, hs, fun T hg t1 t2 t3 => ?_⟩
  have ⟨u1, u2, u3, u4⟩ := zWs_gr hg hs
  have ⟨a1, a2, a3, a4⟩ := zWs_gr hg xs
  have ⟨b1, b2, b3, b4⟩ := zWs_gr hg ps
  have ex := (hg.2.2.2 x hn1).1
  have ep := (hg.2.2.2 p hn2).1
  obtain ⟨g, hg0⟩ : ∃ g, Q.natAbs = g := ⟨_, rfl⟩
  obtain ⟨G', hG'⟩ : ∃ G', w.natAbs = G' := ⟨_, rfl⟩
  rw [hG'] at hV
  rw [hg0] at hf
  have hXv : zdg (zLu S (x + 1)) lx = g * G' := by rw [x4, Int.natAbs_mul, hg0, hG']
  have hGp : zdg (zLu S (p + 1)) lp = G' := by rw [p4, hG']
  have hw0 : G' ≠ 0 := fun h => by rw [h] at hV; simp at hV
  have hlp : lp ≠ 0 := fun h => hw0 (by rw [← hGp, h]; rfl)
  have bx := zdg_lt (f := zLu S (x + 1)) (n := lx) (fun k _ => zLu_lt _ _ _)
  rw [hXv] at bx
  have bG := zdg_lt (f := zLu S (p + 1)) (n := lp) (fun k _ => zLu_lt _ _ _)
  rw [hGp] at bG
  have lG : 2 ^ (32 * (lp - 1)) ≤ G' := by
    obtain ⟨m, rfl⟩ : ∃ m, lp = m + 1 := ⟨lp - 1, by omega⟩
    have h4 := p5 (by omega)
    rw [Nat.add_sub_cancel] at h4 ⊢
    rw [← hGp, zdg_s]
    have h6 : 1 * 2 ^ (32 * m) ≤ zLu S (p + 1) m * 2 ^ (32 * m) := Nat.mul_le_mul_right _ (by omega)
    omega
  have zero : lx < lp → K none T := fun h => by
    refine hK T (hg.mono (fun b h => Or.inl h)) ?_
    have h1 : 2 ^ (32 * lx) ≤ 2 ^ (32 * (lp - 1)) := Nat.pow_le_pow_right (by decide) (by omega)
    have h2 : g = 0 := by
      refine Nat.eq_zero_of_not_pos fun hp => ?_
      have := Nat.le_mul_of_pos_left G' hp
      omega
    rw [show Q = 0 by omega]; exact t3
  have cn1 : (nI lx - nI lp + nI 1 < nI 1) = (lx < lp) := by
    rw [nI_z, nI_z, nI_z, iZ_sub, iZ_add]; exact propext ((iZ_lt (by omega) (by omega)).trans ⟨fun h => by omega, fun h => by omega⟩)
  have cn2 : ¬ lx < lp → nI lx - nI lp + nI 1 = nI (lx - lp + 1) := fun h => by
    rw [nI_z, nI_z, nI_z, nI_z, iZ_sub, iZ_add]; rw [show (lx : Int) - lp + (1 : Nat) = (lx - lp + 1 : Nat) by omega]
  obtain ⟨n, hn⟩ : ∃ n, lx - lp + 1 = n := ⟨_, rfl⟩
  obtain ⟨n1, n2, n3⟩ := zWs_ne hs xs hn1
  obtain ⟨m1, m2, m3⟩ := zWs_ne hs ps hn2
  obtain ⟨k1, k2, k3⟩ := zWs_ne xs ps (Ne.symm hn3)
  have c56 := hs.2.2.2
  have d56 := xs.2.2.2
  have FR : ∀ T, zGr (fun b => b = o ∨ b = o + 1 ∨ b = x + 1) S T → zI T x = zI S x ∧ zI T p = zI S p ∧ zI T (p + 1) = zI S (p + 1) := fun T hg => ⟨(hg.2.2.2 x (by omega)).1, (hg.2.2.2 p (by omega)).1, (hg.2.2.2 (p + 1) (by omega)).1⟩
  have hqn : lp ≤ lx → g < 2 ^ (32 * n) := fun hl => by
    refine Nat.lt_of_not_le fun hle => ?_
    have h1 : 2 ^ (32 * n) * 2 ^ (32 * (lp - 1)) ≤ g * G' := Nat.mul_le_mul hle lG
    rw [← Nat.pow_add, show 32 * n + 32 * (lp - 1) = 32 * lx by omega] at h1
    omega
  have esg : iZ (Q * w).sign * iZ w.sign = iZ Q.sign := by
    rw [iZ_mul, Int.sign_mul, Int.mul_assoc]
    rcases zsg3 w with h | h | h
    · rw [h]; simp
    · rw [h]; simp
    · exact absurd (show G' = 0 by omega) hw0
  have fin : n ≤ cap → lp ≤ lx → ∀ T, zGr (fun b => b = o ∨ b = o + 1 ∨ b = x + 1) S T → (∀ k, k < n → zLu T (o + 1) k = zdo g k) → ∃ cap len sg N, (zWs (zsI (zsI T o 1 (nI n)) o 2 (iZ (Q * w).sign * iZ w.sign)) o cap ∧ len ≤ cap ∧ nI n = nI len ∧ iZ (Q * w).sign * iZ w.sign = iZ sg ∧ zdg (zLu (zsI (zsI T o 1 (nI n)) o 2 (iZ (Q * w).sign * iZ w.sign)) (o + 1)) len = N ∧ (sg = 1 ∨ sg = -1 ∨ N = 0)) ∧ ∀ (T_1 : zS), zGr (fun b => b = o) (zsI (zsI T o 1 (nI n)) o 2 (iZ (Q * w).sign * iZ w.sign)) T_1 → zWv T_1 o cap (sg * ↑N) → K none T_1 := fun hc hl T hg hk => by
    have g2 : zGr (fun b => b = o ∨ b = o + 1 ∨ b = x + 1) S (zsI (zsI T o 1 (nI n)) o 2 (iZ (Q * w).sign * iZ w.sign)) := (hg.sI (Or.inl rfl)).sI (Or.inl rfl)
    refine ⟨cap, n, Q.sign, g, ⟨zWs_gr g2 hs, hc, rfl, esg, ?_, ?_⟩, fun T1 g3 t3 => hK T1 (g2.trans (g3.mono (fun b h => Or.inl h))) ?_⟩
    · have e1 : zdg (zLu (zsI (zsI T o 1 (nI n)) o 2 (iZ (Q * w).sign * iZ w.sign)) (o + 1)) n = zdg (zdo g) n := by
        refine zdg_congr fun k hk2 => ?_
        rw [← hk k hk2]
        unfold zLu; rw [zI_sI_ne (by omega), zI_sI_ne (by omega)]
      rw [e1, zdg_zdo, Nat.mod_eq_of_lt (hqn hl)]
    · rcases zsg3 Q with h | h | h
      · exact Or.inl h
      · exact Or.inr (Or.inl h)
      · exact Or.inr (Or.inr (by rw [← hg0, h]; rfl))
    · have e : Q.sign * ((g : Nat) : Int) = Q := by rw [← hg0, Int.sign_mul_natAbs]
      rw [← e]; exact t3
  have loop : n ≤ cap → lp ≤ lx → ∀ i, i ≤ n → ∀ T {l6 : Option Value}, zGr (fun b => b = o ∨ b = o + 1 ∨ b = x + 1) S T → (∀ k, k < i → zLu T (o + 1) k = zdo g k) → zdg (zLu T (x + 1)) n = 2 ^ (32 * i) * (g / 2 ^ (32 * i) * G') % 2 ^ (32 * n) → X 44 [some (.ref o), some (.ref x), some (.ref p), some (.int (iZ V)), some (.int (nI n)), some (.int (nI i)), l6] [] T 0 0 := by
    intro hc hl
    refine zlp fun i hi ih T l6 hg hk hv => ?_
    have ⟨u1, u2, u3, u4⟩ := zWs_gr hg hs
    have ⟨a1, a2, a3, a4⟩ := zWs_gr hg xs
    have ⟨b1, b2, b3, b4⟩ := zWs_gr hg ps
    have ⟨ex, ep, ep1⟩ := FR T hg
    refine hX 1000 _ _ _ _ _ _ ?_
    simp (disch := omega) only [wzq_nop, wzq_nop0, wzq_null, wzq_iconst, wzq_bipush, wzq_sipush, wzq_ldc, wzq_ldc_w, wzq_lconst, wzq_dconst, wzq_ldc2, wzq_ldc2d, wzq_istore, wzq_istore_n0, wzq_istore_n1, wzq_istore_n2, wzq_istore_n3, wzq_lstore, wzq_lstore_n0, wzq_lstore_n1, wzq_lstore_n2, wzq_lstore_n3, wzq_dstore, wzq_dstore_n0, wzq_dstore_n1, wzq_dstore_n2, wzq_dstore_n3, wzq_astore, wzq_astore_n0, wzq_astore_n1, wzq_astore_n2, wzq_astore_n3, wzq_iadd, wzq_isub, wzq_imul, wzq_iand, wzq_ior, wzq_ishr, wzq_iushr, wzq_idiv, wzq_irem, wzq_ineg, wzq_ladd, wzq_lsub, wzq_lmul, wzq_land, wzq_lor, wzq_lxor, wzq_ldiv, wzq_lrem, wzq_lneg, wzq_lshl, wzq_lshr, wzq_lushr, wzq_i2l, wzq_l2i, wzq_lcmp, wzq_dcmp, wzq_dadd, wzq_dsub, wzq_dmul, wzq_ddiv, wzq_dneg, wzq_dup, wzq_pop, wzq_pop2, wzq_dup2J, wzq_dup2D, wzq_dup2I, wzq_goto0, wzq_goto1, wzq_if_eq0, wzq_if_eq1, wzq_icmp_eq0, wzq_icmp_eq1, wzq_if_ne0, wzq_if_ne1, wzq_icmp_ne0, wzq_icmp_ne1, wzq_if_lt0, wzq_if_lt1, wzq_icmp_lt0, wzq_icmp_lt1, wzq_if_ge0, wzq_if_ge1, wzq_icmp_ge0, wzq_icmp_ge1, wzq_if_gt0, wzq_if_gt1, wzq_icmp_gt0, wzq_icmp_gt1, wzq_if_le0, wzq_if_le1, wzq_icmp_le0, wzq_icmp_le1, wzq_ifnull0, wzq_ifnull1, wzq_ifnull_a, wzq_ifnull_b, wzq_ifnonnull0, wzq_ifnonnull1, wzq_ifnonnull_a, wzq_ifnonnull_b, wzq_table, wzq_getfield, wzq_alen, wzq_iaload, wzq_baload, wzq_laload, wzq_daload, wzq_aaload, wzq_iastore, wzq_bastore, wzq_lastore, wzq_dastore, wzq_aastore, wzq_new, wzq_newarray, wzq_anewarray, wzq_d2l, wzq_l2d, wzq_mmax, wzq_mmin, wzq_mmaxl, wzq_mabs, wzq_objInit, wzq_ireturn, wzq_lreturn, wzq_dreturn, wzq_areturn, wzq_return, znth0, zst1_0, zst2_0, znth1, zst1_1, zst2_1, znth2, zst1_2, zst2_2, znth3, zst1_3, zst2_3, znth4, zst1_4, zst2_4, znth5, zst1_5, zst2_5, znth6, zst1_6, zst2_6, znth7, zst1_7, zst2_7, znth8, zst1_8, zst2_8, znth9, zst1_9, zst2_9, znth10, zst1_10, zst2_10, znth11, zst1_11, zst2_11, znth12, zst1_12, zst2_12, znth13, zst1_13, zst2_13, znth14, zst1_14, zst2_14, znth15, zst1_15, zst2_15, znth16, zst1_16, zst2_16, znth17, zst1_17, zst2_17, znth18, zst1_18, zst2_18, znth19, zst1_19, zst2_19, znth20, zst1_20, zst2_20, znth21, zst1_21, zst2_21, znth22, zst1_22, zst2_22, znth23, zst1_23, zst2_23, znth24, zst1_24, zst2_24, znth25, zst1_25, zst2_25, zkill_n, zkill_int, zkill_ref, zkill_null, zkill_long, zkill_double, zkill_rf, zref_s, zref_n, zref_rf, va_rf_s, va_rf_n, zget0, zget1, zget2, zget3, zget4, zget5, zget6, zget7, zget8, zget9, zget10, zget11, zget12, zget13, zget14, zget15, zget16, zget17, zget18, zget19, zget20, zget21, zget22, zget23, zget24, zget25, zwt_0, zwt_int, zcat_int, zwt_ref, zcat_ref, zwt_long, zcat_long, zwt_double, zcat_double, zwt_null, zwt_rf, zcat_null, zcat_rf, ztl_s, ztl_n, zfI, zfZ, zfJ, zfD, zfO, zfA, zsw_0, zsw_s, zYX1_0, zYX1_1, zYX1_2, zYX1_3, zYX1_4, zYX1_5, zYX1_6, zYX1_7, zYX1_8, zYX1_9, zYX1_10, zYX1_11, zYX1_12, zYX1_13, zYX1_14, zNX1, zYX2_0, zYX2_1, zYX2_2, zYX2_3, zYX2_4, zYX2_5, zYX2_6, zYX2_7, zYX2_8, zYX2_9, zYX2_10, zNX2, zYX3_0, zYX3_1, zYX3_2, zYX3_3, zYX3_4, zYX3_5, zYX3_6, zNX3, zYX4_0, zYX4_1, zYX4_2, zYX4_3, zYX4_4, zYX4_5, zNX4, zYX5_0, zYX5_1, zYX5_2, zYX5_3, zYX5_4, zYX5_5, zYX5_6, zYX5_7, zYX5_8, zNX5, zYX6_0, zYX6_1, zYX6_2, zYX6_3, zYX6_4, zNX6, zYX7_0, zYX7_1, zYX7_2, zYX7_3, zNX7, zYX8_0, zYX8_1, zYX8_2, zNX8, zYX9_0, zYX9_1, zYX9_2, zNX9, zYX10_0, zYX10_1, zYX10_2, zYX10_3, zYX10_4, zYX10_5, zYX10_6, zYX10_7, zYX10_8, zNX10, zYX11_0, zYX11_1, zYX11_2, zYX11_3, zYX11_4, zYX11_5, zYX11_6, zYX11_7, zYX11_8, zYX11_9, zYX11_10, zYX11_11, zYX11_12, zYX11_13, zYX11_14, zYX11_15, zYX11_16, zYX11_17, zYX11_18, zYX11_19, zYX11_20, zYX11_21, zYX11_22, zYX11_23, zYX11_24, zYX11_25, zYX11_26, zYX11_27, zYX11_28, zYX11_29, zYX11_30, zYX11_31, zYX11_32, zYX11_33, zYX11_34, zYX11_35, zYX11_36, zYX11_37, zYX11_38, zYX11_39, zYX11_40, zYX11_41, zYX11_42, zYX11_43, zYX11_44, zYX11_45, zYX11_46, zYX11_47, zYX11_48, zYX11_49, zYX11_50, zYX11_51, zYX11_52, zYX11_53, zYX11_54, zYX11_55, zYX11_56, zYX11_57, zNX11, zend_i, zend_l, zend_d, zend_o, zend_v, wzend_z, znle, zisI_s, zgI_s, zisJ_s, zgJ_s, zisD_s, zgD_s, zisA_s, zgA_s, zpokI, zpstI, zpokZ, zpstZ, zpokJ, zpstJ, zpokD, zpstD, zpokO, zpstO, zpokOn, zpstOn, zpokA, zpstA, zpokAn, zpstAn, zpk_0, zptk_0, zpdr_0, zpk_1, zptk_1, zpdr_1, zpk_2, zptk_2, zpdr_2, zpk_3, zptk_3, zpdr_3, zpk_4, zptk_4, zpdr_4, zpk_5, zptk_5, zpdr_5, zpk_6, zptk_6, zpdr_6, zpk_7, zptk_7, zpdr_7, zpk_8, zptk_8, zpdr_8, zisR_s, zgR_s, ztlR_s, zisC_s, zgC_s, zkont_s, zkont_n, zw_iload, zw_iload_n0, zw_iload_n1, zw_iload_n2, zw_iload_n3, zw_lload, zw_lload_n0, zw_lload_n1, zw_lload_n2, zw_lload_n3, zw_dload, zw_dload_n0, zw_dload_n1, zw_dload_n2, zw_dload_n3, zw_aload, zw_aload_n0, zw_aload_n1, zw_aload_n2, zw_aload_n3, zw_iinc, zw_putfield, zw_callS, zw_callV, zw_callI, q_X9_becomeQuotient, ct_X9_becomeQuotient, zc_X9_zero, zn_X9_zero, zs_X9_zero, zc_X9_takeMultiple, zn_X9_takeMultiple, zs_X9_takeMultiple, zc_X9_trim, zn_X9_trim, zs_X9_trim, b_X9_becomeQuotient_0, b_X9_becomeQuotient_40, b_X9_becomeQuotient_41, b_X9_becomeQuotient_44, b_X9_becomeQuotient_93, k_X9_becomeQuotient_0, k_X9_becomeQuotient_40, k_X9_becomeQuotient_41, k_X9_becomeQuotient_44, k_X9_becomeQuotient_93, true_or, or_true, zrz_1, zrz_0, zrz_b, true_and, and_true, Nat.reduceAdd, Nat.reduceLeDiff, Nat.reduceMul, Nat.le_refl, Nat.add_zero, Nat.zero_add, u1, u2, u3, a1, a2, a3, b1, b2, b3, zlow, ex, ep, x3, p3, Classical.not_not, Bool.not_eq_false, Bool.not_eq_true, zN_add, zN_sub, zN_mul, zN_le, zN_lt, zN_eq, zix_nI, zin_n, zinI_n, zinR_n, zlt_t, zom_t, zLsr, zLsh, zand_low, zL_add, zL_mul, zL_lt, zL_le, zL_sub, zL_div, zN_div, zL_e0, zL_n0, zN_n0, zN11, zN00, false_or, or_false, zZN_add, zNZ_add, zZN_sub, zNZ_sub, zZN_lt, zZN_le, zNZ_lt, zNZ_le, zZN_eq, zZZ_lt, zZZ_le, zZZ_eq, zN_32, Nat.reducePow, Nat.reduceMod, Nat.reduceDiv, zlc_eq, zlc_lt, zlc_ge, zlc_gt, zlc_le, bI_0, zbo_b, zbo_1, zbo_0, zuJ_inj, nI_nat, eq_self, Nat.reduceEqDiff, Nat.reduceSub, zI_sI_eq, zI_sI_ne, zJ_sJ_eq, zJ_sJ_ne, zD_sD_eq, zD_sD_ne, zR_sR_eq, zR_sR_ne, zJ_sI, zR_sI, zSh_sI, zNx_sI, zD_sI, zI_sJ, zR_sJ, zSh_sJ, zNx_sJ, zD_sJ, zI_sD, zJ_sD, zR_sD, zSh_sD, zNx_sD, zI_sR, zJ_sR, zD_sR, zSh_sR, zNx_sR, if_true, if_false, ite_true, ite_false, not_true, not_false_eq_true, forall_const, false_implies, true_implies, implies_true, zN_shr, zN_m31, jZ_low, jZ_add, jZ_sub, jZN_mul]
    refine ⟨fun h => fin hc hl T hg (fun k hk2 => hk k (by omega)), fun h => ⟨show i < cx by omega, show i < cap by omega, ?_⟩⟩
    have hin : i < n := by omega
    have dg : zLu T (x + 1) i = g / 2 ^ (32 * i) * G' % 4294967296 := by
      have q0 := zdg_dig (f := zLu T (x + 1)) (n := n) (k := i) (fun k _ => zLu_lt _ _ _) hin
      rw [← q0, hv, ← zdg_zdo, zdg_dig (fun k _ => zdo_lt _ _) hin]
      unfold zdo
      rw [Nat.mul_div_cancel_left _ (Nat.two_pow_pos _)]
    have e1 : zI T (x + 1) i * iZ V = nI (zdo g i) := by
      have e2 : zI T (x + 1) i = nI (g / 2 ^ (32 * i) * G' % 4294967296) := by rw [← dg]; exact (nI_uI _).symm
      rw [e2, nI_z, iZ_mul, uI_inj, uI_nI, ← jZ_32, uI_jZ]
      unfold zdo
      generalize g / 2 ^ (32 * i) = y
      have e3 : (((y * G' % 4294967296 : Nat) : Int) * V) % 4294967296 = (y : Int) % 4294967296 := by
        rw [Int.natCast_emod, Int.natCast_mul]
        show ((y : Int) * G' % 4294967296 * V) % 4294967296 = _
        rw [Int.mul_emod, Int.emod_emod, ← Int.mul_emod, Int.mul_assoc, Int.mul_emod, hV, Int.mul_one, Int.emod_emod]
      rw [e3]; omega
    rw [e1]
    have bd := zdo_lt g i
    have g2 : zGr (fun b => b = o ∨ b = o + 1 ∨ b = x + 1) S (zsI T (o + 1) i (nI (zdo g i))) := hg.sI (Or.inr (Or.inl rfl))
    have pv : zWv (zsI T (o + 1) i (nI (zdo g i))) p cp w := zWv_gr g2 (by omega) (by omega) ⟨ps, lp, p1, p2, p3, p4, p5⟩
    refine ⟨cx, cp, zdo g i, w, ⟨zWs_gr g2 xs, pv, by rw [uI_nI, Nat.mod_eq_of_lt bd], ⟨bd, hin, by omega⟩⟩, fun T1 g3 t3 => ?_⟩
    have e6 : zLu (zsI T (o + 1) i (nI (zdo g i))) (x + 1) = zLu T (x + 1) := by funext k; unfold zLu; rw [zI_sI_ne (by omega)]
    rw [e6, hv, hG'] at t3
    refine ih (by omega) T1 (g2.trans (g3.mono (fun b h => Or.inr (Or.inr h)))) (fun k hk2 => ?_) ?_
    · have e7 : zLu T1 (o + 1) k = zLu (zsI T (o + 1) i (nI (zdo g i))) (o + 1) k := by
        unfold zLu; rw [(g3.2.2.2 (o + 1) (Ne.symm n3)).1]
      rw [e7, zLu_sI]
      by_cases h3 : k = i
      · rw [if_pos h3, uI_nI, Nat.mod_eq_of_lt bd, h3]
      · rw [if_neg h3]; exact hk k (by omega)
    · have e8 : ((2 ^ (32 * n) : Nat) : Int) = (2 : Int) ^ (32 * n) := by rw [Int.natCast_pow]; rfl
      have e9 : ((2 ^ (32 * i) : Nat) : Int) = (2 : Int) ^ (32 * i) := by rw [Int.natCast_pow]; rfl
      refine Int.ofNat_inj.mp ?_
      rw [t3, Int.natCast_emod, Int.natCast_emod, e8, Int.sub_emod, Int.emod_emod, ← Int.sub_emod]
      congr 1
      have ed : g / 2 ^ (32 * i) = g / 2 ^ (32 * (i + 1)) * 4294967296 + zdo g i := by
        unfold zdo
        rw [show 2 ^ (32 * (i + 1)) = 2 ^ (32 * i) * 4294967296 by rw [zp32, Nat.mul_comm], ← Nat.div_div_eq_div_mul]; omega
      rw [ed, zp32, ← e9]
      generalize g / (4294967296 * 2 ^ (32 * i)) = a
      generalize zdo g i = d
      generalize 2 ^ (32 * i) = P
      have : P * ((a * 4294967296 + d) * G') = d * G' * P + 4294967296 * P * (a * G') := by grind
      rw [this, Int.natCast_add, Int.natCast_mul (d * G') P, Int.natCast_mul d G']; omega
  rw [hv]
  simp +contextual (disch := omega) only [wzq_nop, wzq_nop0, wzq_null, wzq_iconst, wzq_bipush, wzq_sipush, wzq_ldc, wzq_ldc_w, wzq_lconst, wzq_dconst, wzq_ldc2, wzq_ldc2d, wzq_istore, wzq_istore_n0, wzq_istore_n1, wzq_istore_n2, wzq_istore_n3, wzq_lstore, wzq_lstore_n0, wzq_lstore_n1, wzq_lstore_n2, wzq_lstore_n3, wzq_dstore, wzq_dstore_n0, wzq_dstore_n1, wzq_dstore_n2, wzq_dstore_n3, wzq_astore, wzq_astore_n0, wzq_astore_n1, wzq_astore_n2, wzq_astore_n3, wzq_iadd, wzq_isub, wzq_imul, wzq_iand, wzq_ior, wzq_ishr, wzq_iushr, wzq_idiv, wzq_irem, wzq_ineg, wzq_ladd, wzq_lsub, wzq_lmul, wzq_land, wzq_lor, wzq_lxor, wzq_ldiv, wzq_lrem, wzq_lneg, wzq_lshl, wzq_lshr, wzq_lushr, wzq_i2l, wzq_l2i, wzq_lcmp, wzq_dcmp, wzq_dadd, wzq_dsub, wzq_dmul, wzq_ddiv, wzq_dneg, wzq_dup, wzq_pop, wzq_pop2, wzq_dup2J, wzq_dup2D, wzq_dup2I, wzq_goto0, wzq_goto1, wzq_if_eq0, wzq_if_eq1, wzq_icmp_eq0, wzq_icmp_eq1, wzq_if_ne0, wzq_if_ne1, wzq_icmp_ne0, wzq_icmp_ne1, wzq_if_lt0, wzq_if_lt1, wzq_icmp_lt0, wzq_icmp_lt1, wzq_if_ge0, wzq_if_ge1, wzq_icmp_ge0, wzq_icmp_ge1, wzq_if_gt0, wzq_if_gt1, wzq_icmp_gt0, wzq_icmp_gt1, wzq_if_le0, wzq_if_le1, wzq_icmp_le0, wzq_icmp_le1, wzq_ifnull0, wzq_ifnull1, wzq_ifnull_a, wzq_ifnull_b, wzq_ifnonnull0, wzq_ifnonnull1, wzq_ifnonnull_a, wzq_ifnonnull_b, wzq_table, wzq_getfield, wzq_alen, wzq_iaload, wzq_baload, wzq_laload, wzq_daload, wzq_aaload, wzq_iastore, wzq_bastore, wzq_lastore, wzq_dastore, wzq_aastore, wzq_new, wzq_newarray, wzq_anewarray, wzq_d2l, wzq_l2d, wzq_mmax, wzq_mmin, wzq_mmaxl, wzq_mabs, wzq_objInit, wzq_ireturn, wzq_lreturn, wzq_dreturn, wzq_areturn, wzq_return, znth0, zst1_0, zst2_0, znth1, zst1_1, zst2_1, znth2, zst1_2, zst2_2, znth3, zst1_3, zst2_3, znth4, zst1_4, zst2_4, znth5, zst1_5, zst2_5, znth6, zst1_6, zst2_6, znth7, zst1_7, zst2_7, znth8, zst1_8, zst2_8, znth9, zst1_9, zst2_9, znth10, zst1_10, zst2_10, znth11, zst1_11, zst2_11, znth12, zst1_12, zst2_12, znth13, zst1_13, zst2_13, znth14, zst1_14, zst2_14, znth15, zst1_15, zst2_15, znth16, zst1_16, zst2_16, znth17, zst1_17, zst2_17, znth18, zst1_18, zst2_18, znth19, zst1_19, zst2_19, znth20, zst1_20, zst2_20, znth21, zst1_21, zst2_21, znth22, zst1_22, zst2_22, znth23, zst1_23, zst2_23, znth24, zst1_24, zst2_24, znth25, zst1_25, zst2_25, zkill_n, zkill_int, zkill_ref, zkill_null, zkill_long, zkill_double, zkill_rf, zref_s, zref_n, zref_rf, va_rf_s, va_rf_n, zget0, zget1, zget2, zget3, zget4, zget5, zget6, zget7, zget8, zget9, zget10, zget11, zget12, zget13, zget14, zget15, zget16, zget17, zget18, zget19, zget20, zget21, zget22, zget23, zget24, zget25, zwt_0, zwt_int, zcat_int, zwt_ref, zcat_ref, zwt_long, zcat_long, zwt_double, zcat_double, zwt_null, zwt_rf, zcat_null, zcat_rf, ztl_s, ztl_n, zfI, zfZ, zfJ, zfD, zfO, zfA, zsw_0, zsw_s, zYX1_0, zYX1_1, zYX1_2, zYX1_3, zYX1_4, zYX1_5, zYX1_6, zYX1_7, zYX1_8, zYX1_9, zYX1_10, zYX1_11, zYX1_12, zYX1_13, zYX1_14, zNX1, zYX2_0, zYX2_1, zYX2_2, zYX2_3, zYX2_4, zYX2_5, zYX2_6, zYX2_7, zYX2_8, zYX2_9, zYX2_10, zNX2, zYX3_0, zYX3_1, zYX3_2, zYX3_3, zYX3_4, zYX3_5, zYX3_6, zNX3, zYX4_0, zYX4_1, zYX4_2, zYX4_3, zYX4_4, zYX4_5, zNX4, zYX5_0, zYX5_1, zYX5_2, zYX5_3, zYX5_4, zYX5_5, zYX5_6, zYX5_7, zYX5_8, zNX5, zYX6_0, zYX6_1, zYX6_2, zYX6_3, zYX6_4, zNX6, zYX7_0, zYX7_1, zYX7_2, zYX7_3, zNX7, zYX8_0, zYX8_1, zYX8_2, zNX8, zYX9_0, zYX9_1, zYX9_2, zNX9, zYX10_0, zYX10_1, zYX10_2, zYX10_3, zYX10_4, zYX10_5, zYX10_6, zYX10_7, zYX10_8, zNX10, zYX11_0, zYX11_1, zYX11_2, zYX11_3, zYX11_4, zYX11_5, zYX11_6, zYX11_7, zYX11_8, zYX11_9, zYX11_10, zYX11_11, zYX11_12, zYX11_13, zYX11_14, zYX11_15, zYX11_16, zYX11_17, zYX11_18, zYX11_19, zYX11_20, zYX11_21, zYX11_22, zYX11_23, zYX11_24, zYX11_25, zYX11_26, zYX11_27, zYX11_28, zYX11_29, zYX11_30, zYX11_31, zYX11_32, zYX11_33, zYX11_34, zYX11_35, zYX11_36, zYX11_37, zYX11_38, zYX11_39, zYX11_40, zYX11_41, zYX11_42, zYX11_43, zYX11_44, zYX11_45, zYX11_46, zYX11_47, zYX11_48, zYX11_49, zYX11_50, zYX11_51, zYX11_52, zYX11_53, zYX11_54, zYX11_55, zYX11_56, zYX11_57, zNX11, zend_i, zend_l, zend_d, zend_o, zend_v, wzend_z, znle, zisI_s, zgI_s, zisJ_s, zgJ_s, zisD_s, zgD_s, zisA_s, zgA_s, zpokI, zpstI, zpokZ, zpstZ, zpokJ, zpstJ, zpokD, zpstD, zpokO, zpstO, zpokOn, zpstOn, zpokA, zpstA, zpokAn, zpstAn, zpk_0, zptk_0, zpdr_0, zpk_1, zptk_1, zpdr_1, zpk_2, zptk_2, zpdr_2, zpk_3, zptk_3, zpdr_3, zpk_4, zptk_4, zpdr_4, zpk_5, zptk_5, zpdr_5, zpk_6, zptk_6, zpdr_6, zpk_7, zptk_7, zpdr_7, zpk_8, zptk_8, zpdr_8, zisR_s, zgR_s, ztlR_s, zisC_s, zgC_s, zkont_s, zkont_n, zw_iload, zw_iload_n0, zw_iload_n1, zw_iload_n2, zw_iload_n3, zw_lload, zw_lload_n0, zw_lload_n1, zw_lload_n2, zw_lload_n3, zw_dload, zw_dload_n0, zw_dload_n1, zw_dload_n2, zw_dload_n3, zw_aload, zw_aload_n0, zw_aload_n1, zw_aload_n2, zw_aload_n3, zw_iinc, zw_putfield, zw_callS, zw_callV, zw_callI, q_X9_becomeQuotient, ct_X9_becomeQuotient, zc_X9_zero, zn_X9_zero, zs_X9_zero, zc_X9_takeMultiple, zn_X9_takeMultiple, zs_X9_takeMultiple, zc_X9_trim, zn_X9_trim, zs_X9_trim, b_X9_becomeQuotient_0, b_X9_becomeQuotient_40, b_X9_becomeQuotient_41, b_X9_becomeQuotient_44, b_X9_becomeQuotient_93, k_X9_becomeQuotient_0, k_X9_becomeQuotient_40, k_X9_becomeQuotient_41, k_X9_becomeQuotient_44, k_X9_becomeQuotient_93, true_or, or_true, zrz_1, zrz_0, zrz_b, true_and, and_true, Nat.reduceAdd, Nat.reduceLeDiff, Nat.reduceMul, Nat.le_refl, Nat.add_zero, Nat.zero_add, u1, u2, u3, a1, a2, a3, b1, b2, b3, ex, ep, x2, p2, cn1, Classical.not_not, Bool.not_eq_false, Bool.not_eq_true, zN_add, zN_sub, zN_mul, zN_le, zN_lt, zN_eq, zix_nI, zin_n, zinI_n, zinR_n, zlt_t, zom_t, zLsr, zLsh, zand_low, zL_add, zL_mul, zL_lt, zL_le, zL_sub, zL_div, zN_div, zL_e0, zL_n0, zN_n0, zN11, zN00, false_or, or_false, zZN_add, zNZ_add, zZN_sub, zNZ_sub, zZN_lt, zZN_le, zNZ_lt, zNZ_le, zZN_eq, zZZ_lt, zZZ_le, zZZ_eq, zN_32, Nat.reducePow, Nat.reduceMod, Nat.reduceDiv, zlc_eq, zlc_lt, zlc_ge, zlc_gt, zlc_le, bI_0, zbo_b, zbo_1, zbo_0, zuJ_inj, nI_nat, eq_self, Nat.reduceEqDiff, Nat.reduceSub, zI_sI_eq, zI_sI_ne, zJ_sJ_eq, zJ_sJ_ne, zD_sD_eq, zD_sD_ne, zR_sR_eq, zR_sR_ne, zJ_sI, zR_sI, zSh_sI, zNx_sI, zD_sI, zI_sJ, zR_sJ, zSh_sJ, zNx_sJ, zD_sJ, zI_sD, zJ_sD, zR_sD, zSh_sD, zNx_sD, zI_sR, zJ_sR, zD_sR, zSh_sR, zNx_sR, if_true, if_false, ite_true, ite_false, not_true, not_false_eq_true, forall_const, false_implies, true_implies, implies_true, zN_shr, zN_m31, jZ_low, jZ_add, jZ_sub, jZN_mul]
  refine ⟨fun h => absurd h hlp, fun _ => ⟨fun h => zero h, fun h => ?_⟩⟩
  rw [hn]
  refine ⟨fun h2 => ?_, fun h2 => absurd ?_ h2⟩
  · refine loop h2 (by omega) 0 (by omega) T (hg.mono (fun b h => Or.inl h)) (fun k hk => absurd hk (by omega)) ?_
    have e0 : zLu T (x + 1) = zLu S (x + 1) := by unfold zLu; rw [(hg.2.2.2 (x + 1) n2).1]
    rw [e0, Nat.mul_zero, Nat.pow_zero, Nat.div_one, Nat.one_mul, ← hXv]
    exact (zdg_dg0 (zLu_lt S (x + 1)) (by omega)).symm
  · refine Nat.le_of_not_lt fun h3 => ?_
    have hlx : lx ≠ 0 := by omega
    obtain ⟨m, hm⟩ : ∃ m, lx = m + 1 := ⟨lx - 1, by omega⟩
    have h4 := x5 (by omega)
    rw [hm, Nat.add_sub_cancel] at h4
    rw [hm, zdg_s] at hXv
    have h6 : 1 * 2 ^ (32 * m) ≤ zLu S (x + 1) m * 2 ^ (32 * m) := Nat.mul_le_mul_right _ (by omega)
    have h7 : g * G' < 2 ^ (32 * (cap - 1)) * 2 ^ (32 * lp) := by
      refine Nat.lt_of_le_of_lt (Nat.mul_le_mul_left g (Nat.le_of_lt bG)) ?_
      exact Nat.mul_lt_mul_of_pos_right hf (Nat.two_pow_pos _)
    rw [← Nat.pow_add] at h7
    have h9 := (Nat.pow_lt_pow_iff_right (a := 2) (by decide)).mp (Nat.lt_of_le_of_lt (show 2 ^ (32 * m) ≤ g * G' by omega) h7)
    omega
end ZWHO9
