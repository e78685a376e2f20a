/-! the class's whole numbers: addSize, lessSize, subtract */ -/
section ZWHO3
theorem zdg_st (f : Nat → Nat) (i : Nat) : f i + zdg f i / 2 ^ (32 * i) = zdg f (i + 1) / 2 ^ (32 * i) := by
  rw [zdg_s, Nat.add_mul_div_right _ _ (Nat.two_pow_pos _), Nat.add_comm]
theorem zdg_st2 (f : Nat → Nat) (i : Nat) : zdg f (i + 1) / 2 ^ (32 * i) / 4294967296 = zdg f (i + 1) / 2 ^ (32 * (i + 1)) := by
  rw [zp32, Nat.div_div_eq_div_mul, Nat.mul_comm]
theorem zdo_st (f : Nat → Nat) {i n : Nat} (h : i < n) : zdo (zdg f n) i = zdg f (i + 1) / 2 ^ (32 * i) % 4294967296 := by
  obtain ⟨m, rfl⟩ : ∃ m, n = (i + 1) + m := ⟨n - i - 1, by omega⟩
  unfold zdo
  rw [zdg_split, zp32, Nat.mul_comm 4294967296, Nat.mul_assoc, Nat.add_mul_div_left _ _ (Nat.two_pow_pos _), Nat.add_mul_mod_self_left]
theorem zdg_add (f g : Nat → Nat) : ∀ n, zdg (fun k => f k + g k) n = zdg f n + zdg g n
  | 0 => rfl
  | n + 1 => by rw [zdg_s, zdg_s, zdg_s, zdg_add f g n, Nat.add_mul]; omega
/-- the limbs below a length, and 0 -/
def zlm (S : zS) (a len k : Nat) : Nat := if k < len then zLu S a k else 0
theorem zlm_lt (S : zS) (a len k : Nat) : zlm S a len k < 4294967296 := by unfold zlm; split; exact zLu_lt _ _ _; decide
theorem zlm_v {S : zS} {a len n : Nat} (h : len ≤ n) : zdg (zlm S a len) n = zdg (zLu S a) len := by
  rw [zdg_top (f := zlm S a len) (m := len) h (fun k h1 h2 => if_neg (by omega))]
  exact zdg_congr fun k hk => if_pos hk
theorem zLu_sI {S : zS} {a i k : Nat} {x : Int32} : zLu (zsI S a i x) a k = if k = i then uI x else zLu S a k := by
  unfold zLu
  by_cases h : k = i
  · rw [if_pos h, h, zI_sI_eq]
  · rw [if_neg h, zI_sI_ne (by omega)]
def zaS (v w : Int) : Int := if v < 0 then -(v.natAbs + w.natAbs : Int) else v.natAbs + w.natAbs
def ct_X9_addSize : zCt := (fun av S K => ∃ o : Nat, ∃ p : Nat, av = [.ref o, .ref p] ∧ (∃ (cap cp : Nat) (v w : Int), (zWv S o cap v ∧ zWv S p cp w ∧ zom (p ≠ o) ∧ (v.natAbs < 2 ^ (32 * (cap - 1)) ∧ w.natAbs < 2 ^ (32 * (cap - 1)) ∧ 1 ≤ cap)) ∧ ∀ T, zGr (fun b => b = o ∨ b = o + 1) S T → zWv T o cap (zaS v w) → K none T), 0, 0)
theorem zc_X9_addSize {S : zS} {K : Option Value → zS → Prop} {o : Nat} {p : Nat} : ct_X9_addSize.1 [.ref o, .ref p] S K = (∃ (cap cp : Nat) (v w : Int), (zWv S o cap v ∧ zWv S p cp w ∧ zom (p ≠ o) ∧ (v.natAbs < 2 ^ (32 * (cap - 1)) ∧ w.natAbs < 2 ^ (32 * (cap - 1)) ∧ 1 ≤ cap)) ∧ ∀ T, zGr (fun b => b = o ∨ b = o + 1) S T → zWv T o cap (zaS v w) → K none T) := propext ⟨fun ⟨z0, z1, e, h⟩ => by cases e; exact h, fun h => ⟨o, p, rfl, h⟩⟩
theorem zn_X9_addSize : ct_X9_addSize.2.1 = 0 := rfl
theorem zs_X9_addSize : ct_X9_addSize.2.2 = 0 := rfl
theorem met_X9_addSize (l : Launch) (G : zG) : zMet l G q_X9_addSize ct_X9_addSize := by
  refine zmk 9 false cal_X9_addSize bl_X9_addSize pl_X9_addSize [ct_X9_trim] ck_X9_addSize nm_X9_addSize ⟨rfl, rfl⟩ wd_X9_addSize (⟨⟨met_X9_trim l G, rfl, rfl⟩, trivial⟩) ?_
  intro X av S K h
  obtain ⟨o, p, rfl, h⟩ := h
  refine ⟨Nat.le_of_ble_eq_true rfl, fun hX => ?_⟩
  show X 0 [some (.ref o), some (.ref p), none, none, none, none] [] S 0 0
  obtain ⟨cap, cp, v, w, ⟨hv, ⟨ps, len', m1, m2, m3, m4, m5⟩, hne, hf1, hf2, hc1⟩, hK⟩ := h
  have ⟨hs, len, l1, l2, l3, l4, l5⟩ := hv
  have hne : p ≠ o := hne
  obtain ⟨n1, n2, n3⟩ := zWs_ne hs ps hne
  have b1 := zdg_len l4 l5 hf1
  have b2 := zdg_len m4 m5 hf2
  have c56 := hs.2.2.2
  obtain ⟨N, hN⟩ : ∃ N, max len len' = N := ⟨_, rfl⟩
  obtain ⟨hh, hhe⟩ : ∃ hh : Nat → Nat, hh = fun k => zlm S (o + 1) len k + zlm S (p + 1) len' k := ⟨_, rfl⟩
  have hA : zdg hh (N + 1) = v.natAbs + w.natAbs := by rw [hhe, zdg_add, zlm_v (by omega), zlm_v (by omega), l4, m4]
  have hcb : ∀ i, zdg hh i / 2 ^ (32 * i) < 2 := fun i => by
    refine (Nat.div_lt_iff_lt_mul (Nat.two_pow_pos _)).mpr ?_
    rw [hhe, zdg_add]
    have := zdg_lt (f := zlm S (o + 1) len) (n := i) (fun k _ => zlm_lt _ _ _ _)
    have := zdg_lt (f := zlm S (p + 1) len') (n := i) (fun k _ => zlm_lt _ _ _ _)
    omega
  have emx : (if len < len' then nI len' else nI len) = nI N := by
    split
    · rw [show len' = N by omega]
    · rw [show len = N by omega]
  have loop : ∀ i, i ≤ N → ∀ T, zGr (fun b => b = o + 1) S T → (∀ k, zLu T (o + 1) k = if k < i then zdo (v.natAbs + w.natAbs) k else zLu S (o + 1) k) → X 36 [some (.ref o), some (.ref p), some (.int (nI N)), some (.long (lN (zdg hh i / 2 ^ (32 * i)))), none, some (.int (nI i))] [] T 0 0 := by
    refine zlp fun i hi ih T hg hk => ?_
    have ⟨u1, u2, u3, u4⟩ := zWs_gr hg hs
    have ⟨p1, p2, p3, p4⟩ := zWs_gr hg ps
    have eo := (hg.2.2.2 o (by omega)).1
    have ep := (hg.2.2.2 p (by omega)).1
    have ep1 := (hg.2.2.2 (p + 1) (by omega)).1
    have hci := hcb i
    obtain ⟨c, hc⟩ : ∃ c, zdg hh i / 2 ^ (32 * i) = c := ⟨_, rfl⟩
    rw [hc] at hci ⊢
    have ux := uI_lt (zI T (o + 1) i)
    have uy := uI_lt (zI S (p + 1) i)
    have ex : uI (zI T (o + 1) i) = zLu S (o + 1) i := by have := hk i; rw [if_neg (by omega)] at this; exact this
    have step : i < N → ∀ x y, x = zlm S (o + 1) len i → y = zlm S (p + 1) len' i → X 36 [some (.ref o), some (.ref p), some (.int (nI N)), some (.long (lN ((c + x + y) / 4294967296))), none, some (.int (nI (i + 1)))] [] (zsI T (o + 1) i (nI (c + x + y))) 0 0 := fun hiN x y hx hy => by
      have e1 : c + x + y = zdg hh (i + 1) / 2 ^ (32 * i) := by
        have e0 : hh i = zlm S (o + 1) len i + zlm S (p + 1) len' i := by rw [hhe]
        rw [← zdg_st, hc, hx, hy, e0]; omega
      have q := ih hiN (zsI T (o + 1) i (nI (c + x + y))) (hg.sI rfl) (fun k => ?_)
      · rw [e1, zdg_st2, ← e1]; exact q
      · rw [zLu_sI]
        by_cases h : k = i
        · rw [if_pos h, if_pos (by omega), uI_nI, e1, h, ← hA]
          exact (zdo_st hh (by omega)).symm
        · rw [if_neg h, hk k]
          by_cases h2 : k < i
          · rw [if_pos h2, if_pos (by omega)]
          · rw [if_neg h2, if_neg (by omega)]
    have fin : N ≤ i → ∀ sg : Int, (sg = 1 ∨ sg = -1) → sg = (if v < 0 then -1 else 1) → ∃ cap len sg' N_1, (zWs (zsI (zsI (zsI T (o + 1) N (nI c)) o 1 (nI (N + 1))) o 2 (iZ sg)) o cap ∧ len ≤ cap ∧ nI (N + 1) = nI len ∧ iZ sg = iZ sg' ∧ zdg (zLu (zsI (zsI (zsI T (o + 1) N (nI c)) o 1 (nI (N + 1))) o 2 (iZ sg)) (o + 1)) len = N_1 ∧ (sg' = 1 ∨ sg' = -1 ∨ N_1 = 0)) ∧ ∀ (T_1 : zS), zGr (fun b => b = o) (zsI (zsI (zsI T (o + 1) N (nI c)) o 1 (nI (N + 1))) o 2 (iZ sg)) T_1 → zWv T_1 o cap (sg' * ↑N_1) → K none T_1 := fun hNi sg hsg hsv => by
      have ei : i = N := by omega
      have g2 : zGr (fun b => b = o ∨ b = o + 1) S (zsI (zsI (zsI T (o + 1) N (nI c)) o 1 (nI (N + 1))) o 2 (iZ sg)) := (((hg.mono (fun b h => Or.inr h)).sI (by omega)).sI (by omega)).sI (by omega)
      have hz : zdg (zLu (zsI (zsI (zsI T (o + 1) N (nI c)) o 1 (nI (N + 1))) o 2 (iZ sg)) (o + 1)) (N + 1) = v.natAbs + w.natAbs := by
        have e1 : zdg (zLu (zsI (zsI (zsI T (o + 1) N (nI c)) o 1 (nI (N + 1))) o 2 (iZ sg)) (o + 1)) (N + 1) = zdg (zdo (v.natAbs + w.natAbs)) (N + 1) := by
          refine zdg_congr fun k hk2 => ?_
          have e2 : zLu (zsI (zsI (zsI T (o + 1) N (nI c)) o 1 (nI (N + 1))) o 2 (iZ sg)) (o + 1) k = zLu (zsI T (o + 1) N (nI c)) (o + 1) k := by
            unfold zLu; rw [zI_sI_ne (by omega), zI_sI_ne (by omega)]
          rw [e2, zLu_sI]
          by_cases h : k = N
          · rw [if_pos h, uI_nI, h, ← hA, zdo_st hh (Nat.lt_succ_self N), ← zdg_st, ← ei, hc]
            have e3 : hh i = 0 := by
              rw [hhe]
              show zlm S (o + 1) len i + zlm S (p + 1) len' i = 0
              unfold zlm; rw [if_neg (by omega), if_neg (by omega)]
            rw [e3, Nat.zero_add]
          · rw [if_neg h, hk k, if_pos (by omega)]
        rw [e1, zdg_zdo, Nat.mod_eq_of_lt]
        rw [← hA, hhe, zdg_add, zlm_v (by omega), zlm_v (by omega), zp32]
        have a1 := zdg_lt (f := zlm S (o + 1) len) (n := N) (fun k _ => zlm_lt _ _ _ _)
        have a2 := zdg_lt (f := zlm S (p + 1) len') (n := N) (fun k _ => zlm_lt _ _ _ _)
        rw [zlm_v (by omega)] at a1 a2
        omega
      refine ⟨cap, N + 1, sg, v.natAbs + w.natAbs, ⟨zWs_gr g2 hs, by omega, rfl, rfl, hz, by omega⟩, fun T1 g3 t3 => hK T1 (g2.trans (g3.mono (fun b h => Or.inl h))) ?_⟩
      have e4 : sg * ((v.natAbs + w.natAbs : Nat) : Int) = zaS v w := by
        unfold zaS
        rw [hsv]
        split <;> omega
      rw [← e4]; exact t3
    have e10 : nI 1 = iZ 1 := nI_z 1
    refine hX 1000 _ _ _ _ _ _ ?_
    simp (disch := omega) only [wzq_nop, wzq_nop0, wzq_null, wzq_iconst, wzq_bipush, wzq_sipush, wzq_ldc, wzq_ldc_w, wzq_lconst, wzq_dconst, wzq_ldc2, wzq_ldc2d, wzq_istore, wzq_istore_n0, wzq_istore_n1, wzq_istore_n2, wzq_istore_n3, wzq_lstore, wzq_lstore_n0, wzq_lstore_n1, wzq_lstore_n2, wzq_lstore_n3, wzq_dstore, wzq_dstore_n0, wzq_dstore_n1, wzq_dstore_n2, wzq_dstore_n3, wzq_astore, wzq_astore_n0, wzq_astore_n1, wzq_astore_n2, wzq_astore_n3, wzq_iadd, wzq_isub, wzq_imul, wzq_iand, wzq_ior, wzq_ishr, wzq_iushr, wzq_idiv, wzq_irem, wzq_ineg, wzq_ladd, wzq_lsub, wzq_lmul, wzq_land, wzq_lor, wzq_lxor, wzq_ldiv, wzq_lrem, wzq_lneg, wzq_lshl, wzq_lshr, wzq_lushr, wzq_i2l, wzq_l2i, wzq_lcmp, wzq_dcmp, wzq_dadd, wzq_dsub, wzq_dmul, wzq_ddiv, wzq_dneg, wzq_dup, wzq_pop, wzq_pop2, wzq_dup2J, wzq_dup2D, wzq_dup2I, wzq_goto0, wzq_goto1, wzq_if_eq0, wzq_if_eq1, wzq_icmp_eq0, wzq_icmp_eq1, wzq_if_ne0, wzq_if_ne1, wzq_icmp_ne0, wzq_icmp_ne1, wzq_if_lt0, wzq_if_lt1, wzq_icmp_lt0, wzq_icmp_lt1, wzq_if_ge0, wzq_if_ge1, wzq_icmp_ge0, wzq_icmp_ge1, wzq_if_gt0, wzq_if_gt1, wzq_icmp_gt0, wzq_icmp_gt1, wzq_if_le0, wzq_if_le1, wzq_icmp_le0, wzq_icmp_le1, wzq_ifnull0, wzq_ifnull1, wzq_ifnull_a, wzq_ifnull_b, wzq_ifnonnull0, wzq_ifnonnull1, wzq_ifnonnull_a, wzq_ifnonnull_b, wzq_table, wzq_getfield, wzq_alen, wzq_iaload, wzq_baload, wzq_laload, wzq_daload, wzq_aaload, wzq_iastore, wzq_bastore, wzq_lastore, wzq_dastore, wzq_aastore, wzq_new, wzq_newarray, wzq_anewarray, wzq_d2l, wzq_l2d, wzq_mmax, wzq_mmin, wzq_mmaxl, wzq_mabs, wzq_objInit, wzq_ireturn, wzq_lreturn, wzq_dreturn, wzq_areturn, wzq_return, znth0, zst1_0, zst2_0, znth1, zst1_1, zst2_1, znth2, zst1_2, zst2_2, znth3, zst1_3, zst2_3, znth4, zst1_4, zst2_4, znth5, zst1_5, zst2_5, znth6, zst1_6, zst2_6, znth7, zst1_7, zst2_7, znth8, zst1_8, zst2_8, znth9, zst1_9, zst2_9, znth10, zst1_10, zst2_10, znth11, zst1_11, zst2_11, znth12, zst1_12, zst2_12, znth13, zst1_13, zst2_13, znth14, zst1_14, zst2_14, znth15, zst1_15, zst2_15, znth16, zst1_16, zst2_16, znth17, zst1_17, zst2_17, znth18, zst1_18, zst2_18, znth19, zst1_19, zst2_19, znth20, zst1_20, zst2_20, znth21, zst1_21, zst2_21, znth22, zst1_22, zst2_22, znth23, zst1_23, zst2_23, znth24, zst1_24, zst2_24, znth25, zst1_25, zst2_25, zkill_n, zkill_int, zkill_ref, zkill_null, zkill_long, zkill_double, zkill_rf, zref_s, zref_n, zref_rf, va_rf_s, va_rf_n, zget0, zget1, zget2, zget3, zget4, zget5, zget6, zget7, zget8, zget9, zget10, zget11, zget12, zget13, zget14, zget15, zget16, zget17, zget18, zget19, zget20, zget21, zget22, zget23, zget24, zget25, zwt_0, zwt_int, zcat_int, zwt_ref, zcat_ref, zwt_long, zcat_long, zwt_double, zcat_double, zwt_null, zwt_rf, zcat_null, zcat_rf, ztl_s, ztl_n, zfI, zfZ, zfJ, zfD, zfO, zfA, zsw_0, zsw_s, zYX1_0, zYX1_1, zYX1_2, zYX1_3, zYX1_4, zYX1_5, zYX1_6, zYX1_7, zYX1_8, zYX1_9, zYX1_10, zYX1_11, zYX1_12, zYX1_13, zYX1_14, zNX1, zYX2_0, zYX2_1, zYX2_2, zYX2_3, zYX2_4, zYX2_5, zYX2_6, zYX2_7, zYX2_8, zYX2_9, zYX2_10, zNX2, zYX3_0, zYX3_1, zYX3_2, zYX3_3, zYX3_4, zYX3_5, zYX3_6, zNX3, zYX4_0, zYX4_1, zYX4_2, zYX4_3, zYX4_4, zYX4_5, zNX4, zYX5_0, zYX5_1, zYX5_2, zYX5_3, zYX5_4, zYX5_5, zYX5_6, zYX5_7, zYX5_8, zNX5, zYX6_0, zYX6_1, zYX6_2, zYX6_3, zYX6_4, zNX6, zYX7_0, zYX7_1, zYX7_2, zYX7_3, zNX7, zYX8_0, zYX8_1, zYX8_2, zNX8, zYX9_0, zYX9_1, zYX9_2, zNX9, zYX10_0, zYX10_1, zYX10_2, zYX10_3, zYX10_4, zYX10_5, zYX10_6, zYX10_7, zYX10_8, zNX10, zYX11_0, zYX11_1, zYX11_2, zYX11_3, zYX11_4, zYX11_5, zYX11_6, zYX11_7, zYX11_8, zYX11_9, zYX11_10, zYX11_11, zYX11_12, zYX11_13, zYX11_14, zYX11_15, zYX11_16, zYX11_17, zYX11_18, zYX11_19, zYX11_20, zYX11_21, zYX11_22, zYX11_23, zYX11_24, zYX11_25, zYX11_26, zYX11_27, zYX11_28, zYX11_29, zYX11_30, zYX11_31, zYX11_32, zYX11_33, zYX11_34, zYX11_35, zYX11_36, zYX11_37, zYX11_38, zYX11_39, zYX11_40, zYX11_41, zYX11_42, zYX11_43, zYX11_44, zYX11_45, zYX11_46, zYX11_47, zYX11_48, zYX11_49, zYX11_50, zYX11_51, zYX11_52, zYX11_53, zYX11_54, zYX11_55, zYX11_56, zYX11_57, zNX11, zend_i, zend_l, zend_d, zend_o, zend_v, wzend_z, znle, zisI_s, zgI_s, zisJ_s, zgJ_s, zisD_s, zgD_s, zisA_s, zgA_s, zpokI, zpstI, zpokZ, zpstZ, zpokJ, zpstJ, zpokD, zpstD, zpokO, zpstO, zpokOn, zpstOn, zpokA, zpstA, zpokAn, zpstAn, zpk_0, zptk_0, zpdr_0, zpk_1, zptk_1, zpdr_1, zpk_2, zptk_2, zpdr_2, zpk_3, zptk_3, zpdr_3, zpk_4, zptk_4, zpdr_4, zpk_5, zptk_5, zpdr_5, zpk_6, zptk_6, zpdr_6, zpk_7, zptk_7, zpdr_7, zpk_8, zptk_8, zpdr_8, zisR_s, zgR_s, ztlR_s, zisC_s, zgC_s, zkont_s, zkont_n, zw_iload, zw_iload_n0, zw_iload_n1, zw_iload_n2, zw_iload_n3, zw_lload, zw_lload_n0, zw_lload_n1, zw_lload_n2, zw_lload_n3, zw_dload, zw_dload_n0, zw_dload_n1, zw_dload_n2, zw_dload_n3, zw_aload, zw_aload_n0, zw_aload_n1, zw_aload_n2, zw_aload_n3, zw_iinc, zw_putfield, zw_callS, zw_callV, zw_callI, q_X9_addSize, ct_X9_addSize, zc_X9_trim, zn_X9_trim, zs_X9_trim, b_X9_addSize_0, b_X9_addSize_30, b_X9_addSize_31, b_X9_addSize_36, b_X9_addSize_67, b_X9_addSize_68, b_X9_addSize_95, b_X9_addSize_96, b_X9_addSize_118, b_X9_addSize_145, b_X9_addSize_149, k_X9_addSize_0, k_X9_addSize_30, k_X9_addSize_31, k_X9_addSize_36, k_X9_addSize_67, k_X9_addSize_68, k_X9_addSize_95, k_X9_addSize_96, k_X9_addSize_118, k_X9_addSize_145, k_X9_addSize_149, true_or, or_true, zrz_1, zrz_0, zrz_b, true_and, and_true, Nat.reduceAdd, Nat.reduceLeDiff, Nat.reduceMul, Nat.le_refl, Nat.add_zero, Nat.zero_add, u1, u2, u3, p1, p2, p3, eo, ep, ep1, l2, l3, m2, zlow, zsgn_0, Classical.not_not, Bool.not_eq_false, Bool.not_eq_true, zN_add, zN_sub, zN_mul, zN_le, zN_lt, zN_eq, zix_nI, zin_n, zinI_n, zinR_n, zlt_t, zom_t, zLsr, zLsh, zand_low, zL_add, zL_mul, zL_lt, zL_le, zL_sub, zL_div, zN_div, zL_e0, zL_n0, zN_n0, zN11, zN00, false_or, or_false, zZN_add, zNZ_add, zZN_sub, zNZ_sub, zZN_lt, zZN_le, zNZ_lt, zNZ_le, zZN_eq, zZZ_lt, zZZ_le, zZZ_eq, zN_32, Nat.reducePow, Nat.reduceMod, Nat.reduceDiv, zlc_eq, zlc_lt, zlc_ge, zlc_gt, zlc_le, bI_0, zbo_b, zbo_1, zbo_0, zuJ_inj, nI_nat, eq_self, Nat.reduceEqDiff, Nat.reduceSub, zI_sI_eq, zI_sI_ne, zJ_sJ_eq, zJ_sJ_ne, zD_sD_eq, zD_sD_ne, zR_sR_eq, zR_sR_ne, zJ_sI, zR_sI, zSh_sI, zNx_sI, zD_sI, zI_sJ, zR_sJ, zSh_sJ, zNx_sJ, zD_sJ, zI_sD, zJ_sD, zR_sD, zSh_sD, zNx_sD, zI_sR, zJ_sR, zD_sR, zSh_sR, zNx_sR, if_true, if_false, ite_true, ite_false, not_true, not_false_eq_true, forall_const, false_implies, true_implies, implies_true, zN_shr, zN_m31, jZ_low, jZ_add, jZ_sub, jZN_mul]
    refine ⟨fun h1 => ⟨fun h2 => ?_, fun h2 => ?_⟩, fun h1 => ⟨fun h2 => ⟨fun h3 => ?_, fun h3 => ⟨show i < cp by omega, ?_⟩⟩, fun h2 => ⟨fun h3 => ?_, fun h3 => ⟨show i < cp by omega, ?_⟩⟩⟩⟩
    · refine fin h1 v.sign ?_ ?_
      · rcases Int.lt_trichotomy v 0 with h | h | h
        · exact Or.inr (Int.sign_eq_neg_one_of_neg h)
        · exact absurd h h2
        · exact Or.inl (Int.sign_eq_one_of_pos h)
      · rcases Int.lt_trichotomy v 0 with h | h | h
        · rw [if_pos h]; exact Int.sign_eq_neg_one_of_neg h
        · exact absurd h h2
        · rw [if_neg (by omega)]; exact Int.sign_eq_one_of_pos h
    · rw [e10]; exact fin h1 1 (Or.inl rfl) (by rw [if_neg (by omega)])
    · exact step (by omega) 0 0 (by unfold zlm; rw [if_neg (by omega)]) (by unfold zlm; rw [if_neg (by omega)])
    · have q := step (by omega) 0 (uI (zI S (p + 1) i)) (by unfold zlm; rw [if_neg (by omega)]) (by unfold zlm; rw [if_pos (by omega)]; rfl)
      rw [Nat.add_zero] at q; exact q
    · have q := step (by omega) (uI (zI T (o + 1) i)) 0 (by rw [ex]; unfold zlm; rw [if_pos (by omega)]) (by unfold zlm; rw [if_neg (by omega)])
      rw [Nat.add_zero] at q; exact q
    · exact step (by omega) (uI (zI T (o + 1) i)) (uI (zI S (p + 1) i)) (by rw [ex]; unfold zlm; rw [if_pos (by omega)]) (by unfold zlm; rw [if_pos (by omega)]; rfl)
  refine hX 1000 _ _ _ _ _ _ ?_
  simp (disch := omega) only [wzq_nop, wzq_nop0, wzq_null, wzq_iconst, wzq_bipush, wzq_sipush, wzq_ldc, wzq_ldc_w, wzq_lconst, wzq_dconst, wzq_ldc2, wzq_ldc2d, wzq_istore, wzq_istore_n0, wzq_istore_n1, wzq_istore_n2, wzq_istore_n3, wzq_lstore, wzq_lstore_n0, wzq_lstore_n1, wzq_lstore_n2, wzq_lstore_n3, wzq_dstore, wzq_dstore_n0, wzq_dstore_n1, wzq_dstore_n2, wzq_dstore_n3, wzq_astore, wzq_astore_n0, wzq_astore_n1, wzq_astore_n2, wzq_astore_n3, wzq_iadd, wzq_isub, wzq_imul, wzq_iand, wzq_ior, wzq_ishr, wzq_iushr, wzq_idiv, wzq_irem, wzq_ineg, wzq_ladd, wzq_lsub, wzq_lmul, wzq_land, wzq_lor, wzq_lxor, wzq_ldiv, wzq_lrem, wzq_lneg, wzq_lshl, wzq_lshr, wzq_lushr, wzq_i2l, wzq_l2i, wzq_lcmp, wzq_dcmp, wzq_dadd, wzq_dsub, wzq_dmul, wzq_ddiv, wzq_dneg, wzq_dup, wzq_pop, wzq_pop2, wzq_dup2J, wzq_dup2D, wzq_dup2I, wzq_goto0, wzq_goto1, wzq_if_eq0, wzq_if_eq1, wzq_icmp_eq0, wzq_icmp_eq1, wzq_if_ne0, wzq_if_ne1, wzq_icmp_ne0, wzq_icmp_ne1, wzq_if_lt0, wzq_if_lt1, wzq_icmp_lt0, wzq_icmp_lt1, wzq_if_ge0, wzq_if_ge1, wzq_icmp_ge0, wzq_icmp_ge1, wzq_if_gt0, wzq_if_gt1, wzq_icmp_gt0, wzq_icmp_gt1, wzq_if_le0, wzq_if_le1, wzq_icmp_le0, wzq_icmp_le1, wzq_ifnull0, wzq_ifnull1, wzq_ifnull_a, wzq_ifnull_b, wzq_ifnonnull0, wzq_ifnonnull1, wzq_ifnonnull_a, wzq_ifnonnull_b, wzq_table, wzq_getfield, wzq_alen, wzq_iaload, wzq_baload, wzq_laload, wzq_daload, wzq_aaload, wzq_iastore, wzq_bastore, wzq_lastore, wzq_dastore, wzq_aastore, wzq_new, wzq_newarray, wzq_anewarray, wzq_d2l, wzq_l2d, wzq_mmax, wzq_mmin, wzq_mmaxl, wzq_mabs, wzq_objInit, wzq_ireturn, wzq_lreturn, wzq_dreturn, wzq_areturn, wzq_return, znth0, zst1_0, zst2_0, znth1, zst1_1, zst2_1, znth2, zst1_2, zst2_2, znth3, zst1_3, zst2_3, znth4, zst1_4, zst2_4, znth5, zst1_5, zst2_5, znth6, zst1_6, zst2_6, znth7, zst1_7, zst2_7, znth8, zst1_8, zst2_8, znth9, zst1_9, zst2_9, znth10, zst1_10, zst2_10, znth11, zst1_11, zst2_11, znth12, zst1_12, zst2_12, znth13, zst1_13, zst2_13, znth14, zst1_14, zst2_14, znth15, zst1_15, zst2_15, znth16, zst1_16, zst2_16, znth17, zst1_17, zst2_17, znth18, zst1_18, zst2_18, znth19, zst1_19, zst2_19, znth20, zst1_20, zst2_20, znth21, zst1_21, zst2_21, znth22, zst1_22, zst2_22, znth23, zst1_23, zst2_23, znth24, zst1_24, zst2_24, znth25, zst1_25, zst2_25, zkill_n, zkill_int, zkill_ref, zkill_null, zkill_long, zkill_double, zkill_rf, zref_s, zref_n, zref_rf, va_rf_s, va_rf_n, zget0, zget1, zget2, zget3, zget4, zget5, zget6, zget7, zget8, zget9, zget10, zget11, zget12, zget13, zget14, zget15, zget16, zget17, zget18, zget19, zget20, zget21, zget22, zget23, zget24, zget25, zwt_0, zwt_int, zcat_int, zwt_ref, zcat_ref, zwt_long, zcat_long, zwt_double, zcat_double, zwt_null, zwt_rf, zcat_null, zcat_rf, ztl_s, ztl_n, zfI, zfZ, zfJ, zfD, zfO, zfA, zsw_0, zsw_s, zYX1_0, zYX1_1, zYX1_2, zYX1_3, zYX1_4, zYX1_5, zYX1_6, zYX1_7, zYX1_8, zYX1_9, zYX1_10, zYX1_11, zYX1_12, zYX1_13, zYX1_14, zNX1, zYX2_0, zYX2_1, zYX2_2, zYX2_3, zYX2_4, zYX2_5, zYX2_6, zYX2_7, zYX2_8, zYX2_9, zYX2_10, zNX2, zYX3_0, zYX3_1, zYX3_2, zYX3_3, zYX3_4, zYX3_5, zYX3_6, zNX3, zYX4_0, zYX4_1, zYX4_2, zYX4_3, zYX4_4, zYX4_5, zNX4, zYX5_0, zYX5_1, zYX5_2, zYX5_3, zYX5_4, zYX5_5, zYX5_6, zYX5_7, zYX5_8, zNX5, zYX6_0, zYX6_1, zYX6_2, zYX6_3, zYX6_4, zNX6, zYX7_0, zYX7_1, zYX7_2, zYX7_3, zNX7, zYX8_0, zYX8_1, zYX8_2, zNX8, zYX9_0, zYX9_1, zYX9_2, zNX9, zYX10_0, zYX10_1, zYX10_2, zYX10_3, zYX10_4, zYX10_5, zYX10_6, zYX10_7, zYX10_8, zNX10, zYX11_0, zYX11_1, zYX11_2, zYX11_3, zYX11_4, zYX11_5, zYX11_6, zYX11_7, zYX11_8, zYX11_9, zYX11_10, zYX11_11, zYX11_12, zYX11_13, zYX11_14, zYX11_15, zYX11_16, zYX11_17, zYX11_18, zYX11_19, zYX11_20, zYX11_21, zYX11_22, zYX11_23, zYX11_24, zYX11_25, zYX11_26, zYX11_27, zYX11_28, zYX11_29, zYX11_30, zYX11_31, zYX11_32, zYX11_33, zYX11_34, zYX11_35, zYX11_36, zYX11_37, zYX11_38, zYX11_39, zYX11_40, zYX11_41, zYX11_42, zYX11_43, zYX11_44, zYX11_45, zYX11_46, zYX11_47, zYX11_48, zYX11_49, zYX11_50, zYX11_51, zYX11_52, zYX11_53, zYX11_54, zYX11_55, zYX11_56, zYX11_57, zNX11, zend_i, zend_l, zend_d, zend_o, zend_v, wzend_z, znle, zisI_s, zgI_s, zisJ_s, zgJ_s, zisD_s, zgD_s, zisA_s, zgA_s, zpokI, zpstI, zpokZ, zpstZ, zpokJ, zpstJ, zpokD, zpstD, zpokO, zpstO, zpokOn, zpstOn, zpokA, zpstA, zpokAn, zpstAn, zpk_0, zptk_0, zpdr_0, zpk_1, zptk_1, zpdr_1, zpk_2, zptk_2, zpdr_2, zpk_3, zptk_3, zpdr_3, zpk_4, zptk_4, zpdr_4, zpk_5, zptk_5, zpdr_5, zpk_6, zptk_6, zpdr_6, zpk_7, zptk_7, zpdr_7, zpk_8, zptk_8, zpdr_8, zisR_s, zgR_s, ztlR_s, zisC_s, zgC_s, zkont_s, zkont_n, zw_iload, zw_iload_n0, zw_iload_n1, zw_iload_n2, zw_iload_n3, zw_lload, zw_lload_n0, zw_lload_n1, zw_lload_n2, zw_lload_n3, zw_dload, zw_dload_n0, zw_dload_n1, zw_dload_n2, zw_dload_n3, zw_aload, zw_aload_n0, zw_aload_n1, zw_aload_n2, zw_aload_n3, zw_iinc, zw_putfield, zw_callS, zw_callV, zw_callI, q_X9_addSize, ct_X9_addSize, zc_X9_trim, zn_X9_trim, zs_X9_trim, b_X9_addSize_0, b_X9_addSize_30, b_X9_addSize_31, b_X9_addSize_36, b_X9_addSize_67, b_X9_addSize_68, b_X9_addSize_95, b_X9_addSize_96, b_X9_addSize_118, b_X9_addSize_145, b_X9_addSize_149, k_X9_addSize_0, k_X9_addSize_30, k_X9_addSize_31, k_X9_addSize_36, k_X9_addSize_67, k_X9_addSize_68, k_X9_addSize_95, k_X9_addSize_96, k_X9_addSize_118, k_X9_addSize_145, k_X9_addSize_149, true_or, or_true, zrz_1, zrz_0, zrz_b, true_and, and_true, Nat.reduceAdd, Nat.reduceLeDiff, Nat.reduceMul, Nat.le_refl, Nat.add_zero, Nat.zero_add, hs.1, hs.2.1, hs.2.2.1, ps.1, l2, m2, m3, zsgn_0, emx, Classical.not_not, Bool.not_eq_false, Bool.not_eq_true, zN_add, zN_sub, zN_mul, zN_le, zN_lt, zN_eq, zix_nI, zin_n, zinI_n, zinR_n, zlt_t, zom_t, zLsr, zLsh, zand_low, zL_add, zL_mul, zL_lt, zL_le, zL_sub, zL_div, zN_div, zL_e0, zL_n0, zN_n0, zN11, zN00, false_or, or_false, zZN_add, zNZ_add, zZN_sub, zNZ_sub, zZN_lt, zZN_le, zNZ_lt, zNZ_le, zZN_eq, zZZ_lt, zZZ_le, zZZ_eq, zN_32, Nat.reducePow, Nat.reduceMod, Nat.reduceDiv, zlc_eq, zlc_lt, zlc_ge, zlc_gt, zlc_le, bI_0, zbo_b, zbo_1, zbo_0, zuJ_inj, nI_nat, eq_self, Nat.reduceEqDiff, Nat.reduceSub, zI_sI_eq, zI_sI_ne, zJ_sJ_eq, zJ_sJ_ne, zD_sD_eq, zD_sD_ne, zR_sR_eq, zR_sR_ne, zJ_sI, zR_sI, zSh_sI, zNx_sI, zD_sI, zI_sJ, zR_sJ, zSh_sJ, zNx_sJ, zD_sJ, zI_sD, zJ_sD, zR_sD, zSh_sD, zNx_sD, zI_sR, zJ_sR, zD_sR, zSh_sR, zNx_sR, if_true, if_false, ite_true, ite_false, not_true, not_false_eq_true, forall_const, false_implies, true_implies, implies_true, zN_shr, zN_m31, jZ_low, jZ_add, jZ_sub, jZN_mul]
  refine ⟨fun h => absurd h (by omega), fun _ => ⟨fun h => ?_, fun h => ?_⟩⟩
  · have q := loop 0 (by omega) S zGr.refl (fun k => by rw [if_neg (by omega)])
    have e0 : zdg hh 0 / 2 ^ (32 * 0) = 0 := Nat.zero_div _
    rw [e0] at q; exact q
  · refine hK S zGr.refl ?_
    have e : zaS v w = v := by unfold zaS; rw [h]; split <;> omega
    rw [e]; exact hv
theorem uI_jZ (z : Int) : uI (jZ z).toInt32 = (z % 4294967296).toNat := by
  rw [jZ_32]
  show (BitVec.ofInt 32 z).toNat = _
  rw [BitVec.toNat_ofInt]; rfl
theorem zio_N (A i : Nat) : (zio (A : Int) i).toNat = zdo A i := by
  unfold zio zdo
  have e : (2 : Int) ^ (32 * i) = ((2 ^ (32 * i) : Nat) : Int) := by rw [Int.natCast_pow]; rfl
  rw [e, ← Int.natCast_ediv]
  generalize A / 2 ^ (32 * i) = q
  omega
def zlS (v w : Int) (tu : Bool) : Int := v.sign * (if tu = true then (w.natAbs : Int) - v.natAbs else (v.natAbs : Int) - w.natAbs)
def ct_X9_lessSize : zCt := (fun av S K => ∃ o : Nat, ∃ p : Nat, ∃ tu : Int32, av = [.ref o, .ref p, .int tu] ∧ (∃ (cap cp : Nat) (v w : Int), (zWv S o cap v ∧ zWv S p cp w ∧ zom (p ≠ o) ∧ (if zbo tu = true then v.natAbs ≤ w.natAbs else w.natAbs ≤ v.natAbs) ∧ (v ≠ 0 ∨ w = 0) ∧ w.natAbs < 2 ^ (32 * cap)) ∧ ∀ T, zGr (fun b => b = o ∨ b = o + 1) S T → zWv T o cap (zlS v w (zbo tu)) → K none T), 0, 0)
theorem zc_X9_lessSize {S : zS} {K : Option Value → zS → Prop} {o : Nat} {p : Nat} {tu : Int32} : ct_X9_lessSize.1 [.ref o, .ref p, .int tu] S K = (∃ (cap cp : Nat) (v w : Int), (zWv S o cap v ∧ zWv S p cp w ∧ zom (p ≠ o) ∧ (if zbo tu = true then v.natAbs ≤ w.natAbs else w.natAbs ≤ v.natAbs) ∧ (v ≠ 0 ∨ w = 0) ∧ w.natAbs < 2 ^ (32 * cap)) ∧ ∀ T, zGr (fun b => b = o ∨ b = o + 1) S T → zWv T o cap (zlS v w (zbo tu)) → K none T) := propext ⟨fun ⟨z0, z1, z2, e, h⟩ => by cases e; exact h, fun h => ⟨o, p, tu, rfl, h⟩⟩
theorem zn_X9_lessSize : ct_X9_lessSize.2.1 = 0 := rfl
theorem zs_X9_lessSize : ct_X9_lessSize.2.2 = 0 := rfl
theorem met_X9_lessSize (l : Launch) (G : zG) : zMet l G q_X9_lessSize ct_X9_lessSize := by
  refine zmk 9 false cal_X9_lessSize bl_X9_lessSize pl_X9_lessSize [ct_X9_trim] ck_X9_lessSize nm_X9_lessSize ⟨rfl, rfl⟩ wd_X9_lessSize (⟨⟨met_X9_trim l G, rfl, rfl⟩, trivial⟩) ?_
  intro X av S K h
  obtain ⟨o, p, tu, rfl, h⟩ := h
  refine ⟨Nat.le_of_ble_eq_true rfl, fun hX => ?_⟩
  show X 0 [some (.ref o), some (.ref p), some (.int tu), none, none, none, none, none, none, none, none] [] S 0 0
  obtain ⟨cap, cp, v, w, ⟨hv, ⟨ps, len', m1, m2, m3, m4, m5⟩, hne, hle, hvw, hf2⟩, hK⟩ := h
  have ⟨hs, len, l1, l2, l3, l4, l5⟩ := hv
  have hne : p ≠ o := hne
  obtain ⟨n1, n2, n3⟩ := zWs_ne hs ps hne
  have b2 := zdg_len m4 m5 hf2
  have c56 := hs.2.2.2
  obtain ⟨N, hN⟩ : ∃ N, max len len' = N := ⟨_, rfl⟩
  obtain ⟨σ, hσ⟩ : ∃ σ : Int, σ = if zbo tu = true then -1 else 1 := ⟨_, rfl⟩
  have hσ2 : σ = 1 ∨ σ = -1 := by rw [hσ]; split <;> omega
  obtain ⟨hh, hhe⟩ : ∃ hh : Nat → Int, hh = fun k => (zlm S (o + 1) len k : Int) - zlm S (p + 1) len' k := ⟨_, rfl⟩
  have hbd : ∀ k, -4294967296 ≤ hh k ∧ hh k ≤ 4294967296 := fun k => by
    have := zlm_lt S (o + 1) len k
    have := zlm_lt S (p + 1) len' k
    rw [hhe]; dsimp only; omega
  have hval : ∀ n, zsv hh n = (zdg (zlm S (o + 1) len) n : Int) - zdg (zlm S (p + 1) len') n := by
    intro n
    induction n with
    | zero => rw [hhe]; rfl
    | succ n ih =>
      rw [zsv_s, zdg_s, zdg_s, ih, hhe, Int.natCast_add, Int.natCast_add, Int.natCast_mul, Int.natCast_mul, Int.natCast_pow]
      dsimp only
      show _ = (_ + (zlm S (o + 1) len n : Int) * 2 ^ (32 * n)) - (_ + (zlm S (p + 1) len' n : Int) * 2 ^ (32 * n))
      rw [Int.sub_mul]; omega
  have hA : zsv hh N = (v.natAbs : Int) - w.natAbs := by rw [hval, zlm_v (by omega), zlm_v (by omega), l4, m4]
  obtain ⟨A, hAn⟩ : ∃ A : Nat, σ * zsv hh N = (A : Int) := by
    rw [hA, hσ]
    by_cases ht : zbo tu = true
    · rw [if_pos ht] at hle ⊢; exact ⟨w.natAbs - v.natAbs, by omega⟩
    · rw [if_neg ht] at hle ⊢; exact ⟨v.natAbs - w.natAbs, by omega⟩
  have hcb : ∀ i, -4294967296 ≤ zcy σ hh i ∧ zcy σ hh i ≤ 4294967296 := fun i => by
    obtain ⟨h1, h2⟩ := zsv_bd (f := hh) (C := 4294967296) (by decide) hbd i
    refine zdiv_bd (zip_pos _) ?_ ?_
    · rcases hσ2 with rfl | rfl <;> omega
    · rcases hσ2 with rfl | rfl <;> omega
  have emx : (if len < len' then nI len' else nI len) = nI N := by
    split
    · rw [show len' = N by omega]
    · rw [show len = N by omega]
  have emn : (if cap < N then nI cap else nI N) = nI N := if_neg (by omega)
  have loop : ∀ i, i ≤ N → ∀ T {l7 l8 l9 l10 : Option Value}, zGr (fun b => b = o + 1) S T → (∀ k, zLu T (o + 1) k = if k < i then zdo A k else zLu S (o + 1) k) → X 26 [some (.ref o), some (.ref p), some (.int tu), some (.int (nI N)), some (.long (jZ (zcy σ hh i))), none, some (.int (nI i)), l7, l8, l9, l10] [] T 0 0 := by
    refine zlp fun i hi ih T l7 l8 l9 l10 hg hk => ?_
    have ⟨u1, u2, u3, u4⟩ := zWs_gr hg hs
    have ⟨p1, p2, p3, p4⟩ := zWs_gr hg ps
    have eo := (hg.2.2.2 o (by omega)).1
    have ep := (hg.2.2.2 p (by omega)).1
    have ep1 := (hg.2.2.2 (p + 1) (by omega)).1
    obtain ⟨c1, c2⟩ := hcb i
    have ux := uI_lt (zI T (o + 1) i)
    have uy := uI_lt (zI S (p + 1) i)
    have ex : uI (zI T (o + 1) i) = zLu S (o + 1) i := by have := hk i; rw [if_neg (by omega)] at this; exact this
    have ljs : ∀ a b : Nat, lN a - lN b = jZ ((a : Int) - b) := fun a b => by rw [lN_z, lN_z, jZ_sub]
    have z0 : ∀ n : Nat, lN (n - 0) = lN n - lN 0 := fun n => by rw [ljs, Nat.sub_zero, lN_z]; rw [show (n : Int) - (0 : Nat) = n by omega]
    have z00 : lN 0 = lN 0 - lN 0 := by decide +kernel
    have lf : ∀ x y : Nat, x = zlm S (o + 1) len i → y = zlm S (p + 1) len' i → (zbo tu = false → jZ (zcy σ hh i) + (lN x - lN y) = jZ (σ * hh i + zcy σ hh i)) ∧ (zbo tu = true → jZ (zcy σ hh i) + (lN y - lN x) = jZ (σ * hh i + zcy σ hh i)) := fun x y hx hy => by
      have e0 : hh i = (x : Int) - y := by rw [hhe, hx, hy]
      rw [e0]
      refine ⟨fun ht => ?_, fun ht => ?_⟩
      · rw [hσ, if_neg (by rw [ht]; decide), ljs, jZ_add]; rw [show zcy 1 hh i + ((x : Int) - y) = 1 * ((x : Int) - y) + zcy 1 hh i by omega]
      · rw [hσ, if_pos ht, ljs, jZ_add]; rw [show zcy (-1) hh i + ((y : Int) - x) = -1 * ((x : Int) - y) + zcy (-1) hh i by omega]
    have step : i < N → ∀ L, L = jZ (σ * hh i + zcy σ hh i) → ∀ {l7 l8 l9 l10 : Option Value}, X 26 [some (.ref o), some (.ref p), some (.int tu), some (.int (nI N)), some (.long (L >>> ((nI 32).toInt64 &&& 63))), none, some (.int (nI (i + 1))), l7, l8, l9, l10] [] (zsI T (o + 1) i L.toInt32) 0 0 := fun hiN L hL l7 l8 l9 l10 => by
      have hb := hbd i
      have hb2 : -4294967296 ≤ σ * hh i ∧ σ * hh i ≤ 4294967296 := by rcases hσ2 with rfl | rfl <;> omega
      rw [hL, jZ_shr (by omega) (by omega)]
      have e1 := zcy_s σ hh i
      rw [e1, zcy_n]
      refine ih hiN _ (hg.sI rfl) (fun k => ?_)
      rw [zLu_sI]
      by_cases h : k = i
      · rw [if_pos h, if_pos (by omega), uI_jZ, zcy_d σ hh hiN, hAn, h]
        exact zio_N A i
      · rw [if_neg h, hk k]
        by_cases h2 : k < i
        · rw [if_pos h2, if_pos (by omega)]
        · rw [if_neg h2, if_neg (by omega)]
    have vx : ¬ len ≤ i → uI (zI T (o + 1) i) = zlm S (o + 1) len i := fun h => by rw [ex]; unfold zlm; rw [if_pos (by omega)]
    have vx0 : len ≤ i → 0 = zlm S (o + 1) len i := fun h => by unfold zlm; rw [if_neg (by omega)]
    have vy : ¬ len' ≤ i → uI (zI S (p + 1) i) = zlm S (p + 1) len' i := fun h => by unfold zlm; rw [if_pos (by omega)]; rfl
    have vy0 : len' ≤ i → 0 = zlm S (p + 1) len' i := fun h => by unfold zlm; rw [if_neg (by omega)]
    refine hX 1000 _ _ _ _ _ _ ?_
    simp (disch := omega) only [wzq_nop, wzq_nop0, wzq_null, wzq_iconst, wzq_bipush, wzq_sipush, wzq_ldc, wzq_ldc_w, wzq_lconst, wzq_dconst, wzq_ldc2, wzq_ldc2d, wzq_istore, wzq_istore_n0, wzq_istore_n1, wzq_istore_n2, wzq_istore_n3, wzq_lstore, wzq_lstore_n0, wzq_lstore_n1, wzq_lstore_n2, wzq_lstore_n3, wzq_dstore, wzq_dstore_n0, wzq_dstore_n1, wzq_dstore_n2, wzq_dstore_n3, wzq_astore, wzq_astore_n0, wzq_astore_n1, wzq_astore_n2, wzq_astore_n3, wzq_iadd, wzq_isub, wzq_imul, wzq_iand, wzq_ior, wzq_ishr, wzq_iushr, wzq_idiv, wzq_irem, wzq_ineg, wzq_ladd, wzq_lsub, wzq_lmul, wzq_land, wzq_lor, wzq_lxor, wzq_ldiv, wzq_lrem, wzq_lneg, wzq_lshl, wzq_lshr, wzq_lushr, wzq_i2l, wzq_l2i, wzq_lcmp, wzq_dcmp, wzq_dadd, wzq_dsub, wzq_dmul, wzq_ddiv, wzq_dneg, wzq_dup, wzq_pop, wzq_pop2, wzq_dup2J, wzq_dup2D, wzq_dup2I, wzq_goto0, wzq_goto1, wzq_if_eq0, wzq_if_eq1, wzq_icmp_eq0, wzq_icmp_eq1, wzq_if_ne0, wzq_if_ne1, wzq_icmp_ne0, wzq_icmp_ne1, wzq_if_lt0, wzq_if_lt1, wzq_icmp_lt0, wzq_icmp_lt1, wzq_if_ge0, wzq_if_ge1, wzq_icmp_ge0, wzq_icmp_ge1, wzq_if_gt0, wzq_if_gt1, wzq_icmp_gt0, wzq_icmp_gt1, wzq_if_le0, wzq_if_le1, wzq_icmp_le0, wzq_icmp_le1, wzq_ifnull0, wzq_ifnull1, wzq_ifnull_a, wzq_ifnull_b, wzq_ifnonnull0, wzq_ifnonnull1, wzq_ifnonnull_a, wzq_ifnonnull_b, wzq_table, wzq_getfield, wzq_alen, wzq_iaload, wzq_baload, wzq_laload, wzq_daload, wzq_aaload, wzq_iastore, wzq_bastore, wzq_lastore, wzq_dastore, wzq_aastore, wzq_new, wzq_newarray, wzq_anewarray, wzq_d2l, wzq_l2d, wzq_mmax, wzq_mmin, wzq_mmaxl, wzq_mabs, wzq_objInit, wzq_ireturn, wzq_lreturn, wzq_dreturn, wzq_areturn, wzq_return, znth0, zst1_0, zst2_0, znth1, zst1_1, zst2_1, znth2, zst1_2, zst2_2, znth3, zst1_3, zst2_3, znth4, zst1_4, zst2_4, znth5, zst1_5, zst2_5, znth6, zst1_6, zst2_6, znth7, zst1_7, zst2_7, znth8, zst1_8, zst2_8, znth9, zst1_9, zst2_9, znth10, zst1_10, zst2_10, znth11, zst1_11, zst2_11, znth12, zst1_12, zst2_12, znth13, zst1_13, zst2_13, znth14, zst1_14, zst2_14, znth15, zst1_15, zst2_15, znth16, zst1_16, zst2_16, znth17, zst1_17, zst2_17, znth18, zst1_18, zst2_18, znth19, zst1_19, zst2_19, znth20, zst1_20, zst2_20, znth21, zst1_21, zst2_21, znth22, zst1_22, zst2_22, znth23, zst1_23, zst2_23, znth24, zst1_24, zst2_24, znth25, zst1_25, zst2_25, zkill_n, zkill_int, zkill_ref, zkill_null, zkill_long, zkill_double, zkill_rf, zref_s, zref_n, zref_rf, va_rf_s, va_rf_n, zget0, zget1, zget2, zget3, zget4, zget5, zget6, zget7, zget8, zget9, zget10, zget11, zget12, zget13, zget14, zget15, zget16, zget17, zget18, zget19, zget20, zget21, zget22, zget23, zget24, zget25, zwt_0, zwt_int, zcat_int, zwt_ref, zcat_ref, zwt_long, zcat_long, zwt_double, zcat_double, zwt_null, zwt_rf, zcat_null, zcat_rf, ztl_s, ztl_n, zfI, zfZ, zfJ, zfD, zfO, zfA, zsw_0, zsw_s, zYX1_0, zYX1_1, zYX1_2, zYX1_3, zYX1_4, zYX1_5, zYX1_6, zYX1_7, zYX1_8, zYX1_9, zYX1_10, zYX1_11, zYX1_12, zYX1_13, zYX1_14, zNX1, zYX2_0, zYX2_1, zYX2_2, zYX2_3, zYX2_4, zYX2_5, zYX2_6, zYX2_7, zYX2_8, zYX2_9, zYX2_10, zNX2, zYX3_0, zYX3_1, zYX3_2, zYX3_3, zYX3_4, zYX3_5, zYX3_6, zNX3, zYX4_0, zYX4_1, zYX4_2, zYX4_3, zYX4_4, zYX4_5, zNX4, zYX5_0, zYX5_1, zYX5_2, zYX5_3, zYX5_4, zYX5_5, zYX5_6, zYX5_7, zYX5_8, zNX5, zYX6_0, zYX6_1, zYX6_2, zYX6_3, zYX6_4, zNX6, zYX7_0, zYX7_1, zYX7_2, zYX7_3, zNX7, zYX8_0, zYX8_1, zYX8_2, zNX8, zYX9_0, zYX9_1, zYX9_2, zNX9, zYX10_0, zYX10_1, zYX10_2, zYX10_3, zYX10_4, zYX10_5, zYX10_6, zYX10_7, zYX10_8, zNX10, zYX11_0, zYX11_1, zYX11_2, zYX11_3, zYX11_4, zYX11_5, zYX11_6, zYX11_7, zYX11_8, zYX11_9, zYX11_10, zYX11_11, zYX11_12, zYX11_13, zYX11_14, zYX11_15, zYX11_16, zYX11_17, zYX11_18, zYX11_19, zYX11_20, zYX11_21, zYX11_22, zYX11_23, zYX11_24, zYX11_25, zYX11_26, zYX11_27, zYX11_28, zYX11_29, zYX11_30, zYX11_31, zYX11_32, zYX11_33, zYX11_34, zYX11_35, zYX11_36, zYX11_37, zYX11_38, zYX11_39, zYX11_40, zYX11_41, zYX11_42, zYX11_43, zYX11_44, zYX11_45, zYX11_46, zYX11_47, zYX11_48, zYX11_49, zYX11_50, zYX11_51, zYX11_52, zYX11_53, zYX11_54, zYX11_55, zYX11_56, zYX11_57, zNX11, zend_i, zend_l, zend_d, zend_o, zend_v, wzend_z, znle, zisI_s, zgI_s, zisJ_s, zgJ_s, zisD_s, zgD_s, zisA_s, zgA_s, zpokI, zpstI, zpokZ, zpstZ, zpokJ, zpstJ, zpokD, zpstD, zpokO, zpstO, zpokOn, zpstOn, zpokA, zpstA, zpokAn, zpstAn, zpk_0, zptk_0, zpdr_0, zpk_1, zptk_1, zpdr_1, zpk_2, zptk_2, zpdr_2, zpk_3, zptk_3, zpdr_3, zpk_4, zptk_4, zpdr_4, zpk_5, zptk_5, zpdr_5, zpk_6, zptk_6, zpdr_6, zpk_7, zptk_7, zpdr_7, zpk_8, zptk_8, zpdr_8, zisR_s, zgR_s, ztlR_s, zisC_s, zgC_s, zkont_s, zkont_n, zw_iload, zw_iload_n0, zw_iload_n1, zw_iload_n2, zw_iload_n3, zw_lload, zw_lload_n0, zw_lload_n1, zw_lload_n2, zw_lload_n3, zw_dload, zw_dload_n0, zw_dload_n1, zw_dload_n2, zw_dload_n3, zw_aload, zw_aload_n0, zw_aload_n1, zw_aload_n2, zw_aload_n3, zw_iinc, zw_putfield, zw_callS, zw_callV, zw_callI, q_X9_lessSize, ct_X9_lessSize, zc_X9_trim, zn_X9_trim, zs_X9_trim, b_X9_lessSize_0, b_X9_lessSize_26, b_X9_lessSize_56, b_X9_lessSize_57, b_X9_lessSize_83, b_X9_lessSize_84, b_X9_lessSize_100, b_X9_lessSize_105, b_X9_lessSize_131, k_X9_lessSize_0, k_X9_lessSize_26, k_X9_lessSize_56, k_X9_lessSize_57, k_X9_lessSize_83, k_X9_lessSize_84, k_X9_lessSize_100, k_X9_lessSize_105, k_X9_lessSize_131, true_or, or_true, zrz_1, zrz_0, zrz_b, true_and, and_true, Nat.reduceAdd, Nat.reduceLeDiff, Nat.reduceMul, Nat.le_refl, Nat.add_zero, Nat.zero_add, u1, u2, u3, p1, p2, p3, eo, ep, ep1, l2, m2, zlow, zbo_e tu, Classical.not_not, Bool.not_eq_false, Bool.not_eq_true, zN_add, zN_sub, zN_mul, zN_le, zN_lt, zN_eq, zix_nI, zin_n, zinI_n, zinR_n, zlt_t, zom_t, zLsr, zLsh, zand_low, zL_add, zL_mul, zL_lt, zL_le, zL_sub, zL_div, zN_div, zL_e0, zL_n0, zN_n0, zN11, zN00, false_or, or_false, zZN_add, zNZ_add, zZN_sub, zNZ_sub, zZN_lt, zZN_le, zNZ_lt, zNZ_le, zZN_eq, zZZ_lt, zZZ_le, zZZ_eq, zN_32, Nat.reducePow, Nat.reduceMod, Nat.reduceDiv, zlc_eq, zlc_lt, zlc_ge, zlc_gt, zlc_le, bI_0, zbo_b, zbo_1, zbo_0, zuJ_inj, nI_nat, eq_self, Nat.reduceEqDiff, Nat.reduceSub, zI_sI_eq, zI_sI_ne, zJ_sJ_eq, zJ_sJ_ne, zD_sD_eq, zD_sD_ne, zR_sR_eq, zR_sR_ne, zJ_sI, zR_sI, zSh_sI, zNx_sI, zD_sI, zI_sJ, zR_sJ, zSh_sJ, zNx_sJ, zD_sJ, zI_sD, zJ_sD, zR_sD, zSh_sD, zNx_sD, zI_sR, zJ_sR, zD_sR, zSh_sR, zNx_sR, if_true, if_false, ite_true, ite_false, not_true, not_false_eq_true, forall_const, false_implies, true_implies, implies_true, zN_shr, zN_m31, jZ_low, jZ_add, jZ_sub, jZN_mul]
    refine ⟨fun h1 => ?_, fun h1 => ⟨fun h2 => ⟨fun h3 => ⟨fun h4 => ⟨show i < cap by omega, ?_⟩, fun h4 => ⟨show i < cap by omega, ?_⟩⟩, fun h3 => ⟨show i < cp by omega, fun h4 => ⟨show i < cap by omega, ?_⟩, fun h4 => ⟨show i < cap by omega, ?_⟩⟩⟩, fun h2 => ⟨show i < cap by omega, fun h3 => ⟨fun h4 => ⟨show i < cap by omega, ?_⟩, fun h4 => ⟨show i < cap by omega, ?_⟩⟩, fun h3 => ⟨show i < cp by omega, fun h4 => ⟨show i < cap by omega, ?_⟩, fun h4 => ⟨show i < cap by omega, ?_⟩⟩⟩⟩⟩
    · have ei : i = N := by omega
      have g2 : zGr (fun b => b = o ∨ b = o + 1) S (zsI T o 1 (nI N)) := (hg.mono (fun b h => Or.inr h)).sI (by omega)
      have hlt : A < 2 ^ (32 * N) := by
        have a1 := zdg_lt (f := zlm S (o + 1) len) (n := N) (fun k _ => zlm_lt _ _ _ _)
        have a2 := zdg_lt (f := zlm S (p + 1) len') (n := N) (fun k _ => zlm_lt _ _ _ _)
        rw [zlm_v (by omega), l4] at a1
        rw [zlm_v (by omega), m4] at a2
        rw [hA] at hAn
        rcases hσ2 with h | h
        · rw [h] at hAn; omega
        · rw [h] at hAn; omega
      have hz : zdg (zLu (zsI T o 1 (nI N)) (o + 1)) N = A := by
        have e1 : zdg (zLu (zsI T o 1 (nI N)) (o + 1)) N = zdg (zdo A) N := by
          refine zdg_congr fun k hk2 => ?_
          have e2 : zLu (zsI T o 1 (nI N)) (o + 1) k = zLu T (o + 1) k := by
            unfold zLu; rw [zI_sI_ne (by omega)]
          rw [e2, hk k, if_pos (by omega)]
        rw [e1, zdg_zdo, Nat.mod_eq_of_lt hlt]
      have hsg : v.sign = 1 ∨ v.sign = -1 ∨ A = 0 := by
        rcases Int.lt_trichotomy v 0 with h | h | h
        · exact Or.inr (Or.inl (Int.sign_eq_neg_one_of_neg h))
        · refine Or.inr (Or.inr ?_)
          rw [hA] at hAn
          rcases hvw with h5 | h5
          · exact absurd h h5
          · rw [h, h5] at hAn
            rcases hσ2 with h | h <;> rw [h] at hAn <;> omega
        · exact Or.inl (Int.sign_eq_one_of_pos h)
      refine ⟨cap, N, v.sign, A, ⟨zWs_gr g2 hs, by omega, rfl, l3, hz, hsg⟩, fun T1 g3 t3 => hK T1 (g2.trans (g3.mono (fun b h => Or.inl h))) ?_⟩
      have e4 : v.sign * (A : Int) = zlS v w (zbo tu) := by
        unfold zlS
        rw [← hAn, hA, hσ]
        congr 1
        split <;> omega
      rw [← e4]; exact t3
    · refine step (by omega) _ ?_; rw [z00]; exact (lf 0 0 (vx0 h2) (vy0 h3)).1 h4
    · refine step (by omega) _ ?_; rw [z00]; exact (lf 0 0 (vx0 h2) (vy0 h3)).2 h4
    · exact step (by omega) _ ((lf 0 _ (vx0 h2) (vy h3)).1 h4)
    · refine step (by omega) _ ?_; rw [z0]; exact (lf 0 _ (vx0 h2) (vy h3)).2 h4
    · refine step (by omega) _ ?_; rw [z0]; exact (lf _ 0 (vx h2) (vy0 h3)).1 h4
    · exact step (by omega) _ ((lf _ 0 (vx h2) (vy0 h3)).2 h4)
    · exact step (by omega) _ ((lf _ _ (vx h2) (vy h3)).1 h4)
    · exact step (by omega) _ ((lf _ _ (vx h2) (vy h3)).2 h4)
  refine hX 1000 _ _ _ _ _ _ ?_
  simp (disch := omega) only [wzq_nop, wzq_nop0, wzq_null, wzq_iconst, wzq_bipush, wzq_sipush, wzq_ldc, wzq_ldc_w, wzq_lconst, wzq_dconst, wzq_ldc2, wzq_ldc2d, wzq_istore, wzq_istore_n0, wzq_istore_n1, wzq_istore_n2, wzq_istore_n3, wzq_lstore, wzq_lstore_n0, wzq_lstore_n1, wzq_lstore_n2, wzq_lstore_n3, wzq_dstore, wzq_dstore_n0, wzq_dstore_n1, wzq_dstore_n2, wzq_dstore_n3, wzq_astore, wzq_astore_n0, wzq_astore_n1, wzq_astore_n2, wzq_astore_n3, wzq_iadd, wzq_isub, wzq_imul, wzq_iand, wzq_ior, wzq_ishr, wzq_iushr, wzq_idiv, wzq_irem, wzq_ineg, wzq_ladd, wzq_lsub, wzq_lmul, wzq_land, wzq_lor, wzq_lxor, wzq_ldiv, wzq_lrem, wzq_lneg, wzq_lshl, wzq_lshr, wzq_lushr, wzq_i2l, wzq_l2i, wzq_lcmp, wzq_dcmp, wzq_dadd, wzq_dsub, wzq_dmul, wzq_ddiv, wzq_dneg, wzq_dup, wzq_pop, wzq_pop2, wzq_dup2J, wzq_dup2D, wzq_dup2I, wzq_goto0, wzq_goto1, wzq_if_eq0, wzq_if_eq1, wzq_icmp_eq0, wzq_icmp_eq1, wzq_if_ne0, wzq_if_ne1, wzq_icmp_ne0, wzq_icmp_ne1, wzq_if_lt0, wzq_if_lt1, wzq_icmp_lt0, wzq_icmp_lt1, wzq_if_ge0, wzq_if_ge1, wzq_icmp_ge0, wzq_icmp_ge1, wzq_if_gt0, wzq_if_gt1, wzq_icmp_gt0, wzq_icmp_gt1, wzq_if_le0, wzq_if_le1, wzq_icmp_le0, wzq_icmp_le1, wzq_ifnull0, wzq_ifnull1, wzq_ifnull_a, wzq_ifnull_b, wzq_ifnonnull0, wzq_ifnonnull1, wzq_ifnonnull_a, wzq_ifnonnull_b, wzq_table, wzq_getfield, wzq_alen, wzq_iaload, wzq_baload, wzq_laload, wzq_daload, wzq_aaload, wzq_iastore, wzq_bastore, wzq_lastore, wzq_dastore, wzq_aastore, wzq_new, wzq_newarray, wzq_anewarray, wzq_d2l, wzq_l2d, wzq_mmax, wzq_mmin, wzq_mmaxl, wzq_mabs, wzq_objInit, wzq_ireturn, wzq_lreturn, wzq_dreturn, wzq_areturn, wzq_return, znth0, zst1_0, zst2_0, znth1, zst1_1, zst2_1, znth2, zst1_2, zst2_2, znth3, zst1_3, zst2_3, znth4, zst1_4, zst2_4, znth5, zst1_5, zst2_5, znth6, zst1_6, zst2_6, znth7, zst1_7, zst2_7, znth8, zst1_8, zst2_8, znth9, zst1_9, zst2_9, znth10, zst1_10, zst2_10, znth11, zst1_11, zst2_11, znth12, zst1_12, zst2_12, znth13, zst1_13, zst2_13, znth14, zst1_14, zst2_14, znth15, zst1_15, zst2_15, znth16, zst1_16, zst2_16, znth17, zst1_17, zst2_17, znth18, zst1_18, zst2_18, znth19, zst1_19, zst2_19, znth20, zst1_20, zst2_20, znth21, zst1_21, zst2_21, znth22, zst1_22, zst2_22, znth23, zst1_23, zst2_23, znth24, zst1_24, zst2_24, znth25, zst1_25, zst2_25, zkill_n, zkill_int, zkill_ref, zkill_null, zkill_long, zkill_double, zkill_rf, zref_s, zref_n, zref_rf, va_rf_s, va_rf_n, zget0, zget1, zget2, zget3, zget4, zget5, zget6, zget7, zget8, zget9, zget10, zget11, zget12, zget13, zget14, zget15, zget16, zget17, zget18, zget19, zget20, zget21, zget22, zget23, zget24, zget25, zwt_0, zwt_int, zcat_int, zwt_ref, zcat_ref, zwt_long, zcat_long, zwt_double, zcat_double, zwt_null, zwt_rf, zcat_null, zcat_rf, ztl_s, ztl_n, zfI, zfZ, zfJ, zfD, zfO, zfA, zsw_0, zsw_s, zYX1_0, zYX1_1, zYX1_2, zYX1_3, zYX1_4, zYX1_5, zYX1_6, zYX1_7, zYX1_8, zYX1_9, zYX1_10, zYX1_11, zYX1_12, zYX1_13, zYX1_14, zNX1, zYX2_0, zYX2_1, zYX2_2, zYX2_3, zYX2_4, zYX2_5, zYX2_6, zYX2_7, zYX2_8, zYX2_9, zYX2_10, zNX2, zYX3_0, zYX3_1, zYX3_2, zYX3_3, zYX3_4, zYX3_5, zYX3_6, zNX3, zYX4_0, zYX4_1, zYX4_2, zYX4_3, zYX4_4, zYX4_5, zNX4, zYX5_0, zYX5_1, zYX5_2, zYX5_3, zYX5_4, zYX5_5, zYX5_6, zYX5_7, zYX5_8, zNX5, zYX6_0, zYX6_1, zYX6_2, zYX6_3, zYX6_4, zNX6, zYX7_0, zYX7_1, zYX7_2, zYX7_3, zNX7, zYX8_0, zYX8_1, zYX8_2, zNX8, zYX9_0, zYX9_1, zYX9_2, zNX9, zYX10_0, zYX10_1, zYX10_2, zYX10_3, zYX10_4, zYX10_5, zYX10_6, zYX10_7, zYX10_8, zNX10, zYX11_0, zYX11_1, zYX11_2, zYX11_3, zYX11_4, zYX11_5, zYX11_6, zYX11_7, zYX11_8, zYX11_9, zYX11_10, zYX11_11, zYX11_12, zYX11_13, zYX11_14, zYX11_15, zYX11_16, zYX11_17, zYX11_18, zYX11_19, zYX11_20, zYX11_21, zYX11_22, zYX11_23, zYX11_24, zYX11_25, zYX11_26, zYX11_27, zYX11_28, zYX11_29, zYX11_30, zYX11_31, zYX11_32, zYX11_33, zYX11_34, zYX11_35, zYX11_36, zYX11_37, zYX11_38, zYX11_39, zYX11_40, zYX11_41, zYX11_42, zYX11_43, zYX11_44, zYX11_45, zYX11_46, zYX11_47, zYX11_48, zYX11_49, zYX11_50, zYX11_51, zYX11_52, zYX11_53, zYX11_54, zYX11_55, zYX11_56, zYX11_57, zNX11, zend_i, zend_l, zend_d, zend_o, zend_v, wzend_z, znle, zisI_s, zgI_s, zisJ_s, zgJ_s, zisD_s, zgD_s, zisA_s, zgA_s, zpokI, zpstI, zpokZ, zpstZ, zpokJ, zpstJ, zpokD, zpstD, zpokO, zpstO, zpokOn, zpstOn, zpokA, zpstA, zpokAn, zpstAn, zpk_0, zptk_0, zpdr_0, zpk_1, zptk_1, zpdr_1, zpk_2, zptk_2, zpdr_2, zpk_3, zptk_3, zpdr_3, zpk_4, zptk_4, zpdr_4, zpk_5, zptk_5, zpdr_5, zpk_6, zptk_6, zpdr_6, zpk_7, zptk_7, zpdr_7, zpk_8, zptk_8, zpdr_8, zisR_s, zgR_s, ztlR_s, zisC_s, zgC_s, zkont_s, zkont_n, zw_iload, zw_iload_n0, zw_iload_n1, zw_iload_n2, zw_iload_n3, zw_lload, zw_lload_n0, zw_lload_n1, zw_lload_n2, zw_lload_n3, zw_dload, zw_dload_n0, zw_dload_n1, zw_dload_n2, zw_dload_n3, zw_aload, zw_aload_n0, zw_aload_n1, zw_aload_n2, zw_aload_n3, zw_iinc, zw_putfield, zw_callS, zw_callV, zw_callI, q_X9_lessSize, ct_X9_lessSize, zc_X9_trim, zn_X9_trim, zs_X9_trim, b_X9_lessSize_0, b_X9_lessSize_26, b_X9_lessSize_56, b_X9_lessSize_57, b_X9_lessSize_83, b_X9_lessSize_84, b_X9_lessSize_100, b_X9_lessSize_105, b_X9_lessSize_131, k_X9_lessSize_0, k_X9_lessSize_26, k_X9_lessSize_56, k_X9_lessSize_57, k_X9_lessSize_83, k_X9_lessSize_84, k_X9_lessSize_100, k_X9_lessSize_105, k_X9_lessSize_131, true_or, or_true, zrz_1, zrz_0, zrz_b, true_and, and_true, Nat.reduceAdd, Nat.reduceLeDiff, Nat.reduceMul, Nat.le_refl, Nat.add_zero, Nat.zero_add, hs.1, hs.2.1, hs.2.2.1, ps.1, l2, m2, emx, emn, Classical.not_not, Bool.not_eq_false, Bool.not_eq_true, zN_add, zN_sub, zN_mul, zN_le, zN_lt, zN_eq, zix_nI, zin_n, zinI_n, zinR_n, zlt_t, zom_t, zLsr, zLsh, zand_low, zL_add, zL_mul, zL_lt, zL_le, zL_sub, zL_div, zN_div, zL_e0, zL_n0, zN_n0, zN11, zN00, false_or, or_false, zZN_add, zNZ_add, zZN_sub, zNZ_sub, zZN_lt, zZN_le, zNZ_lt, zNZ_le, zZN_eq, zZZ_lt, zZZ_le, zZZ_eq, zN_32, Nat.reducePow, Nat.reduceMod, Nat.reduceDiv, zlc_eq, zlc_lt, zlc_ge, zlc_gt, zlc_le, bI_0, zbo_b, zbo_1, zbo_0, zuJ_inj, nI_nat, eq_self, Nat.reduceEqDiff, Nat.reduceSub, zI_sI_eq, zI_sI_ne, zJ_sJ_eq, zJ_sJ_ne, zD_sD_eq, zD_sD_ne, zR_sR_eq, zR_sR_ne, zJ_sI, zR_sI, zSh_sI, zNx_sI, zD_sI, zI_sJ, zR_sJ, zSh_sJ, zNx_sJ, zD_sJ, zI_sD, zJ_sD, zR_sD, zSh_sD, zNx_sD, zI_sR, zJ_sR, zD_sR, zSh_sR, zNx_sR, if_true, if_false, ite_true, ite_false, not_true, not_false_eq_true, forall_const, false_implies, true_implies, implies_true, zN_shr, zN_m31, jZ_low, jZ_add, jZ_sub, jZN_mul]
  have q := loop 0 (by omega) S (l7 := none) (l8 := none) (l9 := none) (l10 := none) zGr.refl (fun k => by rw [if_neg (by omega)])
  have e0 : jZ (zcy σ hh 0) = lN 0 := by
    have e1 : zcy σ hh 0 = 0 := by
      show σ * 0 / 2 ^ (32 * 0) = 0
      rw [Int.mul_zero, Int.zero_ediv]
    rw [e1]; rfl
  rw [e0] at q; exact q
end ZWHO3
