/-! the model's constructor -/
section ZMIN
/-- a new array in a field -/
def zna (o : Nat) (S : zS) (t : Nat × Nat × Nat × Nat) : zS := zsR (zsN S t.2.2.1 t.2.2.2) o t.1 (some (zNx S))
theorem zna_nx {o : Nat} {S : zS} {t : Nat × Nat × Nat × Nat} : zNx (zna o S t) = zNx S + 1 := rfl
theorem zna_ok {o : Nat} : ∀ (L : List (Nat × Nat × Nat × Nat)) (S : zS) (c : Nat), 1 ≤ c → zNx S = o + c → (L.map (·.1)).Nodup → (∀ i t, L[i]? = some t → t.2.1 = c + i) →
    zNx (L.foldl (zna o) S) = o + c + L.length ∧ (∀ b, b < o + c → zSh (L.foldl (zna o) S) b = zSh S b ∧ zI (L.foldl (zna o) S) b = zI S b ∧ zJ (L.foldl (zna o) S) b = zJ S b ∧ zD (L.foldl (zna o) S) b = zD S b ∧ (b ≠ o → zR (L.foldl (zna o) S) b = zR S b)) ∧ (∀ f, (∀ t, t ∈ L → t.1 ≠ f) → zR (L.foldl (zna o) S) o f = zR S o f) ∧ (∀ t, t ∈ L → zR (L.foldl (zna o) S) o t.1 = some (o + t.2.1) ∧ zSh (L.foldl (zna o) S) (o + t.2.1) = t.2.2) ∧ ∀ b, o + c ≤ b → b < o + c + L.length → ∀ j, zI (L.foldl (zna o) S) b j = 0 ∧ zJ (L.foldl (zna o) S) b j = 0 ∧ zD (L.foldl (zna o) S) b j = 0 ∧ zR (L.foldl (zna o) S) b j = none
  | [], S, c, _, hn, _, _ => ⟨hn, fun _ _ => ⟨rfl, rfl, rfl, rfl, fun _ => rfl⟩, fun _ _ => rfl, fun t ht => (List.not_mem_nil ht).elim, fun b h1 h2 => absurd h2 (by simp only [List.length_nil]; omega)⟩
  | t :: L, S, c, hc, hn, hd, ho => by
    have hd' : t.1 ∉ L.map (·.1) ∧ (L.map (·.1)).Nodup := List.nodup_cons.mp hd
    obtain ⟨q1, q2, q3, q4, q5⟩ := zna_ok (o := o) L (zna o S t) (c + 1) (by omega) (by rw [zna_nx, hn]; omega) hd'.2 fun i u h => by
      have := ho (i + 1) u h
      omega
    have t0 : t.2.1 = c := ho 0 t rfl
    have tn : ∀ u, u ∈ L → u.1 ≠ t.1 := fun u hu e => hd'.1 (by rw [← e]; exact List.mem_map_of_mem hu)
    have eL : (t :: L).foldl (zna o) S = L.foldl (zna o) (zna o S t) := rfl
    rw [eL]
    obtain ⟨T, hT⟩ : ∃ T, L.foldl (zna o) (zna o S t) = T := ⟨_, rfl⟩
    rw [hT] at q1 q2 q3 q4 q5 ⊢
    have eI : ∀ b, b ≠ o + c → zSh (zna o S t) b = zSh S b ∧ zI (zna o S t) b = zI S b ∧ zJ (zna o S t) b = zJ S b ∧ zD (zna o S t) b = zD S b ∧ (b ≠ o → zR (zna o S t) b = zR S b) := fun b hb => by
      have hb' : b ≠ zNx S := by rw [hn]; exact hb
      refine ⟨?_, funext fun j => ?_, funext fun j => ?_, funext fun j => ?_, fun h => funext fun j => ?_⟩
      · show zSh (zsN S _ _) b = _
        rw [zSh_sN, if_neg hb']
      · show zI (zsN S t.2.2.1 t.2.2.2) b j = _
        rw [zI_sN, if_neg hb']
      · show zJ (zsN S t.2.2.1 t.2.2.2) b j = _
        rw [zJ_sN, if_neg hb']
      · show zD (zsN S t.2.2.1 t.2.2.2) b j = _
        rw [zD_sN, if_neg hb']
      · show zR (zsR _ _ _ _) b j = _
        rw [zR_sR_ne (fun q => h q.1), zR_sN, if_neg hb']
    have eN : ∀ j, zI (zna o S t) (o + c) j = 0 ∧ zJ (zna o S t) (o + c) j = 0 ∧ zD (zna o S t) (o + c) j = 0 ∧ zR (zna o S t) (o + c) j = none := fun j => by
      rw [← hn]
      refine ⟨?_, ?_, ?_, ?_⟩
      · show zI (zsN S t.2.2.1 t.2.2.2) (zNx S) j = _
        rw [zI_sN, if_pos rfl]
      · show zJ (zsN S t.2.2.1 t.2.2.2) (zNx S) j = _
        rw [zJ_sN, if_pos rfl]
      · show zD (zsN S t.2.2.1 t.2.2.2) (zNx S) j = _
        rw [zD_sN, if_pos rfl]
      · show zR (zsR _ _ _ _) _ j = _
        rw [zR_sR_ne (by omega), zR_sN, if_pos rfl]
    refine ⟨by rw [q1, List.length_cons]; omega, fun b hb => ?_, fun f hf => ?_, fun u hu => ?_, fun b h1 h2 j => ?_⟩
    · obtain ⟨a1, a2, a3, a4, a5⟩ := q2 b (by omega)
      obtain ⟨b1, b2, b3, b4, b5⟩ := eI b (by omega)
      exact ⟨a1.trans b1, a2.trans b2, a3.trans b3, a4.trans b4, fun h => (a5 h).trans (b5 h)⟩
    · rw [q3 f fun u hu => hf u (List.mem_cons_of_mem _ hu)]
      show zR (zsR _ _ _ _) o f = _
      rw [zR_sR_ne (fun q => hf t List.mem_cons_self q.2.symm), zR_sN, if_neg (by omega)]
    · rcases List.mem_cons.mp hu with rfl | hu
      · refine ⟨?_, ?_⟩
        · rw [q3 _ tn]
          show zR (zsR _ _ _ _) o _ = _
          rw [zR_sR_eq, hn, t0]
        · rw [t0, (q2 (o + c) (by omega)).1]
          show zSh (zsN S _ _) (o + c) = _
          rw [zSh_sN, if_pos hn.symm]
      · exact q4 u hu
    · rw [List.length_cons] at h2
      by_cases hb : b = o + c
      · subst hb
        obtain ⟨a1, a2, a3, a4, a5⟩ := q2 (o + c) (by omega)
        rw [a2, a3, a4, a5 (by omega)]
        exact eN j
      · exact q5 b (by omega) (by omega) j
/-- nothing held -/
def zGs0 : zSt := (fun _ => none, fun _ => none, fun _ => none, (0, fun _ => 0), [], [])
theorem zPt11_l : zPt11.length = 45 := rfl
theorem zPt11_d : (zPt11.map (·.1)).Nodup := by decide
theorem zPt11_o : ∀ i t, zPt11[i]? = some t → t.2.1 = 1 + i := fun i t h => by
  have hi : i < 45 := Nat.lt_of_not_le fun q => by rw [List.getElem?_eq_none q] at h; cases h
  have k : ∀ i : Fin 45, (zPt11[i.1]?.map fun t => t.2.1) = some (1 + i.1) := by decide
  have := k ⟨i, hi⟩
  rw [h] at this
  exact Option.some.inj this
theorem zMi_0 {S : zS} {o : Nat} (h1 : (zSh S o).1 = 11) (hn : zNx S = o + 1) (hz : ∀ j, zI S o j = 0) : zMi (zPt11.foldl (zna o) S) o zGs0 := by
  obtain ⟨_, q2, _, q4, q5⟩ := zna_ok (o := o) zPt11 S 1 (by decide) hn zPt11_d zPt11_o
  obtain ⟨T, hT⟩ : ∃ T, zPt11.foldl (zna o) S = T := ⟨_, rfl⟩
  rw [hT] at q2 q4 q5 ⊢
  obtain ⟨a1, a2, _⟩ := q2 o (by omega)
  have z : ∀ k j, 1 ≤ k → k ≤ 45 → zI T (o + k) j = nI 0 := fun k j h1 h2 => by rw [(q5 (o + k) (by omega) (by rw [zPt11_l]; omega) j).1, nI_0]
  have zo : ∀ j, zI T o j = nI 0 := fun j => by rw [a2, hz, nI_0]
  refine ⟨⟨by rw [a1]; exact h1, q4⟩, ⟨fun m hm => ⟨z 5 m (by decide) (by decide), fun x hx => by cases hx⟩, fun m hm => rfl⟩, ⟨fun m hm => ⟨z 13 m (by decide) (by decide), fun x hx => by cases hx⟩, fun m hm => rfl⟩, ⟨fun m hm => ⟨fun _ => z 22 m (by decide) (by decide), fun x hx => by cases hx⟩, fun m hm => rfl⟩, ⟨zo 50, Nat.zero_le _, fun i hi => absurd hi (Nat.not_lt_zero _)⟩, ⟨zo 54, zo 56⟩, ⟨Nat.zero_le _, Nat.zero_le _⟩, fun i hi => absurd hi (Nat.not_lt_zero _), fun i hi => absurd hi (Nat.not_lt_zero _), fun b hb => (List.not_mem_nil hb).elim, fun b hb => (List.not_mem_nil hb).elim⟩
theorem zP_l (o a b : Nat) : o + a + b = o + (a + b) := Nat.add_assoc o a b
theorem zP_f (o k : Nat) : (o = o + (k + 1)) = False := eq_false (by omega)
def ct_X11_init : zCt := (fun av S K => ∃ o : Nat, av = [.ref o] ∧ ((zSh S o).1 = 11 ∧ zNx S = o + 1 ∧ K none (zPt11.foldl (zna o) S)), 45, 10019)
theorem zc_X11_init {S : zS} {K : Option Value → zS → Prop} {o : Nat} : ct_X11_init.1 [.ref o] S K = ((zSh S o).1 = 11 ∧ zNx S = o + 1 ∧ K none (zPt11.foldl (zna o) S)) := propext ⟨fun ⟨z0, e, h⟩ => by cases e; exact h, fun h => ⟨o, rfl, h⟩⟩
theorem zn_X11_init : ct_X11_init.2.1 = 45 := rfl
theorem zs_X11_init : ct_X11_init.2.2 = 10019 := rfl
theorem met_X11_init (l : Launch) (G : zG) : zMet l G q_X11_init ct_X11_init := by
  refine zmk 11 true cal_X11_init bl_X11_init pl_X11_init [] ck_X11_init nm_X11_init ⟨rfl, rfl⟩ wd_X11_init (trivial) ?_
  intro X av S K h
  obtain ⟨o, rfl, h⟩ := h
  refine ⟨Nat.le_of_ble_eq_true rfl, fun hX => ?_⟩
  show X 0 [some (.ref o)] [] S 0 0
  obtain ⟨k1, hn, h⟩ := h
  have z : ∀ n, n < 2147483648 → zix (nI n) = n := fun n h => zix_nI h
  simp only [zPt11, List.foldl, zna, zNx_sR, zNx_sN, hn, Nat.add_assoc, Nat.reduceAdd] at h
  set_option maxRecDepth 100000 in
  refine hX 1000 _ _ _ _ _ _ ?_
  simp only [wzq_nop, wzq_nop0, wzq_null, wzq_iconst, wzq_bipush, wzq_sipush, wzq_ldc, wzq_ldc_w, wzq_lconst, wzq_dconst, wzq_ldc2, wzq_ldc2d, wzq_istore, wzq_istore_n0, wzq_istore_n1, wzq_istore_n2, wzq_istore_n3, wzq_lstore, wzq_lstore_n0, wzq_lstore_n1, wzq_lstore_n2, wzq_lstore_n3, wzq_dstore, wzq_dstore_n0, wzq_dstore_n1, wzq_dstore_n2, wzq_dstore_n3, wzq_astore, wzq_astore_n0, wzq_astore_n1, wzq_astore_n2, wzq_astore_n3, wzq_iadd, wzq_isub, wzq_imul, wzq_iand, wzq_ior, wzq_ishr, wzq_iushr, wzq_idiv, wzq_irem, wzq_ineg, wzq_ladd, wzq_lsub, wzq_lmul, wzq_land, wzq_lor, wzq_lxor, wzq_ldiv, wzq_lrem, wzq_lneg, wzq_lshl, wzq_lshr, wzq_lushr, wzq_i2l, wzq_l2i, wzq_lcmp, wzq_dcmp, wzq_dadd, wzq_dsub, wzq_dmul, wzq_ddiv, wzq_dneg, wzq_dup, wzq_pop, wzq_pop2, wzq_dup2J, wzq_dup2D, wzq_dup2I, wzq_goto0, wzq_goto1, wzq_if_eq0, wzq_if_eq1, wzq_icmp_eq0, wzq_icmp_eq1, wzq_if_ne0, wzq_if_ne1, wzq_icmp_ne0, wzq_icmp_ne1, wzq_if_lt0, wzq_if_lt1, wzq_icmp_lt0, wzq_icmp_lt1, wzq_if_ge0, wzq_if_ge1, wzq_icmp_ge0, wzq_icmp_ge1, wzq_if_gt0, wzq_if_gt1, wzq_icmp_gt0, wzq_icmp_gt1, wzq_if_le0, wzq_if_le1, wzq_icmp_le0, wzq_icmp_le1, wzq_ifnull0, wzq_ifnull1, wzq_ifnull_a, wzq_ifnull_b, wzq_ifnonnull0, wzq_ifnonnull1, wzq_ifnonnull_a, wzq_ifnonnull_b, wzq_table, wzq_getfield, wzq_alen, wzq_iaload, wzq_baload, wzq_laload, wzq_daload, wzq_aaload, wzq_iastore, wzq_bastore, wzq_lastore, wzq_dastore, wzq_aastore, wzq_new, wzq_newarray, wzq_anewarray, wzq_d2l, wzq_l2d, wzq_mmax, wzq_mmin, wzq_mmaxl, wzq_mabs, wzq_objInit, wzq_ireturn, wzq_lreturn, wzq_dreturn, wzq_areturn, wzq_return, znth0, zst1_0, zst2_0, znth1, zst1_1, zst2_1, znth2, zst1_2, zst2_2, znth3, zst1_3, zst2_3, znth4, zst1_4, zst2_4, znth5, zst1_5, zst2_5, znth6, zst1_6, zst2_6, znth7, zst1_7, zst2_7, znth8, zst1_8, zst2_8, znth9, zst1_9, zst2_9, znth10, zst1_10, zst2_10, znth11, zst1_11, zst2_11, znth12, zst1_12, zst2_12, znth13, zst1_13, zst2_13, znth14, zst1_14, zst2_14, znth15, zst1_15, zst2_15, znth16, zst1_16, zst2_16, znth17, zst1_17, zst2_17, znth18, zst1_18, zst2_18, znth19, zst1_19, zst2_19, znth20, zst1_20, zst2_20, znth21, zst1_21, zst2_21, znth22, zst1_22, zst2_22, znth23, zst1_23, zst2_23, znth24, zst1_24, zst2_24, znth25, zst1_25, zst2_25, zkill_n, zkill_int, zkill_ref, zkill_null, zkill_long, zkill_double, zkill_rf, zref_s, zref_n, zref_rf, va_rf_s, va_rf_n, zget0, zget1, zget2, zget3, zget4, zget5, zget6, zget7, zget8, zget9, zget10, zget11, zget12, zget13, zget14, zget15, zget16, zget17, zget18, zget19, zget20, zget21, zget22, zget23, zget24, zget25, zwt_0, zwt_int, zcat_int, zwt_ref, zcat_ref, zwt_long, zcat_long, zwt_double, zcat_double, zwt_null, zwt_rf, zcat_null, zcat_rf, ztl_s, ztl_n, zfI, zfZ, zfJ, zfD, zfO, zfA, zsw_0, zsw_s, zYX1_0, zYX1_1, zYX1_2, zYX1_3, zYX1_4, zYX1_5, zYX1_6, zYX1_7, zYX1_8, zYX1_9, zYX1_10, zYX1_11, zYX1_12, zYX1_13, zYX1_14, zNX1, zYX2_0, zYX2_1, zYX2_2, zYX2_3, zYX2_4, zYX2_5, zYX2_6, zYX2_7, zYX2_8, zYX2_9, zYX2_10, zNX2, zYX3_0, zYX3_1, zYX3_2, zYX3_3, zYX3_4, zYX3_5, zYX3_6, zNX3, zYX4_0, zYX4_1, zYX4_2, zYX4_3, zYX4_4, zYX4_5, zNX4, zYX5_0, zYX5_1, zYX5_2, zYX5_3, zYX5_4, zYX5_5, zYX5_6, zYX5_7, zYX5_8, zNX5, zYX6_0, zYX6_1, zYX6_2, zYX6_3, zYX6_4, zNX6, zYX7_0, zYX7_1, zYX7_2, zYX7_3, zNX7, zYX8_0, zYX8_1, zYX8_2, zNX8, zYX9_0, zYX9_1, zYX9_2, zNX9, zYX10_0, zYX10_1, zYX10_2, zYX10_3, zYX10_4, zYX10_5, zYX10_6, zYX10_7, zYX10_8, zNX10, zYX11_0, zYX11_1, zYX11_2, zYX11_3, zYX11_4, zYX11_5, zYX11_6, zYX11_7, zYX11_8, zYX11_9, zYX11_10, zYX11_11, zYX11_12, zYX11_13, zYX11_14, zYX11_15, zYX11_16, zYX11_17, zYX11_18, zYX11_19, zYX11_20, zYX11_21, zYX11_22, zYX11_23, zYX11_24, zYX11_25, zYX11_26, zYX11_27, zYX11_28, zYX11_29, zYX11_30, zYX11_31, zYX11_32, zYX11_33, zYX11_34, zYX11_35, zYX11_36, zYX11_37, zYX11_38, zYX11_39, zYX11_40, zYX11_41, zYX11_42, zYX11_43, zYX11_44, zYX11_45, zYX11_46, zYX11_47, zYX11_48, zYX11_49, zYX11_50, zYX11_51, zYX11_52, zYX11_53, zYX11_54, zYX11_55, zYX11_56, zYX11_57, zNX11, zend_i, zend_l, zend_d, zend_o, zend_v, wzend_z, znle, zisI_s, zgI_s, zisJ_s, zgJ_s, zisD_s, zgD_s, zisA_s, zgA_s, zpokI, zpstI, zpokZ, zpstZ, zpokJ, zpstJ, zpokD, zpstD, zpokO, zpstO, zpokOn, zpstOn, zpokA, zpstA, zpokAn, zpstAn, zpk_0, zptk_0, zpdr_0, zpk_1, zptk_1, zpdr_1, zpk_2, zptk_2, zpdr_2, zpk_3, zptk_3, zpdr_3, zpk_4, zptk_4, zpdr_4, zpk_5, zptk_5, zpdr_5, zpk_6, zptk_6, zpdr_6, zpk_7, zptk_7, zpdr_7, zpk_8, zptk_8, zpdr_8, zisR_s, zgR_s, ztlR_s, zisC_s, zgC_s, zkont_s, zkont_n, zw_iload, zw_iload_n0, zw_iload_n1, zw_iload_n2, zw_iload_n3, zw_lload, zw_lload_n0, zw_lload_n1, zw_lload_n2, zw_lload_n3, zw_dload, zw_dload_n0, zw_dload_n1, zw_dload_n2, zw_dload_n3, zw_aload, zw_aload_n0, zw_aload_n1, zw_aload_n2, zw_aload_n3, zw_iinc, zw_putfield, zw_callS, zw_callV, zw_callI, q_X11_init, ct_X11_init, b_X11_init_0, k_X11_init_0, true_or, or_true, zrz_1, zrz_0, zrz_b, true_and, and_true, Nat.reduceAdd, Nat.reduceLeDiff, Nat.reduceMul, Nat.le_refl, Nat.add_zero, Nat.zero_add, zn_neg 146 (by decide), zn_neg 1536 (by decide), zn_neg 24 (by decide), zn_neg 64 (by decide), zn_neg 768 (by decide), zn_neg 12 (by decide), zn_neg 96 (by decide), zn_neg 192 (by decide), zn_neg 8 (by decide), zn_neg 4352 (by decide), zn_neg 136 (by decide), zn_neg 72 (by decide), zn_neg 32 (by decide), zn_neg 17 (by decide), zn_neg 600 (by decide), z 146 (by decide), z 1536 (by decide), z 24 (by decide), z 64 (by decide), z 768 (by decide), z 12 (by decide), z 96 (by decide), z 192 (by decide), z 8 (by decide), z 4352 (by decide), z 136 (by decide), z 72 (by decide), z 32 (by decide), z 17 (by decide), z 600 (by decide), zSh_sR, zSh_sN, zNx_sR, zNx_sN, hn, Nat.add_assoc, Nat.reduceAdd, zP_f, if_false, k1]
  exact h
end ZMIN
