/-! the model's exact answers: condition -/
section ZMCN
theorem zmxN_ge {f : Nat → Int} {k : Nat} : ∀ {n : Nat}, k < n → (f k).natAbs ≤ zmxN f n
  | 0, h => absurd h (Nat.not_lt_zero _)
  | n + 1, h => by
    show _ ≤ max (zmxN f n) (f n).natAbs
    by_cases hk : k = n
    · subst hk; exact Nat.le_max_right _ _
    · exact Nat.le_trans (zmxN_ge (by omega)) (Nat.le_max_left _ _)
theorem zgrs_ge {U : Nat → Nat → Int} {m n i j : Nat} (hi : i < m) (hj : j < n) : (U i j).natAbs ≤ zgrs U m n := by
  have h1 : (U i j).natAbs ≤ zsumN n fun j => (U i j).natAbs := by
    have := zsumN_mono (f := fun j => (U i j).natAbs) (k := j + 1) (n := n) hj
    have e : zsumN (j + 1) (fun j => (U i j).natAbs) = zsumN j (fun j => (U i j).natAbs) + (U i j).natAbs := rfl
    omega
  have h2 := zmxN_ge (f := fun i => (zsumN n fun j => (U i j).natAbs : Nat)) hi
  rw [Int.natAbs_natCast] at h2
  exact Nat.le_trans h1 h2
theorem zsmI_00 {f : Nat → Int} : ∀ {n : Nat}, (∀ k, k < n → f k = 0) → zsmI n f = 0
  | 0, _ => rfl
  | n + 1, h => by
    show zsmI n f + f n = 0
    rw [zsmI_00 fun k hk => h k (by omega), h n (by omega)]; rfl
theorem zcdA_bd {n : Nat} {g : Nat → Nat → UInt64} (hl : ∀ i j, i < n → j < n → zUla (g i j) = true) : ∀ j i, i < n → (zcdA (-60) n g j i).natAbs ≤ 2 ^ 102 := fun j i hi => by
  unfold zcdA
  split
  · exact zld_bd (hl i j hi (by assumption)) (by decide)
  · split
    · exact Nat.one_le_two_pow
    · exact Nat.zero_le _
/-- both sums are not 0 -/
theorem zcd_pos {n : Nat} {g : Nat → Nat → UInt64} (h1 : 1 ≤ n) (hl : ∀ i j, i < n → j < n → zUla (g i j) = true) (hr : (zbz n (zcdA (-60) n g) n).2.1 = n) : 0 < zgrs (fun i j => zcdA (-60) n g j i) n n ∧ 0 < zgrs (fun i j => (zbz n (zcdA (-60) n g) n).1 i (n + j)) n n := by
  have hA := zcdA_bd hl
  have full := zrk_full (m := n) (A := zcdA (-60) n g) (n := n) hr 0 h1
  refine ⟨?_, ?_⟩
  · have hb := of_decide_eq_true full.1
    have hnz := zbp_nz hb
    have hp : zbp n 0 (zbz n (zcdA (-60) n g) 0).1 (zbz n (zcdA (-60) n g) 0).2.1 < n := hb
    generalize zbp n 0 (zbz n (zcdA (-60) n g) 0).1 (zbz n (zcdA (-60) n g) 0).2.1 = q at hnz hp
    have hnz : zcdA (-60) n g 0 q ≠ 0 := hnz
    have := zgrs_ge (U := fun i j => zcdA (-60) n g j i) hp h1
    have h2 : (zcdA (-60) n g 0 q).natAbs ≤ _ := this
    omega
  · obtain ⟨W, hW⟩ := zbz_ok (B := 2 ^ 102) Nat.one_le_two_pow hA n
    obtain ⟨_, w2, _, w4, w5, _⟩ := hW
    have e := w5 n 0 h1
    have e1 : zcdA (-60) n g n 0 = 1 := by unfold zcdA; rw [if_neg (Nat.lt_irrefl _), if_pos (Nat.add_zero n).symm]
    rw [e1, Int.mul_one] at e
    refine Classical.byContradiction fun hc => w2 ?_
    rw [e]
    refine zsmI_00 fun t ht => ?_
    have h3 := zgrs_ge (U := fun i j => (zbz n (zcdA (-60) n g) n).1 i (n + j)) ht h1
    have h4 : ((zbz n (zcdA (-60) n g) n).1 t (n + 0)).natAbs ≤ _ := h3
    rw [Nat.add_zero] at h4
    rw [← w4 t n ht, show (zbz n (zcdA (-60) n g) n).1 t n = 0 by omega, Int.zero_mul]
theorem zgrs_bd {U : Nat → Nat → Int} {m n c : Nat} (hn : n ≤ 8) (h : ∀ i j, i < m → j < n → (U i j).natAbs ≤ c) : zgrs U m n ≤ 8 * c := by
  unfold zgrs
  refine zmxN_le fun i hi => ?_
  rw [Int.natAbs_natCast]
  exact Nat.le_trans (zsumN_lt fun j hj => h i j hi hj) (Nat.mul_le_mul_right _ hn)
theorem zGsu {S : zS} {K : Option Value → zS → Prop} {p a b m : Nat} {U : Nat → Nat → Int} (hp : zP11 S p) (hm : m ≤ 8) (hab : a ≤ b) (hb : b ≤ 16) (h38 : zI S p 38 = nI m) (hU : ∀ i j, i < m → a ≤ j → j < b → zBg S p (17 * i + j) (U i j) ∧ (U i j).natAbs < 2 ^ 860) (hK : ∀ T, zGr (fun q => q = p + 37 ∨ q = p + 38) S T → zRw T (p + 38) (zgrs (fun i j => U i (a + j)) m (b - a)) → K none T) : ct_X11_greatestSum.1 [.ref p, .int (nI a), .int (nI b)] S K := by
  rw [zc_X11_greatestSum (by omega) (by omega)]
  exact ⟨m, U, ⟨hp, ⟨hm, hab, hb⟩, h38, hU⟩, hK⟩
def zcdF (S T : zS) (p kA kU : Nat) (d : Int) : Prop := zGq p (zSc p) zSl S T ∧ zRw T (p + 39) kA ∧ zRw T (p + 38) kU ∧ zDv T p d
theorem zcdF_sJ {S T : zS} {p kA kU r t : Nat} {d : Int} {v : Int64} (hr : r = p + 32 ∨ r = p + 33) (h : zcdF S T p kA kU d) : zcdF S (zsJ T r t v) p kA kU d := by
  obtain ⟨h1, h2, h3, h4⟩ := h
  have gz : zGr (fun q => q = p + 32 ∨ q = p + 33) T (zsJ T r t v) := zGr.refl.sJ hr
  exact ⟨zScO h1 (gz.mono fun q hq => by omega), zRw_gr gz (by omega) h2, zRw_gr gz (by omega) h3, zDv_gr (zGq.of (L := fun _ => False) gz (by omega)) (by omega) (fun h => h) h4⟩
theorem zcd_v {kA kU d : Nat} (h1 : 0 < kA) (h2 : 0 < kU) (h3 : 0 < d) : zrat ((kU * kA : Nat) : Int) (d : Int) 0 true = zrb true (kA * kU) d 0 := by
  have h4 : 0 < kU * kA := Nat.mul_pos h2 h1
  rw [Nat.mul_comm kA kU]
  generalize kU * kA = q at *
  have s1 : ((q : Nat) : Int).sign = 1 := Int.sign_eq_one_of_pos (by omega)
  have s2 : ((d : Nat) : Int).sign = 1 := Int.sign_eq_one_of_pos (by omega)
  have n1 : ((q : Nat) : Int) ≠ 0 := by omega
  have n2 : ((d : Nat) : Int) ≠ 0 := by omega
  have z : (decide ((1 : Int) ≠ 1)).toNat = 0 := rfl
  rw [zrat_a n1 n2, s1, s2, Int.natAbs_natCast, Int.natAbs_natCast, z, Nat.zero_mul, Nat.zero_add]
def ct_X11_condition : zCt := (fun av S K => ∃ p : Nat, ∃ m : Int32, av = [.ref p, .int m] ∧ (∃ σ, (zMi S p σ ∧ ∀ k x, σ.1 k = some x → zMg x) ∧ (zmx σ.1 m = none → K (some (.long (lN 18446744073709551615))) S) ∧ (∀ k x, m = nI k → k < 2147483648 → σ.1 k = some x → ¬ (x.2.1 = x.2.2.1 ∧ zMla x.2.1 x.2.2.1 x.2.2.2.2.2 = true) → K (some (.long (lN 18446744073709551615))) S) ∧ (∀ k x, m = nI k → k < 2147483648 → σ.1 k = some x → x.2.1 = x.2.2.1 → zMla x.2.1 x.2.2.1 x.2.2.2.2.2 = true → ∀ T, zFr (zRm p) S T → zMi T p σ → K (some (.long (if zcdr x.2.1 x.2.2.2.2.2 < x.2.1 then lN 18446744073709551615 else lN (zcdv x.2.1 x.2.2.2.2.2)))) T)), 0, 0)
theorem zc_X11_condition {S : zS} {K : Option Value → zS → Prop} {p : Nat} {m : Int32} : ct_X11_condition.1 [.ref p, .int m] S K = (∃ σ, (zMi S p σ ∧ ∀ k x, σ.1 k = some x → zMg x) ∧ (zmx σ.1 m = none → K (some (.long (lN 18446744073709551615))) S) ∧ (∀ k x, m = nI k → k < 2147483648 → σ.1 k = some x → ¬ (x.2.1 = x.2.2.1 ∧ zMla x.2.1 x.2.2.1 x.2.2.2.2.2 = true) → K (some (.long (lN 18446744073709551615))) S) ∧ (∀ k x, m = nI k → k < 2147483648 → σ.1 k = some x → x.2.1 = x.2.2.1 → zMla x.2.1 x.2.2.1 x.2.2.2.2.2 = true → ∀ T, zFr (zRm p) S T → zMi T p σ → K (some (.long (if zcdr x.2.1 x.2.2.2.2.2 < x.2.1 then lN 18446744073709551615 else lN (zcdv x.2.1 x.2.2.2.2.2)))) T)) := propext ⟨fun ⟨z0, z1, e, h⟩ => by cases e; exact h, fun h => ⟨p, m, rfl, h⟩⟩
theorem zn_X11_condition : ct_X11_condition.2.1 = 0 := rfl
theorem zs_X11_condition : ct_X11_condition.2.2 = 0 := rfl
theorem met_X11_condition (l : Launch) (G : zG) : zMet l G q_X11_condition ct_X11_condition := by
  refine zmk 11 false cal_X11_condition bl_X11_condition pl_X11_condition [ct_X11_isExact, ct_X11_loads, ct_X11_greatestSum, ct_X11_cellAt, ct_X11_reduces, ct_X11_quotient, ct_X11_bits] ck_X11_condition nm_X11_condition ⟨rfl, rfl⟩ wd_X11_condition (⟨⟨met_X11_isExact l G, rfl, rfl⟩, ⟨⟨met_X11_loads l G, rfl, rfl⟩, ⟨⟨met_X11_greatestSum l G, rfl, rfl⟩, ⟨⟨met_X11_cellAt l G, rfl, rfl⟩, ⟨⟨met_X11_reduces l G, rfl, rfl⟩, ⟨⟨met_X11_quotient l G, rfl, rfl⟩, ⟨⟨met_X11_bits l G, rfl, rfl⟩, trivial⟩⟩⟩⟩⟩⟩⟩) ?_
  intro X av S K h
  obtain ⟨p, m, rfl, h⟩ := h
  refine ⟨Nat.le_of_ble_eq_true rfl, fun hX => ?_⟩
  show X 0 [some (.ref p), some (.int m), none, none, none, none, none, none, none, none, none, none, none] [] S 0 0
  obtain ⟨σ, ⟨hM, hW⟩, hK0, hKf, hK1⟩ := h
  have hp := hM.1
  have kp := zP11_k hp
  by_cases hex : ∃ x, zmx σ.1 m = some x ∧ (x.2.1 = x.2.2.1 ∧ zMla x.2.1 x.2.2.1 x.2.2.2.2.2 = true)
  · obtain ⟨x, hx, hsq, hl⟩ := hex
    obtain ⟨k, hk, rfl, hMk⟩ := zmx_s hx
    have hk24 : k < 24 := Nat.lt_of_not_le fun q => by rw [hM.2.1.2 k q] at hMk; cases hMk
    have x1 := (hM.2.1.1 k hk24).2 x hMk
    have ⟨⟨a1, a2, a3, a4, a5⟩, a6, a7⟩ := x1
    have n8 := a7.2.1
    have gx := hW k x hMk
    have n1 := (zMg_11 gx n8 a7.2.2.1).1
    have K1 := fun T (gs : zGq p (zSc p) zSl S T) => hK1 k x rfl hk hMk hsq hl T (gs.fr fun b hb => by unfold zSc at hb; omega) (zMi_sc gs hM)
    clear hK0 hKf hK1
    have hla := zMla_t hl
    obtain ⟨n, hn⟩ : ∃ n, x.2.1 = n := ⟨_, rfl⟩
    obtain ⟨g, hgg⟩ : ∃ g, x.2.2.2.2.2 = g := ⟨_, rfl⟩
    rw [← hsq, hn, hgg] at hla
    rw [hn, hgg] at K1
    rw [hn] at n8 n1 a2
    have hA := zcdA_bd hla
    have pos := zcd_pos n1 hla
    obtain ⟨bU, dbd, dne, rle⟩ := zbz_bd (m := n) n8 hA n
    unfold zcdr zcdv at K1
    obtain ⟨A, hAe⟩ : ∃ A, zcdA (-60) n g = A := ⟨_, rfl⟩
    rw [hAe] at K1 hA pos bU dbd dne rle
    obtain ⟨U, hU⟩ : ∃ U, (zbz n A n).1 = U := ⟨_, rfl⟩
    obtain ⟨R, hR⟩ : ∃ R, (zbz n A n).2.1 = R := ⟨_, rfl⟩
    obtain ⟨d, hdd⟩ : ∃ d, (zbz n A n).2.2.1 = d := ⟨_, rfl⟩
    have rdd : ∀ T, zRd T p n (n + n) A n → zI T p 40 = nI R ∧ zDv T p d ∧ (∀ i j, i < n → j < n + n → zBg T p (17 * i + j) (U i j)) := fun T h => by
      obtain ⟨q1, q2, q3, q4, q5⟩ := h
      rw [hR] at q1
      rw [hdd] at q3
      rw [hU] at q4
      exact ⟨q1, q3, q4⟩
    rw [hU] at bU pos
    rw [hR] at pos rle
    rw [hU, hR, hdd] at K1
    rw [hdd] at dbd dne
    clear hU hR hdd
    obtain ⟨kA, hkA⟩ : ∃ kA, zgrs (fun i j => A j i) n n = kA := ⟨_, rfl⟩
    obtain ⟨kU, hkU⟩ : ∃ kU, zgrs (fun i j => U i (n + j)) n n = kU := ⟨_, rfl⟩
    have bA : kA < 2 ^ 864 := by
      rw [← hkA]
      have h1 := zgrs_bd (U := fun i j => A j i) (m := n) (c := 2 ^ 102) n8 fun i j hi _ => hA j i hi
      have h2 : (8 : Nat) * 2 ^ 102 < 2 ^ 864 := by decide +kernel
      omega
    have bKU : kU < 2 ^ 864 := by
      rw [← hkU]
      have h1 := zgrs_bd (U := fun i j => U i (n + j)) (m := n) (c := 2 ^ 860) n8 fun i j hi _ => Nat.le_of_lt (bU i (n + j) hi)
      have h2 : (8 : Nat) * 2 ^ 860 < 2 ^ 864 := by decide +kernel
      omega
    rw [hkA, hkU] at pos K1
    sorry
  · have z : K (some (.long (lN 18446744073709551615))) S := by
      cases hx : zmx σ.1 m with
      | none => exact hK0 hx
      | some x =>
        obtain ⟨k, hk, rfl, hMk⟩ := zmx_s hx
        exact hKf k x rfl hk hMk fun h => hex ⟨x, hx, h⟩
    clear hK0 hKf hK1
    refine hX 1000 _ _ _ _ _ _ ?_
    simp +contextual (disch := omega) only [wzq_nop, wzq_nop0, wzq_null, wzq_iconst, wzq_bipush, wzq_sipush, wzq_ldc, wzq_ldc_w, wzq_lconst, wzq_dconst, wzq_ldc2, wzq_ldc2d, wzq_istore, wzq_istore_n0, wzq_istore_n1, wzq_istore_n2, wzq_istore_n3, wzq_lstore, wzq_lstore_n0, wzq_lstore_n1, wzq_lstore_n2, wzq_lstore_n3, wzq_dstore, wzq_dstore_n0, wzq_dstore_n1, wzq_dstore_n2, wzq_dstore_n3, wzq_astore, wzq_astore_n0, wzq_astore_n1, wzq_astore_n2, wzq_astore_n3, wzq_iadd, wzq_isub, wzq_imul, wzq_iand, wzq_ior, wzq_ishr, wzq_iushr, wzq_idiv, wzq_irem, wzq_ineg, wzq_ladd, wzq_lsub, wzq_lmul, wzq_land, wzq_lor, wzq_lxor, wzq_ldiv, wzq_lrem, wzq_lneg, wzq_lshl, wzq_lshr, wzq_lushr, wzq_i2l, wzq_l2i, wzq_lcmp, wzq_dcmp, wzq_dadd, wzq_dsub, wzq_dmul, wzq_ddiv, wzq_dneg, wzq_dup, wzq_pop, wzq_pop2, wzq_dup2J, wzq_dup2D, wzq_dup2I, wzq_goto0, wzq_goto1, wzq_if_eq0, wzq_if_eq1, wzq_icmp_eq0, wzq_icmp_eq1, wzq_if_ne0, wzq_if_ne1, wzq_icmp_ne0, wzq_icmp_ne1, wzq_if_lt0, wzq_if_lt1, wzq_icmp_lt0, wzq_icmp_lt1, wzq_if_ge0, wzq_if_ge1, wzq_icmp_ge0, wzq_icmp_ge1, wzq_if_gt0, wzq_if_gt1, wzq_icmp_gt0, wzq_icmp_gt1, wzq_if_le0, wzq_if_le1, wzq_icmp_le0, wzq_icmp_le1, wzq_ifnull0, wzq_ifnull1, wzq_ifnull_a, wzq_ifnull_b, wzq_ifnonnull0, wzq_ifnonnull1, wzq_ifnonnull_a, wzq_ifnonnull_b, wzq_table, wzq_getfield, wzq_alen, wzq_iaload, wzq_baload, wzq_laload, wzq_daload, wzq_aaload, wzq_iastore, wzq_bastore, wzq_lastore, wzq_dastore, wzq_aastore, wzq_new, wzq_newarray, wzq_anewarray, wzq_d2l, wzq_l2d, wzq_mmax, wzq_mmin, wzq_mmaxl, wzq_mabs, wzq_objInit, wzq_ireturn, wzq_lreturn, wzq_dreturn, wzq_areturn, wzq_return, znth0, zst1_0, zst2_0, znth1, zst1_1, zst2_1, znth2, zst1_2, zst2_2, znth3, zst1_3, zst2_3, znth4, zst1_4, zst2_4, znth5, zst1_5, zst2_5, znth6, zst1_6, zst2_6, znth7, zst1_7, zst2_7, znth8, zst1_8, zst2_8, znth9, zst1_9, zst2_9, znth10, zst1_10, zst2_10, znth11, zst1_11, zst2_11, znth12, zst1_12, zst2_12, znth13, zst1_13, zst2_13, znth14, zst1_14, zst2_14, znth15, zst1_15, zst2_15, znth16, zst1_16, zst2_16, znth17, zst1_17, zst2_17, znth18, zst1_18, zst2_18, znth19, zst1_19, zst2_19, znth20, zst1_20, zst2_20, znth21, zst1_21, zst2_21, znth22, zst1_22, zst2_22, znth23, zst1_23, zst2_23, znth24, zst1_24, zst2_24, znth25, zst1_25, zst2_25, zkill_n, zkill_int, zkill_ref, zkill_null, zkill_long, zkill_double, zkill_rf, zref_s, zref_n, zref_rf, va_rf_s, va_rf_n, zget0, zget1, zget2, zget3, zget4, zget5, zget6, zget7, zget8, zget9, zget10, zget11, zget12, zget13, zget14, zget15, zget16, zget17, zget18, zget19, zget20, zget21, zget22, zget23, zget24, zget25, zwt_0, zwt_int, zcat_int, zwt_ref, zcat_ref, zwt_long, zcat_long, zwt_double, zcat_double, zwt_null, zwt_rf, zcat_null, zcat_rf, ztl_s, ztl_n, zfI, zfZ, zfJ, zfD, zfO, zfA, zsw_0, zsw_s, zYX1_0, zYX1_1, zYX1_2, zYX1_3, zYX1_4, zYX1_5, zYX1_6, zYX1_7, zYX1_8, zYX1_9, zYX1_10, zYX1_11, zYX1_12, zYX1_13, zYX1_14, zNX1, zYX2_0, zYX2_1, zYX2_2, zYX2_3, zYX2_4, zYX2_5, zYX2_6, zYX2_7, zYX2_8, zYX2_9, zYX2_10, zNX2, zYX3_0, zYX3_1, zYX3_2, zYX3_3, zYX3_4, zYX3_5, zYX3_6, zNX3, zYX4_0, zYX4_1, zYX4_2, zYX4_3, zYX4_4, zYX4_5, zNX4, zYX5_0, zYX5_1, zYX5_2, zYX5_3, zYX5_4, zYX5_5, zYX5_6, zYX5_7, zYX5_8, zNX5, zYX6_0, zYX6_1, zYX6_2, zYX6_3, zYX6_4, zNX6, zYX7_0, zYX7_1, zYX7_2, zYX7_3, zNX7, zYX8_0, zYX8_1, zYX8_2, zNX8, zYX9_0, zYX9_1, zYX9_2, zNX9, zYX10_0, zYX10_1, zYX10_2, zYX10_3, zYX10_4, zYX10_5, zYX10_6, zYX10_7, zYX10_8, zNX10, zYX11_0, zYX11_1, zYX11_2, zYX11_3, zYX11_4, zYX11_5, zYX11_6, zYX11_7, zYX11_8, zYX11_9, zYX11_10, zYX11_11, zYX11_12, zYX11_13, zYX11_14, zYX11_15, zYX11_16, zYX11_17, zYX11_18, zYX11_19, zYX11_20, zYX11_21, zYX11_22, zYX11_23, zYX11_24, zYX11_25, zYX11_26, zYX11_27, zYX11_28, zYX11_29, zYX11_30, zYX11_31, zYX11_32, zYX11_33, zYX11_34, zYX11_35, zYX11_36, zYX11_37, zYX11_38, zYX11_39, zYX11_40, zYX11_41, zYX11_42, zYX11_43, zYX11_44, zYX11_45, zYX11_46, zYX11_47, zYX11_48, zYX11_49, zYX11_50, zYX11_51, zYX11_52, zYX11_53, zYX11_54, zYX11_55, zYX11_56, zYX11_57, zNX11, zend_i, zend_l, zend_d, zend_o, zend_v, wzend_z, znle, zisI_s, zgI_s, zisJ_s, zgJ_s, zisD_s, zgD_s, zisA_s, zgA_s, zpokI, zpstI, zpokZ, zpstZ, zpokJ, zpstJ, zpokD, zpstD, zpokO, zpstO, zpokOn, zpstOn, zpokA, zpstA, zpokAn, zpstAn, zpk_0, zptk_0, zpdr_0, zpk_1, zptk_1, zpdr_1, zpk_2, zptk_2, zpdr_2, zpk_3, zptk_3, zpdr_3, zpk_4, zptk_4, zpdr_4, zpk_5, zptk_5, zpdr_5, zpk_6, zptk_6, zpdr_6, zpk_7, zptk_7, zpdr_7, zpk_8, zptk_8, zpdr_8, zisR_s, zgR_s, ztlR_s, zisC_s, zgC_s, zkont_s, zkont_n, zw_iload, zw_iload_n0, zw_iload_n1, zw_iload_n2, zw_iload_n3, zw_lload, zw_lload_n0, zw_lload_n1, zw_lload_n2, zw_lload_n3, zw_dload, zw_dload_n0, zw_dload_n1, zw_dload_n2, zw_dload_n3, zw_aload, zw_aload_n0, zw_aload_n1, zw_aload_n2, zw_aload_n3, zw_iinc, zw_putfield, zw_callS, zw_callV, zw_callI, q_X11_condition, ct_X11_condition, zn_X11_isExact, zs_X11_isExact, zn_X11_loads, zs_X11_loads, zn_X11_greatestSum, zs_X11_greatestSum, zn_X11_cellAt, zs_X11_cellAt, zn_X11_reduces, zs_X11_reduces, zn_X11_quotient, zs_X11_quotient, zn_X11_bits, zs_X11_bits, b_X11_condition_0, b_X11_condition_12, b_X11_condition_33, b_X11_condition_57, b_X11_condition_59, b_X11_condition_101, b_X11_condition_118, b_X11_condition_128, b_X11_condition_147, b_X11_condition_149, b_X11_condition_161, b_X11_condition_278, b_X11_condition_301, b_X11_condition_307, b_X11_condition_309, b_X11_condition_335, b_X11_condition_336, b_X11_condition_343, k_X11_condition_0, k_X11_condition_12, k_X11_condition_33, k_X11_condition_57, k_X11_condition_59, k_X11_condition_101, k_X11_condition_118, k_X11_condition_128, k_X11_condition_147, k_X11_condition_149, k_X11_condition_161, k_X11_condition_278, k_X11_condition_301, k_X11_condition_307, k_X11_condition_309, k_X11_condition_335, k_X11_condition_336, k_X11_condition_343, true_or, or_true, zrz_1, zrz_0, zrz_b, true_and, and_true, Nat.reduceAdd, Nat.reduceLeDiff, Nat.reduceMul, Nat.le_refl, Nat.add_zero, Nat.zero_add, zP11_k (hp), zP11_r7 (hp), zP11_s7 (hp), zP11_r32 (hp), zP11_s32 (hp), zP11_r33 (hp), zP11_s33 (hp), zP11_r34 (hp), zP11_s34 (hp), zP11_r35 (hp), zP11_s35 (hp), zP11_r36 (hp), zP11_s36 (hp), zP11_r45 (hp), zP11_s45 (hp), zP11_r46 (hp), zP11_s46 (hp), Classical.not_not, Bool.not_eq_false, Bool.not_eq_true, zN_add, zN_sub, zN_mul, zN_le, zN_lt, zN_eq, zix_nI, zin_n, zinI_n, zinR_n, zlt_t, zom_t, zLsr, zLsh, zand_low, zL_add, zL_mul, zL_lt, zL_le, zL_sub, zL_div, zN_div, zL_e0, zL_n0, zN_n0, zN11, zN00, false_or, or_false, zZN_add, zNZ_add, zZN_sub, zNZ_sub, zZN_lt, zZN_le, zNZ_lt, zNZ_le, zZN_eq, zZZ_lt, zZZ_le, zZZ_eq, zN_32, Nat.reducePow, Nat.reduceMod, Nat.reduceDiv, zlc_eq, zlc_lt, zlc_ge, zlc_gt, zlc_le, bI_0, zbo_b, zbo_1, zbo_0, zuJ_inj, nI_nat, eq_self, Nat.reduceEqDiff, Nat.reduceSub, zI_sI_eq, zI_sI_ne, zJ_sJ_eq, zJ_sJ_ne, zD_sD_eq, zD_sD_ne, zR_sR_eq, zR_sR_ne, zJ_sI, zR_sI, zSh_sI, zNx_sI, zD_sI, zI_sJ, zR_sJ, zSh_sJ, zNx_sJ, zD_sJ, zI_sD, zJ_sD, zR_sD, zSh_sD, zNx_sD, zI_sR, zJ_sR, zD_sR, zSh_sR, zNx_sR, if_true, if_false, ite_true, ite_false, not_true, not_false_eq_true, forall_const, false_implies, true_implies, implies_true, zN_shr, zN_m31, jZ_low, jZ_add, jZ_sub, jZN_mul]
    refine zEx0 hM hW (fun x hx h => hex ⟨x, hx, h⟩) ?_
    simp +contextual (disch := omega) only [wzq_nop, wzq_nop0, wzq_null, wzq_iconst, wzq_bipush, wzq_sipush, wzq_ldc, wzq_ldc_w, wzq_lconst, wzq_dconst, wzq_ldc2, wzq_ldc2d, wzq_istore, wzq_istore_n0, wzq_istore_n1, wzq_istore_n2, wzq_istore_n3, wzq_lstore, wzq_lstore_n0, wzq_lstore_n1, wzq_lstore_n2, wzq_lstore_n3, wzq_dstore, wzq_dstore_n0, wzq_dstore_n1, wzq_dstore_n2, wzq_dstore_n3, wzq_astore, wzq_astore_n0, wzq_astore_n1, wzq_astore_n2, wzq_astore_n3, wzq_iadd, wzq_isub, wzq_imul, wzq_iand, wzq_ior, wzq_ishr, wzq_iushr, wzq_idiv, wzq_irem, wzq_ineg, wzq_ladd, wzq_lsub, wzq_lmul, wzq_land, wzq_lor, wzq_lxor, wzq_ldiv, wzq_lrem, wzq_lneg, wzq_lshl, wzq_lshr, wzq_lushr, wzq_i2l, wzq_l2i, wzq_lcmp, wzq_dcmp, wzq_dadd, wzq_dsub, wzq_dmul, wzq_ddiv, wzq_dneg, wzq_dup, wzq_pop, wzq_pop2, wzq_dup2J, wzq_dup2D, wzq_dup2I, wzq_goto0, wzq_goto1, wzq_if_eq0, wzq_if_eq1, wzq_icmp_eq0, wzq_icmp_eq1, wzq_if_ne0, wzq_if_ne1, wzq_icmp_ne0, wzq_icmp_ne1, wzq_if_lt0, wzq_if_lt1, wzq_icmp_lt0, wzq_icmp_lt1, wzq_if_ge0, wzq_if_ge1, wzq_icmp_ge0, wzq_icmp_ge1, wzq_if_gt0, wzq_if_gt1, wzq_icmp_gt0, wzq_icmp_gt1, wzq_if_le0, wzq_if_le1, wzq_icmp_le0, wzq_icmp_le1, wzq_ifnull0, wzq_ifnull1, wzq_ifnull_a, wzq_ifnull_b, wzq_ifnonnull0, wzq_ifnonnull1, wzq_ifnonnull_a, wzq_ifnonnull_b, wzq_table, wzq_getfield, wzq_alen, wzq_iaload, wzq_baload, wzq_laload, wzq_daload, wzq_aaload, wzq_iastore, wzq_bastore, wzq_lastore, wzq_dastore, wzq_aastore, wzq_new, wzq_newarray, wzq_anewarray, wzq_d2l, wzq_l2d, wzq_mmax, wzq_mmin, wzq_mmaxl, wzq_mabs, wzq_objInit, wzq_ireturn, wzq_lreturn, wzq_dreturn, wzq_areturn, wzq_return, znth0, zst1_0, zst2_0, znth1, zst1_1, zst2_1, znth2, zst1_2, zst2_2, znth3, zst1_3, zst2_3, znth4, zst1_4, zst2_4, znth5, zst1_5, zst2_5, znth6, zst1_6, zst2_6, znth7, zst1_7, zst2_7, znth8, zst1_8, zst2_8, znth9, zst1_9, zst2_9, znth10, zst1_10, zst2_10, znth11, zst1_11, zst2_11, znth12, zst1_12, zst2_12, znth13, zst1_13, zst2_13, znth14, zst1_14, zst2_14, znth15, zst1_15, zst2_15, znth16, zst1_16, zst2_16, znth17, zst1_17, zst2_17, znth18, zst1_18, zst2_18, znth19, zst1_19, zst2_19, znth20, zst1_20, zst2_20, znth21, zst1_21, zst2_21, znth22, zst1_22, zst2_22, znth23, zst1_23, zst2_23, znth24, zst1_24, zst2_24, znth25, zst1_25, zst2_25, zkill_n, zkill_int, zkill_ref, zkill_null, zkill_long, zkill_double, zkill_rf, zref_s, zref_n, zref_rf, va_rf_s, va_rf_n, zget0, zget1, zget2, zget3, zget4, zget5, zget6, zget7, zget8, zget9, zget10, zget11, zget12, zget13, zget14, zget15, zget16, zget17, zget18, zget19, zget20, zget21, zget22, zget23, zget24, zget25, zwt_0, zwt_int, zcat_int, zwt_ref, zcat_ref, zwt_long, zcat_long, zwt_double, zcat_double, zwt_null, zwt_rf, zcat_null, zcat_rf, ztl_s, ztl_n, zfI, zfZ, zfJ, zfD, zfO, zfA, zsw_0, zsw_s, zYX1_0, zYX1_1, zYX1_2, zYX1_3, zYX1_4, zYX1_5, zYX1_6, zYX1_7, zYX1_8, zYX1_9, zYX1_10, zYX1_11, zYX1_12, zYX1_13, zYX1_14, zNX1, zYX2_0, zYX2_1, zYX2_2, zYX2_3, zYX2_4, zYX2_5, zYX2_6, zYX2_7, zYX2_8, zYX2_9, zYX2_10, zNX2, zYX3_0, zYX3_1, zYX3_2, zYX3_3, zYX3_4, zYX3_5, zYX3_6, zNX3, zYX4_0, zYX4_1, zYX4_2, zYX4_3, zYX4_4, zYX4_5, zNX4, zYX5_0, zYX5_1, zYX5_2, zYX5_3, zYX5_4, zYX5_5, zYX5_6, zYX5_7, zYX5_8, zNX5, zYX6_0, zYX6_1, zYX6_2, zYX6_3, zYX6_4, zNX6, zYX7_0, zYX7_1, zYX7_2, zYX7_3, zNX7, zYX8_0, zYX8_1, zYX8_2, zNX8, zYX9_0, zYX9_1, zYX9_2, zNX9, zYX10_0, zYX10_1, zYX10_2, zYX10_3, zYX10_4, zYX10_5, zYX10_6, zYX10_7, zYX10_8, zNX10, zYX11_0, zYX11_1, zYX11_2, zYX11_3, zYX11_4, zYX11_5, zYX11_6, zYX11_7, zYX11_8, zYX11_9, zYX11_10, zYX11_11, zYX11_12, zYX11_13, zYX11_14, zYX11_15, zYX11_16, zYX11_17, zYX11_18, zYX11_19, zYX11_20, zYX11_21, zYX11_22, zYX11_23, zYX11_24, zYX11_25, zYX11_26, zYX11_27, zYX11_28, zYX11_29, zYX11_30, zYX11_31, zYX11_32, zYX11_33, zYX11_34, zYX11_35, zYX11_36, zYX11_37, zYX11_38, zYX11_39, zYX11_40, zYX11_41, zYX11_42, zYX11_43, zYX11_44, zYX11_45, zYX11_46, zYX11_47, zYX11_48, zYX11_49, zYX11_50, zYX11_51, zYX11_52, zYX11_53, zYX11_54, zYX11_55, zYX11_56, zYX11_57, zNX11, zend_i, zend_l, zend_d, zend_o, zend_v, wzend_z, znle, zisI_s, zgI_s, zisJ_s, zgJ_s, zisD_s, zgD_s, zisA_s, zgA_s, zpokI, zpstI, zpokZ, zpstZ, zpokJ, zpstJ, zpokD, zpstD, zpokO, zpstO, zpokOn, zpstOn, zpokA, zpstA, zpokAn, zpstAn, zpk_0, zptk_0, zpdr_0, zpk_1, zptk_1, zpdr_1, zpk_2, zptk_2, zpdr_2, zpk_3, zptk_3, zpdr_3, zpk_4, zptk_4, zpdr_4, zpk_5, zptk_5, zpdr_5, zpk_6, zptk_6, zpdr_6, zpk_7, zptk_7, zpdr_7, zpk_8, zptk_8, zpdr_8, zisR_s, zgR_s, ztlR_s, zisC_s, zgC_s, zkont_s, zkont_n, zw_iload, zw_iload_n0, zw_iload_n1, zw_iload_n2, zw_iload_n3, zw_lload, zw_lload_n0, zw_lload_n1, zw_lload_n2, zw_lload_n3, zw_dload, zw_dload_n0, zw_dload_n1, zw_dload_n2, zw_dload_n3, zw_aload, zw_aload_n0, zw_aload_n1, zw_aload_n2, zw_aload_n3, zw_iinc, zw_putfield, zw_callS, zw_callV, zw_callI, q_X11_condition, ct_X11_condition, zn_X11_isExact, zs_X11_isExact, zn_X11_loads, zs_X11_loads, zn_X11_greatestSum, zs_X11_greatestSum, zn_X11_cellAt, zs_X11_cellAt, zn_X11_reduces, zs_X11_reduces, zn_X11_quotient, zs_X11_quotient, zn_X11_bits, zs_X11_bits, b_X11_condition_0, b_X11_condition_12, b_X11_condition_33, b_X11_condition_57, b_X11_condition_59, b_X11_condition_101, b_X11_condition_118, b_X11_condition_128, b_X11_condition_147, b_X11_condition_149, b_X11_condition_161, b_X11_condition_278, b_X11_condition_301, b_X11_condition_307, b_X11_condition_309, b_X11_condition_335, b_X11_condition_336, b_X11_condition_343, k_X11_condition_0, k_X11_condition_12, k_X11_condition_33, k_X11_condition_57, k_X11_condition_59, k_X11_condition_101, k_X11_condition_118, k_X11_condition_128, k_X11_condition_147, k_X11_condition_149, k_X11_condition_161, k_X11_condition_278, k_X11_condition_301, k_X11_condition_307, k_X11_condition_309, k_X11_condition_335, k_X11_condition_336, k_X11_condition_343, true_or, or_true, zrz_1, zrz_0, zrz_b, true_and, and_true, Nat.reduceAdd, Nat.reduceLeDiff, Nat.reduceMul, Nat.le_refl, Nat.add_zero, Nat.zero_add, zP11_k (hp), zP11_r7 (hp), zP11_s7 (hp), zP11_r32 (hp), zP11_s32 (hp), zP11_r33 (hp), zP11_s33 (hp), zP11_r34 (hp), zP11_s34 (hp), zP11_r35 (hp), zP11_s35 (hp), zP11_r36 (hp), zP11_s36 (hp), zP11_r45 (hp), zP11_s45 (hp), zP11_r46 (hp), zP11_s46 (hp), Classical.not_not, Bool.not_eq_false, Bool.not_eq_true, zN_add, zN_sub, zN_mul, zN_le, zN_lt, zN_eq, zix_nI, zin_n, zinI_n, zinR_n, zlt_t, zom_t, zLsr, zLsh, zand_low, zL_add, zL_mul, zL_lt, zL_le, zL_sub, zL_div, zN_div, zL_e0, zL_n0, zN_n0, zN11, zN00, false_or, or_false, zZN_add, zNZ_add, zZN_sub, zNZ_sub, zZN_lt, zZN_le, zNZ_lt, zNZ_le, zZN_eq, zZZ_lt, zZZ_le, zZZ_eq, zN_32, Nat.reducePow, Nat.reduceMod, Nat.reduceDiv, zlc_eq, zlc_lt, zlc_ge, zlc_gt, zlc_le, bI_0, zbo_b, zbo_1, zbo_0, zuJ_inj, nI_nat, eq_self, Nat.reduceEqDiff, Nat.reduceSub, zI_sI_eq, zI_sI_ne, zJ_sJ_eq, zJ_sJ_ne, zD_sD_eq, zD_sD_ne, zR_sR_eq, zR_sR_ne, zJ_sI, zR_sI, zSh_sI, zNx_sI, zD_sI, zI_sJ, zR_sJ, zSh_sJ, zNx_sJ, zD_sJ, zI_sD, zJ_sD, zR_sD, zSh_sD, zNx_sD, zI_sR, zJ_sR, zD_sR, zSh_sR, zNx_sR, if_true, if_false, ite_true, ite_false, not_true, not_false_eq_true, forall_const, false_implies, true_implies, implies_true, zN_shr, zN_m31, jZ_low, jZ_add, jZ_sub, jZN_mul]
    exact z
end ZMCN
