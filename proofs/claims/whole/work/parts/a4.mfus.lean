/-! the model's doubles: fused, sums of doubles */ -/
section ZMFU
theorem zvfn {x : UInt64} (h : zUo x) : vf_n64 x = True := by
  apply eq_true
  unfold vf_n64
  rw [UInt64.le_iff_toNat_le, FP.Core.mask_toNat]
  exact h
theorem zUf_zE {x : UInt64} (h : zUf x = true) : zfE x.toNat ≠ 2047 := by rw [zUf_t] at h; exact h
theorem zUo_b {x : UInt64} {s : Bool} {n : Nat} (h : x.toNat = s.toNat * 9223372036854775808 + n) (hn : n ≤ 9218868437227405312) : zUo x := by
  unfold zUo
  cases s
  · rw [h, show false.toNat = 0 from rfl]; omega
  · rw [h, show true.toNat = 1 from rfl]; omega
theorem zdadd_o {a b : UInt64} (ha : zUf a = true) (hb : zUf b = true) : zUo (FP.dadd a b) :=
  zUo_b (by rw [zdadd_n ha hb]; exact zadd_bits (zu_lt a) (zu_lt b) (zUf_zE ha) (zUf_zE hb)) (zrb_le _ _ (by decide) _)
theorem zdmul_o {a b : UInt64} (ha : zUf a = true) (hb : zUf b = true) : zUo (FP.dmul a b) :=
  zUo_b (by rw [zdmul_n ha hb]; exact zmul_bits (zu_lt a) (zu_lt b) (zUf_zE ha) (zUf_zE hb)) (zrb_le _ _ (by decide) _)
theorem zddiv_o {a b : UInt64} (ha : zUf a = true) (hb : zUf b = true) (h0 : zUn b = true) : zUo (FP.ddiv a b) :=
  zUo_b (by rw [zddiv_n ha hb h0]; exact zdiv_bits (zu_lt a) (zu_lt b) (zUf_zE ha) (zUf_zE hb) (by rw [zUn_t] at h0; exact h0)) (zrb_le _ _ (by rw [zUn_t] at h0; omega) _)
theorem zdfma_o {a b c : UInt64} (ha : zUf a = true) (hb : zUf b = true) (hc : zUf c = true) : zUo (FP.dfma a b c) :=
  zUo_b (by rw [zdfma_n ha hb hc]; exact zfma_bits (zu_lt a) (zu_lt b) (zu_lt c) (zUf_zE ha) (zUf_zE hb) (zUf_zE hc)) (zrb_le _ _ (by decide) _)
/-- one as a double -/
theorem zxp_1 (c : UInt64) : zxp c 4607182418800017408 = (if zsg c.toNat = true then -1 else 1) * ((zmt c.toNat : Int) * 2 ^ (zsc c.toNat + 2176).toNat) := by
  have h1 := zsc_ge c.toNat
  unfold zxp
  rw [show zsg (4607182418800017408 : UInt64).toNat = false by decide, show zmt (4607182418800017408 : UInt64).toNat = 4503599627370496 by decide, show zsc (4607182418800017408 : UInt64).toNat = -52 by decide]
  congr 1
  · cases zsg c.toNat <;> rfl
  · obtain ⟨k, hk⟩ : ∃ k : Nat, zsc c.toNat + 2176 = (k : Int) + 52 := ⟨(zsc c.toNat + 2124).toNat, by omega⟩
    rw [hk, show zsc c.toNat + -52 + 2176 = (k : Int) by omega, Int.toNat_natCast, show ((k : Int) + 52).toNat = k + 52 by omega, Int.pow_add]
    rw [Int.natCast_mul, show (2 : Int) ^ 52 = ((4503599627370496 : Nat) : Int) from rfl]
    generalize ((4503599627370496 : Nat) : Int) = q
    grind
theorem zxp_sg (a b : UInt64) : zxp a b = FP.Core.signed (zsg a.toNat != zsg b.toNat) (zmt a.toNat * zmt b.toNat * 2 ^ (zsc a.toNat + zsc b.toNat + 2176).toNat) := by
  unfold zxp
  cases (zsg a.toNat != zsg b.toNat)
  · rw [zsigF, if_neg (by decide)]; push_cast; omega
  · rw [zsigT, if_pos rfl]; push_cast; omega
theorem zxp_sg1 (c : UInt64) : zxp c 4607182418800017408 = FP.Core.signed (zsg c.toNat) (zmt c.toNat * 2 ^ (zsc c.toNat + 2176).toNat) := by
  rw [zxp_1]
  cases zsg c.toNat
  · rw [zsigF, if_neg (by decide)]; push_cast; omega
  · rw [zsigT, if_pos rfl]; push_cast; omega
/-- the sum rounded is the fused step -/
theorem zrd_fma {a b c : UInt64} (ha : zUf a = true) (hb : zUf b = true) (hc : zUf c = true) (h0 : zUn c = true) (h1 : zmt a.toNat * zmt b.toNat ≠ 0) : zrd (zxp a b + zxp c 4607182418800017408) = FP.dfma a b c := by
  have s1 := zsc_ge a.toNat
  have s2 := zsc_ge b.toNat
  have s3 := zsc_ge c.toNat
  rw [zUn_t] at h0
  apply UInt64.toNat_inj.mp
  rw [zdfma_n ha hb hc, zfma_bits (zu_lt a) (zu_lt b) (zu_lt c) (zUf_zE ha) (zUf_zE hb) (zUf_zE hc), zxp_sg, zxp_sg1]
  generalize (zsg a.toNat != zsg b.toNat) = s at *
  generalize zsg c.toNat = t at *
  generalize zmt a.toNat * zmt b.toNat = x at *
  generalize zmt c.toNat = y at *
  obtain ⟨q, hq⟩ : ∃ q, zsc a.toNat + zsc b.toNat = q := ⟨_, rfl⟩
  obtain ⟨r, hr⟩ : ∃ r, zsc c.toNat = r := ⟨_, rfl⟩
  rw [hq, hr]
  obtain ⟨e, he⟩ : ∃ e, min q r = e := ⟨_, rfl⟩
  obtain ⟨i, hi⟩ : ∃ i : Nat, q - e = (i : Int) := ⟨(q - e).toNat, by omega⟩
  obtain ⟨j, hj⟩ : ∃ j : Nat, r - e = (j : Int) := ⟨(r - e).toNat, by omega⟩
  obtain ⟨k, hk⟩ : ∃ k : Nat, e + 2176 = (k : Int) := ⟨(e + 2176).toNat, by omega⟩
  rw [he]
  unfold FP.Core.sumUnits FP.Core.inUnits
  rw [hi, hj, Int.toNat_natCast, Int.toNat_natCast, show (q + 2176).toNat = i + k by omega, show (r + 2176).toNat = j + k by omega, Nat.pow_add, Nat.pow_add, ← Nat.mul_assoc, ← Nat.mul_assoc, zsig_mul s (x * 2 ^ i) (2 ^ k), zsig_mul t (y * 2 ^ j) (2 ^ k), ← Int.add_mul]
  have hst : FP.Core.signed s (x * 2 ^ i) + FP.Core.signed t (y * 2 ^ j) = 0 → (s && t) = false := fun h => by
    have p1 := Nat.mul_pos (Nat.pos_of_ne_zero h1) (Nat.two_pow_pos i)
    have p2 := Nat.mul_pos (Nat.pos_of_ne_zero h0) (Nat.two_pow_pos j)
    cases s
    · rfl
    · cases t
      · rfl
      · rw [zsigT, zsigT] at h; omega
  generalize FP.Core.signed s (x * 2 ^ i) + FP.Core.signed t (y * 2 ^ j) = v at *
  have hz : zrb false (v * ((2 ^ k : Nat) : Int)).natAbs 1 (-2176) = zrb false v.natAbs 1 e := by
    rw [Int.natAbs_mul, Int.natAbs_natCast]
    have := zrb_mv (up := false) (A := v.natAbs) (B := 1) (i := k) (k := 0) (e := e) (e' := -2176) (by decide) (by omega)
    rw [Nat.pow_zero, Nat.mul_one] at this
    exact this
  have hs : decide (v * ((2 ^ k : Nat) : Int) < 0) = FP.Core.sumSign s t v := by
    have p := Nat.two_pow_pos k
    unfold FP.Core.sumSign
    by_cases hv : v = 0
    · rw [if_pos hv, hst hv, hv, Int.zero_mul]; rfl
    · rw [if_neg hv]
      rw [decide_eq_decide]
      generalize 2 ^ k = Q at *
      constructor
      · intro h
        refine Int.not_le.mp fun h2 => ?_
        have := Int.mul_nonneg h2 (show (0 : Int) ≤ Q by omega)
        omega
      · intro h
        exact Int.mul_neg_of_neg_of_pos h (by omega)
  unfold zrd
  rw [hz, hs]
  have lt := zrb_le false v.natAbs (B := 1) (by decide) e
  unfold zout
  rw [zu_of (zout_lt _ lt)]
/-- the model's fused step where a number is 0 -/
theorem zfma_x0 {a b c : UInt64} (ha : zUf a = true) (hb : zUf b = true) (hc : zUf c = true) (h1 : zmt a.toNat * zmt b.toNat = 0) : FP.dadd (FP.dmul a b) c = FP.dfma a b c := by
  have s1 := zsc_ge a.toNat
  have s2 := zsc_ge b.toNat
  have s3 := zsc_ge c.toNat
  have hm := zmul_bits (zu_lt a) (zu_lt b) (zUf_zE ha) (zUf_zE hb)
  rw [h1, show zrb false 0 1 (zsc a.toNat + zsc b.toNat) = 0 from if_pos rfl, Nat.add_zero] at hm
  have hd := zdmul_n ha hb
  rw [hm] at hd
  have d1 : zmt (FP.dmul a b).toNat = 0 := by rw [hd]; cases (zsg a.toNat != zsg b.toNat) <;> decide
  have d2 : zsc (FP.dmul a b).toNat = -1074 := by rw [hd]; cases (zsg a.toNat != zsg b.toNat) <;> decide
  have d3 : zsg (FP.dmul a b).toNat = (zsg a.toNat != zsg b.toNat) := by rw [hd]; cases (zsg a.toNat != zsg b.toNat) <;> decide
  have d4 : zUf (FP.dmul a b) = true := by rw [zUf_t, hd]; cases (zsg a.toNat != zsg b.toNat) <;> decide
  apply UInt64.toNat_inj.mp
  rw [zdadd_n d4 hc, zdfma_n ha hb hc, zfma_bits (zu_lt a) (zu_lt b) (zu_lt c) (zUf_zE ha) (zUf_zE hb) (zUf_zE hc), zadd_bits (zu_lt _) (zu_lt c) (zUf_zE d4) (zUf_zE hc), d1, d2, d3, h1]
  generalize (zsg a.toNat != zsg b.toNat) = s at *
  generalize zsg c.toNat = t at *
  generalize zmt c.toNat = y at *
  obtain ⟨q, hq⟩ : ∃ q, zsc a.toNat + zsc b.toNat = q := ⟨_, rfl⟩
  obtain ⟨r, hr⟩ : ∃ r, zsc c.toNat = r := ⟨_, rfl⟩
  rw [hq, hr]
  obtain ⟨e, he⟩ : ∃ e, min q r = e := ⟨_, rfl⟩
  obtain ⟨d, hd'⟩ : ∃ d, min (-1074) r = d := ⟨_, rfl⟩
  obtain ⟨j, hj⟩ : ∃ j : Nat, r - e = (j : Int) := ⟨(r - e).toNat, by omega⟩
  obtain ⟨k, hk⟩ : ∃ k : Nat, r - d = (k : Int) := ⟨(r - d).toNat, by omega⟩
  rw [he, hd']
  unfold FP.Core.sumUnits FP.Core.inUnits
  rw [hj, hk, Int.toNat_natCast, Int.toNat_natCast, Nat.zero_mul, Nat.zero_mul]
  have z0 : FP.Core.signed s 0 = 0 := by cases s <;> rfl
  rw [z0, Int.zero_add, Int.zero_add]
  have na : ∀ n : Nat, (FP.Core.signed t n).natAbs = n := fun n => by cases t; rw [zsigF]; omega; rw [zsigT]; omega
  rw [na, na]
  have e1 : zrb false (y * 2 ^ k) 1 d = zrb false y 1 r := by
    have := zrb_mv (up := false) (A := y) (B := 1) (i := k) (k := 0) (e := r) (e' := d) (by decide) (by omega)
    rw [Nat.pow_zero, Nat.mul_one] at this; exact this
  have e2 : zrb false (y * 2 ^ j) 1 e = zrb false y 1 r := by
    have := zrb_mv (up := false) (A := y) (B := 1) (i := j) (k := 0) (e := r) (e' := e) (by decide) (by omega)
    rw [Nat.pow_zero, Nat.mul_one] at this; exact this
  rw [e1, e2]
  have ss : ∀ n : Nat, FP.Core.sumSign s t (FP.Core.signed t (y * 2 ^ n)) = if y = 0 then (s && t) else t := fun n => by
    have p := Nat.two_pow_pos n
    unfold FP.Core.sumSign
    by_cases hy : y = 0
    · rw [hy, Nat.zero_mul, if_pos rfl]; cases t <;> rfl
    · have p2 := Nat.mul_pos (Nat.pos_of_ne_zero hy) p
      rw [if_neg hy]
      cases t
      · rw [zsigF, if_neg (by omega), decide_eq_false (by omega)]
      · rw [zsigT, if_neg (by omega), decide_eq_true (by omega)]
  rw [ss, ss]
theorem zfma_c0 {a b c : UInt64} (ha : zUf a = true) (hb : zUf b = true) (hc : zUf c = true) (h0 : zUn c = false) (h1 : zmt a.toNat * zmt b.toNat ≠ 0) : FP.dadd (FP.dmul a b) 9223372036854775808 = FP.dfma a b c := by
  have s1 := zsc_ge a.toNat
  have s2 := zsc_ge b.toNat
  have s3 := zsc_ge c.toNat
  have hz : FP.dadd (FP.dmul a b) 9223372036854775808 = FP.dmul a b := FP.Core.dadd_zeroNeg (zUo_val (zdmul_o ha hb))
  have hy : zmt c.toNat = 0 := by
    have := h0
    unfold zUn at this
    rw [decide_eq_false_iff_not, Classical.not_not] at this
    exact this
  rw [hz]
  apply UInt64.toNat_inj.mp
  rw [zdmul_n ha hb, zdfma_n ha hb hc, zfma_bits (zu_lt a) (zu_lt b) (zu_lt c) (zUf_zE ha) (zUf_zE hb) (zUf_zE hc), zmul_bits (zu_lt a) (zu_lt b) (zUf_zE ha) (zUf_zE hb), hy]
  generalize (zsg a.toNat != zsg b.toNat) = s at *
  generalize zsg c.toNat = t at *
  generalize zmt a.toNat * zmt b.toNat = x at *
  obtain ⟨q, hq⟩ : ∃ q, zsc a.toNat + zsc b.toNat = q := ⟨_, rfl⟩
  obtain ⟨r, hr⟩ : ∃ r, zsc c.toNat = r := ⟨_, rfl⟩
  rw [hq, hr]
  obtain ⟨e, he⟩ : ∃ e, min q r = e := ⟨_, rfl⟩
  obtain ⟨j, hj⟩ : ∃ j : Nat, q - e = (j : Int) := ⟨(q - e).toNat, by omega⟩
  rw [he]
  unfold FP.Core.sumUnits FP.Core.inUnits
  rw [hj, Int.toNat_natCast, Nat.zero_mul]
  have z0 : FP.Core.signed t 0 = 0 := by cases t <;> rfl
  rw [z0, Int.add_zero]
  have na : ∀ n : Nat, (FP.Core.signed s n).natAbs = n := fun n => by cases s; rw [zsigF]; omega; rw [zsigT]; omega
  have p := Nat.mul_pos (Nat.pos_of_ne_zero h1) (Nat.two_pow_pos j)
  have ss : FP.Core.sumSign s t (FP.Core.signed s (x * 2 ^ j)) = s := by
    unfold FP.Core.sumSign
    cases s
    · rw [zsigF, if_neg (by omega), decide_eq_false (by omega)]
    · rw [zsigT, if_neg (by omega), decide_eq_true (by omega)]
  have e1 : zrb false (x * 2 ^ j) 1 e = zrb false x 1 q := by
    have := zrb_mv (up := false) (A := x) (B := 1) (i := j) (k := 0) (e := q) (e' := e) (by decide) (by omega)
    rw [Nat.pow_zero, Nat.mul_one] at this; exact this
  rw [na, ss, e1]
def ct_X11_fused : zCt := (fun av S K => ∃ p : Nat, ∃ a : UInt64, ∃ b : UInt64, ∃ c : UInt64, av = [.ref p, .double a, .double b, .double c] ∧ ((zP11 S p ∧ zUf a = true ∧ zUf b = true ∧ zUf c = true) ∧ ∀ T, zGq p (fun b => b = p + 1 ∨ b = p + 2 ∨ b = p + 3) (fun k => k = 3) S T → K (some (.double (FP.dfma a b c))) T), 0, 0)
theorem zc_X11_fused {S : zS} {K : Option Value → zS → Prop} {p : Nat} {a : UInt64} {b : UInt64} {c : UInt64} : ct_X11_fused.1 [.ref p, .double a, .double b, .double c] S K = ((zP11 S p ∧ zUf a = true ∧ zUf b = true ∧ zUf c = true) ∧ ∀ T, zGq p (fun b => b = p + 1 ∨ b = p + 2 ∨ b = p + 3) (fun k => k = 3) S T → K (some (.double (FP.dfma a b c))) T) := propext ⟨fun ⟨z0, z1, z2, z3, e, h⟩ => by cases e; exact h, fun h => ⟨p, a, b, c, rfl, h⟩⟩
theorem zn_X11_fused : ct_X11_fused.2.1 = 0 := rfl
theorem zs_X11_fused : ct_X11_fused.2.2 = 0 := rfl
theorem met_X11_fused (l : Launch) (G : zG) : zMet l G q_X11_fused ct_X11_fused := by
  refine zmk 11 false cal_X11_fused bl_X11_fused pl_X11_fused [ct_X11_none, ct_X11_add, ct_X11_roundedSum] ck_X11_fused nm_X11_fused ⟨rfl, rfl⟩ wd_X11_fused (⟨⟨met_X11_none l G, rfl, rfl⟩, ⟨⟨met_X11_add l G, rfl, rfl⟩, ⟨⟨met_X11_roundedSum l G, rfl, rfl⟩, trivial⟩⟩⟩) ?_
  intro X av S K h
  obtain ⟨p, a, b, c, rfl, h⟩ := h
  refine ⟨Nat.le_of_ble_eq_true rfl, fun hX => ?_⟩
  show X 0 [some (.ref p), some (.double a), none, some (.double b), none, some (.double c), none] [] S 0 0
  obtain ⟨⟨hp, ha, hb, hc⟩, h⟩ := h
  have kp := zP11_k hp
  have oa := zUo_f ha
  have ob := zUo_f hb
  have oc := zUo_f hc
  have e0 : zdN 0 = 0 := rfl
  have e8 : zdN 9223372036854775808 = 9223372036854775808 := rfl
  have um : ∀ x : UInt64, (zUn x = false) = (zmt x.toNat = 0) := fun x => by unfold zUn; rw [decide_eq_false_iff_not, Classical.not_not]
  have om := zvfn (zdmul_o ha hb)
  have hS := h S zGq.refl
  have fx := zdfma_o ha hb hc
  have X0 : zmt a.toNat * zmt b.toNat = 0 → vf_n64 (FP.dadd (FP.dmul a b) c) ∧ K (some (.double (FP.dadd (FP.dmul a b) c))) S := fun e => by
    rw [zfma_x0 ha hb hc e]; exact ⟨of_eq_true (zvfn fx), hS⟩
  have C0 : zUn a = true → zUn b = true → zUn c = false → vf_n64 (FP.dadd (FP.dmul a b) 9223372036854775808) ∧ K (some (.double (FP.dadd (FP.dmul a b) 9223372036854775808))) S := fun na nb nc => by
    rw [zUn_t] at na nb
    rw [zfma_c0 ha hb hc nc (Nat.mul_ne_zero na nb)]; exact ⟨of_eq_true (zvfn fx), hS⟩
  have za : zUn a = false → zmt a.toNat * zmt b.toNat = 0 := fun h => by rw [um] at h; rw [h, Nat.zero_mul]
  have zb : zUn b = false → zmt a.toNat * zmt b.toNat = 0 := fun h => by rw [um] at h; rw [h, Nat.mul_zero]
  refine hX 1000 _ _ _ _ _ _ ?_
  simp +contextual (disch := omega) only [wzq_nop, wzq_nop0, wzq_null, wzq_iconst, wzq_bipush, wzq_sipush, wzq_ldc, wzq_ldc_w, wzq_lconst, wzq_dconst, wzq_ldc2, wzq_ldc2d, wzq_istore, wzq_istore_n0, wzq_istore_n1, wzq_istore_n2, wzq_istore_n3, wzq_lstore, wzq_lstore_n0, wzq_lstore_n1, wzq_lstore_n2, wzq_lstore_n3, wzq_dstore, wzq_dstore_n0, wzq_dstore_n1, wzq_dstore_n2, wzq_dstore_n3, wzq_astore, wzq_astore_n0, wzq_astore_n1, wzq_astore_n2, wzq_astore_n3, wzq_iadd, wzq_isub, wzq_imul, wzq_iand, wzq_ior, wzq_ishr, wzq_iushr, wzq_idiv, wzq_irem, wzq_ineg, wzq_ladd, wzq_lsub, wzq_lmul, wzq_land, wzq_lor, wzq_lxor, wzq_ldiv, wzq_lrem, wzq_lneg, wzq_lshl, wzq_lshr, wzq_lushr, wzq_i2l, wzq_l2i, wzq_lcmp, wzq_dcmp, wzq_dadd, wzq_dsub, wzq_dmul, wzq_ddiv, wzq_dneg, wzq_dup, wzq_pop, wzq_pop2, wzq_dup2J, wzq_dup2D, wzq_dup2I, wzq_goto0, wzq_goto1, wzq_if_eq0, wzq_if_eq1, wzq_icmp_eq0, wzq_icmp_eq1, wzq_if_ne0, wzq_if_ne1, wzq_icmp_ne0, wzq_icmp_ne1, wzq_if_lt0, wzq_if_lt1, wzq_icmp_lt0, wzq_icmp_lt1, wzq_if_ge0, wzq_if_ge1, wzq_icmp_ge0, wzq_icmp_ge1, wzq_if_gt0, wzq_if_gt1, wzq_icmp_gt0, wzq_icmp_gt1, wzq_if_le0, wzq_if_le1, wzq_icmp_le0, wzq_icmp_le1, wzq_ifnull0, wzq_ifnull1, wzq_ifnull_a, wzq_ifnull_b, wzq_ifnonnull0, wzq_ifnonnull1, wzq_ifnonnull_a, wzq_ifnonnull_b, wzq_table, wzq_getfield, wzq_alen, wzq_iaload, wzq_baload, wzq_laload, wzq_daload, wzq_aaload, wzq_iastore, wzq_bastore, wzq_lastore, wzq_dastore, wzq_aastore, wzq_new, wzq_newarray, wzq_anewarray, wzq_d2l, wzq_l2d, wzq_mmax, wzq_mmin, wzq_mmaxl, wzq_mabs, wzq_objInit, wzq_ireturn, wzq_lreturn, wzq_dreturn, wzq_areturn, wzq_return, znth0, zst1_0, zst2_0, znth1, zst1_1, zst2_1, znth2, zst1_2, zst2_2, znth3, zst1_3, zst2_3, znth4, zst1_4, zst2_4, znth5, zst1_5, zst2_5, znth6, zst1_6, zst2_6, znth7, zst1_7, zst2_7, znth8, zst1_8, zst2_8, znth9, zst1_9, zst2_9, znth10, zst1_10, zst2_10, znth11, zst1_11, zst2_11, znth12, zst1_12, zst2_12, znth13, zst1_13, zst2_13, znth14, zst1_14, zst2_14, znth15, zst1_15, zst2_15, znth16, zst1_16, zst2_16, znth17, zst1_17, zst2_17, znth18, zst1_18, zst2_18, znth19, zst1_19, zst2_19, znth20, zst1_20, zst2_20, znth21, zst1_21, zst2_21, znth22, zst1_22, zst2_22, znth23, zst1_23, zst2_23, znth24, zst1_24, zst2_24, znth25, zst1_25, zst2_25, zkill_n, zkill_int, zkill_ref, zkill_null, zkill_long, zkill_double, zkill_rf, zref_s, zref_n, zref_rf, va_rf_s, va_rf_n, zget0, zget1, zget2, zget3, zget4, zget5, zget6, zget7, zget8, zget9, zget10, zget11, zget12, zget13, zget14, zget15, zget16, zget17, zget18, zget19, zget20, zget21, zget22, zget23, zget24, zget25, zwt_0, zwt_int, zcat_int, zwt_ref, zcat_ref, zwt_long, zcat_long, zwt_double, zcat_double, zwt_null, zwt_rf, zcat_null, zcat_rf, ztl_s, ztl_n, zfI, zfZ, zfJ, zfD, zfO, zfA, zsw_0, zsw_s, zYX1_0, zYX1_1, zYX1_2, zYX1_3, zYX1_4, zYX1_5, zYX1_6, zYX1_7, zYX1_8, zYX1_9, zYX1_10, zYX1_11, zYX1_12, zYX1_13, zYX1_14, zNX1, zYX2_0, zYX2_1, zYX2_2, zYX2_3, zYX2_4, zYX2_5, zYX2_6, zYX2_7, zYX2_8, zYX2_9, zYX2_10, zNX2, zYX3_0, zYX3_1, zYX3_2, zYX3_3, zYX3_4, zYX3_5, zYX3_6, zNX3, zYX4_0, zYX4_1, zYX4_2, zYX4_3, zYX4_4, zYX4_5, zNX4, zYX5_0, zYX5_1, zYX5_2, zYX5_3, zYX5_4, zYX5_5, zYX5_6, zYX5_7, zYX5_8, zNX5, zYX6_0, zYX6_1, zYX6_2, zYX6_3, zYX6_4, zNX6, zYX7_0, zYX7_1, zYX7_2, zYX7_3, zNX7, zYX8_0, zYX8_1, zYX8_2, zNX8, zYX9_0, zYX9_1, zYX9_2, zNX9, zYX10_0, zYX10_1, zYX10_2, zYX10_3, zYX10_4, zYX10_5, zYX10_6, zYX10_7, zYX10_8, zNX10, zYX11_0, zYX11_1, zYX11_2, zYX11_3, zYX11_4, zYX11_5, zYX11_6, zYX11_7, zYX11_8, zYX11_9, zYX11_10, zYX11_11, zYX11_12, zYX11_13, zYX11_14, zYX11_15, zYX11_16, zYX11_17, zYX11_18, zYX11_19, zYX11_20, zYX11_21, zYX11_22, zYX11_23, zYX11_24, zYX11_25, zYX11_26, zYX11_27, zYX11_28, zYX11_29, zYX11_30, zYX11_31, zYX11_32, zYX11_33, zYX11_34, zYX11_35, zYX11_36, zYX11_37, zYX11_38, zYX11_39, zYX11_40, zYX11_41, zYX11_42, zYX11_43, zYX11_44, zYX11_45, zYX11_46, zYX11_47, zYX11_48, zYX11_49, zYX11_50, zYX11_51, zYX11_52, zYX11_53, zYX11_54, zYX11_55, zYX11_56, zYX11_57, zNX11, zend_i, zend_l, zend_d, zend_o, zend_v, wzend_z, znle, zisI_s, zgI_s, zisJ_s, zgJ_s, zisD_s, zgD_s, zisA_s, zgA_s, zpokI, zpstI, zpokZ, zpstZ, zpokJ, zpstJ, zpokD, zpstD, zpokO, zpstO, zpokOn, zpstOn, zpokA, zpstA, zpokAn, zpstAn, zpk_0, zptk_0, zpdr_0, zpk_1, zptk_1, zpdr_1, zpk_2, zptk_2, zpdr_2, zpk_3, zptk_3, zpdr_3, zpk_4, zptk_4, zpdr_4, zpk_5, zptk_5, zpdr_5, zpk_6, zptk_6, zpdr_6, zpk_7, zptk_7, zpdr_7, zpk_8, zptk_8, zpdr_8, zisR_s, zgR_s, ztlR_s, zisC_s, zgC_s, zkont_s, zkont_n, zw_iload, zw_iload_n0, zw_iload_n1, zw_iload_n2, zw_iload_n3, zw_lload, zw_lload_n0, zw_lload_n1, zw_lload_n2, zw_lload_n3, zw_dload, zw_dload_n0, zw_dload_n1, zw_dload_n2, zw_dload_n3, zw_aload, zw_aload_n0, zw_aload_n1, zw_aload_n2, zw_aload_n3, zw_iinc, zw_putfield, zw_callS, zw_callV, zw_callI, q_X11_fused, ct_X11_fused, zc_X11_none, zn_X11_none, zs_X11_none, zn_X11_add, zs_X11_add, zn_X11_roundedSum, zs_X11_roundedSum, b_X11_fused_0, b_X11_fused_19, b_X11_fused_47, b_X11_fused_49, b_X11_fused_51, k_X11_fused_0, k_X11_fused_19, k_X11_fused_47, k_X11_fused_49, k_X11_fused_51, true_or, or_true, zrz_1, zrz_0, zrz_b, true_and, and_true, Nat.reduceAdd, Nat.reduceLeDiff, Nat.reduceMul, Nat.le_refl, Nat.add_zero, Nat.zero_add, zc_X11_none, e0, e8, zcI_d oa zUo_0, zcI_d ob zUo_0, zcI_d oc zUo_0, zcI_eq, zky_00, zky_0, om, Classical.not_not, Bool.not_eq_false, Bool.not_eq_true, zN_add, zN_sub, zN_mul, zN_le, zN_lt, zN_eq, zix_nI, zin_n, zinI_n, zinR_n, zlt_t, zom_t, zLsr, zLsh, zand_low, zL_add, zL_mul, zL_lt, zL_le, zL_sub, zL_div, zN_div, zL_e0, zL_n0, zN_n0, zN11, zN00, false_or, or_false, zZN_add, zNZ_add, zZN_sub, zNZ_sub, zZN_lt, zZN_le, zNZ_lt, zNZ_le, zZN_eq, zZZ_lt, zZZ_le, zZZ_eq, zN_32, Nat.reducePow, Nat.reduceMod, Nat.reduceDiv, zlc_eq, zlc_lt, zlc_ge, zlc_gt, zlc_le, bI_0, zbo_b, zbo_1, zbo_0, zuJ_inj, nI_nat, eq_self, Nat.reduceEqDiff, Nat.reduceSub, zI_sI_eq, zI_sI_ne, zJ_sJ_eq, zJ_sJ_ne, zD_sD_eq, zD_sD_ne, zR_sR_eq, zR_sR_ne, zJ_sI, zR_sI, zSh_sI, zNx_sI, zD_sI, zI_sJ, zR_sJ, zSh_sJ, zNx_sJ, zD_sJ, zI_sD, zJ_sD, zR_sD, zSh_sD, zNx_sD, zI_sR, zJ_sR, zD_sR, zSh_sR, zNx_sR, if_true, if_false, ite_true, ite_false, not_true, not_false_eq_true, forall_const, false_implies, true_implies, implies_true, zN_shr, zN_m31, jZ_low, jZ_add, jZ_sub, jZN_mul]
  refine ⟨fun h1 => ⟨fun _ => X0 (za h1), fun _ => X0 (za h1)⟩, fun h1 => ⟨fun h2 => ⟨fun _ => X0 (zb h2), fun _ => ⟨fun h => Bool.noConfusion h, X0 (zb h2)⟩⟩, fun h2 => ⟨fun h3 => ⟨kp, hp, fun T g r1 r2 => ?_⟩, fun h3 => ⟨fun h => Bool.noConfusion h, fun h => Bool.noConfusion h, C0 h1 h2 h3⟩⟩⟩⟩
  have hpT := zP11_gr g hp
  have nab : zmt a.toNat * zmt b.toNat ≠ 0 := by
    rw [zUn_t] at h1 h2
    exact Nat.mul_ne_zero h1 h2
  refine ⟨zP11_k hpT, ?_⟩
  simp +contextual (disch := omega) only [wzq_nop, wzq_nop0, wzq_null, wzq_iconst, wzq_bipush, wzq_sipush, wzq_ldc, wzq_ldc_w, wzq_lconst, wzq_dconst, wzq_ldc2, wzq_ldc2d, wzq_istore, wzq_istore_n0, wzq_istore_n1, wzq_istore_n2, wzq_istore_n3, wzq_lstore, wzq_lstore_n0, wzq_lstore_n1, wzq_lstore_n2, wzq_lstore_n3, wzq_dstore, wzq_dstore_n0, wzq_dstore_n1, wzq_dstore_n2, wzq_dstore_n3, wzq_astore, wzq_astore_n0, wzq_astore_n1, wzq_astore_n2, wzq_astore_n3, wzq_iadd, wzq_isub, wzq_imul, wzq_iand, wzq_ior, wzq_ishr, wzq_iushr, wzq_idiv, wzq_irem, wzq_ineg, wzq_ladd, wzq_lsub, wzq_lmul, wzq_land, wzq_lor, wzq_lxor, wzq_ldiv, wzq_lrem, wzq_lneg, wzq_lshl, wzq_lshr, wzq_lushr, wzq_i2l, wzq_l2i, wzq_lcmp, wzq_dcmp, wzq_dadd, wzq_dsub, wzq_dmul, wzq_ddiv, wzq_dneg, wzq_dup, wzq_pop, wzq_pop2, wzq_dup2J, wzq_dup2D, wzq_dup2I, wzq_goto0, wzq_goto1, wzq_if_eq0, wzq_if_eq1, wzq_icmp_eq0, wzq_icmp_eq1, wzq_if_ne0, wzq_if_ne1, wzq_icmp_ne0, wzq_icmp_ne1, wzq_if_lt0, wzq_if_lt1, wzq_icmp_lt0, wzq_icmp_lt1, wzq_if_ge0, wzq_if_ge1, wzq_icmp_ge0, wzq_icmp_ge1, wzq_if_gt0, wzq_if_gt1, wzq_icmp_gt0, wzq_icmp_gt1, wzq_if_le0, wzq_if_le1, wzq_icmp_le0, wzq_icmp_le1, wzq_ifnull0, wzq_ifnull1, wzq_ifnull_a, wzq_ifnull_b, wzq_ifnonnull0, wzq_ifnonnull1, wzq_ifnonnull_a, wzq_ifnonnull_b, wzq_table, wzq_getfield, wzq_alen, wzq_iaload, wzq_baload, wzq_laload, wzq_daload, wzq_aaload, wzq_iastore, wzq_bastore, wzq_lastore, wzq_dastore, wzq_aastore, wzq_new, wzq_newarray, wzq_anewarray, wzq_d2l, wzq_l2d, wzq_mmax, wzq_mmin, wzq_mmaxl, wzq_mabs, wzq_objInit, wzq_ireturn, wzq_lreturn, wzq_dreturn, wzq_areturn, wzq_return, znth0, zst1_0, zst2_0, znth1, zst1_1, zst2_1, znth2, zst1_2, zst2_2, znth3, zst1_3, zst2_3, znth4, zst1_4, zst2_4, znth5, zst1_5, zst2_5, znth6, zst1_6, zst2_6, znth7, zst1_7, zst2_7, znth8, zst1_8, zst2_8, znth9, zst1_9, zst2_9, znth10, zst1_10, zst2_10, znth11, zst1_11, zst2_11, znth12, zst1_12, zst2_12, znth13, zst1_13, zst2_13, znth14, zst1_14, zst2_14, znth15, zst1_15, zst2_15, znth16, zst1_16, zst2_16, znth17, zst1_17, zst2_17, znth18, zst1_18, zst2_18, znth19, zst1_19, zst2_19, znth20, zst1_20, zst2_20, znth21, zst1_21, zst2_21, znth22, zst1_22, zst2_22, znth23, zst1_23, zst2_23, znth24, zst1_24, zst2_24, znth25, zst1_25, zst2_25, zkill_n, zkill_int, zkill_ref, zkill_null, zkill_long, zkill_double, zkill_rf, zref_s, zref_n, zref_rf, va_rf_s, va_rf_n, zget0, zget1, zget2, zget3, zget4, zget5, zget6, zget7, zget8, zget9, zget10, zget11, zget12, zget13, zget14, zget15, zget16, zget17, zget18, zget19, zget20, zget21, zget22, zget23, zget24, zget25, zwt_0, zwt_int, zcat_int, zwt_ref, zcat_ref, zwt_long, zcat_long, zwt_double, zcat_double, zwt_null, zwt_rf, zcat_null, zcat_rf, ztl_s, ztl_n, zfI, zfZ, zfJ, zfD, zfO, zfA, zsw_0, zsw_s, zYX1_0, zYX1_1, zYX1_2, zYX1_3, zYX1_4, zYX1_5, zYX1_6, zYX1_7, zYX1_8, zYX1_9, zYX1_10, zYX1_11, zYX1_12, zYX1_13, zYX1_14, zNX1, zYX2_0, zYX2_1, zYX2_2, zYX2_3, zYX2_4, zYX2_5, zYX2_6, zYX2_7, zYX2_8, zYX2_9, zYX2_10, zNX2, zYX3_0, zYX3_1, zYX3_2, zYX3_3, zYX3_4, zYX3_5, zYX3_6, zNX3, zYX4_0, zYX4_1, zYX4_2, zYX4_3, zYX4_4, zYX4_5, zNX4, zYX5_0, zYX5_1, zYX5_2, zYX5_3, zYX5_4, zYX5_5, zYX5_6, zYX5_7, zYX5_8, zNX5, zYX6_0, zYX6_1, zYX6_2, zYX6_3, zYX6_4, zNX6, zYX7_0, zYX7_1, zYX7_2, zYX7_3, zNX7, zYX8_0, zYX8_1, zYX8_2, zNX8, zYX9_0, zYX9_1, zYX9_2, zNX9, zYX10_0, zYX10_1, zYX10_2, zYX10_3, zYX10_4, zYX10_5, zYX10_6, zYX10_7, zYX10_8, zNX10, zYX11_0, zYX11_1, zYX11_2, zYX11_3, zYX11_4, zYX11_5, zYX11_6, zYX11_7, zYX11_8, zYX11_9, zYX11_10, zYX11_11, zYX11_12, zYX11_13, zYX11_14, zYX11_15, zYX11_16, zYX11_17, zYX11_18, zYX11_19, zYX11_20, zYX11_21, zYX11_22, zYX11_23, zYX11_24, zYX11_25, zYX11_26, zYX11_27, zYX11_28, zYX11_29, zYX11_30, zYX11_31, zYX11_32, zYX11_33, zYX11_34, zYX11_35, zYX11_36, zYX11_37, zYX11_38, zYX11_39, zYX11_40, zYX11_41, zYX11_42, zYX11_43, zYX11_44, zYX11_45, zYX11_46, zYX11_47, zYX11_48, zYX11_49, zYX11_50, zYX11_51, zYX11_52, zYX11_53, zYX11_54, zYX11_55, zYX11_56, zYX11_57, zNX11, zend_i, zend_l, zend_d, zend_o, zend_v, wzend_z, znle, zisI_s, zgI_s, zisJ_s, zgJ_s, zisD_s, zgD_s, zisA_s, zgA_s, zpokI, zpstI, zpokZ, zpstZ, zpokJ, zpstJ, zpokD, zpstD, zpokO, zpstO, zpokOn, zpstOn, zpokA, zpstA, zpokAn, zpstAn, zpk_0, zptk_0, zpdr_0, zpk_1, zptk_1, zpdr_1, zpk_2, zptk_2, zpdr_2, zpk_3, zptk_3, zpdr_3, zpk_4, zptk_4, zpdr_4, zpk_5, zptk_5, zpdr_5, zpk_6, zptk_6, zpdr_6, zpk_7, zptk_7, zpdr_7, zpk_8, zptk_8, zpdr_8, zisR_s, zgR_s, ztlR_s, zisC_s, zgC_s, zkont_s, zkont_n, zw_iload, zw_iload_n0, zw_iload_n1, zw_iload_n2, zw_iload_n3, zw_lload, zw_lload_n0, zw_lload_n1, zw_lload_n2, zw_lload_n3, zw_dload, zw_dload_n0, zw_dload_n1, zw_dload_n2, zw_dload_n3, zw_aload, zw_aload_n0, zw_aload_n1, zw_aload_n2, zw_aload_n3, zw_iinc, zw_putfield, zw_callS, zw_callV, zw_callI, q_X11_fused, ct_X11_fused, zn_X11_none, zs_X11_none, zn_X11_add, zs_X11_add, zn_X11_roundedSum, zs_X11_roundedSum, b_X11_fused_0, b_X11_fused_19, b_X11_fused_47, b_X11_fused_49, b_X11_fused_51, k_X11_fused_0, k_X11_fused_19, k_X11_fused_47, k_X11_fused_49, k_X11_fused_51, true_or, or_true, zrz_1, zrz_0, zrz_b, true_and, and_true, Nat.reduceAdd, Nat.reduceLeDiff, Nat.reduceMul, Nat.le_refl, Nat.add_zero, Nat.zero_add, zcb0_X11_add, zcb0_X11_add, Classical.not_not, Bool.not_eq_false, Bool.not_eq_true, zN_add, zN_sub, zN_mul, zN_le, zN_lt, zN_eq, zix_nI, zin_n, zinI_n, zinR_n, zlt_t, zom_t, zLsr, zLsh, zand_low, zL_add, zL_mul, zL_lt, zL_le, zL_sub, zL_div, zN_div, zL_e0, zL_n0, zN_n0, zN11, zN00, false_or, or_false, zZN_add, zNZ_add, zZN_sub, zNZ_sub, zZN_lt, zZN_le, zNZ_lt, zNZ_le, zZN_eq, zZZ_lt, zZZ_le, zZZ_eq, zN_32, Nat.reducePow, Nat.reduceMod, Nat.reduceDiv, zlc_eq, zlc_lt, zlc_ge, zlc_gt, zlc_le, bI_0, zbo_b, zbo_1, zbo_0, zuJ_inj, nI_nat, eq_self, Nat.reduceEqDiff, Nat.reduceSub, zI_sI_eq, zI_sI_ne, zJ_sJ_eq, zJ_sJ_ne, zD_sD_eq, zD_sD_ne, zR_sR_eq, zR_sR_ne, zJ_sI, zR_sI, zSh_sI, zNx_sI, zD_sI, zI_sJ, zR_sJ, zSh_sJ, zNx_sJ, zD_sJ, zI_sD, zJ_sD, zR_sD, zSh_sD, zNx_sD, zI_sR, zJ_sR, zD_sR, zSh_sR, zNx_sR, if_true, if_false, ite_true, ite_false, not_true, not_false_eq_true, forall_const, false_implies, true_implies, implies_true, zN_shr, zN_m31, jZ_low, jZ_add, jZ_sub, jZN_mul]
  refine ⟨0, 0, ⟨hpT, zXa_0 r1 r2, ⟨ha, hb⟩, by unfold zom; omega⟩, fun T2 g2 x2 => ?_⟩
  have hp2 := zP11_gr g2 hpT
  refine ⟨zP11_k hp2, ?_⟩
  refine ⟨_, 3, ⟨hp2, x2, ⟨hc, by decide⟩, by unfold zom; omega⟩, fun T3 g3 x3 => ?_⟩
  have hp3 := zP11_gr g3 hp2
  refine ⟨zP11_k hp3, ?_⟩
  simp +contextual (disch := omega) only [wzq_nop, wzq_nop0, wzq_null, wzq_iconst, wzq_bipush, wzq_sipush, wzq_ldc, wzq_ldc_w, wzq_lconst, wzq_dconst, wzq_ldc2, wzq_ldc2d, wzq_istore, wzq_istore_n0, wzq_istore_n1, wzq_istore_n2, wzq_istore_n3, wzq_lstore, wzq_lstore_n0, wzq_lstore_n1, wzq_lstore_n2, wzq_lstore_n3, wzq_dstore, wzq_dstore_n0, wzq_dstore_n1, wzq_dstore_n2, wzq_dstore_n3, wzq_astore, wzq_astore_n0, wzq_astore_n1, wzq_astore_n2, wzq_astore_n3, wzq_iadd, wzq_isub, wzq_imul, wzq_iand, wzq_ior, wzq_ishr, wzq_iushr, wzq_idiv, wzq_irem, wzq_ineg, wzq_ladd, wzq_lsub, wzq_lmul, wzq_land, wzq_lor, wzq_lxor, wzq_ldiv, wzq_lrem, wzq_lneg, wzq_lshl, wzq_lshr, wzq_lushr, wzq_i2l, wzq_l2i, wzq_lcmp, wzq_dcmp, wzq_dadd, wzq_dsub, wzq_dmul, wzq_ddiv, wzq_dneg, wzq_dup, wzq_pop, wzq_pop2, wzq_dup2J, wzq_dup2D, wzq_dup2I, wzq_goto0, wzq_goto1, wzq_if_eq0, wzq_if_eq1, wzq_icmp_eq0, wzq_icmp_eq1, wzq_if_ne0, wzq_if_ne1, wzq_icmp_ne0, wzq_icmp_ne1, wzq_if_lt0, wzq_if_lt1, wzq_icmp_lt0, wzq_icmp_lt1, wzq_if_ge0, wzq_if_ge1, wzq_icmp_ge0, wzq_icmp_ge1, wzq_if_gt0, wzq_if_gt1, wzq_icmp_gt0, wzq_icmp_gt1, wzq_if_le0, wzq_if_le1, wzq_icmp_le0, wzq_icmp_le1, wzq_ifnull0, wzq_ifnull1, wzq_ifnull_a, wzq_ifnull_b, wzq_ifnonnull0, wzq_ifnonnull1, wzq_ifnonnull_a, wzq_ifnonnull_b, wzq_table, wzq_getfield, wzq_alen, wzq_iaload, wzq_baload, wzq_laload, wzq_daload, wzq_aaload, wzq_iastore, wzq_bastore, wzq_lastore, wzq_dastore, wzq_aastore, wzq_new, wzq_newarray, wzq_anewarray, wzq_d2l, wzq_l2d, wzq_mmax, wzq_mmin, wzq_mmaxl, wzq_mabs, wzq_objInit, wzq_ireturn, wzq_lreturn, wzq_dreturn, wzq_areturn, wzq_return, znth0, zst1_0, zst2_0, znth1, zst1_1, zst2_1, znth2, zst1_2, zst2_2, znth3, zst1_3, zst2_3, znth4, zst1_4, zst2_4, znth5, zst1_5, zst2_5, znth6, zst1_6, zst2_6, znth7, zst1_7, zst2_7, znth8, zst1_8, zst2_8, znth9, zst1_9, zst2_9, znth10, zst1_10, zst2_10, znth11, zst1_11, zst2_11, znth12, zst1_12, zst2_12, znth13, zst1_13, zst2_13, znth14, zst1_14, zst2_14, znth15, zst1_15, zst2_15, znth16, zst1_16, zst2_16, znth17, zst1_17, zst2_17, znth18, zst1_18, zst2_18, znth19, zst1_19, zst2_19, znth20, zst1_20, zst2_20, znth21, zst1_21, zst2_21, znth22, zst1_22, zst2_22, znth23, zst1_23, zst2_23, znth24, zst1_24, zst2_24, znth25, zst1_25, zst2_25, zkill_n, zkill_int, zkill_ref, zkill_null, zkill_long, zkill_double, zkill_rf, zref_s, zref_n, zref_rf, va_rf_s, va_rf_n, zget0, zget1, zget2, zget3, zget4, zget5, zget6, zget7, zget8, zget9, zget10, zget11, zget12, zget13, zget14, zget15, zget16, zget17, zget18, zget19, zget20, zget21, zget22, zget23, zget24, zget25, zwt_0, zwt_int, zcat_int, zwt_ref, zcat_ref, zwt_long, zcat_long, zwt_double, zcat_double, zwt_null, zwt_rf, zcat_null, zcat_rf, ztl_s, ztl_n, zfI, zfZ, zfJ, zfD, zfO, zfA, zsw_0, zsw_s, zYX1_0, zYX1_1, zYX1_2, zYX1_3, zYX1_4, zYX1_5, zYX1_6, zYX1_7, zYX1_8, zYX1_9, zYX1_10, zYX1_11, zYX1_12, zYX1_13, zYX1_14, zNX1, zYX2_0, zYX2_1, zYX2_2, zYX2_3, zYX2_4, zYX2_5, zYX2_6, zYX2_7, zYX2_8, zYX2_9, zYX2_10, zNX2, zYX3_0, zYX3_1, zYX3_2, zYX3_3, zYX3_4, zYX3_5, zYX3_6, zNX3, zYX4_0, zYX4_1, zYX4_2, zYX4_3, zYX4_4, zYX4_5, zNX4, zYX5_0, zYX5_1, zYX5_2, zYX5_3, zYX5_4, zYX5_5, zYX5_6, zYX5_7, zYX5_8, zNX5, zYX6_0, zYX6_1, zYX6_2, zYX6_3, zYX6_4, zNX6, zYX7_0, zYX7_1, zYX7_2, zYX7_3, zNX7, zYX8_0, zYX8_1, zYX8_2, zNX8, zYX9_0, zYX9_1, zYX9_2, zNX9, zYX10_0, zYX10_1, zYX10_2, zYX10_3, zYX10_4, zYX10_5, zYX10_6, zYX10_7, zYX10_8, zNX10, zYX11_0, zYX11_1, zYX11_2, zYX11_3, zYX11_4, zYX11_5, zYX11_6, zYX11_7, zYX11_8, zYX11_9, zYX11_10, zYX11_11, zYX11_12, zYX11_13, zYX11_14, zYX11_15, zYX11_16, zYX11_17, zYX11_18, zYX11_19, zYX11_20, zYX11_21, zYX11_22, zYX11_23, zYX11_24, zYX11_25, zYX11_26, zYX11_27, zYX11_28, zYX11_29, zYX11_30, zYX11_31, zYX11_32, zYX11_33, zYX11_34, zYX11_35, zYX11_36, zYX11_37, zYX11_38, zYX11_39, zYX11_40, zYX11_41, zYX11_42, zYX11_43, zYX11_44, zYX11_45, zYX11_46, zYX11_47, zYX11_48, zYX11_49, zYX11_50, zYX11_51, zYX11_52, zYX11_53, zYX11_54, zYX11_55, zYX11_56, zYX11_57, zNX11, zend_i, zend_l, zend_d, zend_o, zend_v, wzend_z, znle, zisI_s, zgI_s, zisJ_s, zgJ_s, zisD_s, zgD_s, zisA_s, zgA_s, zpokI, zpstI, zpokZ, zpstZ, zpokJ, zpstJ, zpokD, zpstD, zpokO, zpstO, zpokOn, zpstOn, zpokA, zpstA, zpokAn, zpstAn, zpk_0, zptk_0, zpdr_0, zpk_1, zptk_1, zpdr_1, zpk_2, zptk_2, zpdr_2, zpk_3, zptk_3, zpdr_3, zpk_4, zptk_4, zpdr_4, zpk_5, zptk_5, zpdr_5, zpk_6, zptk_6, zpdr_6, zpk_7, zptk_7, zpdr_7, zpk_8, zptk_8, zpdr_8, zisR_s, zgR_s, ztlR_s, zisC_s, zgC_s, zkont_s, zkont_n, zw_iload, zw_iload_n0, zw_iload_n1, zw_iload_n2, zw_iload_n3, zw_lload, zw_lload_n0, zw_lload_n1, zw_lload_n2, zw_lload_n3, zw_dload, zw_dload_n0, zw_dload_n1, zw_dload_n2, zw_dload_n3, zw_aload, zw_aload_n0, zw_aload_n1, zw_aload_n2, zw_aload_n3, zw_iinc, zw_putfield, zw_callS, zw_callV, zw_callI, q_X11_fused, ct_X11_fused, zn_X11_none, zs_X11_none, zn_X11_add, zs_X11_add, zc_X11_roundedSum, zn_X11_roundedSum, zs_X11_roundedSum, b_X11_fused_0, b_X11_fused_19, b_X11_fused_47, b_X11_fused_49, b_X11_fused_51, k_X11_fused_0, k_X11_fused_19, k_X11_fused_47, k_X11_fused_49, k_X11_fused_51, true_or, or_true, zrz_1, zrz_0, zrz_b, true_and, and_true, Nat.reduceAdd, Nat.reduceLeDiff, Nat.reduceMul, Nat.le_refl, Nat.add_zero, Nat.zero_add, zc_X11_roundedSum, Classical.not_not, Bool.not_eq_false, Bool.not_eq_true, zN_add, zN_sub, zN_mul, zN_le, zN_lt, zN_eq, zix_nI, zin_n, zinI_n, zinR_n, zlt_t, zom_t, zLsr, zLsh, zand_low, zL_add, zL_mul, zL_lt, zL_le, zL_sub, zL_div, zN_div, zL_e0, zL_n0, zN_n0, zN11, zN00, false_or, or_false, zZN_add, zNZ_add, zZN_sub, zNZ_sub, zZN_lt, zZN_le, zNZ_lt, zNZ_le, zZN_eq, zZZ_lt, zZZ_le, zZZ_eq, zN_32, Nat.reducePow, Nat.reduceMod, Nat.reduceDiv, zlc_eq, zlc_lt, zlc_ge, zlc_gt, zlc_le, bI_0, zbo_b, zbo_1, zbo_0, zuJ_inj, nI_nat, eq_self, Nat.reduceEqDiff, Nat.reduceSub, zI_sI_eq, zI_sI_ne, zJ_sJ_eq, zJ_sJ_ne, zD_sD_eq, zD_sD_ne, zR_sR_eq, zR_sR_ne, zJ_sI, zR_sI, zSh_sI, zNx_sI, zD_sI, zI_sJ, zR_sJ, zSh_sJ, zNx_sJ, zD_sJ, zI_sD, zJ_sD, zR_sD, zSh_sD, zNx_sD, zI_sR, zJ_sR, zD_sR, zSh_sR, zNx_sR, if_true, if_false, ite_true, ite_false, not_true, not_false_eq_true, forall_const, false_implies, true_implies, implies_true, zN_shr, zN_m31, jZ_low, jZ_add, jZ_sub, jZN_mul]
  refine ⟨_, 6, ⟨hp3, x3, by unfold zom; omega⟩, fun T4 g4 => ?_⟩
  have e : (0 : Int) + (if false = true then -1 else 1) * zxp a b + (if false = true then -1 else 1) * zxp c (zdN 4607182418800017408) = zxp a b + zxp c 4607182418800017408 := by
    rw [if_neg (by decide), show zdN 4607182418800017408 = 4607182418800017408 from rfl]; omega
  rw [e, zrd_fma ha hb hc h3 nab]
  exact h T4 ((zGq.of (((g.trans g2).trans g3).mono fun q hq => by omega) (by omega)).trans g4)
end ZMFU
