/-! doubles by their machine's bits: the rows of X0 and X3 for them; rows with side conditions for omega -/
section ZU64
def zuJ (x : UInt64) : Int64 := x.toInt64
def zJu (x : Int64) : UInt64 := x.toUInt64
theorem zuJ_zJu (x : Int64) : zuJ (zJu x) = x := rfl
theorem zJu_zuJ (x : UInt64) : zJu (zuJ x) = x := rfl
theorem zuJ_un (x : UInt64) : un (zuJ x) = x.toNat := rfl
theorem zuJ_lN (n : Nat) : lN n = zuJ (UInt64.ofNat n) := rfl
theorem zuJ_inj {a b : UInt64} : (zuJ a = zuJ b) = (a = b) := propext ⟨fun h => congrArg zJu h, fun h => by rw [h]⟩
theorem zu_lt (a : UInt64) : a.toNat < 18446744073709551616 := a.toNat_lt
theorem zu_of {n : Nat} (h : n < 18446744073709551616) : (UInt64.ofNat n).toNat = n := Nat.mod_eq_of_lt h
/-- finite -/
def zUf (x : UInt64) : Bool := decide (zfE x.toNat ≠ 2047)
def zUab (x : UInt64) : UInt64 := UInt64.ofNat (x.toNat % 9223372036854775808)
def zUz (x : UInt64) : UInt64 := UInt64.ofNat (zuz x.toNat)
def zUng (x : UInt64) : UInt64 := UInt64.ofNat (zng x.toNat)
def zUls (fu : Bool) (t a b : UInt64) : UInt64 := UInt64.ofNat (zlss fu t.toNat a.toNat b.toNat)
def zUrt (x : UInt64) : UInt64 := UInt64.ofNat (zrt x.toNat)
/-- not 0 -/
def zUn (x : UInt64) : Bool := decide (zmt x.toNat ≠ 0)
theorem zUf_t {x : UInt64} : (zUf x = true) = (zfE x.toNat ≠ 2047) := decide_eq_true_eq
theorem zUn_t {x : UInt64} : (zUn x = true) = (zmt x.toNat ≠ 0) := decide_eq_true_eq
theorem zUab_n (x : UInt64) : (zUab x).toNat = x.toNat % 9223372036854775808 := zu_of (by omega)
theorem zUz_n (x : UInt64) : (zUz x).toNat = zuz x.toNat := zu_of (by have := zu_lt x; unfold zuz; split <;> omega)
theorem zUng_n (x : UInt64) : (zUng x).toNat = zng x.toNat := zu_of (zng_lt (zu_lt x))
theorem zUls_n {fu : Bool} {t a b : UInt64} (ht : zUf t = true) (ha : zUf a = true) (hb : zUf b = true) : (zUls fu t a b).toNat = zlss fu t.toNat a.toNat b.toNat := by
  rw [zUf_t] at ht ha hb
  exact zu_of (zlss_lt (zu_lt _) (zu_lt _) (zu_lt _) ht ha hb)
theorem zdadd_n {a b : UInt64} (ha : zUf a = true) (hb : zUf b = true) : (FP.dadd a b).toNat = FP.Core.add FP.Core.b64 a.toNat b.toNat := by
  rw [zUf_t] at ha hb
  exact zu_of (zadd_lt (zu_lt _) (zu_lt _) ha hb)
theorem zdmul_n {a b : UInt64} (ha : zUf a = true) (hb : zUf b = true) : (FP.dmul a b).toNat = FP.Core.mul FP.Core.b64 a.toNat b.toNat := by
  rw [zUf_t] at ha hb
  exact zu_of (zmul_lt (zu_lt _) (zu_lt _) ha hb)
theorem zddiv_n {a b : UInt64} (ha : zUf a = true) (hb : zUf b = true) (h0 : zUn b = true) : (FP.ddiv a b).toNat = FP.Core.div FP.Core.b64 a.toNat b.toNat := by
  rw [zUf_t] at ha hb
  rw [zUn_t] at h0
  exact zu_of (zdiv_lt (zu_lt _) (zu_lt _) ha hb h0)
theorem zdfma_n {a b c : UInt64} (ha : zUf a = true) (hb : zUf b = true) (hc : zUf c = true) : (FP.dfma a b c).toNat = FP.Core.fma FP.Core.b64 a.toNat b.toNat c.toNat := by
  rw [zUf_t] at ha hb hc
  exact zu_of (zfma_lt (zu_lt _) (zu_lt _) (zu_lt _) ha hb hc)
variable {S : zS} {K : Option Value → zS → Prop} {a b c t : UInt64}
theorem zcu_X0_finite : ct_X0_finite.1 [.long (zuJ a)] S K = K (some (.int (bI (zUf a)))) S := zc_X0_finite
theorem zcu_X0_magnitude : ct_X0_magnitude.1 [.long (zuJ a)] S K = K (some (.long (zuJ (zUab a)))) S := zc_X0_magnitude
theorem zcu_X0_unsignedZero : ct_X0_unsignedZero.1 [.long (zuJ a)] S K = K (some (.long (zuJ (zUz a)))) S := zc_X0_unsignedZero
theorem zcu_X0_plus : ct_X0_plus.1 [.long (zuJ a), .long (zuJ b)] S K = ((zUf a = true ∧ zUf b = true) ∧ K (some (.long (zuJ (FP.dadd a b)))) S) := by rw [zUf_t, zUf_t]; exact zc_X0_plus
theorem zcu_X0_times : ct_X0_times.1 [.long (zuJ a), .long (zuJ b)] S K = ((zUf a = true ∧ zUf b = true) ∧ K (some (.long (zuJ (FP.dmul a b)))) S) := by rw [zUf_t, zUf_t]; exact zc_X0_times
theorem zcu_X0_over : ct_X0_over.1 [.long (zuJ a), .long (zuJ b)] S K = ((zUf a = true ∧ zUf b = true ∧ zUn b = true) ∧ K (some (.long (zuJ (FP.ddiv a b)))) S) := by rw [zUf_t, zUf_t, zUn_t]; exact zc_X0_over
theorem zcu_X0_less {fu : Int32} : ct_X0_less.1 [.long (zuJ t), .long (zuJ a), .long (zuJ b), .int fu] S K = ((zUf t = true ∧ zUf a = true ∧ zUf b = true) ∧ K (some (.long (zuJ (zUls (zbo fu) t a b)))) S) := by rw [zUf_t, zUf_t, zUf_t]; exact zc_X0_less
theorem zcu_X0_root : ct_X0_root.1 [.long (zuJ a)] S K = ((zUf a = true ∧ zUn a = true) ∧ K (some (.long (zuJ (zUrt a)))) S) := by rw [zUf_t, zUn_t]; exact zc_X0_root
def zUla (x : UInt64) : Bool := zlat x.toNat
theorem zcu_X0_isLatticeNumber : ct_X0_isLatticeNumber.1 [.long (zuJ a)] S K = K (some (.int (bI (zUla a)))) S := zc_X0_isLatticeNumber
theorem zuJ_xs : zuJ a ^^^ lN 9223372036854775808 = zuJ (zUng a) := by
  have h := un_xs (zuJ a)
  rw [← lN_un (zuJ a ^^^ _), h]; rfl
theorem zbI_inj {a b : Bool} : (bI a = bI b) = (a = b) := by cases a <;> cases b <;> simp [bI] <;> decide
theorem zI_sI_eq {S : zS} {a k : Nat} {v : Int32} : zI (zsI S a k v) a k = v := by rw [zI_sI, if_pos ⟨rfl, rfl⟩]
theorem zI_sI_ne {S : zS} {a k b j : Nat} {v : Int32} (h : ¬ (b = a ∧ j = k)) : zI (zsI S a k v) b j = zI S b j := by rw [zI_sI, if_neg h]
theorem zJ_sJ_eq {S : zS} {a k : Nat} {v : Int64} : zJ (zsJ S a k v) a k = v := by rw [zJ_sJ, if_pos ⟨rfl, rfl⟩]
theorem zJ_sJ_ne {S : zS} {a k b j : Nat} {v : Int64} (h : ¬ (b = a ∧ j = k)) : zJ (zsJ S a k v) b j = zJ S b j := by rw [zJ_sJ, if_neg h]
theorem zD_sD_eq {S : zS} {a k : Nat} {v : UInt64} : zD (zsD S a k v) a k = v := by rw [zD_sD, if_pos ⟨rfl, rfl⟩]
theorem zD_sD_ne {S : zS} {a k b j : Nat} {v : UInt64} (h : ¬ (b = a ∧ j = k)) : zD (zsD S a k v) b j = zD S b j := by rw [zD_sD, if_neg h]
theorem zR_sR_eq {S : zS} {a k : Nat} {v : Option Nat} : zR (zsR S a k v) a k = v := by rw [zR_sR, if_pos ⟨rfl, rfl⟩]
theorem zR_sR_ne {S : zS} {a k b j : Nat} {v : Option Nat} (h : ¬ (b = a ∧ j = k)) : zR (zsR S a k v) b j = zR S b j := by rw [zR_sR, if_neg h]
theorem zN_div {a b : Nat} (ha : a < 2147483648) (hb : b < 2147483648) (h0 : 0 < b) : nI a / nI b = nI (a / b) := by
  have h1 : (nI a).toInt = a := by rw [nI_z]; exact iZ_t (by omega) (by omega)
  have h2 : (nI b).toInt = b := by rw [nI_z]; exact iZ_t (by omega) (by omega)
  have h4 := Nat.div_le_self a b
  have h5 : Int.tdiv (a : Int) (b : Int) = ((a / b : Nat) : Int) := Int.ofNat_tdiv a b
  generalize a / b = q at h4 h5
  have h3 : (nI q).toInt = (q : Int) := by rw [nI_z]; exact iZ_t (by omega) (by omega)
  apply Int32.toInt_inj.mp
  rw [Int32.toInt_div, h1, h2, h3, h5, Int.bmod_def]
  omega
theorem zL_n0 {a : Nat} (h : 0 < a) (h2 : a < 18446744073709551616) : (lN a = 0) = False := eq_false (by rw [show (0 : Int64) = lN 0 from rfl, lN_inj h2 (by decide)]; omega)
theorem zN_n0 {a : Nat} (h : 0 < a) (h2 : a < 2147483648) : (nI a = 0) = False := eq_false (by rw [show (0 : Int32) = nI 0 from rfl, zN_eq h2 (by decide)]; omega)
theorem zN11 : (nI 1 = 1) = True := eq_true rfl
theorem zN00 : (nI 0 = 0) = True := eq_true rfl
theorem zZN_add (a : Int) (b : Nat) : iZ a + nI b = iZ (a + b) := by rw [nI_z, iZ_add]
theorem zNZ_add (a : Nat) (b : Int) : nI a + iZ b = iZ (a + b) := by rw [nI_z, iZ_add]
theorem zZN_sub (a : Int) (b : Nat) : iZ a - nI b = iZ (a - b) := by rw [nI_z, iZ_sub]
theorem zNZ_sub (a : Nat) (b : Int) : nI a - iZ b = iZ (a - b) := by rw [nI_z, iZ_sub]
theorem zZN_lt {a : Int} {b : Nat} (h1 : -2147483648 ≤ a ∧ a < 2147483648) (h2 : b < 2147483648) : (iZ a < nI b) = (a < b) := by rw [nI_z, iZ_lt h1 (by omega)]
theorem zZN_le {a : Int} {b : Nat} (h1 : -2147483648 ≤ a ∧ a < 2147483648) (h2 : b < 2147483648) : (iZ a ≤ nI b) = (a ≤ b) := by rw [nI_z, iZ_le h1 (by omega)]
theorem zNZ_lt {a : Int} {b : Nat} (h1 : -2147483648 ≤ a ∧ a < 2147483648) (h2 : b < 2147483648) : (nI b < iZ a) = (b < a) := by rw [nI_z, iZ_lt (by omega) h1]
theorem zNZ_le {a : Int} {b : Nat} (h1 : -2147483648 ≤ a ∧ a < 2147483648) (h2 : b < 2147483648) : (nI b ≤ iZ a) = (b ≤ a) := by rw [nI_z, iZ_le (by omega) h1]
theorem zZN_eq {a : Int} {b : Nat} (h1 : -2147483648 ≤ a ∧ a < 2147483648) (h2 : b < 2147483648) : (iZ a = nI b) = (a = b) := by rw [nI_z, iZ_eq h1 (by omega)]
theorem zZZ_lt {a b : Int} (h1 : -2147483648 ≤ a ∧ a < 2147483648) (h2 : -2147483648 ≤ b ∧ b < 2147483648) : (iZ a < iZ b) = (a < b) := by rw [iZ_lt h1 h2]
theorem zZZ_le {a b : Int} (h1 : -2147483648 ≤ a ∧ a < 2147483648) (h2 : -2147483648 ≤ b ∧ b < 2147483648) : (iZ a ≤ iZ b) = (a ≤ b) := by rw [iZ_le h1 h2]
theorem zZZ_eq {a b : Int} (h1 : -2147483648 ≤ a ∧ a < 2147483648) (h2 : -2147483648 ≤ b ∧ b < 2147483648) : (iZ a = iZ b) = (a = b) := by rw [iZ_eq h1 h2]
theorem zL_e0 {a : Nat} (ha : a < 18446744073709551616) : (lN a = lN 0) = (a = 0) := propext (lN_inj ha (by decide))
/-- rows with side conditions -/
def zlt (k n : Nat) : Prop := k < n
theorem zlt_t {k n : Nat} (h : k < n) : zlt k n = True := eq_true h
/-- what omega is to show -/
def zom (p : Prop) : Prop := p
theorem zom_t {p : Prop} (h : p) : zom p = True := eq_true h
theorem zin_n {S : zS} {a c k : Nat} (h : k < 2147483648) : zin S a c (nI k) = ((zSh S a).1 = c ∧ zlt k (zSh S a).2) := by
  unfold zin vp_in zlt
  rw [nI_clamp (show k < 2 ^ 31 by omega)]
  have : ¬ (nI k < 0) := by rw [show (0 : Int32) = nI 0 from rfl, zN_lt h (by decide)]; omega
  apply propext
  constructor
  · rintro ⟨h1, h2⟩; exact ⟨h1, by omega⟩
  · rintro ⟨h1, h2⟩; exact ⟨h1, fun h => h.elim this (fun h => by omega)⟩
theorem zinI_n {S : zS} {a k : Nat} (h : k < 2147483648) : zinI S a (nI k) = (((zSh S a).1 = 20 ∨ (zSh S a).1 = 28) ∧ zlt k (zSh S a).2) := by
  unfold zinI vp_in zlt
  rw [nI_clamp (show k < 2 ^ 31 by omega)]
  have : ¬ (nI k < 0) := by rw [show (0 : Int32) = nI 0 from rfl, zN_lt h (by decide)]; omega
  apply propext
  constructor
  · rintro ⟨h1, h2⟩; exact ⟨h1, by omega⟩
  · rintro ⟨h1, h2⟩; exact ⟨h1, fun h => h.elim this (fun h => by omega)⟩
theorem zinR_n {S : zS} {a k : Nat} (h : k < 2147483648) : zinR S a (nI k) = ((24 ≤ (zSh S a).1 ∧ (zSh S a).1 ≤ 27) ∧ zlt k (zSh S a).2) := by
  unfold zinR vp_in zlt
  rw [nI_clamp (show k < 2 ^ 31 by omega)]
  have : ¬ (nI k < 0) := by rw [show (0 : Int32) = nI 0 from rfl, zN_lt h (by decide)]; omega
  apply propext
  constructor
  · rintro ⟨h1, h2⟩; exact ⟨h1, by omega⟩
  · rintro ⟨h1, h2⟩; exact ⟨h1, fun h => h.elim this (fun h => by omega)⟩
/-- a loop upwards -/
theorem zlp {N : Nat} {P : Nat → Prop} (h : ∀ i, i ≤ N → (i < N → P (i + 1)) → P i) : ∀ i, i ≤ N → P i := by
  have q : ∀ j i, i + j = N → P i := by
    intro j
    induction j with
    | zero => intro i hi; exact h i (by omega) (fun h => by omega)
    | succ j ih => intro i hi; exact h i (by omega) (fun h => ih (i + 1) (by omega))
  exact fun i hi => q (N - i) i (by omega)
/-- a matrix of the class -/
def zMag (S : zS) (o r c : Nat) (g : Nat → Nat → UInt64) : Prop := zMok S o ∧ zMr S o = r ∧ zMc S o = c ∧ ∀ i j, i < r → j < c → zJ S (o + 1) (8 * i + j) = zuJ (g i j)
theorem zcu_X3_at {o i j : Nat} (hi : i < zMr S o) (hj : j < zMc S o) : ct_X3_at.1 [.ref o, .int (nI i), .int (nI j)] S K = (zMok S o ∧ K (some (.long (zJ S (o + 1) (8 * i + j)))) S) := by
  rw [zc_X3_at]
  refine propext (and_congr_right fun h => ?_)
  have e : (if zMin S o (nI i) (nI j) = true then zJ S (o + 1) (8 * (nI i).toInt.toNat + (nI j).toInt.toNat) else lN 0) = zJ S (o + 1) (8 * i + j) := by
    rw [zMat_at h i j hi hj]; unfold zMe; rw [lN_un]
  rw [e]
theorem zcu_X3_store {o i j : Nat} (hi : i < zMr S o) (hj : j < zMc S o) : ct_X3_store.1 [.ref o, .int (nI i), .int (nI j), .long (zuJ a)] S K = (zMok S o ∧ K none (zsJ S (o + 1) (8 * i + j) (zuJ (zUz a)))) := by
  rw [zc_X3_store]
  refine propext (and_congr_right fun h => ?_)
  have ⟨k1, k2, k3, ⟨k4, k5⟩, k6, k7⟩ := h
  rw [zMin_nI h (by omega) (by omega), decide_eq_true ⟨hi, hj⟩, if_pos rfl, nI_nat (by omega), nI_nat (by omega)]
  rfl
end ZU64
