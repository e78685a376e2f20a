/-! the law: what the methods answer and change, as relations (written by wip/whole/gen/law2.py) -/
section ZSPC
def zP_matrix (σ : zSt) (f : Int32) (r : Int32) (c : Int32) (a : Int32) (b : Int32) (v_ : Int32) (σ' : zSt) : Prop := (((zfrI σ.1 24 = iZ (-1) ∨ zsnd f r c a b = false)) ∧ v_ = (iZ (-1)) ∧ σ' = σ) ∨ (∃ k f' r' c' a' b', (k < 24) ∧ (σ.1 k = none) ∧ (zfrI σ.1 24 = nI k) ∧ (f = nI f') ∧ (r = nI r') ∧ (c = nI c') ∧ (a = nI a') ∧ (b = nI b') ∧ (zsnd (nI f') (nI r') (nI c') (nI a') (nI b') = true) ∧ v_ = (nI k) ∧ σ' = (zupo σ.1 k (some (f', r', c', a', b', fun _ _ => 0)), σ.2))
theorem zpC_matrix {S : zS} {K : Option Value → zS → Prop} {o : Nat} {σ : zSt} {f : Int32} {r : Int32} {c : Int32} {a : Int32} {b : Int32} (hC : zCi S o σ) (g : zGd σ) (H : ∀ w_ T σ', zP_matrix σ f r c a b w_ σ' → zFr (zRg o) S T → zCi T o σ' → K (some (.int w_)) T) : ct_X10_matrix.1 [.ref o, .int f, .int r, .int c, .int a, .int b] S K := by
  rw [zc_X10_matrix]
  exact ⟨σ, hC, fun h1 => H _ S σ (Or.inl (⟨h1, rfl, rfl⟩)) zFr.refl hC, fun k f' r' c' a' b' h1 h2 h3 h4 h5 h6 h7 h8 h9 T f c => H _ T _ (Or.inr (⟨k, f', r', c', a', b', h1, h2, h3, h4, h5, h6, h7, h8, h9, rfl, rfl⟩)) f c⟩
theorem zpM_matrix {S : zS} {K : Option Value → zS → Prop} {p : Nat} {σ : zSt} {f : Int32} {r : Int32} {c : Int32} {a : Int32} {b : Int32} (hM : zMi S p σ) (g : zGd σ) (H : ∀ w_ T σ', zP_matrix σ f r c a b w_ σ' → zFr (zRm p) S T → zMi T p σ' → K (some (.int w_)) T) : ct_X11_matrix.1 [.ref p, .int f, .int r, .int c, .int a, .int b] S K := by
  rw [zc_X11_matrix]
  exact ⟨σ, hM, fun h1 => H _ S σ (Or.inl (⟨h1, rfl, rfl⟩)) zFr.refl hM, fun k f' r' c' a' b' h1 h2 h3 h4 h5 h6 h7 h8 h9 T f c => H _ T _ (Or.inr (⟨k, f', r', c', a', b', h1, h2, h3, h4, h5, h6, h7, h8, h9, rfl, rfl⟩)) f c⟩
def zP_drop (σ : zSt) (m : Int32) (v_ : Int32) (σ' : zSt) : Prop := ((zmx σ.1 m = none) ∧ v_ = (nI 0) ∧ σ' = σ) ∨ (∃ k x, (m = nI k) ∧ (k < 2147483648) ∧ (σ.1 k = some x) ∧ v_ = (nI 1) ∧ σ' = (zupo σ.1 k none, σ.2))
theorem zpC_drop {S : zS} {K : Option Value → zS → Prop} {o : Nat} {σ : zSt} {m : Int32} (hC : zCi S o σ) (g : zGd σ) (H : ∀ w_ T σ', zP_drop σ m w_ σ' → zFr (zRg o) S T → zCi T o σ' → K (some (.int w_)) T) : ct_X10_drop.1 [.ref o, .int m] S K := by
  rw [zc_X10_drop]
  exact ⟨σ, hC, fun h1 => H _ S σ (Or.inl (⟨h1, rfl, rfl⟩)) zFr.refl hC, fun k x h1 h2 h3 T f c => H _ T _ (Or.inr (⟨k, x, h1, h2, h3, rfl, rfl⟩)) f c⟩
theorem zpM_drop {S : zS} {K : Option Value → zS → Prop} {p : Nat} {σ : zSt} {m : Int32} (hM : zMi S p σ) (g : zGd σ) (H : ∀ w_ T σ', zP_drop σ m w_ σ' → zFr (zRm p) S T → zMi T p σ' → K (some (.int w_)) T) : ct_X11_drop.1 [.ref p, .int m] S K := by
  rw [zc_X11_drop]
  exact ⟨σ, hM, fun h1 => H _ S σ (Or.inl (⟨h1, rfl, rfl⟩)) zFr.refl hM, fun k x h1 h2 h3 T f c => H _ T _ (Or.inr (⟨k, x, h1, h2, h3, rfl, rfl⟩)) f c⟩
def zP_put (σ : zSt) (m : Int32) (i : Int32) (j : Int32) (v : UInt64) (v_ : Int32) (σ' : zSt) : Prop := (((∀ k x i' j', m = nI k → k < 2147483648 → σ.1 k = some x → i = nI i' → i' < 2147483648 → j = nI j' → j' < 2147483648 → ¬ zptO x i' j' v)) ∧ v_ = (nI 0) ∧ σ' = σ) ∨ (∃ k x i' j', (m = nI k) ∧ (k < 2147483648) ∧ (σ.1 k = some x) ∧ (i = nI i') ∧ (j = nI j') ∧ (zptO x i' j' v) ∧ v_ = (nI 1) ∧ σ' = (zupo σ.1 k (some (x.1, x.2.1, x.2.2.1, x.2.2.2.1, x.2.2.2.2.1, zgS x.2.2.2.2.2 i' j' (zUz v))), σ.2))
theorem zpC_put {S : zS} {K : Option Value → zS → Prop} {o : Nat} {σ : zSt} {m : Int32} {i : Int32} {j : Int32} {v : UInt64} (hC : zCi S o σ) (g : zGd σ) (H : ∀ w_ T σ', zP_put σ m i j v w_ σ' → zFr (zRg o) S T → zCi T o σ' → K (some (.int w_)) T) : ct_X10_put.1 [.ref o, .int m, .int i, .int j, .long (zuJ v)] S K := by
  rw [zc_X10_put]
  exact ⟨σ, hC, fun h1 => H _ S σ (Or.inl (⟨h1, rfl, rfl⟩)) zFr.refl hC, fun k x i' j' h1 h2 h3 h4 h5 h6 T f c => H _ T _ (Or.inr (⟨k, x, i', j', h1, h2, h3, h4, h5, h6, rfl, rfl⟩)) f c⟩
theorem zpM_put {S : zS} {K : Option Value → zS → Prop} {p : Nat} {σ : zSt} {m : Int32} {i : Int32} {j : Int32} {v : UInt64} (hM : zMi S p σ) (g : zGd σ) (H : ∀ w_ T σ', zP_put σ m i j v w_ σ' → zFr (zRm p) S T → zMi T p σ' → K (some (.int w_)) T) : ct_X11_put.1 [.ref p, .int m, .int i, .int j, .long (zuJ v)] S K := by
  rw [zc_X11_put]
  exact ⟨σ, ⟨hM, g.1⟩, fun h1 => H _ S σ (Or.inl (⟨h1, rfl, rfl⟩)) zFr.refl hM, fun k x i' j' h1 h2 h3 h4 h5 h6 T f c => H _ T _ (Or.inr (⟨k, x, i', j', h1, h2, h3, h4, h5, h6, rfl, rfl⟩)) f c⟩
def zP_get (σ : zSt) (m : Int32) (i : Int32) (j : Int32) (v_ : Int64) (σ' : zSt) : Prop := ((zmx σ.1 m = none) ∧ v_ = (lN 18446744073709551615) ∧ σ' = σ) ∨ (∃ k x, (m = nI k) ∧ (k < 2147483648) ∧ (σ.1 k = some x) ∧ v_ = (if 0 ≤ i.toInt ∧ i.toInt < x.2.1 ∧ 0 ≤ j.toInt ∧ j.toInt < x.2.2.1 then zuJ (x.2.2.2.2.2 i.toInt.toNat j.toInt.toNat) else lN 18446744073709551615) ∧ σ' = σ)
theorem zpC_get {S : zS} {K : Option Value → zS → Prop} {o : Nat} {σ : zSt} {m : Int32} {i : Int32} {j : Int32} (hC : zCi S o σ) (g : zGd σ) (H : ∀ w_ T σ', zP_get σ m i j w_ σ' → zFr (zRg o) S T → zCi T o σ' → K (some (.long w_)) T) : ct_X10_get.1 [.ref o, .int m, .int i, .int j] S K := by
  rw [zc_X10_get]
  exact ⟨σ, hC, fun h1 => H _ S σ (Or.inl (⟨h1, rfl, rfl⟩)) zFr.refl hC, fun k x h1 h2 h3 => H _ S σ (Or.inr (⟨k, x, h1, h2, h3, rfl, rfl⟩)) zFr.refl hC⟩
theorem zpM_get {S : zS} {K : Option Value → zS → Prop} {p : Nat} {σ : zSt} {m : Int32} {i : Int32} {j : Int32} (hM : zMi S p σ) (g : zGd σ) (H : ∀ w_ T σ', zP_get σ m i j w_ σ' → zFr (zRm p) S T → zMi T p σ' → K (some (.long w_)) T) : ct_X11_get.1 [.ref p, .int m, .int i, .int j] S K := by
  rw [zc_X11_get]
  exact ⟨σ, ⟨hM, g.1⟩, fun h1 => H _ S σ (Or.inl (⟨h1, rfl, rfl⟩)) zFr.refl hM, fun k x h1 h2 h3 => H _ S σ (Or.inr (⟨k, x, h1, h2, h3, rfl, rfl⟩)) zFr.refl hM⟩
def zP_shape (σ : zSt) (m : Int32) (w : Int32) (v_ : Int32) (σ' : zSt) : Prop := ((zmx σ.1 m = none) ∧ v_ = (iZ (-1)) ∧ σ' = σ) ∨ (∃ k x, (m = nI k) ∧ (k < 2147483648) ∧ (σ.1 k = some x) ∧ v_ = (zshp x w) ∧ σ' = σ)
theorem zpC_shape {S : zS} {K : Option Value → zS → Prop} {o : Nat} {σ : zSt} {m : Int32} {w : Int32} (hC : zCi S o σ) (g : zGd σ) (H : ∀ w_ T σ', zP_shape σ m w w_ σ' → zFr (zRg o) S T → zCi T o σ' → K (some (.int w_)) T) : ct_X10_shape.1 [.ref o, .int m, .int w] S K := by
  rw [zc_X10_shape]
  exact ⟨σ, hC, fun h1 => H _ S σ (Or.inl (⟨h1, rfl, rfl⟩)) zFr.refl hC, fun k x h1 h2 h3 => H _ S σ (Or.inr (⟨k, x, h1, h2, h3, rfl, rfl⟩)) zFr.refl hC⟩
theorem zpM_shape {S : zS} {K : Option Value → zS → Prop} {p : Nat} {σ : zSt} {m : Int32} {w : Int32} (hM : zMi S p σ) (g : zGd σ) (H : ∀ w_ T σ', zP_shape σ m w w_ σ' → zFr (zRm p) S T → zMi T p σ' → K (some (.int w_)) T) : ct_X11_shape.1 [.ref p, .int m, .int w] S K := by
  rw [zc_X11_shape]
  exact ⟨σ, ⟨hM, g.1⟩, fun h1 => H _ S σ (Or.inl (⟨h1, rfl, rfl⟩)) zFr.refl hM, fun k x h1 h2 h3 => H _ S σ (Or.inr (⟨k, x, h1, h2, h3, rfl, rfl⟩)) zFr.refl hM⟩
def zP_sum (σ : zSt) (m : Int32) (n : Int32) (v_ : Int32) (σ' : zSt) : Prop := (((zmx σ.1 m = none ∨ zmx σ.1 n = none ∨ zfrI σ.1 24 = iZ (-1) ∨ ∀ x y, zmx σ.1 m = some x → zmx σ.1 n = some y → ¬ (x.2.1 = y.2.1 ∧ x.2.2.1 = y.2.2.1 ∧ zsmF x y = true))) ∧ v_ = (iZ (-1)) ∧ σ' = σ) ∨ (∃ x y k, (zmx σ.1 m = some x) ∧ (zmx σ.1 n = some y) ∧ (k < 24) ∧ (σ.1 k = none) ∧ (zfrI σ.1 24 = nI k) ∧ (x.2.1 = y.2.1) ∧ (x.2.2.1 = y.2.2.1) ∧ (zsmF x y = true) ∧ v_ = (nI k) ∧ σ' = (zupo σ.1 k (some (0, x.2.1, x.2.2.1, 0, 0, fun i j => zUz (zsmG x y i j))), σ.2))
theorem zpC_sum {S : zS} {K : Option Value → zS → Prop} {o : Nat} {σ : zSt} {m : Int32} {n : Int32} (hC : zCi S o σ) (g : zGd σ) (H : ∀ w_ T σ', zP_sum σ m n w_ σ' → zFr (zRg o) S T → zCi T o σ' → K (some (.int w_)) T) : ct_X10_sum.1 [.ref o, .int m, .int n] S K := by
  rw [zc_X10_sum]
  exact ⟨σ, ⟨hC, g.1⟩, fun h1 T f c => H _ T _ (Or.inl (⟨h1, rfl, rfl⟩)) f c, fun x y k h1 h2 h3 h4 h5 h6 h7 h8 T f c => H _ T _ (Or.inr (⟨x, y, k, h1, h2, h3, h4, h5, h6, h7, h8, rfl, rfl⟩)) f c⟩
theorem zpM_sum {S : zS} {K : Option Value → zS → Prop} {p : Nat} {σ : zSt} {m : Int32} {n : Int32} (hM : zMi S p σ) (g : zGd σ) (H : ∀ w_ T σ', zP_sum σ m n w_ σ' → zFr (zRm p) S T → zMi T p σ' → K (some (.int w_)) T) : ct_X11_sum.1 [.ref p, .int m, .int n] S K := by
  rw [zc_X11_sum]
  exact ⟨σ, ⟨hM, g.1⟩, fun h1 T f c => H _ T _ (Or.inl (⟨h1, rfl, rfl⟩)) f c, fun x y k h1 h2 h3 h4 h5 h6 h7 h8 T f c => H _ T _ (Or.inr (⟨x, y, k, h1, h2, h3, h4, h5, h6, h7, h8, rfl, rfl⟩)) f c⟩
def zP_product (σ : zSt) (m : Int32) (n : Int32) (fu : Bool) (v_ : Int32) (σ' : zSt) : Prop := (((zmx σ.1 m = none ∨ zmx σ.1 n = none ∨ zfrI σ.1 24 = iZ (-1) ∨ ∀ x y, zmx σ.1 m = some x → zmx σ.1 n = some y → ¬ (x.2.2.1 = y.2.1 ∧ zpdF fu x y = true))) ∧ v_ = (iZ (-1)) ∧ σ' = σ) ∨ (∃ x y k, (zmx σ.1 m = some x) ∧ (zmx σ.1 n = some y) ∧ (k < 24) ∧ (σ.1 k = none) ∧ (zfrI σ.1 24 = nI k) ∧ (x.2.2.1 = y.2.1) ∧ (zpdF fu x y = true) ∧ v_ = (nI k) ∧ σ' = (zupo σ.1 k (some (0, x.2.1, y.2.2.1, 0, 0, fun i j => zUz (zpdG fu x y i j))), σ.2))
theorem zpC_product {S : zS} {K : Option Value → zS → Prop} {o : Nat} {σ : zSt} {m : Int32} {n : Int32} {fu : Bool} (hC : zCi S o σ) (g : zGd σ) (H : ∀ w_ T σ', zP_product σ m n fu w_ σ' → zFr (zRg o) S T → zCi T o σ' → K (some (.int w_)) T) : ct_X10_product.1 [.ref o, .int m, .int n, .int (bI fu)] S K := by
  rw [zc_X10_product]
  exact ⟨σ, ⟨hC, g.1⟩, fun h1 T f c => H _ T _ (Or.inl (⟨h1, rfl, rfl⟩)) f c, fun x y k h1 h2 h3 h4 h5 h6 h7 T f c => H _ T _ (Or.inr (⟨x, y, k, h1, h2, h3, h4, h5, h6, h7, rfl, rfl⟩)) f c⟩
theorem zpM_product {S : zS} {K : Option Value → zS → Prop} {p : Nat} {σ : zSt} {m : Int32} {n : Int32} {fu : Bool} (hM : zMi S p σ) (g : zGd σ) (H : ∀ w_ T σ', zP_product σ m n fu w_ σ' → zFr (zRm p) S T → zMi T p σ' → K (some (.int w_)) T) : ct_X11_product.1 [.ref p, .int m, .int n, .int (bI fu)] S K := by
  rw [zc_X11_product]
  exact ⟨σ, ⟨hM, g.1⟩, fun h1 T f c => H _ T _ (Or.inl (⟨h1, rfl, rfl⟩)) f c, fun x y k h1 h2 h3 h4 h5 h6 h7 T f c => H _ T _ (Or.inr (⟨x, y, k, h1, h2, h3, h4, h5, h6, h7, rfl, rfl⟩)) f c⟩
def zP_transpose (σ : zSt) (m : Int32) (v_ : Int32) (σ' : zSt) : Prop := (((zmx σ.1 m = none ∨ zfrI σ.1 24 = iZ (-1))) ∧ v_ = (iZ (-1)) ∧ σ' = σ) ∨ (∃ x k, (zmx σ.1 m = some x) ∧ (k < 24) ∧ (σ.1 k = none) ∧ (zfrI σ.1 24 = nI k) ∧ v_ = (nI k) ∧ σ' = (zupo σ.1 k (some (0, x.2.2.1, x.2.1, 0, 0, fun i j => x.2.2.2.2.2 j i)), σ.2))
theorem zpC_transpose {S : zS} {K : Option Value → zS → Prop} {o : Nat} {σ : zSt} {m : Int32} (hC : zCi S o σ) (g : zGd σ) (H : ∀ w_ T σ', zP_transpose σ m w_ σ' → zFr (zRg o) S T → zCi T o σ' → K (some (.int w_)) T) : ct_X10_transpose.1 [.ref o, .int m] S K := by
  rw [zc_X10_transpose]
  exact ⟨σ, ⟨hC, g.1⟩, fun h1 => H _ S σ (Or.inl (⟨h1, rfl, rfl⟩)) zFr.refl hC, fun x k h1 h2 h3 h4 T f c => H _ T _ (Or.inr (⟨x, k, h1, h2, h3, h4, rfl, rfl⟩)) f c⟩
theorem zpM_transpose {S : zS} {K : Option Value → zS → Prop} {p : Nat} {σ : zSt} {m : Int32} (hM : zMi S p σ) (g : zGd σ) (H : ∀ w_ T σ', zP_transpose σ m w_ σ' → zFr (zRm p) S T → zMi T p σ' → K (some (.int w_)) T) : ct_X11_transpose.1 [.ref p, .int m] S K := by
  rw [zc_X11_transpose]
  exact ⟨σ, ⟨hM, g.1⟩, fun h1 T f c => H _ T _ (Or.inl (⟨h1, rfl, rfl⟩)) f c, fun x k h1 h2 h3 h4 T f c => H _ T _ (Or.inr (⟨x, k, h1, h2, h3, h4, rfl, rfl⟩)) f c⟩
def zP_formed (σ : zSt) (m : Int32) (f : Int32) (a : Int32) (b : Int32) (v_ : Int32) (σ' : zSt) : Prop := (((zmx σ.1 m = none ∨ zfrI σ.1 24 = iZ (-1) ∨ ∀ x, zmx σ.1 m = some x → ¬ (zsnd f (nI x.2.1) (nI x.2.2.1) a b = true ∧ ∀ f' a' b', f = nI f' → a = nI a' → b = nI b' → f' ≤ 4 → a' ≤ 8 → b' ≤ 8 → zfmP x f' a' b' = true ∧ (f' = 3 → zfil0 x.2.1 x.2.2.1 x.2.2.2.2.2 ≤ 20)))) ∧ v_ = (iZ (-1)) ∧ σ' = σ) ∨ (∃ x k f' a' b', (zmx σ.1 m = some x) ∧ (k < 24) ∧ (σ.1 k = none) ∧ (zfrI σ.1 24 = nI k) ∧ (f = nI f') ∧ (a = nI a') ∧ (b = nI b') ∧ (zsnd (nI f') (nI x.2.1) (nI x.2.2.1) (nI a') (nI b') = true) ∧ (zfmP x f' a' b' = true) ∧ ((f' = 3 → zfil0 x.2.1 x.2.2.1 x.2.2.2.2.2 ≤ 20)) ∧ v_ = (nI k) ∧ σ' = (zupo σ.1 k (some (f', x.2.1, x.2.2.1, a', b', x.2.2.2.2.2)), σ.2))
theorem zpC_formed {S : zS} {K : Option Value → zS → Prop} {o : Nat} {σ : zSt} {m : Int32} {f : Int32} {a : Int32} {b : Int32} (hC : zCi S o σ) (g : zGd σ) (H : ∀ w_ T σ', zP_formed σ m f a b w_ σ' → zFr (zRg o) S T → zCi T o σ' → K (some (.int w_)) T) : ct_X10_formed.1 [.ref o, .int m, .int f, .int a, .int b] S K := by
  rw [zc_X10_formed]
  exact ⟨σ, ⟨hC, g.1⟩, fun h1 T f c => H _ T _ (Or.inl (⟨h1, rfl, rfl⟩)) f c, fun x k f' a' b' h1 h2 h3 h4 h5 h6 h7 h8 h9 h10 T f c => H _ T _ (Or.inr (⟨x, k, f', a', b', h1, h2, h3, h4, h5, h6, h7, h8, h9, h10, rfl, rfl⟩)) f c⟩
theorem zpM_formed {S : zS} {K : Option Value → zS → Prop} {p : Nat} {σ : zSt} {m : Int32} {f : Int32} {a : Int32} {b : Int32} (hM : zMi S p σ) (g : zGd σ) (H : ∀ w_ T σ', zP_formed σ m f a b w_ σ' → zFr (zRm p) S T → zMi T p σ' → K (some (.int w_)) T) : ct_X11_formed.1 [.ref p, .int m, .int f, .int a, .int b] S K := by
  rw [zc_X11_formed]
  exact ⟨σ, ⟨hM, g.1⟩, fun h1 T f c => H _ T _ (Or.inl (⟨h1, rfl, rfl⟩)) f c, fun x k f' a' b' h1 h2 h3 h4 h5 h6 h7 h8 h9 h10 T f c => H _ T _ (Or.inr (⟨x, k, f', a', b', h1, h2, h3, h4, h5, h6, h7, h8, h9, h10, rfl, rfl⟩)) f c⟩
def zP_block (σ : zSt) (m : Int32) (i : Int32) (j : Int32) (r : Int32) (c : Int32) (v_ : Int32) (σ' : zSt) : Prop := (((zmx σ.1 m = none ∨ zfrI σ.1 24 = iZ (-1) ∨ ∀ x, zmx σ.1 m = some x → ¬ (0 ≤ i.toInt ∧ i.toInt < x.2.1 ∧ 0 ≤ j.toInt ∧ j.toInt < x.2.2.1 ∧ 1 ≤ r.toInt ∧ 1 ≤ c.toInt ∧ r.toInt ≤ x.2.1 - i.toInt ∧ c.toInt ≤ x.2.2.1 - j.toInt))) ∧ v_ = (iZ (-1)) ∧ σ' = σ) ∨ (∃ x k i' j' r' c', (zmx σ.1 m = some x) ∧ (k < 24) ∧ (σ.1 k = none) ∧ (zfrI σ.1 24 = nI k) ∧ (i = nI i') ∧ (j = nI j') ∧ (r = nI r') ∧ (c = nI c') ∧ (1 ≤ r') ∧ (1 ≤ c') ∧ (i' + r' ≤ x.2.1) ∧ (j' + c' ≤ x.2.2.1) ∧ v_ = (nI k) ∧ σ' = (zupo σ.1 k (some (0, r', c', 0, 0, fun p q => x.2.2.2.2.2 (i' + p) (j' + q))), σ.2))
theorem zpC_block {S : zS} {K : Option Value → zS → Prop} {o : Nat} {σ : zSt} {m : Int32} {i : Int32} {j : Int32} {r : Int32} {c : Int32} (hC : zCi S o σ) (g : zGd σ) (H : ∀ w_ T σ', zP_block σ m i j r c w_ σ' → zFr (zRg o) S T → zCi T o σ' → K (some (.int w_)) T) : ct_X10_block.1 [.ref o, .int m, .int i, .int j, .int r, .int c] S K := by
  rw [zc_X10_block]
  exact ⟨σ, ⟨hC, g.1⟩, fun h1 => H _ S σ (Or.inl (⟨h1, rfl, rfl⟩)) zFr.refl hC, fun x k i' j' r' c' h1 h2 h3 h4 h5 h6 h7 h8 h9 h10 h11 h12 T f c => H _ T _ (Or.inr (⟨x, k, i', j', r', c', h1, h2, h3, h4, h5, h6, h7, h8, h9, h10, h11, h12, rfl, rfl⟩)) f c⟩
theorem zpM_block {S : zS} {K : Option Value → zS → Prop} {p : Nat} {σ : zSt} {m : Int32} {i : Int32} {j : Int32} {r : Int32} {c : Int32} (hM : zMi S p σ) (g : zGd σ) (H : ∀ w_ T σ', zP_block σ m i j r c w_ σ' → zFr (zRm p) S T → zMi T p σ' → K (some (.int w_)) T) : ct_X11_block.1 [.ref p, .int m, .int i, .int j, .int r, .int c] S K := by
  rw [zc_X11_block]
  exact ⟨σ, ⟨hM, g.1⟩, fun h1 T f c => H _ T _ (Or.inl (⟨h1, rfl, rfl⟩)) f c, fun x k i' j' r' c' h1 h2 h3 h4 h5 h6 h7 h8 h9 h10 h11 h12 T f c => H _ T _ (Or.inr (⟨x, k, i', j', r', c', h1, h2, h3, h4, h5, h6, h7, h8, h9, h10, h11, h12, rfl, rfl⟩)) f c⟩
def zP_same (σ : zSt) (m : Int32) (n : Int32) (v_ : Int32) (σ' : zSt) : Prop := (((zmx σ.1 m = none ∨ zmx σ.1 n = none)) ∧ v_ = (iZ (-1)) ∧ σ' = σ) ∨ (∃ x y, (zmx σ.1 m = some x) ∧ (zmx σ.1 n = some y) ∧ v_ = (bI (zsmN x y)) ∧ σ' = σ)
theorem zpC_same {S : zS} {K : Option Value → zS → Prop} {o : Nat} {σ : zSt} {m : Int32} {n : Int32} (hC : zCi S o σ) (g : zGd σ) (H : ∀ w_ T σ', zP_same σ m n w_ σ' → zFr (zRg o) S T → zCi T o σ' → K (some (.int w_)) T) : ct_X10_same.1 [.ref o, .int m, .int n] S K := by
  rw [zc_X10_same]
  exact ⟨σ, hC, fun h1 => H _ S σ (Or.inl (⟨h1, rfl, rfl⟩)) zFr.refl hC, fun x y h1 h2 => H _ S σ (Or.inr (⟨x, y, h1, h2, rfl, rfl⟩)) zFr.refl hC⟩
theorem zpM_same {S : zS} {K : Option Value → zS → Prop} {p : Nat} {σ : zSt} {m : Int32} {n : Int32} (hM : zMi S p σ) (g : zGd σ) (H : ∀ w_ T σ', zP_same σ m n w_ σ' → zFr (zRm p) S T → zMi T p σ' → K (some (.int w_)) T) : ct_X11_same.1 [.ref p, .int m, .int n] S K := by
  rw [zc_X11_same]
  exact ⟨σ, ⟨hM, g.1⟩, fun h1 => H _ S σ (Or.inl (⟨h1, rfl, rfl⟩)) zFr.refl hM, fun x y h1 h2 => H _ S σ (Or.inr (⟨x, y, h1, h2, rfl, rfl⟩)) zFr.refl hM⟩
def zP_factor (σ : zSt) (m : Int32) (me : Int32) (fu : Bool) (v_ : Int32) (σ' : zSt) : Prop := (((zmx σ.1 m = none ∨ zfrI σ.2.1 12 = iZ (-1) ∨ ¬ (0 ≤ me.toInt ∧ me.toInt ≤ 3) ∨ ∀ x, zmx σ.1 m = some x → x.2.1 ≠ x.2.2.1)) ∧ v_ = (iZ (-1)) ∧ σ' = σ) ∨ (∃ x k me' j, (zmx σ.1 m = some x) ∧ (k < 12) ∧ (σ.2.1 k = none) ∧ (zfrI σ.2.1 12 = nI k) ∧ (me = nI me') ∧ (me' < 4) ∧ (x.2.1 = x.2.2.1) ∧ (zmkF me' fu x.2.1 x.2.2.2.2.2 = .inl j) ∧ v_ = (iZ (-2 - (j : Int))) ∧ σ' = σ) ∨ (∃ x k me' y, (zmx σ.1 m = some x) ∧ (k < 12) ∧ (σ.2.1 k = none) ∧ (zfrI σ.2.1 12 = nI k) ∧ (me = nI me') ∧ (me' < 4) ∧ (x.2.1 = x.2.2.1) ∧ (zmkF me' fu x.2.1 x.2.2.2.2.2 = .inr y) ∧ v_ = (nI k) ∧ σ' = (σ.1, zupo σ.2.1 k (some y), σ.2.2))
theorem zpC_factor {S : zS} {K : Option Value → zS → Prop} {o : Nat} {σ : zSt} {m : Int32} {me : Int32} {fu : Bool} (hC : zCi S o σ) (g : zGd σ) (H : ∀ w_ T σ', zP_factor σ m me fu w_ σ' → zFr (zRg o) S T → zCi T o σ' → K (some (.int w_)) T) : ct_X10_factor.1 [.ref o, .int m, .int me, .int (bI fu)] S K := by
  rw [zc_X10_factor]
  exact ⟨σ, ⟨hC, g.1⟩, fun h1 => H _ S σ (Or.inl (⟨h1, rfl, rfl⟩)) zFr.refl hC, fun x k me' j h1 h2 h3 h4 h5 h6 h7 h8 T f c => H _ T _ (Or.inr (Or.inl (⟨x, k, me', j, h1, h2, h3, h4, h5, h6, h7, h8, rfl, rfl⟩))) f c, fun x k me' y h1 h2 h3 h4 h5 h6 h7 h8 T f c => H _ T _ (Or.inr (Or.inr (⟨x, k, me', y, h1, h2, h3, h4, h5, h6, h7, h8, rfl, rfl⟩))) f c⟩
theorem zpM_factor {S : zS} {K : Option Value → zS → Prop} {p : Nat} {σ : zSt} {m : Int32} {me : Int32} {fu : Bool} (hM : zMi S p σ) (g : zGd σ) (H : ∀ w_ T σ', zP_factor σ m me fu w_ σ' → zFr (zRm p) S T → zMi T p σ' → K (some (.int w_)) T) : ct_X11_factor.1 [.ref p, .int m, .int me, .int (bI fu)] S K := by
  rw [zc_X11_factor]
  exact ⟨σ, ⟨hM, g.1, g.2.1⟩, fun h1 => H _ S σ (Or.inl (⟨h1, rfl, rfl⟩)) zFr.refl hM, fun x k me' j h1 h2 h3 h4 h5 h6 h7 h8 T f c => H _ T _ (Or.inr (Or.inl (⟨x, k, me', j, h1, h2, h3, h4, h5, h6, h7, h8, rfl, rfl⟩))) f c, fun x k me' y h1 h2 h3 h4 h5 h6 h7 h8 T f c => H _ T _ (Or.inr (Or.inr (⟨x, k, me', y, h1, h2, h3, h4, h5, h6, h7, h8, rfl, rfl⟩))) f c⟩
def zP_release (σ : zSt) (m : Int32) (v_ : Int32) (σ' : zSt) : Prop := ((zmx σ.2.1 m = none) ∧ v_ = (nI 0) ∧ σ' = σ) ∨ (∃ k x, (m = nI k) ∧ (k < 2147483648) ∧ (σ.2.1 k = some x) ∧ v_ = (nI 1) ∧ σ' = (σ.1, zupo σ.2.1 k none, σ.2.2))
theorem zpC_release {S : zS} {K : Option Value → zS → Prop} {o : Nat} {σ : zSt} {m : Int32} (hC : zCi S o σ) (g : zGd σ) (H : ∀ w_ T σ', zP_release σ m w_ σ' → zFr (zRg o) S T → zCi T o σ' → K (some (.int w_)) T) : ct_X10_release.1 [.ref o, .int m] S K := by
  rw [zc_X10_release]
  exact ⟨σ, hC, fun h1 => H _ S σ (Or.inl (⟨h1, rfl, rfl⟩)) zFr.refl hC, fun k x h1 h2 h3 T f c => H _ T _ (Or.inr (⟨k, x, h1, h2, h3, rfl, rfl⟩)) f c⟩
theorem zpM_release {S : zS} {K : Option Value → zS → Prop} {p : Nat} {σ : zSt} {m : Int32} (hM : zMi S p σ) (g : zGd σ) (H : ∀ w_ T σ', zP_release σ m w_ σ' → zFr (zRm p) S T → zMi T p σ' → K (some (.int w_)) T) : ct_X11_release.1 [.ref p, .int m] S K := by
  rw [zc_X11_release]
  exact ⟨σ, hM, fun h1 => H _ S σ (Or.inl (⟨h1, rfl, rfl⟩)) zFr.refl hM, fun k x h1 h2 h3 T f c => H _ T _ (Or.inr (⟨k, x, h1, h2, h3, rfl, rfl⟩)) f c⟩
def zP_part (σ : zSt) (m : Int32) (i : Int32) (j : Int32) (v_ : Int64) (σ' : zSt) : Prop := ((zmx σ.2.1 m = none) ∧ v_ = (lN 18446744073709551615) ∧ σ' = σ) ∨ (∃ k x, (m = nI k) ∧ (k < 2147483648) ∧ (σ.2.1 k = some x) ∧ v_ = (if 0 ≤ i.toInt ∧ i.toInt < x.1 ∧ 0 ≤ j.toInt ∧ j.toInt < x.1 then zuJ (x.2.2.2.2.1 i.toInt.toNat j.toInt.toNat) else lN 18446744073709551615) ∧ σ' = σ)
theorem zpC_part {S : zS} {K : Option Value → zS → Prop} {o : Nat} {σ : zSt} {m : Int32} {i : Int32} {j : Int32} (hC : zCi S o σ) (g : zGd σ) (H : ∀ w_ T σ', zP_part σ m i j w_ σ' → zFr (zRg o) S T → zCi T o σ' → K (some (.long w_)) T) : ct_X10_part.1 [.ref o, .int m, .int i, .int j] S K := by
  rw [zc_X10_part]
  exact ⟨σ, ⟨hC, g.2.1⟩, fun h1 => H _ S σ (Or.inl (⟨h1, rfl, rfl⟩)) zFr.refl hC, fun k x h1 h2 h3 => H _ S σ (Or.inr (⟨k, x, h1, h2, h3, rfl, rfl⟩)) zFr.refl hC⟩
theorem zpM_part {S : zS} {K : Option Value → zS → Prop} {p : Nat} {σ : zSt} {m : Int32} {i : Int32} {j : Int32} (hM : zMi S p σ) (g : zGd σ) (H : ∀ w_ T σ', zP_part σ m i j w_ σ' → zFr (zRm p) S T → zMi T p σ' → K (some (.long w_)) T) : ct_X11_part.1 [.ref p, .int m, .int i, .int j] S K := by
  rw [zc_X11_part]
  exact ⟨σ, ⟨hM, g.2.1⟩, g.2.2.1, fun h1 => H _ S σ (Or.inl (⟨h1, rfl, rfl⟩)) zFr.refl hM, fun k x h1 h2 h3 => H _ S σ (Or.inr (⟨k, x, h1, h2, h3, rfl, rfl⟩)) zFr.refl hM⟩
def zP_order (σ : zSt) (m : Int32) (ax : Int32) (j : Int32) (v_ : Int32) (σ' : zSt) : Prop := ((zmx σ.2.1 m = none) ∧ v_ = (iZ (-1)) ∧ σ' = σ) ∨ (∃ k x, (m = nI k) ∧ (k < 2147483648) ∧ (σ.2.1 k = some x) ∧ v_ = (if 0 ≤ j.toInt ∧ j.toInt < x.1 ∧ 0 ≤ ax.toInt ∧ ax.toInt ≤ 1 then nI (if ax = nI 0 then x.2.2.2.2.2.1 j.toInt.toNat else x.2.2.2.2.2.2.1 j.toInt.toNat) else iZ (-1)) ∧ σ' = σ)
theorem zpC_order {S : zS} {K : Option Value → zS → Prop} {o : Nat} {σ : zSt} {m : Int32} {ax : Int32} {j : Int32} (hC : zCi S o σ) (g : zGd σ) (H : ∀ w_ T σ', zP_order σ m ax j w_ σ' → zFr (zRg o) S T → zCi T o σ' → K (some (.int w_)) T) : ct_X10_order.1 [.ref o, .int m, .int ax, .int j] S K := by
  rw [zc_X10_order]
  exact ⟨σ, ⟨hC, g.2.1⟩, fun h1 => H _ S σ (Or.inl (⟨h1, rfl, rfl⟩)) zFr.refl hC, fun k x h1 h2 h3 => H _ S σ (Or.inr (⟨k, x, h1, h2, h3, rfl, rfl⟩)) zFr.refl hC⟩
theorem zpM_order {S : zS} {K : Option Value → zS → Prop} {p : Nat} {σ : zSt} {m : Int32} {ax : Int32} {j : Int32} (hM : zMi S p σ) (g : zGd σ) (H : ∀ w_ T σ', zP_order σ m ax j w_ σ' → zFr (zRm p) S T → zMi T p σ' → K (some (.int w_)) T) : ct_X11_order_.1 [.ref p, .int m, .int ax, .int j] S K := by
  rw [zc_X11_order_]
  exact ⟨σ, ⟨hM, g.2.1⟩, fun h1 => H _ S σ (Or.inl (⟨h1, rfl, rfl⟩)) zFr.refl hM, fun k x h1 h2 h3 => H _ S σ (Or.inr (⟨k, x, h1, h2, h3, rfl, rfl⟩)) zFr.refl hM⟩
def zP_growth (σ : zSt) (m : Int32) (v_ : Int64) (σ' : zSt) : Prop := ((zmx σ.2.1 m = none) ∧ v_ = (lN 18446744073709551615) ∧ σ' = σ) ∨ (∃ k x, (m = nI k) ∧ (k < 2147483648) ∧ (σ.2.1 k = some x) ∧ v_ = (zuJ (FP.ddiv (UInt64.ofNat (zgrF x.2.1 x.1 x.2.2.2.2.1)) x.2.2.2.2.2.2.2)) ∧ σ' = σ)
theorem zpC_growth {S : zS} {K : Option Value → zS → Prop} {o : Nat} {σ : zSt} {m : Int32} (hC : zCi S o σ) (g : zGd σ) (H : ∀ w_ T σ', zP_growth σ m w_ σ' → zFr (zRg o) S T → zCi T o σ' → K (some (.long w_)) T) : ct_X10_growth.1 [.ref o, .int m] S K := by
  rw [zc_X10_growth]
  exact ⟨σ, ⟨hC, g.2.1⟩, fun h1 => H _ S σ (Or.inl (⟨h1, rfl, rfl⟩)) zFr.refl hC, fun k x h1 h2 h3 => H _ S σ (Or.inr (⟨k, x, h1, h2, h3, rfl, rfl⟩)) zFr.refl hC⟩
theorem zpM_growth {S : zS} {K : Option Value → zS → Prop} {p : Nat} {σ : zSt} {m : Int32} (hM : zMi S p σ) (g : zGd σ) (H : ∀ w_ T σ', zP_growth σ m w_ σ' → zFr (zRm p) S T → zMi T p σ' → K (some (.long w_)) T) : ct_X11_growth.1 [.ref p, .int m] S K := by
  rw [zc_X11_growth]
  exact ⟨σ, ⟨hM, g.2.1⟩, g.2.2.1, fun h1 => H _ S σ (Or.inl (⟨h1, rfl, rfl⟩)) zFr.refl hM, fun k x h1 h2 h3 => H _ S σ (Or.inr (⟨k, x, h1, h2, h3, rfl, rfl⟩)) zFr.refl hM⟩
def zP_pivots (σ : zSt) (m : Int32) (w : Int32) (v_ : Int64) (σ' : zSt) : Prop := ((zmx σ.2.1 m = none) ∧ v_ = (lN 18446744073709551615) ∧ σ' = σ) ∨ (∃ k x, (m = nI k) ∧ (k < 2147483648) ∧ (σ.2.1 k = some x) ∧ v_ = (if w = nI 0 then zuJ (zpvp x.2.1 x.1 x.2.2.2.1 x.2.2.2.2.1).1 else if w = nI 1 then jZ (zpvp x.2.1 x.1 x.2.2.2.1 x.2.2.2.2.1).2 else lN 18446744073709551615) ∧ σ' = σ)
theorem zpC_pivots {S : zS} {K : Option Value → zS → Prop} {o : Nat} {σ : zSt} {m : Int32} {w : Int32} (hC : zCi S o σ) (g : zGd σ) (H : ∀ w_ T σ', zP_pivots σ m w w_ σ' → zFr (zRg o) S T → zCi T o σ' → K (some (.long w_)) T) : ct_X10_pivots.1 [.ref o, .int m, .int w] S K := by
  rw [zc_X10_pivots]
  exact ⟨σ, ⟨hC, g.2.1⟩, fun h1 => H _ S σ (Or.inl (⟨h1, rfl, rfl⟩)) zFr.refl hC, fun k x h1 h2 h3 => H _ S σ (Or.inr (⟨k, x, h1, h2, h3, rfl, rfl⟩)) zFr.refl hC⟩
theorem zpM_pivots {S : zS} {K : Option Value → zS → Prop} {p : Nat} {σ : zSt} {m : Int32} {w : Int32} (hM : zMi S p σ) (g : zGd σ) (H : ∀ w_ T σ', zP_pivots σ m w w_ σ' → zFr (zRm p) S T → zMi T p σ' → K (some (.long w_)) T) : ct_X11_pivots.1 [.ref p, .int m, .int w] S K := by
  rw [zc_X11_pivots]
  exact ⟨σ, ⟨hM, g.2.1⟩, g.2.2.1, fun h1 => H _ S σ (Or.inl (⟨h1, rfl, rfl⟩)) zFr.refl hM, fun k x h1 h2 h3 T f c => H _ T _ (Or.inr (⟨k, x, h1, h2, h3, rfl, rfl⟩)) f c⟩
def zP_vector (σ : zSt) (n : Int32) (v_ : Int32) (σ' : zSt) : Prop := (((zfrI σ.2.2.1 24 = iZ (-1) ∨ ¬ (1 ≤ n.toInt ∧ n.toInt ≤ 8))) ∧ v_ = (iZ (-1)) ∧ σ' = σ) ∨ (∃ k y, (k < 24) ∧ (σ.2.2.1 k = none) ∧ (zfrI σ.2.2.1 24 = nI k) ∧ (n = nI y) ∧ (1 ≤ y) ∧ (y ≤ 8) ∧ v_ = (nI k) ∧ σ' = (σ.1, σ.2.1, zupo σ.2.2.1 k (some (y, fun _ => 0)), σ.2.2.2))
theorem zpC_vector {S : zS} {K : Option Value → zS → Prop} {o : Nat} {σ : zSt} {n : Int32} (hC : zCi S o σ) (g : zGd σ) (H : ∀ w_ T σ', zP_vector σ n w_ σ' → zFr (zRg o) S T → zCi T o σ' → K (some (.int w_)) T) : ct_X10_vector.1 [.ref o, .int n] S K := by
  rw [zc_X10_vector]
  exact ⟨σ, hC, fun h1 => H _ S σ (Or.inl (⟨h1, rfl, rfl⟩)) zFr.refl hC, fun k y h1 h2 h3 h4 h5 h6 T f c => H _ T _ (Or.inr (⟨k, y, h1, h2, h3, h4, h5, h6, rfl, rfl⟩)) f c⟩
theorem zpM_vector {S : zS} {K : Option Value → zS → Prop} {p : Nat} {σ : zSt} {n : Int32} (hM : zMi S p σ) (g : zGd σ) (H : ∀ w_ T σ', zP_vector σ n w_ σ' → zFr (zRm p) S T → zMi T p σ' → K (some (.int w_)) T) : ct_X11_vector.1 [.ref p, .int n] S K := by
  rw [zc_X11_vector]
  exact ⟨σ, ⟨hM, g.2.2.2⟩, fun h1 => H _ S σ (Or.inl (⟨h1, rfl, rfl⟩)) zFr.refl hM, fun k y h1 h2 h3 h4 h5 h6 T f c => H _ T _ (Or.inr (⟨k, y, h1, h2, h3, h4, h5, h6, rfl, rfl⟩)) (f.fr fun b hb => by omega) c⟩
def zP_forget (σ : zSt) (m : Int32) (v_ : Int32) (σ' : zSt) : Prop := ((zmx σ.2.2.1 m = none) ∧ v_ = (nI 0) ∧ σ' = σ) ∨ (∃ k x, (m = nI k) ∧ (k < 2147483648) ∧ (σ.2.2.1 k = some x) ∧ v_ = (nI 1) ∧ σ' = (σ.1, σ.2.1, zupo σ.2.2.1 k none, σ.2.2.2))
theorem zpC_forget {S : zS} {K : Option Value → zS → Prop} {o : Nat} {σ : zSt} {m : Int32} (hC : zCi S o σ) (g : zGd σ) (H : ∀ w_ T σ', zP_forget σ m w_ σ' → zFr (zRg o) S T → zCi T o σ' → K (some (.int w_)) T) : ct_X10_forget.1 [.ref o, .int m] S K := by
  rw [zc_X10_forget]
  exact ⟨σ, hC, fun h1 => H _ S σ (Or.inl (⟨h1, rfl, rfl⟩)) zFr.refl hC, fun k x h1 h2 h3 T f c => H _ T _ (Or.inr (⟨k, x, h1, h2, h3, rfl, rfl⟩)) f c⟩
theorem zpM_forget {S : zS} {K : Option Value → zS → Prop} {p : Nat} {σ : zSt} {m : Int32} (hM : zMi S p σ) (g : zGd σ) (H : ∀ w_ T σ', zP_forget σ m w_ σ' → zFr (zRm p) S T → zMi T p σ' → K (some (.int w_)) T) : ct_X11_forget.1 [.ref p, .int m] S K := by
  rw [zc_X11_forget]
  exact ⟨σ, ⟨hM, g.2.2.2⟩, fun h1 => H _ S σ (Or.inl (⟨h1, rfl, rfl⟩)) zFr.refl hM, fun k x h1 h2 h3 T f c => H _ T _ (Or.inr (⟨k, x, h1, h2, h3, rfl, rfl⟩)) f c⟩
def zP_set (σ : zSt) (m : Int32) (i : Int32) (v : UInt64) (v_ : Int32) (σ' : zSt) : Prop := (((∀ k x, m = nI k → k < 2147483648 → σ.2.2.1 k = some x → ¬ (0 ≤ i.toInt ∧ i.toInt < x.1 ∧ zUf v = true))) ∧ v_ = (nI 0) ∧ σ' = σ) ∨ (∃ k x, (m = nI k) ∧ (k < 2147483648) ∧ (σ.2.2.1 k = some x) ∧ (0 ≤ i.toInt) ∧ (i.toInt < x.1) ∧ (zUf v = true) ∧ v_ = (nI 1) ∧ σ' = (σ.1, σ.2.1, zupo σ.2.2.1 k (some (x.1, zup1 x.2 i.toInt.toNat (zUz v))), σ.2.2.2))
theorem zpC_set {S : zS} {K : Option Value → zS → Prop} {o : Nat} {σ : zSt} {m : Int32} {i : Int32} {v : UInt64} (hC : zCi S o σ) (g : zGd σ) (H : ∀ w_ T σ', zP_set σ m i v w_ σ' → zFr (zRg o) S T → zCi T o σ' → K (some (.int w_)) T) : ct_X10_set.1 [.ref o, .int m, .int i, .long (zuJ v)] S K := by
  rw [zc_X10_set]
  exact ⟨σ, ⟨hC, fun k x h => (g.2.2.2 k x h).1.2⟩, fun h1 => H _ S σ (Or.inl (⟨h1, rfl, rfl⟩)) zFr.refl hC, fun k x h1 h2 h3 h4 h5 h6 T f c => H _ T _ (Or.inr (⟨k, x, h1, h2, h3, h4, h5, h6, rfl, rfl⟩)) f c⟩
theorem zpM_set {S : zS} {K : Option Value → zS → Prop} {p : Nat} {σ : zSt} {m : Int32} {i : Int32} {v : UInt64} (hM : zMi S p σ) (g : zGd σ) (H : ∀ w_ T σ', zP_set σ m i v w_ σ' → zFr (zRm p) S T → zMi T p σ' → K (some (.int w_)) T) : ct_X11_set.1 [.ref p, .int m, .int i, .long (zuJ v)] S K := by
  rw [zc_X11_set]
  exact ⟨σ, ⟨hM, g.2.2.2⟩, fun h1 => H _ S σ (Or.inl (⟨h1, rfl, rfl⟩)) zFr.refl hM, fun k x h1 h2 h3 h4 h5 h6 T f c => H _ T _ (Or.inr (⟨k, x, h1, h2, h3, h4, h5, h6, rfl, rfl⟩)) f c⟩
def zP_value (σ : zSt) (m : Int32) (i : Int32) (v_ : Int64) (σ' : zSt) : Prop := ((zmx σ.2.2.1 m = none) ∧ v_ = (lN 18446744073709551615) ∧ σ' = σ) ∨ (∃ k x, (m = nI k) ∧ (k < 2147483648) ∧ (σ.2.2.1 k = some x) ∧ v_ = (if 0 ≤ i.toInt ∧ i.toInt < x.1 then zuJ (x.2 i.toInt.toNat) else lN 18446744073709551615) ∧ σ' = σ)
theorem zpC_value {S : zS} {K : Option Value → zS → Prop} {o : Nat} {σ : zSt} {m : Int32} {i : Int32} (hC : zCi S o σ) (g : zGd σ) (H : ∀ w_ T σ', zP_value σ m i w_ σ' → zFr (zRg o) S T → zCi T o σ' → K (some (.long w_)) T) : ct_X10_value.1 [.ref o, .int m, .int i] S K := by
  rw [zc_X10_value]
  exact ⟨σ, ⟨hC, fun k x h => (g.2.2.2 k x h).1.2⟩, fun h1 => H _ S σ (Or.inl (⟨h1, rfl, rfl⟩)) zFr.refl hC, fun k x h1 h2 h3 => H _ S σ (Or.inr (⟨k, x, h1, h2, h3, rfl, rfl⟩)) zFr.refl hC⟩
theorem zpM_value {S : zS} {K : Option Value → zS → Prop} {p : Nat} {σ : zSt} {m : Int32} {i : Int32} (hM : zMi S p σ) (g : zGd σ) (H : ∀ w_ T σ', zP_value σ m i w_ σ' → zFr (zRm p) S T → zMi T p σ' → K (some (.long w_)) T) : ct_X11_value.1 [.ref p, .int m, .int i] S K := by
  rw [zc_X11_value]
  exact ⟨σ, ⟨hM, g.2.2.2⟩, fun h1 => H _ S σ (Or.inl (⟨h1, rfl, rfl⟩)) zFr.refl hM, fun k x h1 h2 h3 => H _ S σ (Or.inr (⟨k, x, h1, h2, h3, rfl, rfl⟩)) zFr.refl hM⟩
def zP_size (σ : zSt) (m : Int32) (v_ : Int32) (σ' : zSt) : Prop := ((zmx σ.2.2.1 m = none) ∧ v_ = (iZ (-1)) ∧ σ' = σ) ∨ (∃ k x, (m = nI k) ∧ (k < 2147483648) ∧ (σ.2.2.1 k = some x) ∧ v_ = (nI x.1) ∧ σ' = σ)
theorem zpC_size {S : zS} {K : Option Value → zS → Prop} {o : Nat} {σ : zSt} {m : Int32} (hC : zCi S o σ) (g : zGd σ) (H : ∀ w_ T σ', zP_size σ m w_ σ' → zFr (zRg o) S T → zCi T o σ' → K (some (.int w_)) T) : ct_X10_size.1 [.ref o, .int m] S K := by
  rw [zc_X10_size]
  exact ⟨σ, hC, fun h1 => H _ S σ (Or.inl (⟨h1, rfl, rfl⟩)) zFr.refl hC, fun k x h1 h2 h3 => H _ S σ (Or.inr (⟨k, x, h1, h2, h3, rfl, rfl⟩)) zFr.refl hC⟩
theorem zpM_size {S : zS} {K : Option Value → zS → Prop} {p : Nat} {σ : zSt} {m : Int32} (hM : zMi S p σ) (g : zGd σ) (H : ∀ w_ T σ', zP_size σ m w_ σ' → zFr (zRm p) S T → zMi T p σ' → K (some (.int w_)) T) : ct_X11_size_.1 [.ref p, .int m] S K := by
  rw [zc_X11_size_]
  exact ⟨σ, ⟨hM, g.2.2.2⟩, fun h1 => H _ S σ (Or.inl (⟨h1, rfl, rfl⟩)) zFr.refl hM, fun k x h1 h2 h3 => H _ S σ (Or.inr (⟨k, x, h1, h2, h3, rfl, rfl⟩)) zFr.refl hM⟩
def zP_residual (σ : zSt) (m : Int32) (s : Int32) (q : Int32) (i : Int32) (v_ : Int64) (σ' : zSt) : Prop := (((zmx σ.1 m = none ∨ ∀ x, zmx σ.1 m = some x → zftt σ x.2.1 x.2.2.1 s q = false ∨ ¬ (0 ≤ i.toInt ∧ i.toInt < x.2.1))) ∧ v_ = (lN 18446744073709551615) ∧ σ' = σ) ∨ (∃ x u v j, (zmx σ.1 m = some x) ∧ (zmx σ.2.2.1 s = some u) ∧ (zmx σ.2.2.1 q = some v) ∧ (u.1 = x.2.2.1) ∧ (v.1 = x.2.1) ∧ (i = nI j) ∧ (j < x.2.1) ∧ v_ = (if zUf (zrd (zrv (x.2.2.2.2.2 j) u.2 (v.2 j) x.2.2.1)) = true then zuJ (zUz (zrd (zrv (x.2.2.2.2.2 j) u.2 (v.2 j) x.2.2.1))) else lN 18446744073709551615) ∧ σ' = σ)
theorem zpC_residual {S : zS} {K : Option Value → zS → Prop} {o : Nat} {σ : zSt} {m : Int32} {s : Int32} {q : Int32} {i : Int32} (hC : zCi S o σ) (g : zGd σ) (H : ∀ w_ T σ', zP_residual σ m s q i w_ σ' → zFr (zRg o) S T → zCi T o σ' → K (some (.long w_)) T) : ct_X10_residual.1 [.ref o, .int m, .int s, .int q, .int i] S K := by
  rw [zc_X10_residual]
  exact ⟨σ, ⟨hC, g.1, g.2.2.2⟩, fun h1 => H _ S σ (Or.inl (⟨h1, rfl, rfl⟩)) zFr.refl hC, fun x u v j h1 h2 h3 h4 h5 h6 h7 T f c => H _ T _ (Or.inr (⟨x, u, v, j, h1, h2, h3, h4, h5, h6, h7, rfl, rfl⟩)) f c⟩
theorem zpM_residual {S : zS} {K : Option Value → zS → Prop} {p : Nat} {σ : zSt} {m : Int32} {s : Int32} {q : Int32} {i : Int32} (hM : zMi S p σ) (g : zGd σ) (H : ∀ w_ T σ', zP_residual σ m s q i w_ σ' → zFr (zRm p) S T → zMi T p σ' → K (some (.long w_)) T) : ct_X11_residual.1 [.ref p, .int m, .int s, .int q, .int i] S K := by
  rw [zc_X11_residual]
  exact ⟨σ, ⟨hM, g.1, g.2.2.2⟩, fun h1 => H _ S σ (Or.inl (⟨h1, rfl, rfl⟩)) zFr.refl hM, fun x u v j h1 h2 h3 h4 h5 h6 h7 T f c => H _ T _ (Or.inr (⟨x, u, v, j, h1, h2, h3, h4, h5, h6, h7, rfl, rfl⟩)) f c⟩
def zP_greatest (σ : zSt) (m : Int32) (s : Int32) (q : Int32) (v_ : Int64) (σ' : zSt) : Prop := (((zmx σ.1 m = none ∨ ∀ x, zmx σ.1 m = some x → zftt σ x.2.1 x.2.2.1 s q = false)) ∧ v_ = (lN 18446744073709551615) ∧ σ' = σ) ∨ (∃ x u v, (zmx σ.1 m = some x) ∧ (zmx σ.2.2.1 s = some u) ∧ (zmx σ.2.2.1 q = some v) ∧ (u.1 = x.2.2.1) ∧ (v.1 = x.2.1) ∧ v_ = (zfnA (zru (zmxN (fun i => zrv (x.2.2.2.2.2 i) u.2 (v.2 i) x.2.2.1) x.2.1))) ∧ σ' = σ)
theorem zpC_greatest {S : zS} {K : Option Value → zS → Prop} {o : Nat} {σ : zSt} {m : Int32} {s : Int32} {q : Int32} (hC : zCi S o σ) (g : zGd σ) (H : ∀ w_ T σ', zP_greatest σ m s q w_ σ' → zFr (zRg o) S T → zCi T o σ' → K (some (.long w_)) T) : ct_X10_greatest.1 [.ref o, .int m, .int s, .int q] S K := by
  rw [zc_X10_greatest]
  exact ⟨σ, ⟨hC, g.1, g.2.2.2⟩, fun h1 => H _ S σ (Or.inl (⟨h1, rfl, rfl⟩)) zFr.refl hC, fun x u v h1 h2 h3 h4 h5 T f c => H _ T _ (Or.inr (⟨x, u, v, h1, h2, h3, h4, h5, rfl, rfl⟩)) f c⟩
theorem zpM_greatest {S : zS} {K : Option Value → zS → Prop} {p : Nat} {σ : zSt} {m : Int32} {s : Int32} {q : Int32} (hM : zMi S p σ) (g : zGd σ) (H : ∀ w_ T σ', zP_greatest σ m s q w_ σ' → zFr (zRm p) S T → zMi T p σ' → K (some (.long w_)) T) : ct_X11_greatest.1 [.ref p, .int m, .int s, .int q] S K := by
  rw [zc_X11_greatest]
  exact ⟨σ, ⟨hM, g.1, g.2.2.2⟩, fun h1 => H _ S σ (Or.inl (⟨h1, rfl, rfl⟩)) zFr.refl hM, fun x u v h1 h2 h3 h4 h5 T f c => H _ T _ (Or.inr (⟨x, u, v, h1, h2, h3, h4, h5, rfl, rfl⟩)) f c⟩
def zP_exactly (σ : zSt) (m : Int32) (r : Int32) (v_ : Int32) (σ' : zSt) : Prop := (((zmx σ.1 m = none ∨ zmx σ.2.2.1 r = none ∨ ∀ x u, zmx σ.1 m = some x → zmx σ.2.2.1 r = some u → (x.2.1 ≠ u.1 ∨ zMla x.2.1 x.2.2.1 x.2.2.2.2.2 = false ∨ zVla u = false ∨ (zsol x.2.1 x.2.2.1 x.2.2.2.2.2 u.2 = 2 ∧ zfrI σ.2.2.1 24 = iZ (-1))))) ∧ v_ = (iZ (-1)) ∧ σ' = σ) ∨ (∃ x u, (zmx σ.1 m = some x) ∧ (zmx σ.2.2.1 r = some u) ∧ (x.2.1 = u.1) ∧ (zMla x.2.1 x.2.2.1 x.2.2.2.2.2 = true) ∧ (zVla u = true) ∧ (zsol x.2.1 x.2.2.1 x.2.2.2.2.2 u.2 ≠ 2) ∧ v_ = (nI (zsol x.2.1 x.2.2.1 x.2.2.2.2.2 u.2)) ∧ σ' = σ) ∨ (∃ x u k, (zmx σ.1 m = some x) ∧ (zmx σ.2.2.1 r = some u) ∧ (x.2.1 = u.1) ∧ (zMla x.2.1 x.2.2.1 x.2.2.2.2.2 = true) ∧ (zVla u = true) ∧ (zsol x.2.1 x.2.2.1 x.2.2.2.2.2 u.2 = 2) ∧ (k < 24) ∧ (σ.2.2.1 k = none) ∧ (zfrI σ.2.2.1 24 = nI k) ∧ v_ = (nI (k + 2)) ∧ σ' = (σ.1, σ.2.1, zupo σ.2.2.1 k (some (x.2.2.1, fun i => zUz (UInt64.ofNat (zsoV x.2.1 x.2.2.1 x.2.2.2.2.2 u.2 i)))), σ.2.2.2))
theorem zpC_exactly {S : zS} {K : Option Value → zS → Prop} {o : Nat} {σ : zSt} {m : Int32} {r : Int32} (hC : zCi S o σ) (g : zGd σ) (H : ∀ w_ T σ', zP_exactly σ m r w_ σ' → zFr (zRg o) S T → zCi T o σ' → K (some (.int w_)) T) : ct_X10_exactly.1 [.ref o, .int m, .int r] S K := by
  rw [zc_X10_exactly]
  exact ⟨σ, ⟨hC, g.1, g.2.2.2⟩, fun h1 T f c => H _ T _ (Or.inl (⟨h1, rfl, rfl⟩)) f c, fun x u h1 h2 h3 h4 h5 h6 T f c => H _ T _ (Or.inr (Or.inl (⟨x, u, h1, h2, h3, h4, h5, h6, rfl, rfl⟩))) f c, fun x u k h1 h2 h3 h4 h5 h6 h7 h8 h9 T f c => H _ T _ (Or.inr (Or.inr (⟨x, u, k, h1, h2, h3, h4, h5, h6, h7, h8, h9, rfl, rfl⟩))) f c⟩
theorem zpM_exactly {S : zS} {K : Option Value → zS → Prop} {p : Nat} {σ : zSt} {m : Int32} {r : Int32} (hM : zMi S p σ) (g : zGd σ) (H : ∀ w_ T σ', zP_exactly σ m r w_ σ' → zFr (zRm p) S T → zMi T p σ' → K (some (.int w_)) T) : ct_X11_exactly.1 [.ref p, .int m, .int r] S K := by
  rw [zc_X11_exactly]
  exact ⟨σ, ⟨hM, g.1, g.2.2.2⟩, fun h1 T f c => H _ T _ (Or.inl (⟨h1, rfl, rfl⟩)) f c, fun x u h1 h2 h3 h4 h5 h6 T f c => H _ T _ (Or.inr (Or.inl (⟨x, u, h1, h2, h3, h4, h5, h6, rfl, rfl⟩))) f c, fun x u k h1 h2 h3 h4 h5 h6 h7 h8 h9 T f c => H _ T _ (Or.inr (Or.inr (⟨x, u, k, h1, h2, h3, h4, h5, h6, h7, h8, h9, rfl, rfl⟩))) f c⟩
def zP_rank (σ : zSt) (m : Int32) (v_ : Int32) (σ' : zSt) : Prop := ((zmx σ.1 m = none) ∧ v_ = (iZ (-1)) ∧ σ' = σ) ∨ (∃ k x, (m = nI k) ∧ (k < 2147483648) ∧ (σ.1 k = some x) ∧ (zMla x.2.1 x.2.2.1 x.2.2.2.2.2 = false) ∧ v_ = (iZ (-1)) ∧ σ' = σ) ∨ (∃ k x, (m = nI k) ∧ (k < 2147483648) ∧ (σ.1 k = some x) ∧ (zMla x.2.1 x.2.2.1 x.2.2.2.2.2 = true) ∧ v_ = (nI (zbz x.2.1 (zsyA (-60) x.2.2.1 x.2.2.2.2.2 fun _ => 0) x.2.2.1).2.1) ∧ σ' = σ)
theorem zpC_rank {S : zS} {K : Option Value → zS → Prop} {o : Nat} {σ : zSt} {m : Int32} (hC : zCi S o σ) (g : zGd σ) (H : ∀ w_ T σ', zP_rank σ m w_ σ' → zFr (zRg o) S T → zCi T o σ' → K (some (.int w_)) T) : ct_X10_rank.1 [.ref o, .int m] S K := by
  rw [zc_X10_rank]
  exact ⟨σ, hC, fun h1 => H _ S σ (Or.inl (⟨h1, rfl, rfl⟩)) zFr.refl hC, fun k x h1 h2 h3 h4 => H _ S σ (Or.inr (Or.inl (⟨k, x, h1, h2, h3, h4, rfl, rfl⟩))) zFr.refl hC, fun k x h1 h2 h3 h4 T f c => H _ T _ (Or.inr (Or.inr (⟨k, x, h1, h2, h3, h4, rfl, rfl⟩))) f c⟩
theorem zpM_rank {S : zS} {K : Option Value → zS → Prop} {p : Nat} {σ : zSt} {m : Int32} (hM : zMi S p σ) (g : zGd σ) (H : ∀ w_ T σ', zP_rank σ m w_ σ' → zFr (zRm p) S T → zMi T p σ' → K (some (.int w_)) T) : ct_X11_rank.1 [.ref p, .int m] S K := by
  rw [zc_X11_rank]
  exact ⟨σ, ⟨hM, g.1⟩, fun h1 => H _ S σ (Or.inl (⟨h1, rfl, rfl⟩)) zFr.refl hM, fun k x h1 h2 h3 h4 => H _ S σ (Or.inr (Or.inl (⟨k, x, h1, h2, h3, h4, rfl, rfl⟩))) zFr.refl hM, fun k x h1 h2 h3 h4 T f c => H _ T _ (Or.inr (Or.inr (⟨k, x, h1, h2, h3, h4, rfl, rfl⟩))) f c⟩
def zP_nullVector (σ : zSt) (m : Int32) (q : Int32) (v_ : Int32) (σ' : zSt) : Prop := (((zmx σ.1 m = none ∨ zfrI σ.2.2.1 24 = iZ (-1) ∨ q.toInt < 0 ∨ ∀ x, zmx σ.1 m = some x → zMla x.2.1 x.2.2.1 x.2.2.2.2.2 = false ∨ znuc x.2.1 x.2.2.1 (zsyA (-60) x.2.2.1 x.2.2.2.2.2 fun _ => 0) q.toInt < 0)) ∧ v_ = (iZ (-1)) ∧ σ' = σ) ∨ (∃ x k q', (zmx σ.1 m = some x) ∧ (k < 24) ∧ (σ.2.2.1 k = none) ∧ (zfrI σ.2.2.1 24 = nI k) ∧ (q = nI q') ∧ (q' < 2147483648) ∧ (zMla x.2.1 x.2.2.1 x.2.2.2.2.2 = true) ∧ (0 ≤ znuc x.2.1 x.2.2.1 (zsyA (-60) x.2.2.1 x.2.2.2.2.2 fun _ => 0) q') ∧ v_ = (nI k) ∧ σ' = (σ.1, σ.2.1, zupo σ.2.2.1 k (some (x.2.2.1, fun i => zUz (UInt64.ofNat (znuv x.2.1 x.2.2.1 (zsyA (-60) x.2.2.1 x.2.2.2.2.2 fun _ => 0) (znuc x.2.1 x.2.2.1 (zsyA (-60) x.2.2.1 x.2.2.2.2.2 fun _ => 0) q').toNat i)))), σ.2.2.2))
theorem zpC_nullVector {S : zS} {K : Option Value → zS → Prop} {o : Nat} {σ : zSt} {m : Int32} {q : Int32} (hC : zCi S o σ) (g : zGd σ) (H : ∀ w_ T σ', zP_nullVector σ m q w_ σ' → zFr (zRg o) S T → zCi T o σ' → K (some (.int w_)) T) : ct_X10_nullVector.1 [.ref o, .int m, .int q] S K := by
  rw [zc_X10_nullVector]
  exact ⟨σ, ⟨hC, g.1⟩, fun h1 T f c => H _ T _ (Or.inl (⟨h1, rfl, rfl⟩)) f c, fun x k q' h1 h2 h3 h4 h5 h6 h7 h8 T f c => H _ T _ (Or.inr (⟨x, k, q', h1, h2, h3, h4, h5, h6, h7, h8, rfl, rfl⟩)) f c⟩
theorem zpM_nullVector {S : zS} {K : Option Value → zS → Prop} {p : Nat} {σ : zSt} {m : Int32} {q : Int32} (hM : zMi S p σ) (g : zGd σ) (H : ∀ w_ T σ', zP_nullVector σ m q w_ σ' → zFr (zRm p) S T → zMi T p σ' → K (some (.int w_)) T) : ct_X11_nullVector.1 [.ref p, .int m, .int q] S K := by
  rw [zc_X11_nullVector]
  exact ⟨σ, ⟨hM, g.1, g.2.2.2⟩, fun h1 T f c => H _ T _ (Or.inl (⟨h1, rfl, rfl⟩)) f c, fun x k q' h1 h2 h3 h4 h5 h6 h7 h8 T f c => H _ T _ (Or.inr (⟨x, k, q', h1, h2, h3, h4, h5, h6, h7, h8, rfl, rfl⟩)) f c⟩
def zP_determinant (σ : zSt) (m : Int32) (v_ : Int64) (σ' : zSt) : Prop := ((zmx σ.1 m = none) ∧ v_ = (lN 18446744073709551615) ∧ σ' = σ) ∨ (∃ k x, (m = nI k) ∧ (k < 2147483648) ∧ (σ.1 k = some x) ∧ (¬ (x.2.1 = x.2.2.1 ∧ zMla x.2.1 x.2.2.1 x.2.2.2.2.2 = true)) ∧ v_ = (lN 18446744073709551615) ∧ σ' = σ) ∨ (∃ k x, (m = nI k) ∧ (k < 2147483648) ∧ (σ.1 k = some x) ∧ (x.2.1 = x.2.2.1) ∧ (zMla x.2.1 x.2.2.1 x.2.2.2.2.2 = true) ∧ v_ = (lN (zrat (zdtI x.2.1 x.2.2.2.2.2) 1 (-(60 * x.2.1 : Nat)) false)) ∧ σ' = σ)
theorem zpC_determinant {S : zS} {K : Option Value → zS → Prop} {o : Nat} {σ : zSt} {m : Int32} (hC : zCi S o σ) (g : zGd σ) (H : ∀ w_ T σ', zP_determinant σ m w_ σ' → zFr (zRg o) S T → zCi T o σ' → K (some (.long w_)) T) : ct_X10_determinant.1 [.ref o, .int m] S K := by
  rw [zc_X10_determinant]
  exact ⟨σ, ⟨hC, g.1⟩, fun h1 => H _ S σ (Or.inl (⟨h1, rfl, rfl⟩)) zFr.refl hC, fun k x h1 h2 h3 h4 => H _ S σ (Or.inr (Or.inl (⟨k, x, h1, h2, h3, h4, rfl, rfl⟩))) zFr.refl hC, fun k x h1 h2 h3 h4 h5 T f c => H _ T _ (Or.inr (Or.inr (⟨k, x, h1, h2, h3, h4, h5, rfl, rfl⟩))) f c⟩
theorem zpM_determinant {S : zS} {K : Option Value → zS → Prop} {p : Nat} {σ : zSt} {m : Int32} (hM : zMi S p σ) (g : zGd σ) (H : ∀ w_ T σ', zP_determinant σ m w_ σ' → zFr (zRm p) S T → zMi T p σ' → K (some (.long w_)) T) : ct_X11_determinant.1 [.ref p, .int m] S K := by
  rw [zc_X11_determinant]
  exact ⟨σ, ⟨hM, g.1⟩, fun h1 => H _ S σ (Or.inl (⟨h1, rfl, rfl⟩)) zFr.refl hM, fun k x h1 h2 h3 h4 => H _ S σ (Or.inr (Or.inl (⟨k, x, h1, h2, h3, h4, rfl, rfl⟩))) zFr.refl hM, fun k x h1 h2 h3 h4 h5 T f c => H _ T _ (Or.inr (Or.inr (⟨k, x, h1, h2, h3, h4, h5, rfl, rfl⟩))) f c⟩
def zP_digits (σ : zSt) (m : Int32) (j : Int32) (v_ : Int32) (σ' : zSt) : Prop := (((zmx σ.1 m = none ∨ j.toInt < 0 ∨ 27 < j.toInt)) ∧ v_ = (nI 0) ∧ σ' = σ) ∨ (∃ k x, (m = nI k) ∧ (k < 2147483648) ∧ (σ.1 k = some x) ∧ (¬ (x.2.1 = x.2.2.1 ∧ zMla x.2.1 x.2.2.1 x.2.2.2.2.2 = true)) ∧ v_ = (nI 0) ∧ σ' = σ) ∨ (∃ k x j', (m = nI k) ∧ (k < 2147483648) ∧ (σ.1 k = some x) ∧ (j = nI j') ∧ (j' ≤ 27) ∧ (x.2.1 = x.2.2.1) ∧ (zMla x.2.1 x.2.2.1 x.2.2.2.2.2 = true) ∧ v_ = (nI (zdo (zdtI x.2.1 x.2.2.2.2.2).natAbs j')) ∧ σ' = σ)
theorem zpC_digits {S : zS} {K : Option Value → zS → Prop} {o : Nat} {σ : zSt} {m : Int32} {j : Int32} (hC : zCi S o σ) (g : zGd σ) (H : ∀ w_ T σ', zP_digits σ m j w_ σ' → zFr (zRg o) S T → zCi T o σ' → K (some (.int w_)) T) : ct_X10_digits.1 [.ref o, .int m, .int j] S K := by
  rw [zc_X10_digits]
  exact ⟨σ, ⟨hC, g.1⟩, fun h1 => H _ S σ (Or.inl (⟨h1, rfl, rfl⟩)) zFr.refl hC, fun k x h1 h2 h3 h4 => H _ S σ (Or.inr (Or.inl (⟨k, x, h1, h2, h3, h4, rfl, rfl⟩))) zFr.refl hC, fun k x j' h1 h2 h3 h4 h5 h6 h7 T f c => H _ T _ (Or.inr (Or.inr (⟨k, x, j', h1, h2, h3, h4, h5, h6, h7, rfl, rfl⟩))) f c⟩
theorem zpM_digits {S : zS} {K : Option Value → zS → Prop} {p : Nat} {σ : zSt} {m : Int32} {j : Int32} (hM : zMi S p σ) (g : zGd σ) (H : ∀ w_ T σ', zP_digits σ m j w_ σ' → zFr (zRm p) S T → zMi T p σ' → K (some (.int w_)) T) : ct_X11_digits.1 [.ref p, .int m, .int j] S K := by
  rw [zc_X11_digits]
  exact ⟨σ, ⟨hM, g.1⟩, fun h1 => H _ S σ (Or.inl (⟨h1, rfl, rfl⟩)) zFr.refl hM, fun k x h1 h2 h3 h4 => H _ S σ (Or.inr (Or.inl (⟨k, x, h1, h2, h3, h4, rfl, rfl⟩))) zFr.refl hM, fun k x j' h1 h2 h3 h4 h5 h6 h7 T f c => H _ T _ (Or.inr (Or.inr (⟨k, x, j', h1, h2, h3, h4, h5, h6, h7, rfl, rfl⟩))) f c⟩
def zP_condition (σ : zSt) (m : Int32) (v_ : Int64) (σ' : zSt) : Prop := ((zmx σ.1 m = none) ∧ v_ = (lN 18446744073709551615) ∧ σ' = σ) ∨ (∃ k x, (m = nI k) ∧ (k < 2147483648) ∧ (σ.1 k = some x) ∧ (¬ (x.2.1 = x.2.2.1 ∧ zMla x.2.1 x.2.2.1 x.2.2.2.2.2 = true)) ∧ v_ = (lN 18446744073709551615) ∧ σ' = σ) ∨ (∃ k x, (m = nI k) ∧ (k < 2147483648) ∧ (σ.1 k = some x) ∧ (x.2.1 = x.2.2.1) ∧ (zMla x.2.1 x.2.2.1 x.2.2.2.2.2 = true) ∧ v_ = (if zcdr x.2.1 x.2.2.2.2.2 < x.2.1 then lN 18446744073709551615 else lN (zcdv x.2.1 x.2.2.2.2.2)) ∧ σ' = σ)
theorem zpC_condition {S : zS} {K : Option Value → zS → Prop} {o : Nat} {σ : zSt} {m : Int32} (hC : zCi S o σ) (g : zGd σ) (H : ∀ w_ T σ', zP_condition σ m w_ σ' → zFr (zRg o) S T → zCi T o σ' → K (some (.long w_)) T) : ct_X10_condition.1 [.ref o, .int m] S K := by
  rw [zc_X10_condition]
  exact ⟨σ, ⟨hC, g.1⟩, fun h1 => H _ S σ (Or.inl (⟨h1, rfl, rfl⟩)) zFr.refl hC, fun k x h1 h2 h3 h4 => H _ S σ (Or.inr (Or.inl (⟨k, x, h1, h2, h3, h4, rfl, rfl⟩))) zFr.refl hC, fun k x h1 h2 h3 h4 h5 T f c => H _ T _ (Or.inr (Or.inr (⟨k, x, h1, h2, h3, h4, h5, rfl, rfl⟩))) f c⟩
theorem zpM_condition {S : zS} {K : Option Value → zS → Prop} {p : Nat} {σ : zSt} {m : Int32} (hM : zMi S p σ) (g : zGd σ) (H : ∀ w_ T σ', zP_condition σ m w_ σ' → zFr (zRm p) S T → zMi T p σ' → K (some (.long w_)) T) : ct_X11_condition.1 [.ref p, .int m] S K := by
  rw [zc_X11_condition]
  exact ⟨σ, ⟨hM, g.1⟩, fun h1 => H _ S σ (Or.inl (⟨h1, rfl, rfl⟩)) zFr.refl hM, fun k x h1 h2 h3 h4 => H _ S σ (Or.inr (Or.inl (⟨k, x, h1, h2, h3, h4, rfl, rfl⟩))) zFr.refl hM, fun k x h1 h2 h3 h4 h5 T f c => H _ T _ (Or.inr (Or.inr (⟨k, x, h1, h2, h3, h4, h5, rfl, rfl⟩))) f c⟩
def zP_gap (σ : zSt) (m : Int32) (w : Int32) (v_ : Int64) (σ' : zSt) : Prop := (((zmx σ.1 m = none ∨ zmx σ.1 w = none ∨ ∀ x y, zmx σ.1 m = some x → zmx σ.1 w = some y → ¬ (y.2.1 = y.2.2.1 ∧ zMla y.2.1 y.2.2.1 y.2.2.2.2.2 = true ∧ x.2.1 = x.2.2.1 ∧ x.2.1 = y.2.1))) ∧ v_ = (lN 18446744073709551615) ∧ σ' = σ) ∨ (∃ x y, (zmx σ.1 m = some x) ∧ (zmx σ.1 w = some y) ∧ (y.2.1 = y.2.2.1) ∧ (zMla y.2.1 y.2.2.1 y.2.2.2.2.2 = true) ∧ (x.2.1 = x.2.2.1) ∧ (x.2.1 = y.2.1) ∧ v_ = (zfnA (zru (zgN x.2.2.2.2.2 y.2.2.2.2.2 x.2.1))) ∧ σ' = σ)
theorem zpC_gap {S : zS} {K : Option Value → zS → Prop} {o : Nat} {σ : zSt} {m : Int32} {w : Int32} (hC : zCi S o σ) (g : zGd σ) (H : ∀ w_ T σ', zP_gap σ m w w_ σ' → zFr (zRg o) S T → zCi T o σ' → K (some (.long w_)) T) : ct_X10_gap.1 [.ref o, .int m, .int w] S K := by
  rw [zc_X10_gap]
  exact ⟨σ, ⟨hC, g.1⟩, fun h1 => H _ S σ (Or.inl (⟨h1, rfl, rfl⟩)) zFr.refl hC, fun x y h1 h2 h3 h4 h5 h6 T f c => H _ T _ (Or.inr (⟨x, y, h1, h2, h3, h4, h5, h6, rfl, rfl⟩)) f c⟩
theorem zpM_gap {S : zS} {K : Option Value → zS → Prop} {p : Nat} {σ : zSt} {m : Int32} {w : Int32} (hM : zMi S p σ) (g : zGd σ) (H : ∀ w_ T σ', zP_gap σ m w w_ σ' → zFr (zRm p) S T → zMi T p σ' → K (some (.long w_)) T) : ct_X11_gap.1 [.ref p, .int m, .int w] S K := by
  rw [zc_X11_gap]
  exact ⟨σ, ⟨hM, g.1⟩, fun h1 => H _ S σ (Or.inl (⟨h1, rfl, rfl⟩)) zFr.refl hM, fun x y h1 h2 h3 h4 h5 h6 T f c => H _ T _ (Or.inr (⟨x, y, h1, h2, h3, h4, h5, h6, rfl, rfl⟩)) f c⟩
def zP_bound (σ : zSt) (m : Int32) (w : Int32) (s : Int32) (q : Int32) (v_ : Int64) (σ' : zSt) : Prop := (((zmx σ.1 m = none ∨ zmx σ.1 w = none ∨ ∀ x y, zmx σ.1 m = some x → zmx σ.1 w = some y → ¬ (y.2.1 = y.2.2.1 ∧ zMla y.2.1 y.2.2.1 y.2.2.2.2.2 = true ∧ x.2.1 = x.2.2.1 ∧ x.2.1 = y.2.1) ∨ zftt σ y.2.1 y.2.2.1 s q = false)) ∧ v_ = (lN 18446744073709551615) ∧ σ' = σ) ∨ (∃ x y u v, (zmx σ.1 m = some x) ∧ (zmx σ.1 w = some y) ∧ (y.2.1 = y.2.2.1) ∧ (zMla y.2.1 y.2.2.1 y.2.2.2.2.2 = true) ∧ (x.2.1 = x.2.2.1) ∧ (x.2.1 = y.2.1) ∧ (zmx σ.2.2.1 s = some u) ∧ (zmx σ.2.2.1 q = some v) ∧ (u.1 = y.2.2.1) ∧ (v.1 = y.2.1) ∧ v_ = (zuJ (zbnd x.2.1 x.2.2.2.2.2 y.2.2.2.2.2 u.2 v.2)) ∧ σ' = σ)
theorem zpC_bound {S : zS} {K : Option Value → zS → Prop} {o : Nat} {σ : zSt} {m : Int32} {w : Int32} {s : Int32} {q : Int32} (hC : zCi S o σ) (g : zGd σ) (H : ∀ w_ T σ', zP_bound σ m w s q w_ σ' → zFr (zRg o) S T → zCi T o σ' → K (some (.long w_)) T) : ct_X10_bound.1 [.ref o, .int m, .int w, .int s, .int q] S K := by
  rw [zc_X10_bound]
  exact ⟨σ, ⟨hC, g.1, g.2.2.2⟩, fun h1 => H _ S σ (Or.inl (⟨h1, rfl, rfl⟩)) zFr.refl hC, fun x y u v h1 h2 h3 h4 h5 h6 h7 h8 h9 h10 T f c => H _ T _ (Or.inr (⟨x, y, u, v, h1, h2, h3, h4, h5, h6, h7, h8, h9, h10, rfl, rfl⟩)) f c⟩
theorem zpM_bound {S : zS} {K : Option Value → zS → Prop} {p : Nat} {σ : zSt} {m : Int32} {w : Int32} {s : Int32} {q : Int32} (hM : zMi S p σ) (g : zGd σ) (H : ∀ w_ T σ', zP_bound σ m w s q w_ σ' → zFr (zRm p) S T → zMi T p σ' → K (some (.long w_)) T) : ct_X11_bound.1 [.ref p, .int m, .int w, .int s, .int q] S K := by
  rw [zc_X11_bound]
  exact ⟨σ, ⟨hM, g.1, g.2.2.2⟩, fun h1 T f c => H _ T _ (Or.inl (⟨h1, rfl, rfl⟩)) f c, fun x y u v h1 h2 h3 h4 h5 h6 h7 h8 h9 h10 T f c => H _ T _ (Or.inr (⟨x, y, u, v, h1, h2, h3, h4, h5, h6, h7, h8, h9, h10, rfl, rfl⟩)) f c⟩
def zP_reorder (σ : zSt) (m : Int32) (v_ : Int32) (σ' : zSt) : Prop := (((zmx σ.1 m = none ∨ zfrI σ.1 24 = iZ (-1) ∨ ∀ x, zmx σ.1 m = some x → x.2.1 ≠ x.2.2.1)) ∧ v_ = (iZ (-1)) ∧ σ' = σ) ∨ (∃ x k row, (zmx σ.1 m = some x) ∧ (k < 24) ∧ (σ.1 k = none) ∧ (zfrI σ.1 24 = nI k) ∧ (x.2.1 = x.2.2.1) ∧ (zRs x.2.2.2.2.2 x.2.1 row) ∧ v_ = (nI k) ∧ σ' = (zupo σ.1 k (some (0, x.2.1, x.2.1, 0, 0, fun i j => x.2.2.2.2.2 (zord x.2.2.2.2.2 x.2.1 row i) (zord x.2.2.2.2.2 x.2.1 row j))), σ.2.1, σ.2.2.1, (x.2.1, zord x.2.2.2.2.2 x.2.1 row), σ.2.2.2.2))
theorem zpC_reorder {S : zS} {K : Option Value → zS → Prop} {o : Nat} {σ : zSt} {m : Int32} (hC : zCi S o σ) (g : zGd σ) (H : ∀ w_ T σ', zP_reorder σ m w_ σ' → zFr (zRg o) S T → zCi T o σ' → K (some (.int w_)) T) : ct_X10_reorder.1 [.ref o, .int m] S K := by
  rw [zc_X10_reorder]
  exact ⟨σ, ⟨hC, g.1⟩, fun h1 => H _ S σ (Or.inl (⟨h1, rfl, rfl⟩)) zFr.refl hC, fun x k row h1 h2 h3 h4 h5 h6 T f c => H _ T _ (Or.inr (⟨x, k, row, h1, h2, h3, h4, h5, h6, rfl, rfl⟩)) f c⟩
theorem zpM_reorder {S : zS} {K : Option Value → zS → Prop} {p : Nat} {σ : zSt} {m : Int32} (hM : zMi S p σ) (g : zGd σ) (H : ∀ w_ T σ', zP_reorder σ m w_ σ' → zFr (zRm p) S T → zMi T p σ' → K (some (.int w_)) T) : ct_X11_reorder.1 [.ref p, .int m] S K := by
  rw [zc_X11_reorder]
  exact ⟨σ, ⟨hM, g.1⟩, fun h1 => H _ S σ (Or.inl (⟨h1, rfl, rfl⟩)) zFr.refl hM, fun x k row h1 h2 h3 h4 h5 h6 T f c => H _ T _ (Or.inr (⟨x, k, row, h1, h2, h3, h4, h5, h6, rfl, rfl⟩)) f c⟩
def zP_place (σ : zSt) (i : Int32) (v_ : Int32) (σ' : zSt) : Prop := v_ = (zpl1 σ.2.2.2.1.2 σ.2.2.2.1.1 i) ∧ σ' = σ
theorem zpC_place {S : zS} {K : Option Value → zS → Prop} {o : Nat} {σ : zSt} {i : Int32} (hC : zCi S o σ) (g : zGd σ) (H : ∀ w_ T σ', zP_place σ i w_ σ' → zFr (zRg o) S T → zCi T o σ' → K (some (.int w_)) T) : ct_X10_place.1 [.ref o, .int i] S K := by
  rw [zc_X10_place]
  exact ⟨σ, hC, H _ S σ (⟨rfl, rfl⟩) zFr.refl hC⟩
theorem zpM_place {S : zS} {K : Option Value → zS → Prop} {p : Nat} {σ : zSt} {i : Int32} (hM : zMi S p σ) (g : zGd σ) (H : ∀ w_ T σ', zP_place σ i w_ σ' → zFr (zRm p) S T → zMi T p σ' → K (some (.int w_)) T) : ct_X11_place.1 [.ref p, .int i] S K := by
  rw [zc_X11_place]
  exact ⟨σ, hM, H _ S σ (⟨rfl, rfl⟩) zFr.refl hM⟩
def zP_pack (σ : zSt) (m : Int32) (v_ : Int32) (σ' : zSt) : Prop := ((zmx σ.1 m = none) ∧ v_ = (iZ (-1)) ∧ σ' = σ) ∨ (∃ k x, (m = nI k) ∧ (k < 2147483648) ∧ (σ.1 k = some x) ∧ v_ = (nI (zpkm x.1 x.2.1 x.2.2.1 x.2.2.2.1 x.2.2.2.2.1 x.2.2.2.2.2).length) ∧ σ' = (σ.1, σ.2.1, σ.2.2.1, σ.2.2.2.1, zpkm x.1 x.2.1 x.2.2.1 x.2.2.2.1 x.2.2.2.2.1 x.2.2.2.2.2, σ.2.2.2.2.2))
theorem zpC_pack {S : zS} {K : Option Value → zS → Prop} {o : Nat} {σ : zSt} {m : Int32} (hC : zCi S o σ) (g : zGd σ) (H : ∀ w_ T σ', zP_pack σ m w_ σ' → zFr (zRg o) S T → zCi T o σ' → K (some (.int w_)) T) : ct_X10_pack.1 [.ref o, .int m] S K := by
  rw [zc_X10_pack]
  exact ⟨σ, ⟨hC, g.1⟩, fun h1 => H _ S σ (Or.inl (⟨h1, rfl, rfl⟩)) zFr.refl hC, fun k x h1 h2 h3 T f c => H _ T _ (Or.inr (⟨k, x, h1, h2, h3, rfl, rfl⟩)) f c⟩
theorem zpM_pack {S : zS} {K : Option Value → zS → Prop} {p : Nat} {σ : zSt} {m : Int32} (hM : zMi S p σ) (g : zGd σ) (H : ∀ w_ T σ', zP_pack σ m w_ σ' → zFr (zRm p) S T → zMi T p σ' → K (some (.int w_)) T) : ct_X11_pack.1 [.ref p, .int m] S K := by
  rw [zc_X11_pack]
  exact ⟨σ, ⟨hM, g.1⟩, fun h1 => H _ S σ (Or.inl (⟨h1, rfl, rfl⟩)) zFr.refl hM, fun k x h1 h2 h3 T f c => H _ T _ (Or.inr (⟨k, x, h1, h2, h3, rfl, rfl⟩)) f c⟩
def zP_octet (σ : zSt) (i : Int32) (v_ : Int32) (σ' : zSt) : Prop := v_ = (zpl1 (fun k => σ.2.2.2.2.1.getD k 0) σ.2.2.2.2.1.length i) ∧ σ' = σ
theorem zpC_octet {S : zS} {K : Option Value → zS → Prop} {o : Nat} {σ : zSt} {i : Int32} (hC : zCi S o σ) (g : zGd σ) (H : ∀ w_ T σ', zP_octet σ i w_ σ' → zFr (zRg o) S T → zCi T o σ' → K (some (.int w_)) T) : ct_X10_octet.1 [.ref o, .int i] S K := by
  rw [zc_X10_octet]
  exact ⟨σ, hC, H _ S σ (⟨rfl, rfl⟩) zFr.refl hC⟩
theorem zpM_octet {S : zS} {K : Option Value → zS → Prop} {p : Nat} {σ : zSt} {i : Int32} (hM : zMi S p σ) (g : zGd σ) (H : ∀ w_ T σ', zP_octet σ i w_ σ' → zFr (zRm p) S T → zMi T p σ' → K (some (.int w_)) T) : ct_X11_octet.1 [.ref p, .int i] S K := by
  rw [zc_X11_octet]
  exact ⟨σ, hM, H _ S σ (⟨rfl, rfl⟩) zFr.refl hM⟩
def zP_feed (σ : zSt) (a : Int32) (b : Int32) (c : Int32) (d : Int32) (e : Int32) (v_ : Int32) (σ' : zSt) : Prop := ((600 < σ.2.2.2.2.2.length + 20) ∧ v_ = (iZ (-1)) ∧ σ' = σ) ∨ ((σ.2.2.2.2.2.length + 20 ≤ 600) ∧ v_ = (nI (σ.2.2.2.2.2.length + 20)) ∧ σ' = (σ.1, σ.2.1, σ.2.2.1, σ.2.2.2.1, σ.2.2.2.2.1, zfdB (zfdB (zfdB (zfdB (zfdB σ.2.2.2.2.2 a) b) c) d) e))
theorem zpC_feed {S : zS} {K : Option Value → zS → Prop} {o : Nat} {σ : zSt} {a : Int32} {b : Int32} {c : Int32} {d : Int32} {e : Int32} (hC : zCi S o σ) (g : zGd σ) (H : ∀ w_ T σ', zP_feed σ a b c d e w_ σ' → zFr (zRg o) S T → zCi T o σ' → K (some (.int w_)) T) : ct_X10_feed.1 [.ref o, .int a, .int b, .int c, .int d, .int e] S K := by
  rw [zc_X10_feed]
  exact ⟨σ, hC, fun h1 => H _ S σ (Or.inl (⟨h1, rfl, rfl⟩)) zFr.refl hC, fun h1 T f c => H _ T _ (Or.inr (⟨h1, rfl, rfl⟩)) f c⟩
theorem zpM_feed {S : zS} {K : Option Value → zS → Prop} {p : Nat} {σ : zSt} {a : Int32} {b : Int32} {c : Int32} {d : Int32} {e : Int32} (hM : zMi S p σ) (g : zGd σ) (H : ∀ w_ T σ', zP_feed σ a b c d e w_ σ' → zFr (zRm p) S T → zMi T p σ' → K (some (.int w_)) T) : ct_X11_feed.1 [.ref p, .int a, .int b, .int c, .int d, .int e] S K := by
  rw [zc_X11_feed]
  exact ⟨σ, hM, fun h1 => H _ S σ (Or.inl (⟨h1, rfl, rfl⟩)) zFr.refl hM, fun h1 T f c => H _ T _ (Or.inr (⟨h1, rfl, rfl⟩)) f c⟩
def zP_end (σ : zSt) (n : Int32) (v_ : Int32) (σ' : zSt) : Prop := ((¬ (0 ≤ n.toInt ∧ n.toInt ≤ σ.2.2.2.2.2.length)) ∧ v_ = (nI 0) ∧ σ' = σ) ∨ ((0 ≤ n.toInt) ∧ (n.toInt ≤ σ.2.2.2.2.2.length) ∧ v_ = (nI 1) ∧ σ' = (σ.1, σ.2.1, σ.2.2.1, σ.2.2.2.1, σ.2.2.2.2.1, σ.2.2.2.2.2.take n.toInt.toNat))
theorem zpC_end {S : zS} {K : Option Value → zS → Prop} {o : Nat} {σ : zSt} {n : Int32} (hC : zCi S o σ) (g : zGd σ) (H : ∀ w_ T σ', zP_end σ n w_ σ' → zFr (zRg o) S T → zCi T o σ' → K (some (.int w_)) T) : ct_X10_end.1 [.ref o, .int n] S K := by
  rw [zc_X10_end]
  exact ⟨σ, hC, fun h1 => H _ S σ (Or.inl (⟨h1, rfl, rfl⟩)) zFr.refl hC, fun h1 h2 T f c => H _ T _ (Or.inr (⟨h1, h2, rfl, rfl⟩)) f c⟩
theorem zpM_end {S : zS} {K : Option Value → zS → Prop} {p : Nat} {σ : zSt} {n : Int32} (hM : zMi S p σ) (g : zGd σ) (H : ∀ w_ T σ', zP_end σ n w_ σ' → zFr (zRm p) S T → zMi T p σ' → K (some (.int w_)) T) : ct_X11_end.1 [.ref p, .int n] S K := by
  rw [zc_X11_end]
  exact ⟨σ, hM, fun h1 => H _ S σ (Or.inl (⟨h1, rfl, rfl⟩)) zFr.refl hM, fun h1 h2 T f c => H _ T _ (Or.inr (⟨h1, h2, rfl, rfl⟩)) f c⟩
def zP_take (σ : zSt)  (v_ : Int32) (σ' : zSt) : Prop := v_ = (nI σ.2.2.2.2.1.length) ∧ σ' = (σ.1, σ.2.1, σ.2.2.1, σ.2.2.2.1, σ.2.2.2.2.1, σ.2.2.2.2.1)
theorem zpC_take {S : zS} {K : Option Value → zS → Prop} {o : Nat} {σ : zSt}  (hC : zCi S o σ) (g : zGd σ) (H : ∀ w_ T σ', zP_take σ  w_ σ' → zFr (zRg o) S T → zCi T o σ' → K (some (.int w_)) T) : ct_X10_take.1 [.ref o] S K := by
  rw [zc_X10_take]
  exact ⟨σ, hC, fun T f c => H _ T _ (⟨rfl, rfl⟩) f c⟩
theorem zpM_take {S : zS} {K : Option Value → zS → Prop} {p : Nat} {σ : zSt}  (hM : zMi S p σ) (g : zGd σ) (H : ∀ w_ T σ', zP_take σ  w_ σ' → zFr (zRm p) S T → zMi T p σ' → K (some (.int w_)) T) : ct_X11_take.1 [.ref p] S K := by
  rw [zc_X11_take]
  exact ⟨σ, hM, fun T f c => H _ T _ (⟨rfl, rfl⟩) f c⟩
def zP_unpack (σ : zSt)  (v_ : Int32) (σ' : zSt) : Prop := (((zfrI σ.1 24 = iZ (-1) ∨ zrdM σ.2.2.2.2.2 = none)) ∧ v_ = (iZ (-1)) ∧ σ' = (σ.1, σ.2.1, σ.2.2.1, σ.2.2.2.1, σ.2.2.2.2.1, [])) ∨ (∃ k x, (k < 24) ∧ (σ.1 k = none) ∧ (zfrI σ.1 24 = nI k) ∧ (zrdM σ.2.2.2.2.2 = some x) ∧ v_ = (nI k) ∧ σ' = (zupo σ.1 k (some x), σ.2.1, σ.2.2.1, σ.2.2.2.1, σ.2.2.2.2.1, []))
theorem zpC_unpack {S : zS} {K : Option Value → zS → Prop} {o : Nat} {σ : zSt}  (hC : zCi S o σ) (g : zGd σ) (H : ∀ w_ T σ', zP_unpack σ  w_ σ' → zFr (zRg o) S T → zCi T o σ' → K (some (.int w_)) T) : ct_X10_unpack.1 [.ref o] S K := by
  rw [zc_X10_unpack]
  exact ⟨σ, hC, fun h1 T f c => H _ T _ (Or.inl (⟨h1, rfl, rfl⟩)) f c, fun k x h1 h2 h3 h4 T f c => H _ T _ (Or.inr (⟨k, x, h1, h2, h3, h4, rfl, rfl⟩)) f c⟩
theorem zpM_unpack {S : zS} {K : Option Value → zS → Prop} {p : Nat} {σ : zSt}  (hM : zMi S p σ) (g : zGd σ) (H : ∀ w_ T σ', zP_unpack σ  w_ σ' → zFr (zRm p) S T → zMi T p σ' → K (some (.int w_)) T) : ct_X11_unpack.1 [.ref p] S K := by
  rw [zc_X11_unpack]
  exact ⟨σ, hM, fun h1 T f c => H _ T _ (Or.inl (⟨h1, rfl, rfl⟩)) f c, fun k x h1 h2 h3 h4 T f c => H _ T _ (Or.inr (⟨k, x, h1, h2, h3, h4, rfl, rfl⟩)) f c⟩
def zP_count (σ : zSt) (w : Int32) (v_ : Int32) (σ' : zSt) : Prop := v_ = (if w = nI 0 then nI (zcnt σ.1 24) else if w = nI 1 then nI (zcnt σ.2.1 12) else if w = nI 2 then nI (zcnt σ.2.2.1 24) else if w = nI 3 then nI σ.2.2.2.2.2.length else iZ (-1)) ∧ σ' = σ
theorem zpC_count {S : zS} {K : Option Value → zS → Prop} {o : Nat} {σ : zSt} {w : Int32} (hC : zCi S o σ) (g : zGd σ) (H : ∀ w_ T σ', zP_count σ w w_ σ' → zFr (zRg o) S T → zCi T o σ' → K (some (.int w_)) T) : ct_X10_count.1 [.ref o, .int w] S K := by
  rw [zc_X10_count]
  exact ⟨σ, hC, H _ S σ (⟨rfl, rfl⟩) zFr.refl hC⟩
theorem zpM_count {S : zS} {K : Option Value → zS → Prop} {p : Nat} {σ : zSt} {w : Int32} (hM : zMi S p σ) (g : zGd σ) (H : ∀ w_ T σ', zP_count σ w w_ σ' → zFr (zRm p) S T → zMi T p σ' → K (some (.int w_)) T) : ct_X11_count.1 [.ref p, .int w] S K := by
  rw [zc_X11_count]
  exact ⟨σ, ⟨hM, g.2.2.2⟩, H _ S σ (⟨rfl, rfl⟩) zFr.refl hM⟩
end ZSPC
