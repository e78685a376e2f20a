/-! the law: its state, and its callees' contracts -/
section ZLHD
def zLG : List zCt := [ct_X10_init, ct_X11_init, ct_X10_matrix, ct_X11_matrix, ct_X10_drop, ct_X11_drop, ct_X10_put, ct_X11_put, ct_X10_get, ct_X11_get, ct_X10_shape, ct_X11_shape, ct_X10_sum, ct_X11_sum, ct_X10_product, ct_X11_product, ct_X10_transpose, ct_X11_transpose, ct_X10_formed, ct_X11_formed, ct_X10_block, ct_X11_block, ct_X10_same, ct_X11_same, ct_X10_factor, ct_X11_factor, ct_X10_release, ct_X11_release, ct_X10_part, ct_X11_part, ct_X10_order, ct_X11_order_, ct_X10_growth, ct_X11_growth, ct_X10_pivots, ct_X11_pivots, ct_X10_vector, ct_X11_vector, ct_X10_forget, ct_X11_forget, ct_X10_set, ct_X11_set, ct_X10_value, ct_X11_value, ct_X10_size, ct_X11_size_, ct_X10_solve, ct_X11_solve, ct_X10_residual, ct_X11_residual, ct_X10_greatest, ct_X11_greatest, ct_X10_refine, ct_X11_refine, ct_X10_inverse, ct_X11_inverse, ct_X10_exactly, ct_X11_exactly, ct_X10_rank, ct_X11_rank, ct_X10_nullVector, ct_X11_nullVector, ct_X10_determinant, ct_X11_determinant, ct_X10_digits, ct_X11_digits, ct_X10_condition, ct_X11_condition, ct_X10_gap, ct_X11_gap, ct_X10_bound, ct_X11_bound, ct_X10_reorder, ct_X11_reorder, ct_X10_place, ct_X11_place, ct_X10_pack, ct_X11_pack, ct_X10_octet, ct_X11_octet, ct_X10_feed, ct_X11_feed, ct_X10_end, ct_X11_end, ct_X10_take, ct_X11_take, ct_X10_unpack, ct_X11_unpack, ct_X10_count, ct_X11_count]
theorem zLg_0 : zget zLG 0 = some ct_X10_init := rfl
theorem zLg_1 : zget zLG 1 = some ct_X11_init := rfl
theorem zLg_2 : zget zLG 2 = some ct_X10_matrix := rfl
theorem zLg_3 : zget zLG 3 = some ct_X11_matrix := rfl
theorem zLg_4 : zget zLG 4 = some ct_X10_drop := rfl
theorem zLg_5 : zget zLG 5 = some ct_X11_drop := rfl
theorem zLg_6 : zget zLG 6 = some ct_X10_put := rfl
theorem zLg_7 : zget zLG 7 = some ct_X11_put := rfl
theorem zLg_8 : zget zLG 8 = some ct_X10_get := rfl
theorem zLg_9 : zget zLG 9 = some ct_X11_get := rfl
theorem zLg_10 : zget zLG 10 = some ct_X10_shape := rfl
theorem zLg_11 : zget zLG 11 = some ct_X11_shape := rfl
theorem zLg_12 : zget zLG 12 = some ct_X10_sum := rfl
theorem zLg_13 : zget zLG 13 = some ct_X11_sum := rfl
theorem zLg_14 : zget zLG 14 = some ct_X10_product := rfl
theorem zLg_15 : zget zLG 15 = some ct_X11_product := rfl
theorem zLg_16 : zget zLG 16 = some ct_X10_transpose := rfl
theorem zLg_17 : zget zLG 17 = some ct_X11_transpose := rfl
theorem zLg_18 : zget zLG 18 = some ct_X10_formed := rfl
theorem zLg_19 : zget zLG 19 = some ct_X11_formed := rfl
theorem zLg_20 : zget zLG 20 = some ct_X10_block := rfl
theorem zLg_21 : zget zLG 21 = some ct_X11_block := rfl
theorem zLg_22 : zget zLG 22 = some ct_X10_same := rfl
theorem zLg_23 : zget zLG 23 = some ct_X11_same := rfl
theorem zLg_24 : zget zLG 24 = some ct_X10_factor := rfl
theorem zLg_25 : zget zLG 25 = some ct_X11_factor := rfl
theorem zLg_26 : zget zLG 26 = some ct_X10_release := rfl
theorem zLg_27 : zget zLG 27 = some ct_X11_release := rfl
theorem zLg_28 : zget zLG 28 = some ct_X10_part := rfl
theorem zLg_29 : zget zLG 29 = some ct_X11_part := rfl
theorem zLg_30 : zget zLG 30 = some ct_X10_order := rfl
theorem zLg_31 : zget zLG 31 = some ct_X11_order_ := rfl
theorem zLg_32 : zget zLG 32 = some ct_X10_growth := rfl
theorem zLg_33 : zget zLG 33 = some ct_X11_growth := rfl
theorem zLg_34 : zget zLG 34 = some ct_X10_pivots := rfl
theorem zLg_35 : zget zLG 35 = some ct_X11_pivots := rfl
theorem zLg_36 : zget zLG 36 = some ct_X10_vector := rfl
theorem zLg_37 : zget zLG 37 = some ct_X11_vector := rfl
theorem zLg_38 : zget zLG 38 = some ct_X10_forget := rfl
theorem zLg_39 : zget zLG 39 = some ct_X11_forget := rfl
theorem zLg_40 : zget zLG 40 = some ct_X10_set := rfl
theorem zLg_41 : zget zLG 41 = some ct_X11_set := rfl
theorem zLg_42 : zget zLG 42 = some ct_X10_value := rfl
theorem zLg_43 : zget zLG 43 = some ct_X11_value := rfl
theorem zLg_44 : zget zLG 44 = some ct_X10_size := rfl
theorem zLg_45 : zget zLG 45 = some ct_X11_size_ := rfl
theorem zLg_46 : zget zLG 46 = some ct_X10_solve := rfl
theorem zLg_47 : zget zLG 47 = some ct_X11_solve := rfl
theorem zLg_48 : zget zLG 48 = some ct_X10_residual := rfl
theorem zLg_49 : zget zLG 49 = some ct_X11_residual := rfl
theorem zLg_50 : zget zLG 50 = some ct_X10_greatest := rfl
theorem zLg_51 : zget zLG 51 = some ct_X11_greatest := rfl
theorem zLg_52 : zget zLG 52 = some ct_X10_refine := rfl
theorem zLg_53 : zget zLG 53 = some ct_X11_refine := rfl
theorem zLg_54 : zget zLG 54 = some ct_X10_inverse := rfl
theorem zLg_55 : zget zLG 55 = some ct_X11_inverse := rfl
theorem zLg_56 : zget zLG 56 = some ct_X10_exactly := rfl
theorem zLg_57 : zget zLG 57 = some ct_X11_exactly := rfl
theorem zLg_58 : zget zLG 58 = some ct_X10_rank := rfl
theorem zLg_59 : zget zLG 59 = some ct_X11_rank := rfl
theorem zLg_60 : zget zLG 60 = some ct_X10_nullVector := rfl
theorem zLg_61 : zget zLG 61 = some ct_X11_nullVector := rfl
theorem zLg_62 : zget zLG 62 = some ct_X10_determinant := rfl
theorem zLg_63 : zget zLG 63 = some ct_X11_determinant := rfl
theorem zLg_64 : zget zLG 64 = some ct_X10_digits := rfl
theorem zLg_65 : zget zLG 65 = some ct_X11_digits := rfl
theorem zLg_66 : zget zLG 66 = some ct_X10_condition := rfl
theorem zLg_67 : zget zLG 67 = some ct_X11_condition := rfl
theorem zLg_68 : zget zLG 68 = some ct_X10_gap := rfl
theorem zLg_69 : zget zLG 69 = some ct_X11_gap := rfl
theorem zLg_70 : zget zLG 70 = some ct_X10_bound := rfl
theorem zLg_71 : zget zLG 71 = some ct_X11_bound := rfl
theorem zLg_72 : zget zLG 72 = some ct_X10_reorder := rfl
theorem zLg_73 : zget zLG 73 = some ct_X11_reorder := rfl
theorem zLg_74 : zget zLG 74 = some ct_X10_place := rfl
theorem zLg_75 : zget zLG 75 = some ct_X11_place := rfl
theorem zLg_76 : zget zLG 76 = some ct_X10_pack := rfl
theorem zLg_77 : zget zLG 77 = some ct_X11_pack := rfl
theorem zLg_78 : zget zLG 78 = some ct_X10_octet := rfl
theorem zLg_79 : zget zLG 79 = some ct_X11_octet := rfl
theorem zLg_80 : zget zLG 80 = some ct_X10_feed := rfl
theorem zLg_81 : zget zLG 81 = some ct_X11_feed := rfl
theorem zLg_82 : zget zLG 82 = some ct_X10_end := rfl
theorem zLg_83 : zget zLG 83 = some ct_X11_end := rfl
theorem zLg_84 : zget zLG 84 = some ct_X10_take := rfl
theorem zLg_85 : zget zLG 85 = some ct_X11_take := rfl
theorem zLg_86 : zget zLG 86 = some ct_X10_unpack := rfl
theorem zLg_87 : zget zLG 87 = some ct_X11_unpack := rfl
theorem zLg_88 : zget zLG 88 = some ct_X10_count := rfl
theorem zLg_89 : zget zLG 89 = some ct_X11_count := rfl
theorem zLG_ok (l : Launch) (G : zG) : zmets l G cal_L_law zLG := ⟨⟨met_X10_init l G, rfl, rfl⟩, ⟨⟨met_X11_init l G, rfl, rfl⟩, ⟨⟨met_X10_matrix l G, rfl, rfl⟩, ⟨⟨met_X11_matrix l G, rfl, rfl⟩, ⟨⟨met_X10_drop l G, rfl, rfl⟩, ⟨⟨met_X11_drop l G, rfl, rfl⟩, ⟨⟨met_X10_put l G, rfl, rfl⟩, ⟨⟨met_X11_put l G, rfl, rfl⟩, ⟨⟨met_X10_get l G, rfl, rfl⟩, ⟨⟨met_X11_get l G, rfl, rfl⟩, ⟨⟨met_X10_shape l G, rfl, rfl⟩, ⟨⟨met_X11_shape l G, rfl, rfl⟩, ⟨⟨met_X10_sum l G, rfl, rfl⟩, ⟨⟨met_X11_sum l G, rfl, rfl⟩, ⟨⟨met_X10_product l G, rfl, rfl⟩, ⟨⟨met_X11_product l G, rfl, rfl⟩, ⟨⟨met_X10_transpose l G, rfl, rfl⟩, ⟨⟨met_X11_transpose l G, rfl, rfl⟩, ⟨⟨met_X10_formed l G, rfl, rfl⟩, ⟨⟨met_X11_formed l G, rfl, rfl⟩, ⟨⟨met_X10_block l G, rfl, rfl⟩, ⟨⟨met_X11_block l G, rfl, rfl⟩, ⟨⟨met_X10_same l G, rfl, rfl⟩, ⟨⟨met_X11_same l G, rfl, rfl⟩, ⟨⟨met_X10_factor l G, rfl, rfl⟩, ⟨⟨met_X11_factor l G, rfl, rfl⟩, ⟨⟨met_X10_release l G, rfl, rfl⟩, ⟨⟨met_X11_release l G, rfl, rfl⟩, ⟨⟨met_X10_part l G, rfl, rfl⟩, ⟨⟨met_X11_part l G, rfl, rfl⟩, ⟨⟨met_X10_order l G, rfl, rfl⟩, ⟨⟨met_X11_order_ l G, rfl, rfl⟩, ⟨⟨met_X10_growth l G, rfl, rfl⟩, ⟨⟨met_X11_growth l G, rfl, rfl⟩, ⟨⟨met_X10_pivots l G, rfl, rfl⟩, ⟨⟨met_X11_pivots l G, rfl, rfl⟩, ⟨⟨met_X10_vector l G, rfl, rfl⟩, ⟨⟨met_X11_vector l G, rfl, rfl⟩, ⟨⟨met_X10_forget l G, rfl, rfl⟩, ⟨⟨met_X11_forget l G, rfl, rfl⟩, ⟨⟨met_X10_set l G, rfl, rfl⟩, ⟨⟨met_X11_set l G, rfl, rfl⟩, ⟨⟨met_X10_value l G, rfl, rfl⟩, ⟨⟨met_X11_value l G, rfl, rfl⟩, ⟨⟨met_X10_size l G, rfl, rfl⟩, ⟨⟨met_X11_size_ l G, rfl, rfl⟩, ⟨⟨met_X10_solve l G, rfl, rfl⟩, ⟨⟨met_X11_solve l G, rfl, rfl⟩, ⟨⟨met_X10_residual l G, rfl, rfl⟩, ⟨⟨met_X11_residual l G, rfl, rfl⟩, ⟨⟨met_X10_greatest l G, rfl, rfl⟩, ⟨⟨met_X11_greatest l G, rfl, rfl⟩, ⟨⟨met_X10_refine l G, rfl, rfl⟩, ⟨⟨met_X11_refine l G, rfl, rfl⟩, ⟨⟨met_X10_inverse l G, rfl, rfl⟩, ⟨⟨met_X11_inverse l G, rfl, rfl⟩, ⟨⟨met_X10_exactly l G, rfl, rfl⟩, ⟨⟨met_X11_exactly l G, rfl, rfl⟩, ⟨⟨met_X10_rank l G, rfl, rfl⟩, ⟨⟨met_X11_rank l G, rfl, rfl⟩, ⟨⟨met_X10_nullVector l G, rfl, rfl⟩, ⟨⟨met_X11_nullVector l G, rfl, rfl⟩, ⟨⟨met_X10_determinant l G, rfl, rfl⟩, ⟨⟨met_X11_determinant l G, rfl, rfl⟩, ⟨⟨met_X10_digits l G, rfl, rfl⟩, ⟨⟨met_X11_digits l G, rfl, rfl⟩, ⟨⟨met_X10_condition l G, rfl, rfl⟩, ⟨⟨met_X11_condition l G, rfl, rfl⟩, ⟨⟨met_X10_gap l G, rfl, rfl⟩, ⟨⟨met_X11_gap l G, rfl, rfl⟩, ⟨⟨met_X10_bound l G, rfl, rfl⟩, ⟨⟨met_X11_bound l G, rfl, rfl⟩, ⟨⟨met_X10_reorder l G, rfl, rfl⟩, ⟨⟨met_X11_reorder l G, rfl, rfl⟩, ⟨⟨met_X10_place l G, rfl, rfl⟩, ⟨⟨met_X11_place l G, rfl, rfl⟩, ⟨⟨met_X10_pack l G, rfl, rfl⟩, ⟨⟨met_X11_pack l G, rfl, rfl⟩, ⟨⟨met_X10_octet l G, rfl, rfl⟩, ⟨⟨met_X11_octet l G, rfl, rfl⟩, ⟨⟨met_X10_feed l G, rfl, rfl⟩, ⟨⟨met_X11_feed l G, rfl, rfl⟩, ⟨⟨met_X10_end l G, rfl, rfl⟩, ⟨⟨met_X11_end l G, rfl, rfl⟩, ⟨⟨met_X10_take l G, rfl, rfl⟩, ⟨⟨met_X11_take l G, rfl, rfl⟩, ⟨⟨met_X10_unpack l G, rfl, rfl⟩, ⟨⟨met_X11_unpack l G, rfl, rfl⟩, ⟨⟨met_X10_count l G, rfl, rfl⟩, ⟨⟨met_X11_count l G, rfl, rfl⟩, trivial⟩⟩⟩⟩⟩⟩⟩⟩⟩⟩⟩⟩⟩⟩⟩⟩⟩⟩⟩⟩⟩⟩⟩⟩⟩⟩⟩⟩⟩⟩⟩⟩⟩⟩⟩⟩⟩⟩⟩⟩⟩⟩⟩⟩⟩⟩⟩⟩⟩⟩⟩⟩⟩⟩⟩⟩⟩⟩⟩⟩⟩⟩⟩⟩⟩⟩⟩⟩⟩⟩⟩⟩⟩⟩⟩⟩⟩⟩⟩⟩⟩⟩⟩⟩⟩⟩⟩⟩⟩⟩
def zLs (b o p L : Nat) (xs : Nat → Int32) (S : zS) (σ : zSt) : Prop := zCi S o σ ∧ zMi S p σ ∧ zGd σ ∧ (o + 464 ≤ p ∧ b < o) ∧ (zSh S b = (28, L) ∧ ∀ j, zI S b j = xs j) ∧ (zSh S o).1 = 10 ∧ (zSh S p).1 = 11
theorem zLs_c {b o p L : Nat} {xs : Nat → Int32} {S T : zS} {σ : zSt} (h : zLs b o p L xs S σ) (f : zFr (zRg o) S T) : zMi T p σ ∧ (zSh T b = (28, L) ∧ ∀ j, zI T b j = xs j) ∧ (zSh T o).1 = 10 ∧ (zSh T p).1 = 11 := by
  obtain ⟨h1, h2, h3, ⟨h4, h5⟩, ⟨h6, h7⟩, h8, h9⟩ := h
  refine ⟨zMi_fr f (fun c q1 q2 q3 => ?_) h2, ⟨by rw [f.1]; exact h6, fun j => ?_⟩, by rw [f.1]; exact h8, by rw [f.1]; exact h9⟩
  · unfold zRg at q3; omega
  · rw [(f.2.2 b (fun q3 => by unfold zRg at q3; omega)).1]; exact h7 j
theorem zLs_m {b o p L : Nat} {xs : Nat → Int32} {S T U : zS} {σ σ1 : zSt} (h : zLs b o p L xs S σ) (f : zFr (zRg o) S T) (c : zCi T o σ1) (f2 : zFr (zRm p) T U) (m : zMi U p σ1) (g : zGd σ1) : zLs b o p L xs U σ1 := by
  obtain ⟨q1, ⟨q2, q3⟩, q4, q5⟩ := zLs_c h f
  obtain ⟨_, _, _, ⟨h4, h5⟩, _⟩ := h
  refine ⟨zCi_fr f2 (fun b c1 c2 c3 => ?_) c, m, g, ⟨h4, h5⟩, ⟨by rw [f2.1]; exact q2, fun j => ?_⟩, by rw [f2.1]; exact q4, by rw [f2.1]; exact q5⟩
  · unfold zRm at c3; omega
  · rw [(f2.2.2 b (fun q3 => by unfold zRm at q3; omega)).1]; exact q3 j
theorem zpC_putL {S : zS} {K : Option Value → zS → Prop} {o : Nat} {σ : zSt} {m : Int32} {i : Int32} {j : Int32} {v : Int64} (hC : zCi S o σ) (g : zGd σ) (H : ∀ w_ T σ', zP_put σ m i j (zJu v) w_ σ' → zFr (zRg o) S T → zCi T o σ' → K (some (.int w_)) T) : ct_X10_put.1 [.ref o, .int m, .int i, .int j, .long v] S K := zpC_put (v := zJu v) hC g H
theorem zpM_putL {S : zS} {K : Option Value → zS → Prop} {p : Nat} {σ : zSt} {m : Int32} {i : Int32} {j : Int32} {v : Int64} (hM : zMi S p σ) (g : zGd σ) (H : ∀ w_ T σ', zP_put σ m i j (zJu v) w_ σ' → zFr (zRm p) S T → zMi T p σ' → K (some (.int w_)) T) : ct_X11_put.1 [.ref p, .int m, .int i, .int j, .long v] S K := zpM_put (v := zJu v) hM g H
theorem zpC_setL {S : zS} {K : Option Value → zS → Prop} {o : Nat} {σ : zSt} {m : Int32} {i : Int32} {v : Int64} (hC : zCi S o σ) (g : zGd σ) (H : ∀ w_ T σ', zP_set σ m i (zJu v) w_ σ' → zFr (zRg o) S T → zCi T o σ' → K (some (.int w_)) T) : ct_X10_set.1 [.ref o, .int m, .int i, .long v] S K := zpC_set (v := zJu v) hC g H
theorem zpM_setL {S : zS} {K : Option Value → zS → Prop} {p : Nat} {σ : zSt} {m : Int32} {i : Int32} {v : Int64} (hM : zMi S p σ) (g : zGd σ) (H : ∀ w_ T σ', zP_set σ m i (zJu v) w_ σ' → zFr (zRm p) S T → zMi T p σ' → K (some (.int w_)) T) : ct_X11_set.1 [.ref p, .int m, .int i, .long v] S K := zpM_set (v := zJu v) hM g H
end ZLHD
