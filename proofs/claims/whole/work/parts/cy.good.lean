/-! the law: the facts are kept (written by wip/whole/gen/law3.py) -/
section ZGKP
theorem zpG_matrix {S T : zS} {o p : Nat} {σ σ1 : zSt} {f : Int32} {r : Int32} {c : Int32} {a : Int32} {b : Int32} {w1 : Int32} (g : zGd σ) (hC : zCi S o σ) (hM : zMi S p σ) (hC1 : zCi T o σ1) (h1 : zP_matrix σ f r c a b w1 σ1) : zGd σ1 := by
  unfold zP_matrix at h1
  rcases h1 with ⟨a1, rfl, rfl⟩ | ⟨ka, fqa, rqa, cqa, aqa, bqa, a1, a2, a3, a4, a5, a6, a7, a8, a9, rfl, rfl⟩
  · exact g
  · exact zGd_m g (zMg_new a9) _
theorem zpG_drop {S T : zS} {o p : Nat} {σ σ1 : zSt} {m : Int32} {w1 : Int32} (g : zGd σ) (hC : zCi S o σ) (hM : zMi S p σ) (hC1 : zCi T o σ1) (h1 : zP_drop σ m w1 σ1) : zGd σ1 := by
  unfold zP_drop at h1
  rcases h1 with ⟨a1, rfl, rfl⟩ | ⟨ka, xa, a1, a2, a3, rfl, rfl⟩
  · exact g
  · exact ⟨zupo_r g.1, g.2⟩
theorem zpG_put {S T : zS} {o p : Nat} {σ σ1 : zSt} {m : Int32} {i : Int32} {j : Int32} {v : UInt64} {w1 : Int32} (g : zGd σ) (hC : zCi S o σ) (hM : zMi S p σ) (hC1 : zCi T o σ1) (h1 : zP_put σ m i j v w1 σ1) : zGd σ1 := by
  unfold zP_put at h1
  rcases h1 with ⟨a1, rfl, rfl⟩ | ⟨ka, xa, iqa, jqa, a1, a2, a3, a4, a5, a6, rfl, rfl⟩
  · exact g
  · exact zGd_m g (zMg_put (g.1 _ _ a3) a6) _
theorem zpG_get {S T : zS} {o p : Nat} {σ σ1 : zSt} {m : Int32} {i : Int32} {j : Int32} {w1 : Int64} (g : zGd σ) (hC : zCi S o σ) (hM : zMi S p σ) (hC1 : zCi T o σ1) (h1 : zP_get σ m i j w1 σ1) : zGd σ1 := by
  unfold zP_get at h1
  rcases h1 with ⟨a1, rfl, rfl⟩ | ⟨ka, xa, a1, a2, a3, rfl, rfl⟩
  · exact g
  · exact g
theorem zpG_shape {S T : zS} {o p : Nat} {σ σ1 : zSt} {m : Int32} {w : Int32} {w1 : Int32} (g : zGd σ) (hC : zCi S o σ) (hM : zMi S p σ) (hC1 : zCi T o σ1) (h1 : zP_shape σ m w w1 σ1) : zGd σ1 := by
  unfold zP_shape at h1
  rcases h1 with ⟨a1, rfl, rfl⟩ | ⟨ka, xa, a1, a2, a3, rfl, rfl⟩
  · exact g
  · exact g
theorem zpG_sum {S T : zS} {o p : Nat} {σ σ1 : zSt} {m : Int32} {n : Int32} {w1 : Int32} (g : zGd σ) (hC : zCi S o σ) (hM : zMi S p σ) (hC1 : zCi T o σ1) (h1 : zP_sum σ m n w1 σ1) : zGd σ1 := by
  unfold zP_sum at h1
  rcases h1 with ⟨a1, rfl, rfl⟩ | ⟨xa, ya, ka, a1, a2, a3, a4, a5, a6, a7, a8, rfl, rfl⟩
  · exact g
  · obtain ⟨gx, ⟨r1, r8⟩, c1, c8⟩ := zGd_x g hC a1
    exact zGd_m g (zMg_z r1 r8 c1 c8 fun i j hi hj => zbal_t.mp (zbal_t.mp a8 i hi) j hj) _
theorem zpG_product {S T : zS} {o p : Nat} {σ σ1 : zSt} {m : Int32} {n : Int32} {fu : Bool} {w1 : Int32} (g : zGd σ) (hC : zCi S o σ) (hM : zMi S p σ) (hC1 : zCi T o σ1) (h1 : zP_product σ m n fu w1 σ1) : zGd σ1 := by
  unfold zP_product at h1
  rcases h1 with ⟨a1, rfl, rfl⟩ | ⟨xa, ya, ka, a1, a2, a3, a4, a5, a6, a7, rfl, rfl⟩
  · exact g
  · obtain ⟨gx, ⟨r1, r8⟩, c1, c8⟩ := zGd_x g hC a1
    obtain ⟨gy, ⟨s1, s8⟩, d1, d8⟩ := zGd_x g hC a2
    exact zGd_m g (zMg_z r1 r8 d1 d8 fun i j hi hj => zpdG_f gx gy c1 a6 a7 hi hj) _
theorem zpG_transpose {S T : zS} {o p : Nat} {σ σ1 : zSt} {m : Int32} {w1 : Int32} (g : zGd σ) (hC : zCi S o σ) (hM : zMi S p σ) (hC1 : zCi T o σ1) (h1 : zP_transpose σ m w1 σ1) : zGd σ1 := by
  unfold zP_transpose at h1
  rcases h1 with ⟨a1, rfl, rfl⟩ | ⟨xa, ka, a1, a2, a3, a4, rfl, rfl⟩
  · exact g
  · obtain ⟨gx, ⟨r1, r8⟩, c1, c8⟩ := zGd_x g hC a1
    exact zGd_m g (zMg_f0 c1 c8 r1 r8 fun i j hi hj => ⟨(gx.2.1 j i hj hi).1, (gx.2.1 j i hj hi).2.1⟩) _
theorem zpG_formed {S T : zS} {o p : Nat} {σ σ1 : zSt} {m : Int32} {f : Int32} {a : Int32} {b : Int32} {w1 : Int32} (g : zGd σ) (hC : zCi S o σ) (hM : zMi S p σ) (hC1 : zCi T o σ1) (h1 : zP_formed σ m f a b w1 σ1) : zGd σ1 := by
  unfold zP_formed at h1
  rcases h1 with ⟨a1, rfl, rfl⟩ | ⟨xa, ka, fqa, aqa, bqa, a1, a2, a3, a4, a5, a6, a7, a8, a9, a10, rfl, rfl⟩
  · exact g
  · obtain ⟨gx, ⟨r1, r8⟩, c1, c8⟩ := zGd_x g hC a1
    exact zGd_m g (zMg_frm gx a8 a9 a10) _
theorem zpG_block {S T : zS} {o p : Nat} {σ σ1 : zSt} {m : Int32} {i : Int32} {j : Int32} {r : Int32} {c : Int32} {w1 : Int32} (g : zGd σ) (hC : zCi S o σ) (hM : zMi S p σ) (hC1 : zCi T o σ1) (h1 : zP_block σ m i j r c w1 σ1) : zGd σ1 := by
  unfold zP_block at h1
  rcases h1 with ⟨a1, rfl, rfl⟩ | ⟨xa, ka, iqa, jqa, rqa, cqa, a1, a2, a3, a4, a5, a6, a7, a8, a9, a10, a11, a12, rfl, rfl⟩
  · exact g
  · obtain ⟨gx, ⟨r1, r8⟩, c1, c8⟩ := zGd_x g hC a1
    exact zGd_m g (zMg_f0 a9 (by omega) a10 (by omega) fun i j hi hj => ⟨(gx.2.1 _ _ (by omega) (by omega)).1, (gx.2.1 _ _ (by omega) (by omega)).2.1⟩) _
theorem zpG_same {S T : zS} {o p : Nat} {σ σ1 : zSt} {m : Int32} {n : Int32} {w1 : Int32} (g : zGd σ) (hC : zCi S o σ) (hM : zMi S p σ) (hC1 : zCi T o σ1) (h1 : zP_same σ m n w1 σ1) : zGd σ1 := by
  unfold zP_same at h1
  rcases h1 with ⟨a1, rfl, rfl⟩ | ⟨xa, ya, a1, a2, rfl, rfl⟩
  · exact g
  · exact g
theorem zpG_factor {S T : zS} {o p : Nat} {σ σ1 : zSt} {m : Int32} {me : Int32} {fu : Bool} {w1 : Int32} (g : zGd σ) (hC : zCi S o σ) (hM : zMi S p σ) (hC1 : zCi T o σ1) (h1 : zP_factor σ m me fu w1 σ1) : zGd σ1 := by
  unfold zP_factor at h1
  rcases h1 with ⟨a1, rfl, rfl⟩ | ⟨xa, ka, meqa, ja, a1, a2, a3, a4, a5, a6, a7, a8, rfl, rfl⟩ | ⟨xa, ka, meqa, ya, a1, a2, a3, a4, a5, a6, a7, a8, rfl, rfl⟩
  · exact g
  · exact g
  · obtain ⟨gx, ⟨r1, r8⟩, c1, c8⟩ := zGd_x g hC a1
    have z := zmkF_g r1 r8 a6 (fun i j hi hj => (gx.2.1 i j hi (by omega)).1) a8 (zCi_kf hC1 zupo_e)
    exact zGd_k g z.1 z.2
theorem zpG_release {S T : zS} {o p : Nat} {σ σ1 : zSt} {m : Int32} {w1 : Int32} (g : zGd σ) (hC : zCi S o σ) (hM : zMi S p σ) (hC1 : zCi T o σ1) (h1 : zP_release σ m w1 σ1) : zGd σ1 := by
  unfold zP_release at h1
  rcases h1 with ⟨a1, rfl, rfl⟩ | ⟨ka, xa, a1, a2, a3, rfl, rfl⟩
  · exact g
  · exact ⟨g.1, zupo_r g.2.1, zupo_r g.2.2.1, g.2.2.2⟩
theorem zpG_part {S T : zS} {o p : Nat} {σ σ1 : zSt} {m : Int32} {i : Int32} {j : Int32} {w1 : Int64} (g : zGd σ) (hC : zCi S o σ) (hM : zMi S p σ) (hC1 : zCi T o σ1) (h1 : zP_part σ m i j w1 σ1) : zGd σ1 := by
  unfold zP_part at h1
  rcases h1 with ⟨a1, rfl, rfl⟩ | ⟨ka, xa, a1, a2, a3, rfl, rfl⟩
  · exact g
  · exact g
theorem zpG_order {S T : zS} {o p : Nat} {σ σ1 : zSt} {m : Int32} {ax : Int32} {j : Int32} {w1 : Int32} (g : zGd σ) (hC : zCi S o σ) (hM : zMi S p σ) (hC1 : zCi T o σ1) (h1 : zP_order σ m ax j w1 σ1) : zGd σ1 := by
  unfold zP_order at h1
  rcases h1 with ⟨a1, rfl, rfl⟩ | ⟨ka, xa, a1, a2, a3, rfl, rfl⟩
  · exact g
  · exact g
theorem zpG_growth {S T : zS} {o p : Nat} {σ σ1 : zSt} {m : Int32} {w1 : Int64} (g : zGd σ) (hC : zCi S o σ) (hM : zMi S p σ) (hC1 : zCi T o σ1) (h1 : zP_growth σ m w1 σ1) : zGd σ1 := by
  unfold zP_growth at h1
  rcases h1 with ⟨a1, rfl, rfl⟩ | ⟨ka, xa, a1, a2, a3, rfl, rfl⟩
  · exact g
  · exact g
theorem zpG_pivots {S T : zS} {o p : Nat} {σ σ1 : zSt} {m : Int32} {w : Int32} {w1 : Int64} (g : zGd σ) (hC : zCi S o σ) (hM : zMi S p σ) (hC1 : zCi T o σ1) (h1 : zP_pivots σ m w w1 σ1) : zGd σ1 := by
  unfold zP_pivots at h1
  rcases h1 with ⟨a1, rfl, rfl⟩ | ⟨ka, xa, a1, a2, a3, rfl, rfl⟩
  · exact g
  · exact g
theorem zpG_vector {S T : zS} {o p : Nat} {σ σ1 : zSt} {n : Int32} {w1 : Int32} (g : zGd σ) (hC : zCi S o σ) (hM : zMi S p σ) (hC1 : zCi T o σ1) (h1 : zP_vector σ n w1 σ1) : zGd σ1 := by
  unfold zP_vector at h1
  rcases h1 with ⟨a1, rfl, rfl⟩ | ⟨ka, ya, a1, a2, a3, a4, a5, a6, rfl, rfl⟩
  · exact g
  · exact zGd_v g ⟨⟨a5, a6⟩, fun _ _ => ⟨(by decide : zUf 0 = true), (by decide : zUz 0 = 0)⟩⟩
theorem zpG_forget {S T : zS} {o p : Nat} {σ σ1 : zSt} {m : Int32} {w1 : Int32} (g : zGd σ) (hC : zCi S o σ) (hM : zMi S p σ) (hC1 : zCi T o σ1) (h1 : zP_forget σ m w1 σ1) : zGd σ1 := by
  unfold zP_forget at h1
  rcases h1 with ⟨a1, rfl, rfl⟩ | ⟨ka, xa, a1, a2, a3, rfl, rfl⟩
  · exact g
  · exact ⟨g.1, g.2.1, g.2.2.1, zupo_r g.2.2.2⟩
theorem zpG_set {S T : zS} {o p : Nat} {σ σ1 : zSt} {m : Int32} {i : Int32} {v : UInt64} {w1 : Int32} (g : zGd σ) (hC : zCi S o σ) (hM : zMi S p σ) (hC1 : zCi T o σ1) (h1 : zP_set σ m i v w1 σ1) : zGd σ1 := by
  unfold zP_set at h1
  rcases h1 with ⟨a1, rfl, rfl⟩ | ⟨ka, xa, a1, a2, a3, a4, a5, a6, rfl, rfl⟩
  · exact g
  · have gx := g.2.2.2 _ _ a3
    refine zGd_v g ⟨gx.1, fun k hk => ?_⟩
    show zUf (if k = i.toInt.toNat then zUz v else xa.2 k) = true ∧ zUz (if k = i.toInt.toNat then zUz v else xa.2 k) = if k = i.toInt.toNat then zUz v else xa.2 k
    split
    · exact ⟨by rw [zUf_z]; exact a6, zUz_z _⟩
    · exact gx.2 k hk
theorem zpG_value {S T : zS} {o p : Nat} {σ σ1 : zSt} {m : Int32} {i : Int32} {w1 : Int64} (g : zGd σ) (hC : zCi S o σ) (hM : zMi S p σ) (hC1 : zCi T o σ1) (h1 : zP_value σ m i w1 σ1) : zGd σ1 := by
  unfold zP_value at h1
  rcases h1 with ⟨a1, rfl, rfl⟩ | ⟨ka, xa, a1, a2, a3, rfl, rfl⟩
  · exact g
  · exact g
theorem zpG_size {S T : zS} {o p : Nat} {σ σ1 : zSt} {m : Int32} {w1 : Int32} (g : zGd σ) (hC : zCi S o σ) (hM : zMi S p σ) (hC1 : zCi T o σ1) (h1 : zP_size σ m w1 σ1) : zGd σ1 := by
  unfold zP_size at h1
  rcases h1 with ⟨a1, rfl, rfl⟩ | ⟨ka, xa, a1, a2, a3, rfl, rfl⟩
  · exact g
  · exact g
theorem zpG_solve {S T : zS} {o p : Nat} {σ σ1 : zSt} {f : Int32} {r : Int32} {w1 : Int32} (g : zGd σ) (hC : zCi S o σ) (hM : zMi S p σ) (hC1 : zCi T o σ1) (h1 : zP_solve σ f r w1 σ1) : zGd σ1 := by
  unfold zP_solve at h1
  rcases h1 with ⟨a1, rfl, rfl⟩ | ⟨xa, ua, ka, za, a1, a2, a3, a4, a5, a6, a7, a8, a9, rfl, rfl⟩
  · exact g
  · obtain ⟨k0, hk0⟩ := zmx_k a1
    have gk := g.2.1 _ _ hk0
    exact zGd_v g (zVg_z gk.1.1 gk.1.2.1 fun i hi => a9 _ ((zciK_s a7).2 i hi).1)
theorem zpG_residual {S T : zS} {o p : Nat} {σ σ1 : zSt} {m : Int32} {s : Int32} {q : Int32} {i : Int32} {w1 : Int64} (g : zGd σ) (hC : zCi S o σ) (hM : zMi S p σ) (hC1 : zCi T o σ1) (h1 : zP_residual σ m s q i w1 σ1) : zGd σ1 := by
  unfold zP_residual at h1
  rcases h1 with ⟨a1, rfl, rfl⟩ | ⟨xa, ua, va, ja, a1, a2, a3, a4, a5, a6, a7, rfl, rfl⟩
  · exact g
  · exact g
theorem zpG_greatest {S T : zS} {o p : Nat} {σ σ1 : zSt} {m : Int32} {s : Int32} {q : Int32} {w1 : Int64} (g : zGd σ) (hC : zCi S o σ) (hM : zMi S p σ) (hC1 : zCi T o σ1) (h1 : zP_greatest σ m s q w1 σ1) : zGd σ1 := by
  unfold zP_greatest at h1
  rcases h1 with ⟨a1, rfl, rfl⟩ | ⟨xa, ua, va, a1, a2, a3, a4, a5, rfl, rfl⟩
  · exact g
  · exact g
theorem zpG_refine {S T : zS} {o p : Nat} {σ σ1 : zSt} {m : Int32} {f : Int32} {s : Int32} {q : Int32} {c : Int32} {w1 : Int32} (g : zGd σ) (hC : zCi S o σ) (hM : zMi S p σ) (hC1 : zCi T o σ1) (h1 : zP_refine σ m f s q c w1 σ1) : zGd σ1 := by
  unfold zP_refine at h1
  rcases h1 with ⟨a1, rfl, rfl⟩ | ⟨xa, ya, ua, va, ksa, Na, a1, a2, a3, a4, a5, a6, a7, a8, a9, a10, a11, a12, a13, a14, rfl, rfl⟩
  · exact g
  · have gu := g.2.2.2 _ _ a5
    have z := zrfN_g (f := zrfK ya xa va) (P := fun s => ∀ i, i < ya.1 → zUf (s i) = true ∧ zUz (s i) = s i) (fun s s1 hs h => zrfs_g (fun i z hz hi => zans_f hz _ ((zciK_s a14).2 i hi).1) hs h) Na ua.2 (fun i hi => gu.2 i (by omega))
    exact zGd_v g ⟨gu.1, fun i hi => z i (by have hi : i < ua.1 := hi; omega)⟩
theorem zpG_inverse {S T : zS} {o p : Nat} {σ σ1 : zSt} {f : Int32} {w1 : Int32} (g : zGd σ) (hC : zCi S o σ) (hM : zMi S p σ) (hC1 : zCi T o σ1) (h1 : zP_inverse σ f w1 σ1) : zGd σ1 := by
  unfold zP_inverse at h1
  rcases h1 with ⟨a1, rfl, rfl⟩ | ⟨xa, ka, a1, a2, a3, a4, a5, a6, rfl, rfl⟩
  · exact g
  · obtain ⟨k0, hk0⟩ := zmx_k a1
    have gk := g.2.1 _ _ hk0
    exact zGd_m g (zMg_z gk.1.1 gk.1.2.1 gk.1.1 gk.1.2.1 fun i j hi hj => zans_f (a6 j hj) _ ((zciK_s a5).2 i hi).1) _
theorem zpG_exactly {S T : zS} {o p : Nat} {σ σ1 : zSt} {m : Int32} {r : Int32} {w1 : Int32} (g : zGd σ) (hC : zCi S o σ) (hM : zMi S p σ) (hC1 : zCi T o σ1) (h1 : zP_exactly σ m r w1 σ1) : zGd σ1 := by
  unfold zP_exactly at h1
  rcases h1 with ⟨a1, rfl, rfl⟩ | ⟨xa, ua, a1, a2, a3, a4, a5, a6, rfl, rfl⟩ | ⟨xa, ua, ka, a1, a2, a3, a4, a5, a6, a7, a8, a9, rfl, rfl⟩
  · exact g
  · exact g
  · obtain ⟨gx, ⟨r1, r8⟩, c1, c8⟩ := zGd_x g hC a1
    exact zGd_v g (zVg_z c1 c8 fun i hi => zsoV_f r8 a4 (fun i hi => zbal_t.mp a5 i (by omega)) a6 hi)
theorem zpG_rank {S T : zS} {o p : Nat} {σ σ1 : zSt} {m : Int32} {w1 : Int32} (g : zGd σ) (hC : zCi S o σ) (hM : zMi S p σ) (hC1 : zCi T o σ1) (h1 : zP_rank σ m w1 σ1) : zGd σ1 := by
  unfold zP_rank at h1
  rcases h1 with ⟨a1, rfl, rfl⟩ | ⟨ka, xa, a1, a2, a3, a4, rfl, rfl⟩ | ⟨ka, xa, a1, a2, a3, a4, rfl, rfl⟩
  · exact g
  · exact g
  · exact g
theorem zpG_nullVector {S T : zS} {o p : Nat} {σ σ1 : zSt} {m : Int32} {q : Int32} {w1 : Int32} (g : zGd σ) (hC : zCi S o σ) (hM : zMi S p σ) (hC1 : zCi T o σ1) (h1 : zP_nullVector σ m q w1 σ1) : zGd σ1 := by
  unfold zP_nullVector at h1
  rcases h1 with ⟨a1, rfl, rfl⟩ | ⟨xa, ka, qqa, a1, a2, a3, a4, a5, a6, a7, a8, rfl, rfl⟩
  · exact g
  · obtain ⟨gx, ⟨r1, r8⟩, c1, c8⟩ := zGd_x g hC a1
    exact zGd_v g (zVg_z c1 c8 fun i hi => znuv_f r8 a7 hi)
theorem zpG_determinant {S T : zS} {o p : Nat} {σ σ1 : zSt} {m : Int32} {w1 : Int64} (g : zGd σ) (hC : zCi S o σ) (hM : zMi S p σ) (hC1 : zCi T o σ1) (h1 : zP_determinant σ m w1 σ1) : zGd σ1 := by
  unfold zP_determinant at h1
  rcases h1 with ⟨a1, rfl, rfl⟩ | ⟨ka, xa, a1, a2, a3, a4, rfl, rfl⟩ | ⟨ka, xa, a1, a2, a3, a4, a5, rfl, rfl⟩
  · exact g
  · exact g
  · exact g
theorem zpG_digits {S T : zS} {o p : Nat} {σ σ1 : zSt} {m : Int32} {j : Int32} {w1 : Int32} (g : zGd σ) (hC : zCi S o σ) (hM : zMi S p σ) (hC1 : zCi T o σ1) (h1 : zP_digits σ m j w1 σ1) : zGd σ1 := by
  unfold zP_digits at h1
  rcases h1 with ⟨a1, rfl, rfl⟩ | ⟨ka, xa, a1, a2, a3, a4, rfl, rfl⟩ | ⟨ka, xa, jqa, a1, a2, a3, a4, a5, a6, a7, rfl, rfl⟩
  · exact g
  · exact g
  · exact g
theorem zpG_condition {S T : zS} {o p : Nat} {σ σ1 : zSt} {m : Int32} {w1 : Int64} (g : zGd σ) (hC : zCi S o σ) (hM : zMi S p σ) (hC1 : zCi T o σ1) (h1 : zP_condition σ m w1 σ1) : zGd σ1 := by
  unfold zP_condition at h1
  rcases h1 with ⟨a1, rfl, rfl⟩ | ⟨ka, xa, a1, a2, a3, a4, rfl, rfl⟩ | ⟨ka, xa, a1, a2, a3, a4, a5, rfl, rfl⟩
  · exact g
  · exact g
  · exact g
theorem zpG_gap {S T : zS} {o p : Nat} {σ σ1 : zSt} {m : Int32} {w : Int32} {w1 : Int64} (g : zGd σ) (hC : zCi S o σ) (hM : zMi S p σ) (hC1 : zCi T o σ1) (h1 : zP_gap σ m w w1 σ1) : zGd σ1 := by
  unfold zP_gap at h1
  rcases h1 with ⟨a1, rfl, rfl⟩ | ⟨xa, ya, a1, a2, a3, a4, a5, a6, rfl, rfl⟩
  · exact g
  · exact g
theorem zpG_bound {S T : zS} {o p : Nat} {σ σ1 : zSt} {m : Int32} {w : Int32} {s : Int32} {q : Int32} {w1 : Int64} (g : zGd σ) (hC : zCi S o σ) (hM : zMi S p σ) (hC1 : zCi T o σ1) (h1 : zP_bound σ m w s q w1 σ1) : zGd σ1 := by
  unfold zP_bound at h1
  rcases h1 with ⟨a1, rfl, rfl⟩ | ⟨xa, ya, ua, va, a1, a2, a3, a4, a5, a6, a7, a8, a9, a10, rfl, rfl⟩
  · exact g
  · exact g
theorem zpG_reorder {S T : zS} {o p : Nat} {σ σ1 : zSt} {m : Int32} {w1 : Int32} (g : zGd σ) (hC : zCi S o σ) (hM : zMi S p σ) (hC1 : zCi T o σ1) (h1 : zP_reorder σ m w1 σ1) : zGd σ1 := by
  unfold zP_reorder at h1
  rcases h1 with ⟨a1, rfl, rfl⟩ | ⟨xa, ka, rowa, a1, a2, a3, a4, a5, a6, rfl, rfl⟩
  · exact g
  · obtain ⟨gx, ⟨r1, r8⟩, c1, c8⟩ := zGd_x g hC a1
    have lt := fun i (hi : i < xa.2.1) => zord_lt a6 hi
    exact zGd_m g (zMg_f0 r1 r8 r1 r8 fun i j hi hj => ⟨(gx.2.1 _ _ (lt i hi) (by rw [← a5]; exact lt j hj)).1, (gx.2.1 _ _ (lt i hi) (by rw [← a5]; exact lt j hj)).2.1⟩) _
theorem zpG_place {S T : zS} {o p : Nat} {σ σ1 : zSt} {i : Int32} {w1 : Int32} (g : zGd σ) (hC : zCi S o σ) (hM : zMi S p σ) (hC1 : zCi T o σ1) (h1 : zP_place σ i w1 σ1) : zGd σ1 := by
  unfold zP_place at h1
  obtain ⟨rfl, rfl⟩ := h1
  exact g
theorem zpG_pack {S T : zS} {o p : Nat} {σ σ1 : zSt} {m : Int32} {w1 : Int32} (g : zGd σ) (hC : zCi S o σ) (hM : zMi S p σ) (hC1 : zCi T o σ1) (h1 : zP_pack σ m w1 σ1) : zGd σ1 := by
  unfold zP_pack at h1
  rcases h1 with ⟨a1, rfl, rfl⟩ | ⟨ka, xa, a1, a2, a3, rfl, rfl⟩
  · exact g
  · exact ⟨g.1, g.2.1, g.2.2.1, g.2.2.2⟩
theorem zpG_octet {S T : zS} {o p : Nat} {σ σ1 : zSt} {i : Int32} {w1 : Int32} (g : zGd σ) (hC : zCi S o σ) (hM : zMi S p σ) (hC1 : zCi T o σ1) (h1 : zP_octet σ i w1 σ1) : zGd σ1 := by
  unfold zP_octet at h1
  obtain ⟨rfl, rfl⟩ := h1
  exact g
theorem zpG_feed {S T : zS} {o p : Nat} {σ σ1 : zSt} {a : Int32} {b : Int32} {c : Int32} {d : Int32} {e : Int32} {w1 : Int32} (g : zGd σ) (hC : zCi S o σ) (hM : zMi S p σ) (hC1 : zCi T o σ1) (h1 : zP_feed σ a b c d e w1 σ1) : zGd σ1 := by
  unfold zP_feed at h1
  rcases h1 with ⟨a1, rfl, rfl⟩ | ⟨a1, rfl, rfl⟩
  · exact g
  · exact ⟨g.1, g.2.1, g.2.2.1, g.2.2.2⟩
theorem zpG_end {S T : zS} {o p : Nat} {σ σ1 : zSt} {n : Int32} {w1 : Int32} (g : zGd σ) (hC : zCi S o σ) (hM : zMi S p σ) (hC1 : zCi T o σ1) (h1 : zP_end σ n w1 σ1) : zGd σ1 := by
  unfold zP_end at h1
  rcases h1 with ⟨a1, rfl, rfl⟩ | ⟨a1, a2, rfl, rfl⟩
  · exact g
  · exact ⟨g.1, g.2.1, g.2.2.1, g.2.2.2⟩
theorem zpG_take {S T : zS} {o p : Nat} {σ σ1 : zSt}  {w1 : Int32} (g : zGd σ) (hC : zCi S o σ) (hM : zMi S p σ) (hC1 : zCi T o σ1) (h1 : zP_take σ  w1 σ1) : zGd σ1 := by
  unfold zP_take at h1
  obtain ⟨rfl, rfl⟩ := h1
  exact ⟨g.1, g.2.1, g.2.2.1, g.2.2.2⟩
theorem zpG_unpack {S T : zS} {o p : Nat} {σ σ1 : zSt}  {w1 : Int32} (g : zGd σ) (hC : zCi S o σ) (hM : zMi S p σ) (hC1 : zCi T o σ1) (h1 : zP_unpack σ  w1 σ1) : zGd σ1 := by
  unfold zP_unpack at h1
  rcases h1 with ⟨a1, rfl, rfl⟩ | ⟨ka, xa, a1, a2, a3, a4, rfl, rfl⟩
  · exact ⟨g.1, g.2.1, g.2.2.1, g.2.2.2⟩
  · exact zGd_m g (zrdM_g hM.2.2.2.2.2.2.2.2.2.1 a4) _
theorem zpG_count {S T : zS} {o p : Nat} {σ σ1 : zSt} {w : Int32} {w1 : Int32} (g : zGd σ) (hC : zCi S o σ) (hM : zMi S p σ) (hC1 : zCi T o σ1) (h1 : zP_count σ w w1 σ1) : zGd σ1 := by
  unfold zP_count at h1
  obtain ⟨rfl, rfl⟩ := h1
  exact g
end ZGKP
