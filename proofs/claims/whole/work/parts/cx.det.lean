/-! the law: answers and changes are determined (written by wip/whole/gen/law3.py) -/
section ZDET
theorem zpD_matrix {S T U : zS} {o p : Nat} {σ σ1 σ2 : zSt} {f : Int32} {r : Int32} {c : Int32} {a : Int32} {b : Int32} {w1 w2 : Int32} (g : zGd σ) (hC : zCi S o σ) (hC1 : zCi T o σ1) (hM2 : zMi U p σ2) (h1 : zP_matrix σ f r c a b w1 σ1) (h2 : zP_matrix σ f r c a b w2 σ2) : w1 = w2 ∧ σ1 = σ2 := by
  unfold zP_matrix at h1 h2
  rcases h1 with ⟨a1, rfl, rfl⟩ | ⟨ka, fqa, rqa, cqa, aqa, bqa, a1, a2, a3, a4, a5, a6, a7, a8, a9, rfl, rfl⟩ <;> rcases h2 with ⟨b1, rfl, rfl⟩ | ⟨kb, fqb, rqb, cqb, aqb, bqb, b1, b2, b3, b4, b5, b6, b7, b8, b9, rfl, rfl⟩
  · exact ⟨rfl, rfl⟩
  · rcases a1 with q | q
    · exact (zq_z q b3 (by omega)).elim
    · rw [b4, b5, b6, b7, b8, b9] at q; cases q
  · rcases b1 with q | q
    · exact (zq_z q a3 (by omega)).elim
    · rw [a4, a5, a6, a7, a8, a9] at q; cases q
  · have p : fqa ≤ 4 ∧ rqa ≤ 8 ∧ cqa ≤ 8 ∧ aqa ≤ 8 ∧ bqa ≤ 8 := zCi_b hC1 zupo_e
    have q : fqb ≤ 4 ∧ rqb ≤ 8 ∧ cqb ≤ 8 ∧ aqb ≤ 8 ∧ bqb ≤ 8 := zMi_b hM2 zupo_e
    cases zq_k a3 b3 (by omega) (by omega)
    cases zq_k a4 b4 (by omega) (by omega)
    cases zq_k a5 b5 (by omega) (by omega)
    cases zq_k a6 b6 (by omega) (by omega)
    cases zq_k a7 b7 (by omega) (by omega)
    cases zq_k a8 b8 (by omega) (by omega)
    exact ⟨rfl, rfl⟩
theorem zpD_drop {S T U : zS} {o p : Nat} {σ σ1 σ2 : zSt} {m : Int32} {w1 w2 : Int32} (g : zGd σ) (hC : zCi S o σ) (hC1 : zCi T o σ1) (hM2 : zMi U p σ2) (h1 : zP_drop σ m w1 σ1) (h2 : zP_drop σ m w2 σ2) : w1 = w2 ∧ σ1 = σ2 := by
  unfold zP_drop at h1 h2
  rcases h1 with ⟨a1, rfl, rfl⟩ | ⟨ka, xa, a1, a2, a3, rfl, rfl⟩ <;> rcases h2 with ⟨b1, rfl, rfl⟩ | ⟨kb, xb, b1, b2, b3, rfl, rfl⟩
  · exact ⟨rfl, rfl⟩
  · exact (zq_s a1 b1 b2 b3).elim
  · exact (zq_s b1 a1 a2 a3).elim
  · obtain ⟨rfl, rfl⟩ := zq_x a1 a2 a3 b1 b2 b3
    exact ⟨rfl, rfl⟩
theorem zpD_put {S T U : zS} {o p : Nat} {σ σ1 σ2 : zSt} {m : Int32} {i : Int32} {j : Int32} {v : UInt64} {w1 w2 : Int32} (g : zGd σ) (hC : zCi S o σ) (hC1 : zCi T o σ1) (hM2 : zMi U p σ2) (h1 : zP_put σ m i j v w1 σ1) (h2 : zP_put σ m i j v w2 σ2) : w1 = w2 ∧ σ1 = σ2 := by
  unfold zP_put at h1 h2
  rcases h1 with ⟨a1, rfl, rfl⟩ | ⟨ka, xa, iqa, jqa, a1, a2, a3, a4, a5, a6, rfl, rfl⟩ <;> rcases h2 with ⟨b1, rfl, rfl⟩ | ⟨kb, xb, iqb, jqb, b1, b2, b3, b4, b5, b6, rfl, rfl⟩
  · exact ⟨rfl, rfl⟩
  · have p := zCi_b hC b3
    have p1 := b6.1
    have p2 := b6.2.1
    exact absurd b6 (a1 _ _ _ _ b1 b2 b3 b4 (by omega) b5 (by omega))
  · have p := zCi_b hC a3
    have p1 := a6.1
    have p2 := a6.2.1
    exact absurd a6 (b1 _ _ _ _ a1 a2 a3 a4 (by omega) a5 (by omega))
  · obtain ⟨rfl, rfl⟩ := zq_x a1 a2 a3 b1 b2 b3
    have p := zCi_b hC a3
    have p1 := a6.1
    have p2 := a6.2.1
    have p3 := b6.1
    have p4 := b6.2.1
    cases zq_k a4 b4 (by omega) (by omega)
    cases zq_k a5 b5 (by omega) (by omega)
    exact ⟨rfl, rfl⟩
theorem zpD_get {S T U : zS} {o p : Nat} {σ σ1 σ2 : zSt} {m : Int32} {i : Int32} {j : Int32} {w1 w2 : Int64} (g : zGd σ) (hC : zCi S o σ) (hC1 : zCi T o σ1) (hM2 : zMi U p σ2) (h1 : zP_get σ m i j w1 σ1) (h2 : zP_get σ m i j w2 σ2) : w1 = w2 ∧ σ1 = σ2 := by
  unfold zP_get at h1 h2
  rcases h1 with ⟨a1, rfl, rfl⟩ | ⟨ka, xa, a1, a2, a3, rfl, rfl⟩ <;> rcases h2 with ⟨b1, rfl, rfl⟩ | ⟨kb, xb, b1, b2, b3, rfl, rfl⟩
  · exact ⟨rfl, rfl⟩
  · exact (zq_s a1 b1 b2 b3).elim
  · exact (zq_s b1 a1 a2 a3).elim
  · obtain ⟨rfl, rfl⟩ := zq_x a1 a2 a3 b1 b2 b3
    exact ⟨rfl, rfl⟩
theorem zpD_shape {S T U : zS} {o p : Nat} {σ σ1 σ2 : zSt} {m : Int32} {w : Int32} {w1 w2 : Int32} (g : zGd σ) (hC : zCi S o σ) (hC1 : zCi T o σ1) (hM2 : zMi U p σ2) (h1 : zP_shape σ m w w1 σ1) (h2 : zP_shape σ m w w2 σ2) : w1 = w2 ∧ σ1 = σ2 := by
  unfold zP_shape at h1 h2
  rcases h1 with ⟨a1, rfl, rfl⟩ | ⟨ka, xa, a1, a2, a3, rfl, rfl⟩ <;> rcases h2 with ⟨b1, rfl, rfl⟩ | ⟨kb, xb, b1, b2, b3, rfl, rfl⟩
  · exact ⟨rfl, rfl⟩
  · exact (zq_s a1 b1 b2 b3).elim
  · exact (zq_s b1 a1 a2 a3).elim
  · obtain ⟨rfl, rfl⟩ := zq_x a1 a2 a3 b1 b2 b3
    exact ⟨rfl, rfl⟩
theorem zpD_sum {S T U : zS} {o p : Nat} {σ σ1 σ2 : zSt} {m : Int32} {n : Int32} {w1 w2 : Int32} (g : zGd σ) (hC : zCi S o σ) (hC1 : zCi T o σ1) (hM2 : zMi U p σ2) (h1 : zP_sum σ m n w1 σ1) (h2 : zP_sum σ m n w2 σ2) : w1 = w2 ∧ σ1 = σ2 := by
  unfold zP_sum at h1 h2
  rcases h1 with ⟨a1, rfl, rfl⟩ | ⟨xa, ya, ka, a1, a2, a3, a4, a5, a6, a7, a8, rfl, rfl⟩ <;> rcases h2 with ⟨b1, rfl, rfl⟩ | ⟨xb, yb, kb, b1, b2, b3, b4, b5, b6, b7, b8, rfl, rfl⟩
  · exact ⟨rfl, rfl⟩
  · rcases a1 with q | q | q | q
    · exact (zq_n q b1).elim
    · exact (zq_n q b2).elim
    · exact (zq_z q b5 (by omega)).elim
    · exact absurd ⟨b6, b7, b8⟩ (q _ _ b1 b2)
  · rcases b1 with q | q | q | q
    · exact (zq_n q a1).elim
    · exact (zq_n q a2).elim
    · exact (zq_z q a5 (by omega)).elim
    · exact absurd ⟨a6, a7, a8⟩ (q _ _ a1 a2)
  · cases zq_y a1 b1
    cases zq_y a2 b2
    cases zq_k a5 b5 (by omega) (by omega)
    exact ⟨rfl, rfl⟩
theorem zpD_product {S T U : zS} {o p : Nat} {σ σ1 σ2 : zSt} {m : Int32} {n : Int32} {fu : Bool} {w1 w2 : Int32} (g : zGd σ) (hC : zCi S o σ) (hC1 : zCi T o σ1) (hM2 : zMi U p σ2) (h1 : zP_product σ m n fu w1 σ1) (h2 : zP_product σ m n fu w2 σ2) : w1 = w2 ∧ σ1 = σ2 := by
  unfold zP_product at h1 h2
  rcases h1 with ⟨a1, rfl, rfl⟩ | ⟨xa, ya, ka, a1, a2, a3, a4, a5, a6, a7, rfl, rfl⟩ <;> rcases h2 with ⟨b1, rfl, rfl⟩ | ⟨xb, yb, kb, b1, b2, b3, b4, b5, b6, b7, rfl, rfl⟩
  · exact ⟨rfl, rfl⟩
  · rcases a1 with q | q | q | q
    · exact (zq_n q b1).elim
    · exact (zq_n q b2).elim
    · exact (zq_z q b5 (by omega)).elim
    · exact absurd ⟨b6, b7⟩ (q _ _ b1 b2)
  · rcases b1 with q | q | q | q
    · exact (zq_n q a1).elim
    · exact (zq_n q a2).elim
    · exact (zq_z q a5 (by omega)).elim
    · exact absurd ⟨a6, a7⟩ (q _ _ a1 a2)
  · cases zq_y a1 b1
    cases zq_y a2 b2
    cases zq_k a5 b5 (by omega) (by omega)
    exact ⟨rfl, rfl⟩
theorem zpD_transpose {S T U : zS} {o p : Nat} {σ σ1 σ2 : zSt} {m : Int32} {w1 w2 : Int32} (g : zGd σ) (hC : zCi S o σ) (hC1 : zCi T o σ1) (hM2 : zMi U p σ2) (h1 : zP_transpose σ m w1 σ1) (h2 : zP_transpose σ m w2 σ2) : w1 = w2 ∧ σ1 = σ2 := by
  unfold zP_transpose at h1 h2
  rcases h1 with ⟨a1, rfl, rfl⟩ | ⟨xa, ka, a1, a2, a3, a4, rfl, rfl⟩ <;> rcases h2 with ⟨b1, rfl, rfl⟩ | ⟨xb, kb, b1, b2, b3, b4, rfl, rfl⟩
  · exact ⟨rfl, rfl⟩
  · rcases a1 with q | q
    · exact (zq_n q b1).elim
    · exact (zq_z q b4 (by omega)).elim
  · rcases b1 with q | q
    · exact (zq_n q a1).elim
    · exact (zq_z q a4 (by omega)).elim
  · cases zq_y a1 b1
    cases zq_k a4 b4 (by omega) (by omega)
    exact ⟨rfl, rfl⟩
theorem zpD_formed {S T U : zS} {o p : Nat} {σ σ1 σ2 : zSt} {m : Int32} {f : Int32} {a : Int32} {b : Int32} {w1 w2 : Int32} (g : zGd σ) (hC : zCi S o σ) (hC1 : zCi T o σ1) (hM2 : zMi U p σ2) (h1 : zP_formed σ m f a b w1 σ1) (h2 : zP_formed σ m f a b w2 σ2) : w1 = w2 ∧ σ1 = σ2 := by
  unfold zP_formed at h1 h2
  rcases h1 with ⟨a1, rfl, rfl⟩ | ⟨xa, ka, fqa, aqa, bqa, a1, a2, a3, a4, a5, a6, a7, a8, a9, a10, rfl, rfl⟩ <;> rcases h2 with ⟨b1, rfl, rfl⟩ | ⟨xb, kb, fqb, aqb, bqb, b1, b2, b3, b4, b5, b6, b7, b8, b9, b10, rfl, rfl⟩
  · exact ⟨rfl, rfl⟩
  · rcases a1 with q | q | q
    · exact (zq_n q b1).elim
    · exact (zq_z q b4 (by omega)).elim
    · have p : fqb ≤ 4 ∧ aqb ≤ 8 ∧ bqb ≤ 8 := by have z : fqb ≤ 4 ∧ _ ≤ 8 ∧ _ ≤ 8 ∧ aqb ≤ 8 ∧ bqb ≤ 8 := zMi_b hM2 zupo_e; omega
      refine absurd ⟨by rw [b5, b6, b7]; exact b8, fun f2 a2 b2 e1 e2 e3 l1 l2 l3 => ?_⟩ (q _ b1)
      cases zq_k b5 e1 (by omega) (by omega)
      cases zq_k b6 e2 (by omega) (by omega)
      cases zq_k b7 e3 (by omega) (by omega)
      exact ⟨b9, b10⟩
  · rcases b1 with q | q | q
    · exact (zq_n q a1).elim
    · exact (zq_z q a4 (by omega)).elim
    · have p : fqa ≤ 4 ∧ aqa ≤ 8 ∧ bqa ≤ 8 := by have z : fqa ≤ 4 ∧ _ ≤ 8 ∧ _ ≤ 8 ∧ aqa ≤ 8 ∧ bqa ≤ 8 := zCi_b hC1 zupo_e; omega
      refine absurd ⟨by rw [a5, a6, a7]; exact a8, fun f2 a2 b2 e1 e2 e3 l1 l2 l3 => ?_⟩ (q _ a1)
      cases zq_k a5 e1 (by omega) (by omega)
      cases zq_k a6 e2 (by omega) (by omega)
      cases zq_k a7 e3 (by omega) (by omega)
      exact ⟨a9, a10⟩
  · have p : fqa ≤ 4 ∧ _ ≤ 8 ∧ _ ≤ 8 ∧ aqa ≤ 8 ∧ bqa ≤ 8 := zCi_b hC1 zupo_e
    have q : fqb ≤ 4 ∧ _ ≤ 8 ∧ _ ≤ 8 ∧ aqb ≤ 8 ∧ bqb ≤ 8 := zMi_b hM2 zupo_e
    cases zq_y a1 b1
    cases zq_k a4 b4 (by omega) (by omega)
    cases zq_k a5 b5 (by omega) (by omega)
    cases zq_k a6 b6 (by omega) (by omega)
    cases zq_k a7 b7 (by omega) (by omega)
    exact ⟨rfl, rfl⟩
theorem zpD_block {S T U : zS} {o p : Nat} {σ σ1 σ2 : zSt} {m : Int32} {i : Int32} {j : Int32} {r : Int32} {c : Int32} {w1 w2 : Int32} (g : zGd σ) (hC : zCi S o σ) (hC1 : zCi T o σ1) (hM2 : zMi U p σ2) (h1 : zP_block σ m i j r c w1 σ1) (h2 : zP_block σ m i j r c w2 σ2) : w1 = w2 ∧ σ1 = σ2 := by
  unfold zP_block at h1 h2
  rcases h1 with ⟨a1, rfl, rfl⟩ | ⟨xa, ka, iqa, jqa, rqa, cqa, a1, a2, a3, a4, a5, a6, a7, a8, a9, a10, a11, a12, rfl, rfl⟩ <;> rcases h2 with ⟨b1, rfl, rfl⟩ | ⟨xb, kb, iqb, jqb, rqb, cqb, b1, b2, b3, b4, b5, b6, b7, b8, b9, b10, b11, b12, rfl, rfl⟩
  · exact ⟨rfl, rfl⟩
  · obtain ⟨_, n1, n2⟩ := zGd_x g hC b1
    have e1 : i.toInt = iqb := by rw [b5]; exact zI_toi (by omega)
    have e2 : j.toInt = jqb := by rw [b6]; exact zI_toi (by omega)
    have e3 : r.toInt = rqb := by rw [b7]; exact zI_toi (by omega)
    have e4 : c.toInt = cqb := by rw [b8]; exact zI_toi (by omega)
    rcases a1 with q | q | q
    · exact (zq_n q b1).elim
    · exact (zq_z q b4 (by omega)).elim
    · exact absurd ⟨by omega, by omega, by omega, by omega, by omega, by omega, by omega, by omega⟩ (q _ b1)
  · obtain ⟨_, n1, n2⟩ := zGd_x g hC a1
    have e1 : i.toInt = iqa := by rw [a5]; exact zI_toi (by omega)
    have e2 : j.toInt = jqa := by rw [a6]; exact zI_toi (by omega)
    have e3 : r.toInt = rqa := by rw [a7]; exact zI_toi (by omega)
    have e4 : c.toInt = cqa := by rw [a8]; exact zI_toi (by omega)
    rcases b1 with q | q | q
    · exact (zq_n q a1).elim
    · exact (zq_z q a4 (by omega)).elim
    · exact absurd ⟨by omega, by omega, by omega, by omega, by omega, by omega, by omega, by omega⟩ (q _ a1)
  · obtain ⟨_, n1, n2⟩ := zGd_x g hC a1
    cases zq_y a1 b1
    cases zq_k a4 b4 (by omega) (by omega)
    cases zq_k a5 b5 (by omega) (by omega)
    cases zq_k a6 b6 (by omega) (by omega)
    cases zq_k a7 b7 (by omega) (by omega)
    cases zq_k a8 b8 (by omega) (by omega)
    exact ⟨rfl, rfl⟩
theorem zpD_same {S T U : zS} {o p : Nat} {σ σ1 σ2 : zSt} {m : Int32} {n : Int32} {w1 w2 : Int32} (g : zGd σ) (hC : zCi S o σ) (hC1 : zCi T o σ1) (hM2 : zMi U p σ2) (h1 : zP_same σ m n w1 σ1) (h2 : zP_same σ m n w2 σ2) : w1 = w2 ∧ σ1 = σ2 := by
  unfold zP_same at h1 h2
  rcases h1 with ⟨a1, rfl, rfl⟩ | ⟨xa, ya, a1, a2, rfl, rfl⟩ <;> rcases h2 with ⟨b1, rfl, rfl⟩ | ⟨xb, yb, b1, b2, rfl, rfl⟩
  · exact ⟨rfl, rfl⟩
  · rcases a1 with q | q
    · exact (zq_n q b1).elim
    · exact (zq_n q b2).elim
  · rcases b1 with q | q
    · exact (zq_n q a1).elim
    · exact (zq_n q a2).elim
  · cases zq_y a1 b1
    cases zq_y a2 b2
    exact ⟨rfl, rfl⟩
theorem zpD_factor {S T U : zS} {o p : Nat} {σ σ1 σ2 : zSt} {m : Int32} {me : Int32} {fu : Bool} {w1 w2 : Int32} (g : zGd σ) (hC : zCi S o σ) (hC1 : zCi T o σ1) (hM2 : zMi U p σ2) (h1 : zP_factor σ m me fu w1 σ1) (h2 : zP_factor σ m me fu w2 σ2) : w1 = w2 ∧ σ1 = σ2 := by
  unfold zP_factor at h1 h2
  rcases h1 with ⟨a1, rfl, rfl⟩ | ⟨xa, ka, meqa, ja, a1, a2, a3, a4, a5, a6, a7, a8, rfl, rfl⟩ | ⟨xa, ka, meqa, ya, a1, a2, a3, a4, a5, a6, a7, a8, rfl, rfl⟩ <;> rcases h2 with ⟨b1, rfl, rfl⟩ | ⟨xb, kb, meqb, jb, b1, b2, b3, b4, b5, b6, b7, b8, rfl, rfl⟩ | ⟨xb, kb, meqb, yb, b1, b2, b3, b4, b5, b6, b7, b8, rfl, rfl⟩
  · exact ⟨rfl, rfl⟩
  · have e1 : me.toInt = meqb := by rw [b5]; exact zI_toi (by omega)
    rcases a1 with q | q | q | q
    · exact (zq_n q b1).elim
    · exact (zq_z q b4 (by omega)).elim
    · exact absurd ⟨by omega, by omega⟩ q
    · exact absurd b7 (q _ b1)
  · have e1 : me.toInt = meqb := by rw [b5]; exact zI_toi (by omega)
    rcases a1 with q | q | q | q
    · exact (zq_n q b1).elim
    · exact (zq_z q b4 (by omega)).elim
    · exact absurd ⟨by omega, by omega⟩ q
    · exact absurd b7 (q _ b1)
  · have e1 : me.toInt = meqa := by rw [a5]; exact zI_toi (by omega)
    rcases b1 with q | q | q | q
    · exact (zq_n q a1).elim
    · exact (zq_z q a4 (by omega)).elim
    · exact absurd ⟨by omega, by omega⟩ q
    · exact absurd a7 (q _ a1)
  · cases zq_y a1 b1
    cases zq_k a4 b4 (by omega) (by omega)
    cases zq_k a5 b5 (by omega) (by omega)
    rw [a8] at b8
    cases b8
    exact ⟨rfl, rfl⟩
  · cases zq_y a1 b1
    cases zq_k a5 b5 (by omega) (by omega)
    rw [a8] at b8
    cases b8
  · have e1 : me.toInt = meqa := by rw [a5]; exact zI_toi (by omega)
    rcases b1 with q | q | q | q
    · exact (zq_n q a1).elim
    · exact (zq_z q a4 (by omega)).elim
    · exact absurd ⟨by omega, by omega⟩ q
    · exact absurd a7 (q _ a1)
  · cases zq_y b1 a1
    cases zq_k b5 a5 (by omega) (by omega)
    rw [b8] at a8
    cases a8
  · cases zq_y a1 b1
    cases zq_k a4 b4 (by omega) (by omega)
    cases zq_k a5 b5 (by omega) (by omega)
    rw [a8] at b8
    cases b8
    exact ⟨rfl, rfl⟩
theorem zpD_release {S T U : zS} {o p : Nat} {σ σ1 σ2 : zSt} {m : Int32} {w1 w2 : Int32} (g : zGd σ) (hC : zCi S o σ) (hC1 : zCi T o σ1) (hM2 : zMi U p σ2) (h1 : zP_release σ m w1 σ1) (h2 : zP_release σ m w2 σ2) : w1 = w2 ∧ σ1 = σ2 := by
  unfold zP_release at h1 h2
  rcases h1 with ⟨a1, rfl, rfl⟩ | ⟨ka, xa, a1, a2, a3, rfl, rfl⟩ <;> rcases h2 with ⟨b1, rfl, rfl⟩ | ⟨kb, xb, b1, b2, b3, rfl, rfl⟩
  · exact ⟨rfl, rfl⟩
  · exact (zq_s a1 b1 b2 b3).elim
  · exact (zq_s b1 a1 a2 a3).elim
  · obtain ⟨rfl, rfl⟩ := zq_x a1 a2 a3 b1 b2 b3
    exact ⟨rfl, rfl⟩
theorem zpD_part {S T U : zS} {o p : Nat} {σ σ1 σ2 : zSt} {m : Int32} {i : Int32} {j : Int32} {w1 w2 : Int64} (g : zGd σ) (hC : zCi S o σ) (hC1 : zCi T o σ1) (hM2 : zMi U p σ2) (h1 : zP_part σ m i j w1 σ1) (h2 : zP_part σ m i j w2 σ2) : w1 = w2 ∧ σ1 = σ2 := by
  unfold zP_part at h1 h2
  rcases h1 with ⟨a1, rfl, rfl⟩ | ⟨ka, xa, a1, a2, a3, rfl, rfl⟩ <;> rcases h2 with ⟨b1, rfl, rfl⟩ | ⟨kb, xb, b1, b2, b3, rfl, rfl⟩
  · exact ⟨rfl, rfl⟩
  · exact (zq_s a1 b1 b2 b3).elim
  · exact (zq_s b1 a1 a2 a3).elim
  · obtain ⟨rfl, rfl⟩ := zq_x a1 a2 a3 b1 b2 b3
    exact ⟨rfl, rfl⟩
theorem zpD_order {S T U : zS} {o p : Nat} {σ σ1 σ2 : zSt} {m : Int32} {ax : Int32} {j : Int32} {w1 w2 : Int32} (g : zGd σ) (hC : zCi S o σ) (hC1 : zCi T o σ1) (hM2 : zMi U p σ2) (h1 : zP_order σ m ax j w1 σ1) (h2 : zP_order σ m ax j w2 σ2) : w1 = w2 ∧ σ1 = σ2 := by
  unfold zP_order at h1 h2
  rcases h1 with ⟨a1, rfl, rfl⟩ | ⟨ka, xa, a1, a2, a3, rfl, rfl⟩ <;> rcases h2 with ⟨b1, rfl, rfl⟩ | ⟨kb, xb, b1, b2, b3, rfl, rfl⟩
  · exact ⟨rfl, rfl⟩
  · exact (zq_s a1 b1 b2 b3).elim
  · exact (zq_s b1 a1 a2 a3).elim
  · obtain ⟨rfl, rfl⟩ := zq_x a1 a2 a3 b1 b2 b3
    exact ⟨rfl, rfl⟩
theorem zpD_growth {S T U : zS} {o p : Nat} {σ σ1 σ2 : zSt} {m : Int32} {w1 w2 : Int64} (g : zGd σ) (hC : zCi S o σ) (hC1 : zCi T o σ1) (hM2 : zMi U p σ2) (h1 : zP_growth σ m w1 σ1) (h2 : zP_growth σ m w2 σ2) : w1 = w2 ∧ σ1 = σ2 := by
  unfold zP_growth at h1 h2
  rcases h1 with ⟨a1, rfl, rfl⟩ | ⟨ka, xa, a1, a2, a3, rfl, rfl⟩ <;> rcases h2 with ⟨b1, rfl, rfl⟩ | ⟨kb, xb, b1, b2, b3, rfl, rfl⟩
  · exact ⟨rfl, rfl⟩
  · exact (zq_s a1 b1 b2 b3).elim
  · exact (zq_s b1 a1 a2 a3).elim
  · obtain ⟨rfl, rfl⟩ := zq_x a1 a2 a3 b1 b2 b3
    exact ⟨rfl, rfl⟩
theorem zpD_pivots {S T U : zS} {o p : Nat} {σ σ1 σ2 : zSt} {m : Int32} {w : Int32} {w1 w2 : Int64} (g : zGd σ) (hC : zCi S o σ) (hC1 : zCi T o σ1) (hM2 : zMi U p σ2) (h1 : zP_pivots σ m w w1 σ1) (h2 : zP_pivots σ m w w2 σ2) : w1 = w2 ∧ σ1 = σ2 := by
  unfold zP_pivots at h1 h2
  rcases h1 with ⟨a1, rfl, rfl⟩ | ⟨ka, xa, a1, a2, a3, rfl, rfl⟩ <;> rcases h2 with ⟨b1, rfl, rfl⟩ | ⟨kb, xb, b1, b2, b3, rfl, rfl⟩
  · exact ⟨rfl, rfl⟩
  · exact (zq_s a1 b1 b2 b3).elim
  · exact (zq_s b1 a1 a2 a3).elim
  · obtain ⟨rfl, rfl⟩ := zq_x a1 a2 a3 b1 b2 b3
    exact ⟨rfl, rfl⟩
theorem zpD_vector {S T U : zS} {o p : Nat} {σ σ1 σ2 : zSt} {n : Int32} {w1 w2 : Int32} (g : zGd σ) (hC : zCi S o σ) (hC1 : zCi T o σ1) (hM2 : zMi U p σ2) (h1 : zP_vector σ n w1 σ1) (h2 : zP_vector σ n w2 σ2) : w1 = w2 ∧ σ1 = σ2 := by
  unfold zP_vector at h1 h2
  rcases h1 with ⟨a1, rfl, rfl⟩ | ⟨ka, ya, a1, a2, a3, a4, a5, a6, rfl, rfl⟩ <;> rcases h2 with ⟨b1, rfl, rfl⟩ | ⟨kb, yb, b1, b2, b3, b4, b5, b6, rfl, rfl⟩
  · exact ⟨rfl, rfl⟩
  · have e1 : n.toInt = yb := by rw [b4]; exact zI_toi (by omega)
    rcases a1 with q | q
    · exact (zq_z q b3 (by omega)).elim
    · exact absurd ⟨by omega, by omega⟩ q
  · have e1 : n.toInt = ya := by rw [a4]; exact zI_toi (by omega)
    rcases b1 with q | q
    · exact (zq_z q a3 (by omega)).elim
    · exact absurd ⟨by omega, by omega⟩ q
  · cases zq_k a3 b3 (by omega) (by omega)
    cases zq_k a4 b4 (by omega) (by omega)
    exact ⟨rfl, rfl⟩
theorem zpD_forget {S T U : zS} {o p : Nat} {σ σ1 σ2 : zSt} {m : Int32} {w1 w2 : Int32} (g : zGd σ) (hC : zCi S o σ) (hC1 : zCi T o σ1) (hM2 : zMi U p σ2) (h1 : zP_forget σ m w1 σ1) (h2 : zP_forget σ m w2 σ2) : w1 = w2 ∧ σ1 = σ2 := by
  unfold zP_forget at h1 h2
  rcases h1 with ⟨a1, rfl, rfl⟩ | ⟨ka, xa, a1, a2, a3, rfl, rfl⟩ <;> rcases h2 with ⟨b1, rfl, rfl⟩ | ⟨kb, xb, b1, b2, b3, rfl, rfl⟩
  · exact ⟨rfl, rfl⟩
  · exact (zq_s a1 b1 b2 b3).elim
  · exact (zq_s b1 a1 a2 a3).elim
  · obtain ⟨rfl, rfl⟩ := zq_x a1 a2 a3 b1 b2 b3
    exact ⟨rfl, rfl⟩
theorem zpD_set {S T U : zS} {o p : Nat} {σ σ1 σ2 : zSt} {m : Int32} {i : Int32} {v : UInt64} {w1 w2 : Int32} (g : zGd σ) (hC : zCi S o σ) (hC1 : zCi T o σ1) (hM2 : zMi U p σ2) (h1 : zP_set σ m i v w1 σ1) (h2 : zP_set σ m i v w2 σ2) : w1 = w2 ∧ σ1 = σ2 := by
  unfold zP_set at h1 h2
  rcases h1 with ⟨a1, rfl, rfl⟩ | ⟨ka, xa, a1, a2, a3, a4, a5, a6, rfl, rfl⟩ <;> rcases h2 with ⟨b1, rfl, rfl⟩ | ⟨kb, xb, b1, b2, b3, b4, b5, b6, rfl, rfl⟩
  · exact ⟨rfl, rfl⟩
  · exact absurd ⟨b4, b5, b6⟩ (a1 _ _ b1 b2 b3)
  · exact absurd ⟨a4, a5, a6⟩ (b1 _ _ a1 a2 a3)
  · obtain ⟨rfl, rfl⟩ := zq_x a1 a2 a3 b1 b2 b3
    exact ⟨rfl, rfl⟩
theorem zpD_value {S T U : zS} {o p : Nat} {σ σ1 σ2 : zSt} {m : Int32} {i : Int32} {w1 w2 : Int64} (g : zGd σ) (hC : zCi S o σ) (hC1 : zCi T o σ1) (hM2 : zMi U p σ2) (h1 : zP_value σ m i w1 σ1) (h2 : zP_value σ m i w2 σ2) : w1 = w2 ∧ σ1 = σ2 := by
  unfold zP_value at h1 h2
  rcases h1 with ⟨a1, rfl, rfl⟩ | ⟨ka, xa, a1, a2, a3, rfl, rfl⟩ <;> rcases h2 with ⟨b1, rfl, rfl⟩ | ⟨kb, xb, b1, b2, b3, rfl, rfl⟩
  · exact ⟨rfl, rfl⟩
  · exact (zq_s a1 b1 b2 b3).elim
  · exact (zq_s b1 a1 a2 a3).elim
  · obtain ⟨rfl, rfl⟩ := zq_x a1 a2 a3 b1 b2 b3
    exact ⟨rfl, rfl⟩
theorem zpD_size {S T U : zS} {o p : Nat} {σ σ1 σ2 : zSt} {m : Int32} {w1 w2 : Int32} (g : zGd σ) (hC : zCi S o σ) (hC1 : zCi T o σ1) (hM2 : zMi U p σ2) (h1 : zP_size σ m w1 σ1) (h2 : zP_size σ m w2 σ2) : w1 = w2 ∧ σ1 = σ2 := by
  unfold zP_size at h1 h2
  rcases h1 with ⟨a1, rfl, rfl⟩ | ⟨ka, xa, a1, a2, a3, rfl, rfl⟩ <;> rcases h2 with ⟨b1, rfl, rfl⟩ | ⟨kb, xb, b1, b2, b3, rfl, rfl⟩
  · exact ⟨rfl, rfl⟩
  · exact (zq_s a1 b1 b2 b3).elim
  · exact (zq_s b1 a1 a2 a3).elim
  · obtain ⟨rfl, rfl⟩ := zq_x a1 a2 a3 b1 b2 b3
    exact ⟨rfl, rfl⟩
theorem zpD_solve {S T U : zS} {o p : Nat} {σ σ1 σ2 : zSt} {f : Int32} {r : Int32} {w1 w2 : Int32} (g : zGd σ) (hC : zCi S o σ) (hC1 : zCi T o σ1) (hM2 : zMi U p σ2) (h1 : zP_solve σ f r w1 σ1) (h2 : zP_solve σ f r w2 σ2) : w1 = w2 ∧ σ1 = σ2 := by
  unfold zP_solve at h1 h2
  rcases h1 with ⟨a1, rfl, rfl⟩ | ⟨xa, ua, ka, za, a1, a2, a3, a4, a5, a6, a7, a8, a9, rfl, rfl⟩ <;> rcases h2 with ⟨b1, rfl, rfl⟩ | ⟨xb, ub, kb, zb, b1, b2, b3, b4, b5, b6, b7, b8, b9, rfl, rfl⟩
  · exact ⟨rfl, rfl⟩
  · rcases a1 with q | q | q | q
    · exact (zq_n q b1).elim
    · exact (zq_n q b2).elim
    · exact (zq_z q b5 (by omega)).elim
    · rcases q _ _ b1 b2 with q | q
      · exact absurd b6 q
      · rw [b8] at q; cases q
  · rcases b1 with q | q | q | q
    · exact (zq_n q a1).elim
    · exact (zq_n q a2).elim
    · exact (zq_z q a5 (by omega)).elim
    · rcases q _ _ a1 a2 with q | q
      · exact absurd a6 q
      · rw [a8] at q; cases q
  · cases zq_y a1 b1
    cases zq_y a2 b2
    cases zq_k a5 b5 (by omega) (by omega)
    cases a8.symm.trans b8
    exact ⟨rfl, rfl⟩
theorem zpD_residual {S T U : zS} {o p : Nat} {σ σ1 σ2 : zSt} {m : Int32} {s : Int32} {q : Int32} {i : Int32} {w1 w2 : Int64} (g : zGd σ) (hC : zCi S o σ) (hC1 : zCi T o σ1) (hM2 : zMi U p σ2) (h1 : zP_residual σ m s q i w1 σ1) (h2 : zP_residual σ m s q i w2 σ2) : w1 = w2 ∧ σ1 = σ2 := by
  unfold zP_residual at h1 h2
  rcases h1 with ⟨a1, rfl, rfl⟩ | ⟨xa, ua, va, ja, a1, a2, a3, a4, a5, a6, a7, rfl, rfl⟩ <;> rcases h2 with ⟨b1, rfl, rfl⟩ | ⟨xb, ub, vb, jb, b1, b2, b3, b4, b5, b6, b7, rfl, rfl⟩
  · exact ⟨rfl, rfl⟩
  · rcases a1 with q | q
    · exact (zq_n q b1).elim
    · obtain ⟨_, n1, n2⟩ := zGd_x g hC b1
      have e1 : i.toInt = jb := by rw [b6]; exact zI_toi (by omega)
      rcases q _ b1 with q | q
      · rw [zftt_t b2 b3 b4 b5] at q; cases q
      · exact absurd ⟨by omega, by omega⟩ q
  · rcases b1 with q | q
    · exact (zq_n q a1).elim
    · obtain ⟨_, n1, n2⟩ := zGd_x g hC a1
      have e1 : i.toInt = ja := by rw [a6]; exact zI_toi (by omega)
      rcases q _ a1 with q | q
      · rw [zftt_t a2 a3 a4 a5] at q; cases q
      · exact absurd ⟨by omega, by omega⟩ q
  · obtain ⟨_, n1, n2⟩ := zGd_x g hC a1
    cases zq_y a1 b1
    cases zq_y a2 b2
    cases zq_y a3 b3
    cases zq_k a6 b6 (by omega) (by omega)
    exact ⟨rfl, rfl⟩
theorem zpD_greatest {S T U : zS} {o p : Nat} {σ σ1 σ2 : zSt} {m : Int32} {s : Int32} {q : Int32} {w1 w2 : Int64} (g : zGd σ) (hC : zCi S o σ) (hC1 : zCi T o σ1) (hM2 : zMi U p σ2) (h1 : zP_greatest σ m s q w1 σ1) (h2 : zP_greatest σ m s q w2 σ2) : w1 = w2 ∧ σ1 = σ2 := by
  unfold zP_greatest at h1 h2
  rcases h1 with ⟨a1, rfl, rfl⟩ | ⟨xa, ua, va, a1, a2, a3, a4, a5, rfl, rfl⟩ <;> rcases h2 with ⟨b1, rfl, rfl⟩ | ⟨xb, ub, vb, b1, b2, b3, b4, b5, rfl, rfl⟩
  · exact ⟨rfl, rfl⟩
  · rcases a1 with q | q
    · exact (zq_n q b1).elim
    · have q := q _ b1
      rw [zftt_t b2 b3 b4 b5] at q; cases q
  · rcases b1 with q | q
    · exact (zq_n q a1).elim
    · have q := q _ a1
      rw [zftt_t a2 a3 a4 a5] at q; cases q
  · cases zq_y a1 b1
    cases zq_y a2 b2
    cases zq_y a3 b3
    exact ⟨rfl, rfl⟩
theorem zpD_refine {S T U : zS} {o p : Nat} {σ σ1 σ2 : zSt} {m : Int32} {f : Int32} {s : Int32} {q : Int32} {c : Int32} {w1 w2 : Int32} (g : zGd σ) (hC : zCi S o σ) (hC1 : zCi T o σ1) (hM2 : zMi U p σ2) (h1 : zP_refine σ m f s q c w1 σ1) (h2 : zP_refine σ m f s q c w2 σ2) : w1 = w2 ∧ σ1 = σ2 := by
  unfold zP_refine at h1 h2
  rcases h1 with ⟨a1, rfl, rfl⟩ | ⟨xa, ya, ua, va, ksa, Na, a1, a2, a3, a4, a5, a6, a7, a8, a9, a10, a11, a12, a13, a14, rfl, rfl⟩ <;> rcases h2 with ⟨b1, rfl, rfl⟩ | ⟨xb, yb, ub, vb, ksb, Nb, b1, b2, b3, b4, b5, b6, b7, b8, b9, b10, b11, b12, b13, b14, rfl, rfl⟩
  · exact ⟨rfl, rfl⟩
  · have e1 : c.toInt = Nb := by rw [b11]; exact zI_toi (by omega)
    have e2 := zq_t b3 b4 b5
    exact absurd ⟨_, _, b1, b2, zftt_t e2 b6 (by omega) (by omega), b7, b8, by omega, by omega⟩ a1
  · have e1 : c.toInt = Na := by rw [a11]; exact zI_toi (by omega)
    have e2 := zq_t a3 a4 a5
    exact absurd ⟨_, _, a1, a2, zftt_t e2 a6 (by omega) (by omega), a7, a8, by omega, by omega⟩ b1
  · cases zq_y a1 b1
    cases zq_y a2 b2
    cases zq_k a3 b3 (by omega) (by omega)
    cases a5.symm.trans b5
    cases zq_y a6 b6
    cases zq_k a11 b11 (by omega) (by omega)
    exact ⟨rfl, rfl⟩
theorem zpD_inverse {S T U : zS} {o p : Nat} {σ σ1 σ2 : zSt} {f : Int32} {w1 w2 : Int32} (g : zGd σ) (hC : zCi S o σ) (hC1 : zCi T o σ1) (hM2 : zMi U p σ2) (h1 : zP_inverse σ f w1 σ1) (h2 : zP_inverse σ f w2 σ2) : w1 = w2 ∧ σ1 = σ2 := by
  unfold zP_inverse at h1 h2
  rcases h1 with ⟨a1, rfl, rfl⟩ | ⟨xa, ka, a1, a2, a3, a4, a5, a6, rfl, rfl⟩ <;> rcases h2 with ⟨b1, rfl, rfl⟩ | ⟨xb, kb, b1, b2, b3, b4, b5, b6, rfl, rfl⟩
  · exact ⟨rfl, rfl⟩
  · rcases a1 with q | q | q
    · exact (zq_n q b1).elim
    · exact (zq_z q b4 (by omega)).elim
    · obtain ⟨j, hj, q⟩ := q _ b1
      rw [b6 j hj] at q; cases q
  · rcases b1 with q | q | q
    · exact (zq_n q a1).elim
    · exact (zq_z q a4 (by omega)).elim
    · obtain ⟨j, hj, q⟩ := q _ a1
      rw [a6 j hj] at q; cases q
  · cases zq_y a1 b1
    cases zq_k a4 b4 (by omega) (by omega)
    exact ⟨rfl, rfl⟩
theorem zpD_exactly {S T U : zS} {o p : Nat} {σ σ1 σ2 : zSt} {m : Int32} {r : Int32} {w1 w2 : Int32} (g : zGd σ) (hC : zCi S o σ) (hC1 : zCi T o σ1) (hM2 : zMi U p σ2) (h1 : zP_exactly σ m r w1 σ1) (h2 : zP_exactly σ m r w2 σ2) : w1 = w2 ∧ σ1 = σ2 := by
  unfold zP_exactly at h1 h2
  rcases h1 with ⟨a1, rfl, rfl⟩ | ⟨xa, ua, a1, a2, a3, a4, a5, a6, rfl, rfl⟩ | ⟨xa, ua, ka, a1, a2, a3, a4, a5, a6, a7, a8, a9, rfl, rfl⟩ <;> rcases h2 with ⟨b1, rfl, rfl⟩ | ⟨xb, ub, b1, b2, b3, b4, b5, b6, rfl, rfl⟩ | ⟨xb, ub, kb, b1, b2, b3, b4, b5, b6, b7, b8, b9, rfl, rfl⟩
  · exact ⟨rfl, rfl⟩
  · rcases a1 with q | q | q
    · exact (zq_n q b1).elim
    · exact (zq_n q b2).elim
    · rcases q _ _ b1 b2 with q | q | q | q
      · exact absurd b3 q
      · rw [b4] at q; cases q
      · rw [b5] at q; cases q
      · exact absurd q.1 b6
  · rcases a1 with q | q | q
    · exact (zq_n q b1).elim
    · exact (zq_n q b2).elim
    · rcases q _ _ b1 b2 with q | q | q | q
      · exact absurd b3 q
      · rw [b4] at q; cases q
      · rw [b5] at q; cases q
      · exact (zq_z q.2 b9 (by omega)).elim
  · rcases b1 with q | q | q
    · exact (zq_n q a1).elim
    · exact (zq_n q a2).elim
    · rcases q _ _ a1 a2 with q | q | q | q
      · exact absurd a3 q
      · rw [a4] at q; cases q
      · rw [a5] at q; cases q
      · exact absurd q.1 a6
  · cases zq_y a1 b1
    cases zq_y a2 b2
    exact ⟨rfl, rfl⟩
  · cases zq_y a1 b1
    cases zq_y a2 b2
    exact absurd b6 a6
  · rcases b1 with q | q | q
    · exact (zq_n q a1).elim
    · exact (zq_n q a2).elim
    · rcases q _ _ a1 a2 with q | q | q | q
      · exact absurd a3 q
      · rw [a4] at q; cases q
      · rw [a5] at q; cases q
      · exact (zq_z q.2 a9 (by omega)).elim
  · cases zq_y b1 a1
    cases zq_y b2 a2
    exact absurd a6 b6
  · cases zq_y a1 b1
    cases zq_y a2 b2
    cases zq_k a9 b9 (by omega) (by omega)
    exact ⟨rfl, rfl⟩
theorem zpD_rank {S T U : zS} {o p : Nat} {σ σ1 σ2 : zSt} {m : Int32} {w1 w2 : Int32} (g : zGd σ) (hC : zCi S o σ) (hC1 : zCi T o σ1) (hM2 : zMi U p σ2) (h1 : zP_rank σ m w1 σ1) (h2 : zP_rank σ m w2 σ2) : w1 = w2 ∧ σ1 = σ2 := by
  unfold zP_rank at h1 h2
  rcases h1 with ⟨a1, rfl, rfl⟩ | ⟨ka, xa, a1, a2, a3, a4, rfl, rfl⟩ | ⟨ka, xa, a1, a2, a3, a4, rfl, rfl⟩ <;> rcases h2 with ⟨b1, rfl, rfl⟩ | ⟨kb, xb, b1, b2, b3, b4, rfl, rfl⟩ | ⟨kb, xb, b1, b2, b3, b4, rfl, rfl⟩
  · exact ⟨rfl, rfl⟩
  · exact (zq_s a1 b1 b2 b3).elim
  · exact (zq_s a1 b1 b2 b3).elim
  · exact (zq_s b1 a1 a2 a3).elim
  · obtain ⟨rfl, rfl⟩ := zq_x a1 a2 a3 b1 b2 b3
    exact ⟨rfl, rfl⟩
  · obtain ⟨rfl, rfl⟩ := zq_x a1 a2 a3 b1 b2 b3
    rw [a4] at b4
    cases b4
  · exact (zq_s b1 a1 a2 a3).elim
  · obtain ⟨rfl, rfl⟩ := zq_x b1 b2 b3 a1 a2 a3
    rw [b4] at a4
    cases a4
  · obtain ⟨rfl, rfl⟩ := zq_x a1 a2 a3 b1 b2 b3
    exact ⟨rfl, rfl⟩
theorem zpD_nullVector {S T U : zS} {o p : Nat} {σ σ1 σ2 : zSt} {m : Int32} {q : Int32} {w1 w2 : Int32} (g : zGd σ) (hC : zCi S o σ) (hC1 : zCi T o σ1) (hM2 : zMi U p σ2) (h1 : zP_nullVector σ m q w1 σ1) (h2 : zP_nullVector σ m q w2 σ2) : w1 = w2 ∧ σ1 = σ2 := by
  unfold zP_nullVector at h1 h2
  rcases h1 with ⟨a1, rfl, rfl⟩ | ⟨xa, ka, qqa, a1, a2, a3, a4, a5, a6, a7, a8, rfl, rfl⟩ <;> rcases h2 with ⟨b1, rfl, rfl⟩ | ⟨xb, kb, qqb, b1, b2, b3, b4, b5, b6, b7, b8, rfl, rfl⟩
  · exact ⟨rfl, rfl⟩
  · have e1 : q.toInt = qqb := by rw [b5]; exact zI_toi b6
    rcases a1 with w | w | w | w
    · exact (zq_n w b1).elim
    · exact (zq_z w b4 (by omega)).elim
    · omega
    · rcases w _ b1 with w | w
      · rw [b7] at w; cases w
      · rw [e1] at w; omega
  · have e1 : q.toInt = qqa := by rw [a5]; exact zI_toi a6
    rcases b1 with w | w | w | w
    · exact (zq_n w a1).elim
    · exact (zq_z w a4 (by omega)).elim
    · omega
    · rcases w _ a1 with w | w
      · rw [a7] at w; cases w
      · rw [e1] at w; omega
  · cases zq_y a1 b1
    cases zq_k a4 b4 (by omega) (by omega)
    cases zq_k a5 b5 a6 b6
    exact ⟨rfl, rfl⟩
theorem zpD_determinant {S T U : zS} {o p : Nat} {σ σ1 σ2 : zSt} {m : Int32} {w1 w2 : Int64} (g : zGd σ) (hC : zCi S o σ) (hC1 : zCi T o σ1) (hM2 : zMi U p σ2) (h1 : zP_determinant σ m w1 σ1) (h2 : zP_determinant σ m w2 σ2) : w1 = w2 ∧ σ1 = σ2 := by
  unfold zP_determinant at h1 h2
  rcases h1 with ⟨a1, rfl, rfl⟩ | ⟨ka, xa, a1, a2, a3, a4, rfl, rfl⟩ | ⟨ka, xa, a1, a2, a3, a4, a5, rfl, rfl⟩ <;> rcases h2 with ⟨b1, rfl, rfl⟩ | ⟨kb, xb, b1, b2, b3, b4, rfl, rfl⟩ | ⟨kb, xb, b1, b2, b3, b4, b5, rfl, rfl⟩
  · exact ⟨rfl, rfl⟩
  · exact (zq_s a1 b1 b2 b3).elim
  · exact (zq_s a1 b1 b2 b3).elim
  · exact (zq_s b1 a1 a2 a3).elim
  · obtain ⟨rfl, rfl⟩ := zq_x a1 a2 a3 b1 b2 b3
    exact ⟨rfl, rfl⟩
  · obtain ⟨rfl, rfl⟩ := zq_x a1 a2 a3 b1 b2 b3
    exact absurd ⟨b4, b5⟩ a4
  · exact (zq_s b1 a1 a2 a3).elim
  · obtain ⟨rfl, rfl⟩ := zq_x b1 b2 b3 a1 a2 a3
    exact absurd ⟨a4, a5⟩ b4
  · obtain ⟨rfl, rfl⟩ := zq_x a1 a2 a3 b1 b2 b3
    exact ⟨rfl, rfl⟩
theorem zpD_digits {S T U : zS} {o p : Nat} {σ σ1 σ2 : zSt} {m : Int32} {j : Int32} {w1 w2 : Int32} (g : zGd σ) (hC : zCi S o σ) (hC1 : zCi T o σ1) (hM2 : zMi U p σ2) (h1 : zP_digits σ m j w1 σ1) (h2 : zP_digits σ m j w2 σ2) : w1 = w2 ∧ σ1 = σ2 := by
  unfold zP_digits at h1 h2
  rcases h1 with ⟨a1, rfl, rfl⟩ | ⟨ka, xa, a1, a2, a3, a4, rfl, rfl⟩ | ⟨ka, xa, jqa, a1, a2, a3, a4, a5, a6, a7, rfl, rfl⟩ <;> rcases h2 with ⟨b1, rfl, rfl⟩ | ⟨kb, xb, b1, b2, b3, b4, rfl, rfl⟩ | ⟨kb, xb, jqb, b1, b2, b3, b4, b5, b6, b7, rfl, rfl⟩
  · exact ⟨rfl, rfl⟩
  · exact ⟨rfl, rfl⟩
  · have e1 : j.toInt = jqb := by rw [b4]; exact zI_toi (by omega)
    rcases a1 with q | q | q
    · exact (zq_s q b1 b2 b3).elim
    · omega
    · omega
  · exact ⟨rfl, rfl⟩
  · exact ⟨rfl, rfl⟩
  · obtain ⟨rfl, rfl⟩ := zq_x a1 a2 a3 b1 b2 b3
    exact absurd ⟨b6, b7⟩ a4
  · have e1 : j.toInt = jqa := by rw [a4]; exact zI_toi (by omega)
    rcases b1 with q | q | q
    · exact (zq_s q a1 a2 a3).elim
    · omega
    · omega
  · obtain ⟨rfl, rfl⟩ := zq_x b1 b2 b3 a1 a2 a3
    exact absurd ⟨a6, a7⟩ b4
  · obtain ⟨rfl, rfl⟩ := zq_x a1 a2 a3 b1 b2 b3
    cases zq_k a4 b4 (by omega) (by omega)
    exact ⟨rfl, rfl⟩
theorem zpD_condition {S T U : zS} {o p : Nat} {σ σ1 σ2 : zSt} {m : Int32} {w1 w2 : Int64} (g : zGd σ) (hC : zCi S o σ) (hC1 : zCi T o σ1) (hM2 : zMi U p σ2) (h1 : zP_condition σ m w1 σ1) (h2 : zP_condition σ m w2 σ2) : w1 = w2 ∧ σ1 = σ2 := by
  unfold zP_condition at h1 h2
  rcases h1 with ⟨a1, rfl, rfl⟩ | ⟨ka, xa, a1, a2, a3, a4, rfl, rfl⟩ | ⟨ka, xa, a1, a2, a3, a4, a5, rfl, rfl⟩ <;> rcases h2 with ⟨b1, rfl, rfl⟩ | ⟨kb, xb, b1, b2, b3, b4, rfl, rfl⟩ | ⟨kb, xb, b1, b2, b3, b4, b5, rfl, rfl⟩
  · exact ⟨rfl, rfl⟩
  · exact (zq_s a1 b1 b2 b3).elim
  · exact (zq_s a1 b1 b2 b3).elim
  · exact (zq_s b1 a1 a2 a3).elim
  · obtain ⟨rfl, rfl⟩ := zq_x a1 a2 a3 b1 b2 b3
    exact ⟨rfl, rfl⟩
  · obtain ⟨rfl, rfl⟩ := zq_x a1 a2 a3 b1 b2 b3
    exact absurd ⟨b4, b5⟩ a4
  · exact (zq_s b1 a1 a2 a3).elim
  · obtain ⟨rfl, rfl⟩ := zq_x b1 b2 b3 a1 a2 a3
    exact absurd ⟨a4, a5⟩ b4
  · obtain ⟨rfl, rfl⟩ := zq_x a1 a2 a3 b1 b2 b3
    exact ⟨rfl, rfl⟩
theorem zpD_gap {S T U : zS} {o p : Nat} {σ σ1 σ2 : zSt} {m : Int32} {w : Int32} {w1 w2 : Int64} (g : zGd σ) (hC : zCi S o σ) (hC1 : zCi T o σ1) (hM2 : zMi U p σ2) (h1 : zP_gap σ m w w1 σ1) (h2 : zP_gap σ m w w2 σ2) : w1 = w2 ∧ σ1 = σ2 := by
  unfold zP_gap at h1 h2
  rcases h1 with ⟨a1, rfl, rfl⟩ | ⟨xa, ya, a1, a2, a3, a4, a5, a6, rfl, rfl⟩ <;> rcases h2 with ⟨b1, rfl, rfl⟩ | ⟨xb, yb, b1, b2, b3, b4, b5, b6, rfl, rfl⟩
  · exact ⟨rfl, rfl⟩
  · rcases a1 with q | q | q
    · exact (zq_n q b1).elim
    · exact (zq_n q b2).elim
    · exact absurd ⟨b3, b4, b5, b6⟩ (q _ _ b1 b2)
  · rcases b1 with q | q | q
    · exact (zq_n q a1).elim
    · exact (zq_n q a2).elim
    · exact absurd ⟨a3, a4, a5, a6⟩ (q _ _ a1 a2)
  · cases zq_y a1 b1
    cases zq_y a2 b2
    exact ⟨rfl, rfl⟩
theorem zpD_bound {S T U : zS} {o p : Nat} {σ σ1 σ2 : zSt} {m : Int32} {w : Int32} {s : Int32} {q : Int32} {w1 w2 : Int64} (g : zGd σ) (hC : zCi S o σ) (hC1 : zCi T o σ1) (hM2 : zMi U p σ2) (h1 : zP_bound σ m w s q w1 σ1) (h2 : zP_bound σ m w s q w2 σ2) : w1 = w2 ∧ σ1 = σ2 := by
  unfold zP_bound at h1 h2
  rcases h1 with ⟨a1, rfl, rfl⟩ | ⟨xa, ya, ua, va, a1, a2, a3, a4, a5, a6, a7, a8, a9, a10, rfl, rfl⟩ <;> rcases h2 with ⟨b1, rfl, rfl⟩ | ⟨xb, yb, ub, vb, b1, b2, b3, b4, b5, b6, b7, b8, b9, b10, rfl, rfl⟩
  · exact ⟨rfl, rfl⟩
  · rcases a1 with w | w | w
    · exact (zq_n w b1).elim
    · exact (zq_n w b2).elim
    · rcases w _ _ b1 b2 with w | w
      · exact absurd ⟨b3, b4, b5, b6⟩ w
      · rw [zftt_t b7 b8 b9 b10] at w; cases w
  · rcases b1 with w | w | w
    · exact (zq_n w a1).elim
    · exact (zq_n w a2).elim
    · rcases w _ _ a1 a2 with w | w
      · exact absurd ⟨a3, a4, a5, a6⟩ w
      · rw [zftt_t a7 a8 a9 a10] at w; cases w
  · cases zq_y a1 b1
    cases zq_y a2 b2
    cases zq_y a7 b7
    cases zq_y a8 b8
    exact ⟨rfl, rfl⟩
theorem zpD_reorder {S T U : zS} {o p : Nat} {σ σ1 σ2 : zSt} {m : Int32} {w1 w2 : Int32} (g : zGd σ) (hC : zCi S o σ) (hC1 : zCi T o σ1) (hM2 : zMi U p σ2) (h1 : zP_reorder σ m w1 σ1) (h2 : zP_reorder σ m w2 σ2) : w1 = w2 ∧ σ1 = σ2 := by
  unfold zP_reorder at h1 h2
  rcases h1 with ⟨a1, rfl, rfl⟩ | ⟨xa, ka, rowa, a1, a2, a3, a4, a5, a6, rfl, rfl⟩ <;> rcases h2 with ⟨b1, rfl, rfl⟩ | ⟨xb, kb, rowb, b1, b2, b3, b4, b5, b6, rfl, rfl⟩
  · exact ⟨rfl, rfl⟩
  · rcases a1 with q | q | q
    · exact (zq_n q b1).elim
    · exact (zq_z q b4 (by omega)).elim
    · exact absurd b5 (q _ b1)
  · rcases b1 with q | q | q
    · exact (zq_n q a1).elim
    · exact (zq_z q a4 (by omega)).elim
    · exact absurd a5 (q _ a1)
  · cases zq_y a1 b1
    cases zq_k a4 b4 (by omega) (by omega)
    cases zRs_u a6 b6
    exact ⟨rfl, rfl⟩
theorem zpD_place {S T U : zS} {o p : Nat} {σ σ1 σ2 : zSt} {i : Int32} {w1 w2 : Int32} (g : zGd σ) (hC : zCi S o σ) (hC1 : zCi T o σ1) (hM2 : zMi U p σ2) (h1 : zP_place σ i w1 σ1) (h2 : zP_place σ i w2 σ2) : w1 = w2 ∧ σ1 = σ2 := by
  unfold zP_place at h1 h2
  obtain ⟨rfl, rfl⟩ := h1
  obtain ⟨rfl, rfl⟩ := h2
  exact ⟨rfl, rfl⟩
theorem zpD_pack {S T U : zS} {o p : Nat} {σ σ1 σ2 : zSt} {m : Int32} {w1 w2 : Int32} (g : zGd σ) (hC : zCi S o σ) (hC1 : zCi T o σ1) (hM2 : zMi U p σ2) (h1 : zP_pack σ m w1 σ1) (h2 : zP_pack σ m w2 σ2) : w1 = w2 ∧ σ1 = σ2 := by
  unfold zP_pack at h1 h2
  rcases h1 with ⟨a1, rfl, rfl⟩ | ⟨ka, xa, a1, a2, a3, rfl, rfl⟩ <;> rcases h2 with ⟨b1, rfl, rfl⟩ | ⟨kb, xb, b1, b2, b3, rfl, rfl⟩
  · exact ⟨rfl, rfl⟩
  · exact (zq_s a1 b1 b2 b3).elim
  · exact (zq_s b1 a1 a2 a3).elim
  · obtain ⟨rfl, rfl⟩ := zq_x a1 a2 a3 b1 b2 b3
    exact ⟨rfl, rfl⟩
theorem zpD_octet {S T U : zS} {o p : Nat} {σ σ1 σ2 : zSt} {i : Int32} {w1 w2 : Int32} (g : zGd σ) (hC : zCi S o σ) (hC1 : zCi T o σ1) (hM2 : zMi U p σ2) (h1 : zP_octet σ i w1 σ1) (h2 : zP_octet σ i w2 σ2) : w1 = w2 ∧ σ1 = σ2 := by
  unfold zP_octet at h1 h2
  obtain ⟨rfl, rfl⟩ := h1
  obtain ⟨rfl, rfl⟩ := h2
  exact ⟨rfl, rfl⟩
theorem zpD_feed {S T U : zS} {o p : Nat} {σ σ1 σ2 : zSt} {a : Int32} {b : Int32} {c : Int32} {d : Int32} {e : Int32} {w1 w2 : Int32} (g : zGd σ) (hC : zCi S o σ) (hC1 : zCi T o σ1) (hM2 : zMi U p σ2) (h1 : zP_feed σ a b c d e w1 σ1) (h2 : zP_feed σ a b c d e w2 σ2) : w1 = w2 ∧ σ1 = σ2 := by
  unfold zP_feed at h1 h2
  rcases h1 with ⟨a1, rfl, rfl⟩ | ⟨a1, rfl, rfl⟩ <;> rcases h2 with ⟨b1, rfl, rfl⟩ | ⟨b1, rfl, rfl⟩
  · exact ⟨rfl, rfl⟩
  · omega
  · omega
  · exact ⟨rfl, rfl⟩
theorem zpD_end {S T U : zS} {o p : Nat} {σ σ1 σ2 : zSt} {n : Int32} {w1 w2 : Int32} (g : zGd σ) (hC : zCi S o σ) (hC1 : zCi T o σ1) (hM2 : zMi U p σ2) (h1 : zP_end σ n w1 σ1) (h2 : zP_end σ n w2 σ2) : w1 = w2 ∧ σ1 = σ2 := by
  unfold zP_end at h1 h2
  rcases h1 with ⟨a1, rfl, rfl⟩ | ⟨a1, a2, rfl, rfl⟩ <;> rcases h2 with ⟨b1, rfl, rfl⟩ | ⟨b1, b2, rfl, rfl⟩
  · exact ⟨rfl, rfl⟩
  · exact absurd ⟨b1, b2⟩ a1
  · exact absurd ⟨a1, a2⟩ b1
  · exact ⟨rfl, rfl⟩
theorem zpD_take {S T U : zS} {o p : Nat} {σ σ1 σ2 : zSt}  {w1 w2 : Int32} (g : zGd σ) (hC : zCi S o σ) (hC1 : zCi T o σ1) (hM2 : zMi U p σ2) (h1 : zP_take σ  w1 σ1) (h2 : zP_take σ  w2 σ2) : w1 = w2 ∧ σ1 = σ2 := by
  unfold zP_take at h1 h2
  obtain ⟨rfl, rfl⟩ := h1
  obtain ⟨rfl, rfl⟩ := h2
  exact ⟨rfl, rfl⟩
theorem zpD_unpack {S T U : zS} {o p : Nat} {σ σ1 σ2 : zSt}  {w1 w2 : Int32} (g : zGd σ) (hC : zCi S o σ) (hC1 : zCi T o σ1) (hM2 : zMi U p σ2) (h1 : zP_unpack σ  w1 σ1) (h2 : zP_unpack σ  w2 σ2) : w1 = w2 ∧ σ1 = σ2 := by
  unfold zP_unpack at h1 h2
  rcases h1 with ⟨a1, rfl, rfl⟩ | ⟨ka, xa, a1, a2, a3, a4, rfl, rfl⟩ <;> rcases h2 with ⟨b1, rfl, rfl⟩ | ⟨kb, xb, b1, b2, b3, b4, rfl, rfl⟩
  · exact ⟨rfl, rfl⟩
  · rcases a1 with q | q
    · exact (zq_z q b3 (by omega)).elim
    · rw [b4] at q; cases q
  · rcases b1 with q | q
    · exact (zq_z q a3 (by omega)).elim
    · rw [a4] at q; cases q
  · cases zq_k a3 b3 (by omega) (by omega)
    cases a4.symm.trans b4
    exact ⟨rfl, rfl⟩
theorem zpD_count {S T U : zS} {o p : Nat} {σ σ1 σ2 : zSt} {w : Int32} {w1 w2 : Int32} (g : zGd σ) (hC : zCi S o σ) (hC1 : zCi T o σ1) (hM2 : zMi U p σ2) (h1 : zP_count σ w w1 σ1) (h2 : zP_count σ w w2 σ2) : w1 = w2 ∧ σ1 = σ2 := by
  unfold zP_count at h1 h2
  obtain ⟨rfl, rfl⟩ := h1
  obtain ⟨rfl, rfl⟩ := h2
  exact ⟨rfl, rfl⟩
end ZDET
