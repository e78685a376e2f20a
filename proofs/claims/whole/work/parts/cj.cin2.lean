/-! the class's constructors: cells that agree; Residuals -/
section ZCI2
def zCe (S T : zS) (b : Nat) : Prop := zSh T b = zSh S b ∧ zI T b = zI S b ∧ zJ T b = zJ S b ∧ zD T b = zD S b ∧ zR T b = zR S b
theorem zCe.trans {S T U : zS} {b : Nat} (h : zCe S T b) (h2 : zCe T U b) : zCe S U b := ⟨h2.1.trans h.1, h2.2.1.trans h.2.1, h2.2.2.1.trans h.2.2.1, h2.2.2.2.1.trans h.2.2.2.1, h2.2.2.2.2.trans h.2.2.2.2⟩
theorem zPx_ag {S T : zS} {o k w : Nat} {L : List (Nat × Nat × Nat × Nat)} (hw : ∀ t, t ∈ L → t.2.1 < w) (h0 : 0 < w) (h : ∀ b, o ≤ b → b < o + w → zCe S T b) (hs : (zSh S o).1 = k ∧ ∀ t, t ∈ L → zR S o t.1 = some (o + t.2.1) ∧ zSh S (o + t.2.1) = t.2.2) : (zSh T o).1 = k ∧ ∀ t, t ∈ L → zR T o t.1 = some (o + t.2.1) ∧ zSh T (o + t.2.1) = t.2.2 := by
  have e := h o (Nat.le_refl _) (by omega)
  refine ⟨by rw [e.1]; exact hs.1, fun t ht => ?_⟩
  have l := hw t ht
  rw [e.2.2.2.2, (h (o + t.2.1) (by omega) (by omega)).1]
  exact hs.2 t ht
theorem zTe_ag {S T : zS} {o : Nat} (h : ∀ b, o ≤ b → b < o + 2 → zCe S T b) (hs : zTe S o) : zTe T o := by
  obtain ⟨dg, lo, h', ng, q1, q2, q3, q4, q5⟩ := hs
  have e0 := h o (Nat.le_refl _) (by omega)
  have e1 := h (o + 1) (by omega) (by omega)
  refine ⟨dg, lo, h', ng, zPx_ag (w := 2) (by decide) (by decide) h q1, ?_, q3, ?_, q5⟩
  · rw [e0.2.1]; exact q2
  · rw [e1.2.2.1]; exact q4
theorem zRok_ag {S T : zS} {o : Nat} (h : ∀ b, o ≤ b → b < o + 14 → zCe S T b) (hs : zRok S o) : zRok T o := by
  obtain ⟨q1, q2, q3, q4, q5⟩ := hs
  exact ⟨zPx_ag (w := 14) (by decide) (by decide) h q1, zTe_ag (fun b _ _ => h b (by omega) (by omega)) q2, zTe_ag (fun b _ _ => h b (by omega) (by omega)) q3, zTe_ag (fun b _ _ => h b (by omega) (by omega)) q4, zTe_ag (fun b _ _ => h b (by omega) (by omega)) q5⟩
theorem zTp_ag {S T : zS} {o : Nat} {tp pk : List Nat} (h : ∀ b, o ≤ b → b < o + 3 → zCe S T b) (hs : zTp S o tp pk) : zTp T o tp pk := by
  obtain ⟨q1, q2, q3, q4, q5, q6⟩ := hs
  refine ⟨zPx_ag (w := 3) (by decide) (by decide) h q1, ?_, q3, ?_, ?_, q6⟩
  · rw [(h o (by omega) (by omega)).2.1]; exact q2
  · rw [(h (o + 1) (by omega) (by omega)).2.1]; exact q4
  · rw [(h (o + 2) (by omega) (by omega)).2.1]; exact q5
theorem zWs_ag {S T : zS} {o cap : Nat} (h : ∀ b, o ≤ b → b < o + 2 → zCe S T b) (hs : zWs S o cap) : zWs T o cap := by
  unfold zWs
  rw [(h o (by omega) (by omega)).1, (h o (by omega) (by omega)).2.2.2.2, (h (o + 1) (by omega) (by omega)).1]; exact hs
theorem zTb_ag {S T : zS} {E : Nat} {π : Nat → Nat → Nat} (h : ∀ b, E ≤ b → b < E + 268 → zCe S T b) (hs : zTb S E π) : zTb T E π := by
  obtain ⟨h1, ⟨h2, h3, h4, h5⟩, h6, h7⟩ := hs
  refine ⟨zPx_ag (w := 268) (by decide) (by decide) h h1, ⟨zWs_ag (fun b _ _ => h b (by omega) (by omega)) h2, zWs_ag (fun b _ _ => h b (by omega) (by omega)) h3, zWs_ag (fun b _ _ => h b (by omega) (by omega)) h4, zWs_ag (fun b _ _ => h b (by omega) (by omega)) h5⟩, fun i j hi hj => ?_, h7⟩
  obtain ⟨q1, q2, q3⟩ := h6 i j hi hj
  have b1 := zca_e E π i j
  exact ⟨by rw [(h (E + 1) (by omega) (by omega)).2.2.2.2]; exact q1, q2, zWs_ag (fun b _ _ => h b (by omega) (by omega)) q3⟩
/-- an object in the making: c cells from o on, what lies below stays -/
def zXc (o c : Nat) (S U : zS) : Prop := zNx U = o + c ∧ (∀ b, b < o → zCe S U b) ∧ zSh U o = zSh S o ∧ zI U o = zI S o ∧ zJ U o = zJ S o
/-- a part was made: d cells, in field f -/
theorem zXs {o c d f k n : Nat} {S U T : zS} (hc : 1 ≤ c) (h : zXc o c S U) (hT : zXb (o + c) d (zsN U k n) T) : zXc o (c + d) S (zsR T o f (some (o + c))) ∧ (∀ b, b < o + c → b ≠ o → zCe U (zsR T o f (some (o + c))) b) ∧ (∀ b, b ≠ o → zCe T (zsR T o f (some (o + c))) b) ∧ (zR (zsR T o f (some (o + c))) o f = some (o + c) ∧ zSh (zsR T o f (some (o + c))) (o + c) = (k, n)) ∧ ∀ g, g ≠ f → zR (zsR T o f (some (o + c))) o g = zR U o g := by
  obtain ⟨h1, h2, h3, h4, h5⟩ := h
  obtain ⟨t1, t2, t3⟩ := hT
  have eN : ∀ b, b < o + c → zCe U (zsN U k n) b := fun b hb => by
    have hb' : b ≠ zNx U := by omega
    exact ⟨by rw [zSh_sN, if_neg hb'], funext fun j => by rw [zI_sN, if_neg hb'], funext fun j => by rw [zJ_sN, if_neg hb'], funext fun j => by rw [zD_sN, if_neg hb'], funext fun j => by rw [zR_sN, if_neg hb']⟩
  have eT : ∀ b, b < o + c → zCe U T b := fun b hb => (eN b hb).trans (t2 b hb)
  have eR : ∀ b, b ≠ o → zCe T (zsR T o f (some (o + c))) b := fun b hb => ⟨rfl, rfl, rfl, rfl, funext fun j => zR_sR_ne fun q => hb q.1⟩
  have e0 := eT o (by omega)
  refine ⟨⟨by rw [zNx_sR, t1]; omega, fun b hb => ((h2 b hb).trans (eT b (by omega))).trans (eR b (by omega)), ?_, ?_, ?_⟩, fun b hb hbo => (eT b hb).trans (eR b hbo), eR, ⟨zR_sR_eq, by rw [zSh_sR, t3, ← h1, zSh_sN, if_pos rfl]⟩, fun g hg => ?_⟩
  · rw [zSh_sR, e0.1]; exact h3
  · rw [zI_sR, e0.2.1]; exact h4
  · rw [zJ_sR, e0.2.2.1]; exact h5
  · rw [zR_sR_ne (fun q => hg q.2), e0.2.2.2.2]
theorem zX7 {S : zS} {K : Option Value → zS → Prop} {a : Nat} (hn : zNx S = a + 1) (hk : (zSh S a).1 = 7) (hf : zFn S a) (hK : ∀ T, zXb a 2 S T → zTe T a → K none T) : ct_X7_init.1 [.ref a] S K := by
  rw [zc_X7_init]
  refine ⟨hk, by omega, hK _ ⟨?_, fun b hb => ?_, ?_⟩ ⟨fun _ => 0, 136, 0, false, ?_⟩⟩
  · show zNx S + 1 = _
    omega
  · have hb' : b ≠ zNx S := by omega
    refine ⟨?_, funext fun j => ?_, funext fun j => ?_, funext fun j => ?_, funext fun j => ?_⟩
    · show zSh (zsN S 22 136) b = _
      rw [zSh_sN, if_neg hb']
    · rw [zI_sI_ne (by omega), zI_sI_ne (by omega), zI_sR, zI_sN, if_neg hb']
    · show zJ (zsN S 22 136) b j = _
      rw [zJ_sN, if_neg hb']
    · show zD (zsN S 22 136) b j = _
      rw [zD_sN, if_neg hb']
    · show zR (zsR (zsN S 22 136) a 0 (some (zNx S))) b j = _
      rw [zR_sR_ne (by omega), zR_sN, if_neg hb']
  · show zSh (zsN S 22 136) a = _
    rw [zSh_sN, if_neg (by omega)]
  · refine ⟨⟨?_, fun t ht => ?_⟩, ⟨?_, ?_, ?_⟩, ⟨Nat.le_refl _, Nat.zero_le _⟩, fun k hk => ?_, fun _ _ => rfl⟩
    · show (zSh (zsN S 22 136) a).1 = 7
      rw [zSh_sN, if_neg (by omega)]; exact hk
    · have ht : t = (0, 1, 22, 136) := by
        unfold zPt7 at ht
        exact List.mem_singleton.mp ht
      subst ht
      refine ⟨?_, ?_⟩
      · show zR (zsR (zsN S 22 136) a 0 (some (zNx S))) a 0 = some (a + 1)
        rw [zR_sR_eq, hn]
      · show zSh (zsN S 22 136) (a + 1) = (22, 136)
        rw [zSh_sN, if_pos hn.symm]
    · rw [zI_sI_ne (by omega), zI_sI_eq]
    · rw [zI_sI_eq]; rfl
    · rw [zI_sI_ne (by omega), zI_sI_ne (by omega), zI_sR, zI_sN, if_neg (by omega), (hf 3).1, ← nI_0]; rfl
    · show zJ (zsN S 22 136) (a + 1) k = _
      rw [zJ_sN, if_pos hn.symm]; rfl
end ZCI2
