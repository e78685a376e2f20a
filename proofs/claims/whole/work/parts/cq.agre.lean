/-! the law: both states go along cells that agree -/
section ZAGR
theorem zFr_ce {F : Nat → Prop} {S T : zS} (h : zFr F S T) {b : Nat} (hb : ¬ F b) : zCe S T b := ⟨by rw [h.1], (h.2.2 b hb).1, (h.2.2 b hb).2.1, (h.2.2 b hb).2.2.1, (h.2.2 b hb).2.2.2⟩
theorem zMi_ag {S T : zS} {p : Nat} {σ : zSt} (h : ∀ b, p ≤ b → b < p + 46 → zCe S T b) (hs : zMi S p σ) : zMi T p σ := by
  obtain ⟨h1, h2, h3, h4, h5, h6⟩ := hs
  have e : ∀ k, k < 46 → zI T (p + k) = zI S (p + k) := fun k hk => (h _ (by omega) (by omega)).2.1
  have d : ∀ k, k < 46 → zD T (p + k) = zD S (p + k) := fun k hk => (h _ (by omega) (by omega)).2.2.2.1
  have e0 : zI T p = zI S p := (h p (Nat.le_refl _) (by omega)).2.1
  refine ⟨zPx_ag (w := 46) (by decide) (by decide) h h1, ?_, ?_, ?_, ?_, ?_⟩
  · unfold zMM zMx1
    rw [e 5 (by decide), e 6 (by decide), e 7 (by decide), e 8 (by decide), e 9 (by decide), e 10 (by decide), d 4 (by decide)]
    exact h2
  · unfold zMK zKx1
    rw [e 13 (by decide), e 14 (by decide), e 15 (by decide), e 16 (by decide), e 17 (by decide), e 18 (by decide), e 19 (by decide), d 12 (by decide), d 20 (by decide)]
    exact h3
  · unfold zMV
    rw [e 22 (by decide), d 21 (by decide)]
    exact h4
  · unfold zMO
    rw [e0, e 41 (by decide)]
    exact h5
  · unfold zMT
    rw [e0, e 44 (by decide), e 45 (by decide)]
    exact h6
theorem zMi_fr {F : Nat → Prop} {S T : zS} {p : Nat} {σ : zSt} (h : zFr F S T) (hF : ∀ b, p ≤ b → b < p + 46 → ¬ F b) (hs : zMi S p σ) : zMi T p σ := zMi_ag (fun b h1 h2 => zFr_ce h (hF b h1 h2)) hs
/-- the class's first state goes along -/
theorem zCi_ag0 {S T : zS} {o : Nat} (h : ∀ b, o ≤ b → b < o + 464 → zCe S T b) (hs : zCi S o zGs0) : zCi T o zGs0 := by
  obtain ⟨⟨p1, p2, p3, p4⟩, ⟨q1, _⟩, ⟨q2, _⟩, ⟨q3, _⟩, h5, ⟨π, h6⟩, ⟨r1, r2, r3, r4⟩, h8⟩ := hs
  have sh : ∀ b, o ≤ b → b < o + 464 → zSh T b = zSh S b := fun b h1 h2 => (h b h1 h2).1
  refine ⟨⟨zPx_ag (w := 296) (by decide) (by decide) (fun b _ _ => h b (by omega) (by omega)) p1, fun m hm => ?_, fun m hm => ?_, fun m hm => ?_⟩, ⟨fun m hm => ?_, fun _ _ => rfl⟩, ⟨fun m hm => ?_, fun _ _ => rfl⟩, ⟨fun m hm => ?_, fun _ _ => rfl⟩, zRok_ag (fun b _ _ => h b (by omega) (by omega)) h5, ⟨π, zTb_ag (fun b _ _ => h b (by omega) (by omega)) h6⟩, ⟨zPx_ag (w := 5) (by decide) (by decide) (fun b _ _ => h b (by omega) (by omega)) r1, by rw [(h (o + 286) (by omega) (by omega)).2.1]; exact r2, r3, fun i hi => absurd hi (Nat.not_lt_zero _)⟩, zTp_ag (fun b _ _ => h b (by omega) (by omega)) h8⟩
  · rw [(h (o + 1) (by omega) (by omega)).2.2.2.2, sh _ (by omega) (by omega)]; exact p2 m hm
  · rw [(h (o + 2) (by omega) (by omega)).2.2.2.2, sh _ (by omega) (by omega)]; exact p3 m hm
  · rw [(h (o + 3) (by omega) (by omega)).2.2.2.2, sh _ (by omega) (by omega)]; exact p4 m hm
  · obtain ⟨a1, a2, _⟩ := q1 m hm
    exact ⟨zMsh_ag (fun b _ _ => h b (by omega) (by omega)) a1, by rw [(h _ (by omega) (by omega)).2.1]; exact a2, fun x hx => by cases hx⟩
  · obtain ⟨a1, a2, _⟩ := q2 m hm
    exact ⟨zPx_ag (w := 6) (by decide) (by decide) (fun b _ _ => h b (by omega) (by omega)) a1, by rw [(h _ (by omega) (by omega)).2.1]; exact a2, fun x hx => by cases hx⟩
  · obtain ⟨a1, a2, _⟩ := q3 m hm
    exact ⟨zVok_ag (fun b _ _ => h b (by omega) (by omega)) a1, by rw [(h _ (by omega) (by omega)).2.1]; exact a2, fun x hx => by cases hx⟩
end ZAGR
