/-! the class's constructor -/
section ZCIA
theorem zXgen {o c f d k : Nat} {S U : zS} {K : Option Value → zS → Prop} {ct : zCt} {P : zS → Nat → Prop} (hct : ∀ (S : zS) (K : Option Value → zS → Prop) (a : Nat), zNx S = a + 1 → (zSh S a).1 = k → zFn S a → (∀ T, zXb a d S T → P T a → K none T) → ct.1 [.ref a] S K) (hP : ∀ (S T : zS) (a : Nat), (∀ b, a ≤ b → zCe S T b) → P S a → P T a) (hc : 1 ≤ c) (h : zXc o c S U) (hK : ∀ T, zSh T o = zSh S o → zXp o c d f k 0 S U (zsR T o f (some (o + c))) ∧ P (zsR T o f (some (o + c))) (o + c) → K none T) : ct.1 [.ref (o + c)] (zsN U k 0) K := by
  have hn := h.1
  refine hct _ _ _ (by rw [zNx_sN, hn]) (by rw [zSh_sN, if_pos hn.symm]) (by rw [← hn]; exact zFn_N) fun T hT ht => ?_
  obtain ⟨a1, a2, a3, a4, a5⟩ := zXs (f := f) hc h hT
  refine hK T ?_ ⟨⟨a1, a2, a4, a5⟩, hP _ _ _ (fun b h1 => a3 b (by omega)) ht⟩
  have := a1.2.2.1
  rw [zSh_sR] at this
  exact this
theorem zX5s {o c f : Nat} {S U : zS} {K : Option Value → zS → Prop} (hc : 1 ≤ c) (h : zXc o c S U) (hK : ∀ T, zSh T o = zSh S o → zXp o c 14 f 5 0 S U (zsR T o f (some (o + c))) ∧ zRok (zsR T o f (some (o + c))) (o + c) → K none T) : ct_X5_init.1 [.ref (o + c)] (zsN U 5 0) K :=
  zXgen (P := zRok) (fun S K a h1 h2 h3 h4 => by rw [zc_X5_init]; exact ⟨⟨h2, h1⟩, h4⟩) (fun S T a h => zRok_ag fun b h1 _ => h b h1) hc h hK
theorem zX1s {o c f : Nat} {S U : zS} {K : Option Value → zS → Prop} (hc : 1 ≤ c) (h : zXc o c S U) (hK : ∀ T, zSh T o = zSh S o → zXp o c 268 f 1 0 S U (zsR T o f (some (o + c))) ∧ (∃ π, zTb (zsR T o f (some (o + c))) (o + c) π) → K none T) : ct_X1_init.1 [.ref (o + c)] (zsN U 1 0) K :=
  zXgen (P := fun T a => ∃ π, zTb T a π) (fun S K a h1 h2 h3 h4 => by rw [zc_X1_init]; exact ⟨⟨h2, h1⟩, h4⟩) (fun S T a h ⟨π, q⟩ => ⟨π, zTb_ag (fun b h1 _ => h b h1) q⟩) hc h hK
theorem zX4s {o c f : Nat} {S U : zS} {K : Option Value → zS → Prop} (hc : 1 ≤ c) (h : zXc o c S U) (hK : ∀ T, zSh T o = zSh S o → zXp o c 5 f 4 0 S U (zsR T o f (some (o + c))) ∧ (zP4 (zsR T o f (some (o + c))) (o + c) ∧ zI (zsR T o f (some (o + c))) (o + c) 4 = nI 0) → K none T) : ct_X4_init.1 [.ref (o + c)] (zsN U 4 0) K :=
  zXgen (P := fun T a => zP4 T a ∧ zI T a 4 = nI 0) (fun S K a h1 h2 h3 h4 => by rw [zc_X4_init]; exact ⟨⟨h2, h1, h3⟩, fun T g p q => h4 T g ⟨p, q⟩⟩) (fun S T a h ⟨p, q⟩ => ⟨zPx_ag (w := 5) (by decide) (by decide) (fun b h1 _ => h b h1) p, by rw [(h a (Nat.le_refl _)).2.1]; exact q⟩) hc h hK
theorem zX6s {o c f : Nat} {S U : zS} {K : Option Value → zS → Prop} (hc : 1 ≤ c) (h : zXc o c S U) (hK : ∀ T, zSh T o = zSh S o → zXp o c 3 f 6 0 S U (zsR T o f (some (o + c))) ∧ zTp (zsR T o f (some (o + c))) (o + c) [] [] → K none T) : ct_X6_init.1 [.ref (o + c)] (zsN U 6 0) K :=
  zXgen (P := fun T a => zTp T a [] []) (fun S K a h1 h2 h3 h4 => by rw [zc_X6_init]; exact ⟨⟨h2, h1, h3⟩, h4⟩) (fun S T a h => zTp_ag fun b h1 _ => h b h1) hc h hK
/-- an object with one array -/
theorem zX1r {S : zS} {a f k n : Nat} (hn : zNx S = a + 1) (hf : zFn S a) : zXb a 2 S (zsR (zsN S k n) a f (some (zNx S))) ∧ zR (zsR (zsN S k n) a f (some (zNx S))) a f = some (a + 1) ∧ zSh (zsR (zsN S k n) a f (some (zNx S))) (a + 1) = (k, n) ∧ zI (zsR (zsN S k n) a f (some (zNx S))) a 0 = nI 0 := by
  obtain ⟨q1, _, q3, q4, _⟩ := zna_al (L := [(f, 1, k, n)]) hn hf (List.nodup_cons.mpr ⟨List.not_mem_nil, List.nodup_nil⟩) (fun i t h => by
    cases i with
    | zero => cases h; rfl
    | succ i => cases h)
  obtain ⟨a1, a2⟩ := q4 (f, 1, k, n) List.mem_cons_self
  exact ⟨q1, a1, a2, (q3 0).1⟩
theorem zX3 {S : zS} {K : Option Value → zS → Prop} {a : Nat} (hn : zNx S = a + 1) (hk : (zSh S a).1 = 3) (hf : zFn S a) (hK : ∀ T, zXb a 2 S T → zMsh T a → zI T a 0 = nI 0 → K none T) : ct_X3_init.1 [.ref a] S K := by
  rw [zc_X3_init]
  obtain ⟨q1, q2, q3, q4⟩ := zX1r (f := 6) (k := 22) (n := 64) hn hf
  exact ⟨hk, by omega, hK _ q1 ⟨by rw [q1.2.2]; exact hk, q2, q3⟩ q4⟩
theorem zX8 {S : zS} {K : Option Value → zS → Prop} {a : Nat} (hn : zNx S = a + 1) (hk : (zSh S a).1 = 8) (hf : zFn S a) (hK : ∀ T, zXb a 2 S T → zVok T a → zI T a 0 = nI 0 → K none T) : ct_X8_init.1 [.ref a] S K := by
  rw [zc_X8_init]
  obtain ⟨q1, q2, q3, q4⟩ := zX1r (f := 2) (k := 22) (n := 8) hn hf
  exact ⟨hk, by omega, hK _ q1 ⟨by rw [q1.2.2]; exact hk, q2, q3⟩ q4⟩
/-- an object put into an array -/
theorem zXl {U T : zS} {x k a w kk : Nat} (hn : zNx U = a) (hx : x < a) (hT : zXb a w (zsN U kk 0) T) : (∀ b, b < a → b ≠ x → zCe U (zsR T x k (some a)) b) ∧ (∀ b, b ≠ x → zCe T (zsR T x k (some a)) b) ∧ zR (zsR T x k (some a)) x k = some a ∧ (∀ j, j ≠ k → zR (zsR T x k (some a)) x j = zR U x j) ∧ zSh (zsR T x k (some a)) x = zSh U x ∧ zNx (zsR T x k (some a)) = a + w := by
  obtain ⟨t1, t2, _⟩ := hT
  have eU : ∀ b, b < a → zCe U T b := fun b hb => by
    have hb' : b ≠ zNx U := by omega
    refine zCe.trans (T := zsN U kk 0) ?_ (t2 b hb)
    exact ⟨by rw [zSh_sN, if_neg hb'], funext fun j => by rw [zI_sN, if_neg hb'], funext fun j => by rw [zJ_sN, if_neg hb'], funext fun j => by rw [zD_sN, if_neg hb'], funext fun j => by rw [zR_sN, if_neg hb']⟩
  have eR : ∀ b, b ≠ x → zCe T (zsR T x k (some a)) b := fun b hb => ⟨rfl, rfl, rfl, rfl, funext fun j => zR_sR_ne fun q => hb q.1⟩
  exact ⟨fun b hb hbo => (eU b hb).trans (eR b hbo), eR, zR_sR_eq, fun j hj => by rw [zR_sR_ne (fun q => hj q.2), (eU x hx).2.2.2.2], by rw [zSh_sR, (eU x hx).1], by rw [zNx_sR, t1]⟩
/-- the class's object but for its lists -/
def zXq (o N : Nat) (S U : zS) : Prop := zNx U = N ∧ (∀ b, b < o → zCe S U b) ∧ zSh U o = zSh S o ∧ zP10 U o ∧ zRok U (o + 4) ∧ (∃ π, zTb U (o + 18) π) ∧ (zP4 U (o + 286) ∧ zI U (o + 286) 4 = nI 0) ∧ zTp U (o + 291) [] []
theorem zXq_s {o N M x : Nat} {S U V : zS} (h : zXq o N S U) (hx : o + 1 ≤ x ∧ x ≤ o + 3) (hN : o + 296 ≤ N) (h1 : ∀ b, b < N → b ≠ x → zCe U V b) (h2 : zSh V x = zSh U x) (hM : zNx V = M) : zXq o M S V := by
  obtain ⟨q1, q2, q3, q4, q5, ⟨π, q6⟩, ⟨q7, q8⟩, q9⟩ := h
  have e0 := h1 o (by omega) (by omega)
  have sh : ∀ b, b < N → zSh V b = zSh U b := fun b hb => by
    by_cases h : b = x
    · rw [h]; exact h2
    · exact (h1 b hb h).1
  exact ⟨hM, fun b hb => (q2 b hb).trans (h1 b (by omega) (by omega)), by rw [e0.1]; exact q3, zPx_sh (w := 296) (by decide) (by decide) (fun b _ _ => sh b (by omega)) e0.2.2.2.2 q4, zRok_ag (fun b _ _ => h1 b (by omega) (by omega)) q5, ⟨π, zTb_ag (fun b _ _ => h1 b (by omega) (by omega)) q6⟩, ⟨zPx_ag (w := 5) (by decide) (by decide) (fun b _ _ => h1 b (by omega) (by omega)) q7, by rw [(h1 (o + 286) (by omega) (by omega)).2.1]; exact q8⟩, zTp_ag (fun b _ _ => h1 b (by omega) (by omega)) q9⟩
def zXm (o k : Nat) (U : zS) : Prop := ∀ i, i < k → zR U (o + 1) i = some (o + 296 + 2 * i) ∧ zMsh U (o + 296 + 2 * i) ∧ zI U (o + 296 + 2 * i) 0 = nI 0
def zXk (o k : Nat) (U : zS) : Prop := ∀ i, i < k → zR U (o + 2) i = some (o + 344 + 6 * i) ∧ zP2 U (o + 344 + 6 * i) ∧ zI U (o + 344 + 6 * i) 0 = nI 0
def zXv (o k : Nat) (U : zS) : Prop := ∀ i, i < k → zR U (o + 3) i = some (o + 416 + 2 * i) ∧ zVok U (o + 416 + 2 * i) ∧ zI U (o + 416 + 2 * i) 0 = nI 0
theorem zMsh_ag {S T : zS} {x : Nat} (h : ∀ b, x ≤ b → b < x + 2 → zCe S T b) (hs : zMsh S x) : zMsh T x := by
  unfold zMsh; rw [(h x (by omega) (by omega)).1, (h x (by omega) (by omega)).2.2.2.2, (h (x + 1) (by omega) (by omega)).1]; exact hs
theorem zVok_ag {S T : zS} {x : Nat} (h : ∀ b, x ≤ b → b < x + 2 → zCe S T b) (hs : zVok S x) : zVok T x := by
  unfold zVok; rw [(h x (by omega) (by omega)).1, (h x (by omega) (by omega)).2.2.2.2, (h (x + 1) (by omega) (by omega)).1]; exact hs
theorem zXm_ag {o : Nat} {U V : zS} (h0 : zR V (o + 1) = zR U (o + 1)) (h : ∀ b, o + 296 ≤ b → b < o + 344 → zCe U V b) (hs : zXm o 24 U) : zXm o 24 V := fun i hi => by
  obtain ⟨q1, q2, q3⟩ := hs i hi
  exact ⟨by rw [h0]; exact q1, zMsh_ag (fun b _ _ => h b (by omega) (by omega)) q2, by rw [(h _ (by omega) (by omega)).2.1]; exact q3⟩
theorem zXk_ag {o : Nat} {U V : zS} (h0 : zR V (o + 2) = zR U (o + 2)) (h : ∀ b, o + 344 ≤ b → b < o + 416 → zCe U V b) (hs : zXk o 12 U) : zXk o 12 V := fun i hi => by
  obtain ⟨q1, q2, q3⟩ := hs i hi
  exact ⟨by rw [h0]; exact q1, zPx_ag (w := 6) (by decide) (by decide) (fun b _ _ => h b (by omega) (by omega)) q2, by rw [(h _ (by omega) (by omega)).2.1]; exact q3⟩
theorem zCi_0 {S U : zS} {o : Nat} (h : zXq o (o + 464) S U) (hm : zXm o 24 U) (hk : zXk o 12 U) (hv : zXv o 24 U) : zCi U o zGs0 := by
  obtain ⟨q1, q2, q3, q4, q5, q6, ⟨q7, q8⟩, q9⟩ := h
  refine ⟨⟨q4, fun m h => ⟨(hm m h).1, (hm m h).2.1.1⟩, fun m h => ⟨(hk m h).1, (hk m h).2.1.1⟩, fun m h => ⟨(hv m h).1, (hv m h).2.1.1⟩⟩, ⟨fun m h => ⟨(hm m h).2.1, (hm m h).2.2, fun x hx => by cases hx⟩, fun _ _ => rfl⟩, ⟨fun m h => ⟨(hk m h).2.1, (hk m h).2.2, fun x hx => by cases hx⟩, fun _ _ => rfl⟩, ⟨fun m h => ⟨(hv m h).2.1, (hv m h).2.2, fun x hx => by cases hx⟩, fun _ _ => rfl⟩, q5, q6, ⟨q7, q8, Nat.zero_le _, fun i hi => absurd hi (Nat.not_lt_zero _)⟩, q9⟩
end ZCIA
