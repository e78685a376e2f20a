/-! from a run to a contract; the rows by which a run is unfolded (written by wip/whole/gen/simp.py) -/
section ZMK
def zlk {α : Type} (t : Nat) : List (Nat × List α) → List α
  | [] => []
  | (k, a) :: l => bif Nat.beq k t then a else zlk t l
def zall (R : Room) (cc : ByteArray) (o : Nat) (ini : Bool) (nL : Nat) (cal : List zCal) (rt : Option FieldType) : List (Nat × List zE) → List (List (List (Nat × Nat))) → Bool
  | [], _ => true
  | (t, b) :: l, ps => zchn R cc o ini nL cal rt t b (ps.headD []) && zall R cc o ini nL cal rt l ps.tail
theorem zall_blk {R : Room} {cc : ByteArray} {o : Nat} {ini : Bool} {nL : Nat} {cal : List zCal} {rt : Option FieldType} : ∀ (bl : List (Nat × List zE)) (ps : List (List (List (Nat × Nat)))), zall R cc o ini nL cal rt bl ps = true → ∀ t, ∃ p, zchn R cc o ini nL cal rt t (zlk t bl) p = true
  | [], _, _, t => ⟨[], rfl⟩
  | (k, b) :: l, ps, h, t => by
    simp only [zall, Bool.and_eq_true] at h
    by_cases hk : k = t
    · subst hk
      refine ⟨ps.headD [], ?_⟩
      simp only [zlk, Nat.beq_refl, cond_true]
      exact h.1
    · obtain ⟨p, hp⟩ := zall_blk l ps.tail h.2 t
      refine ⟨p, ?_⟩
      have hb : Nat.beq k t = false := by
        cases hb : Nat.beq k t with
        | false => rfl
        | true => exact absurd (Nat.eq_of_beq_eq_true hb) hk
      simp only [zlk, hb, cond_false]
      exact hp
def zlo : List Value → Nat → List (Option Value)
  | [], n => List.replicate n none
  | v :: vs, n => if v.category = 2 then some v :: none :: zlo vs (n - 2) else some v :: zlo vs (n - 1)
theorem zlo_len : ∀ (vs : List Value) (n : Nat), (lg_sl vs).length ≤ n → (zlo vs n).length = n
  | [], n, _ => by simp [zlo]
  | v :: vs, n, h => by
    by_cases hc : v.category = 2
    · have h1 : (lg_sl vs).length + 2 ≤ n := by simpa [lg_sl, hc] using h
      simp only [zlo, hc, if_true, List.length_cons, zlo_len vs (n - 2) (by omega)]
      omega
    · have h1 : (lg_sl vs).length + 1 ≤ n := by simpa [lg_sl, hc] using h
      simp only [zlo, hc, if_false, List.length_cons, zlo_len vs (n - 1) (by omega)]
      omega
theorem zlo_mem : ∀ (vs : List Value) (n k i : Nat) (v : Value), (zlo vs n)[i]? = some (some v) → (i + k, v) ∈ lv_args k vs
  | [], n, k, i, v, h => by
    simp only [zlo, List.getElem?_replicate] at h
    split at h <;> cases h
  | w :: vs, n, k, i, v, h => by
    by_cases hc : w.category = 2
    · simp only [zlo, hc, if_true] at h
      simp only [lv_args, hc, if_true]
      match i, h with
      | 0, h => simp at h; subst h; simp
      | 1, h => simp at h
      | i + 2, h =>
        have := zlo_mem vs (n - 2) (k + 2) i v (by simpa using h)
        rw [show i + 2 + k = i + (k + 2) by omega]
        exact List.mem_cons_of_mem _ this
    · simp only [zlo, hc, if_false] at h
      simp only [lv_args, hc, if_false]
      match i, h with
      | 0, h => simp at h; subst h; simp
      | i + 1, h =>
        have := zlo_mem vs (n - 1) (k + 1) i v (by simpa using h)
        rw [show i + 1 + k = i + (k + 1) by omega]
        exact List.mem_cons_of_mem _ this
def zrok (rt : Option FieldType) (v : Option Value) : Prop := match rt, v with
  | some .boolean, some (.int x) => x = 0 ∨ x = 1
  | _, _ => True
def zend (rt : Option FieldType) (K : Option Value → zS → Prop) (mc ms : Nat) : Option Value → zS → Nat → Nat → Prop := fun v S c1 c2 => zrok rt v ∧ K v S ∧ c1 ≤ mc ∧ c2 ≤ ms
/-- the callees' contracts, one beside the other -/
def zmets (l : Launch) (G : zG) : List zCal → List zCt → Prop
  | q :: cal, ct :: Γ => (zMet l G q ct ∧ q.2.2.2.2.1.cells = ct.2.1 ∧ q.2.2.2.2.1.slots = ct.2.2) ∧ zmets l G cal Γ
  | _, _ => True
theorem zmets_e {l : Launch} {G : zG} : ∀ (cal : List zCal) (Γ : List zCt), zmets l G cal Γ → ∀ (i : Nat) (q : zCal) (ct : zCt), cal[i]? = some q → zget Γ i = some ct → zMet l G q ct ∧ q.2.2.2.2.1.cells = ct.2.1 ∧ q.2.2.2.2.1.slots = ct.2.2
  | [], _, _, i, q, ct, h, _ => by simp at h
  | _ :: _, [], _, i, q, ct, _, h => by simp [zget] at h
  | q0 :: cal, c0 :: Γ, h, i, q, ct, h1, h2 => by
    cases i with
    | zero => simp [zget] at h1 h2; subst h1; subst h2; exact h.1
    | succ i => exact zmets_e cal Γ h.2 i q ct (by simpa using h1) (by simpa [zget] using h2)
set_option maxHeartbeats 1000000 in
/-- a method's contract out of its run -/
theorem zmk {l : Launch} {G : zG} {q : zCal} {ct : zCt} (o : Nat) (ini : Bool) (cal : List zCal) (bl : List (Nat × List zE)) (ps : List (List (List (Nat × Nat)))) (Γ : List zCt)
    (hcode : zall q.2.2.2.2.1 q.2.1 o ini q.2.2.1 cal q.2.2.2.1 bl ps = true) (hname : plainName q.1.cls = true ∧ zRX o = q.1.cls ∧ (ini = true → q.1.name = "<init>")) (hroom : q.2.2.2.2.1.cells = ct.2.1 ∧ q.2.2.2.2.1.slots = ct.2.2) (hwd : zwd q) (hm : zmets l G cal Γ)
    (body : ∀ (X : Nat → List (Option Value) → List Value → zS → Nat → Nat → Prop) (av : List Value) (S : zS) (K : Option Value → zS → Prop), ct.1 av S K → (lg_sl av).length ≤ q.2.2.1 ∧
      ((∀ (n t : Nat) (L : List (Option Value)) (st : List Value) (S : zS) (c1 c2 : Nat), zrun ct.2.1 ct.2.2 (zend q.2.2.2.1 K ct.2.1 ct.2.2) Γ (fun t => zlk t bl) X n (zlk t bl) L st S c1 c2 → X t L st S c1 c2) → X 0 (zlo av q.2.2.1) [] S 0 0)) : zMet l G q ct := by
  obtain ⟨wp, mc, ms⟩ := ct
  obtain ⟨hr1, hr2⟩ := hroom
  dsimp only at hr1 hr2
  subst hr1
  subst hr2
  refine ⟨hwd, ?_⟩
  intro av S K hK
  refine Met.ofW (cc := q.2.1) (maxL := q.2.2.1) (ret := q.2.2.2.1) hname.1 rfl ?_
  intro p e s m args below meth c s₁ B hml hv
  obtain ⟨rfl, hR, hKN⟩ := hv
  have hx := B.exec
  have hb := B.bytes
  have hr := B.returns
  have hts := atoms_spec (ws := zws q) B.pre
  have hown : s.vm.findClass (zRX o) = some m.cls := by rw [hname.2.1]; exact findClass_of_methodNamed B.named
  have hlocks := B.notSynchronized
  have hnm : meth.name = q.1.name := (name_of_methodNamed B.named B.method).1
  have F : zFix G p s m av.toArray meth c q.2.1 q.2.2.1 o ini := ⟨hx, hb, hml, hown, fun w hw => hts w (List.mem_cons_of_mem _ hw), hKN, fun h => hnm.trans (hname.2.2 h)⟩
  obtain ⟨hlen, bd⟩ := body (zXX G p l e (headSpec (zws q) q.2.2.2.2.1).room s m av.toArray below meth c q.2.2.1 (MQ below (zQ G K) av.toArray s q.2.2.2.2.1.cells q.2.2.2.2.1.slots G.2.2.1)) av S K hK
  have hl := lv_entry av hlen
  rw [lg_entry_eq]
  generalize (lg_sl av ++ List.replicate (q.2.2.1 - (lg_sl av).length) Slot.unset).toArray = ls at hl ⊢
  have hL : zLok ls q.2.2.1 (zlo av q.2.2.1) := ⟨hl.1, hl.2.1, zlo_len av _ hlen, fun i v h => hl.2.2 (i, v) (by have := zlo_mem av _ 0 i v h; simpa using this)⟩
  refine bd ?_ s.heap ls [] hR hL va_S.rf
  intro n t L st S' c1 c2 h
  obtain ⟨p0, hp⟩ := zall_blk bl ps hcode t
  have hrc : (headSpec (zws q) q.2.2.2.2.1).room = q.2.2.2.2.1 := rfl
  refine zrun_sound (R := q.2.2.2.2.1) F (zmets_e cal Γ hm) (zall_blk bl ps hcode) ?_ n _ p0 t L st S' c1 c2 hp h
  intro pc ins v L S2 c1 c2 hd hk hq H ls locs hR hL hS
  obtain ⟨hz, hKv, h1, h2⟩ := hq
  refine W.widen h1 h2 ?_
  have fin : ∀ t : State, t.heap = H → s.WarmedH t.vm → zQ G K av.toArray s (.returned v) t := fun t ht hW => ⟨⟨v, S2, rfl, hKv, by rw [ht]; exact hR⟩, hS.F ht⟩
  unfold zretk at hk
  split at hk
  · rcases hk with hk | hk
    · exact W.iret hx hb (by rw [hr, hk]) fin hS.2.2 hd
    · rw [hk] at hz
      exact W.zret (ty := .boolean) hx hb (by rw [hr, hk]) (by rcases hz with rfl | rfl <;> decide) fin hS.2.2 hd
  · exact W.lret hx hb (by rw [hr, hk]) fin hS.2.2 hd
  · exact W.dret hx hb (by rw [hr, hk]) fin hS.2.2 hd
  · obtain ⟨hv, hk⟩ := hk
    rcases hk with ⟨n, hk⟩ | ⟨t, hk⟩
    · exact W.aret hx hb (by rw [hr, hk]) (Or.inl ⟨n, rfl⟩) (zref_e hv) fin hS.2.2 hd
    · exact W.aret hx hb (by rw [hr, hk]) (Or.inr ⟨t, rfl⟩) (zref_e hv) fin hS.2.2 hd
  · exact W.vret hx hb (by rw [hr, hk]) fin hS.2.2 hd
  · exact hk.elim
end ZMK
