/-! THE CLAIM OUT OF ONE WALK OF THE LAW'S BODY. Your part is whole_start (and what it stands on); all else here is the same for every law, but numbers. -/
def R_law : String := "SystemLabLaw"
def lw_P (b : Addr) (xs : List Int32) (args : Array Value) (s : State) : Prop := args = #[.ref b] ∧ s.IntsAt b xs ∧ xs.length ≤ 3072 ∧ (Jvm.Cond.and given_1 narrow_1).before args s = true
/-- what a walk over the start with the record d0 says of its end, said of the start itself -/
theorem lw_closed {s t : State} {o : Outcome} {d0 : Drawn} {L : List Loc} {k n : Nat} (hd0 : s.drawn.sameBut d0 lw_cs) (hv : ∃ v, o = .returned v) (hW : (s.setDrawn d0).WarmedH t.vm) (hs : (s.setDrawn d0).sameButNew ({ t with vm := s.vm } : State) L k n) : State.butDraws s t lw_cs (fun t1 => Framed s o t1 L k n) := by
  have h2 : t.drawn = d0 := congrArg State.drawn hs.1
  refine ⟨⟨hv, hW, State.sameButNew.setDrawn hs s.drawn⟩, ?_, by decide⟩
  rw [h2]
  exact hd0
def lw_Q (_ : Array Value) (s : State) (o : Outcome) (t : State) : Prop := o = .returned (some (.int 1)) ∧ State.butDraws s t lw_cs (fun t1 => Framed s o t1 [] 600000 7302250)
def lw_Z (below : List Frame) (a : Array Value) (s : State) : State → Prop := fun t => ∃ o, t.status = .running ∧ Ended t below o ∧ lw_Q a s o t
/-- the law's own end, with 1 on the stack, nothing written that was there before, its room as the claim has it; d0: the record of draws at this point (at the entry s.drawn: begin with 'refine W.base ?_' and 'have hd0 := Drawn.sameBut.refl s.drawn lw_cs') -/
theorem lw_ret {p : Program} {l : Launch} {e : Env} {s : State} {m : MethodId} {below : List Frame} {meth : Method} {c : Code} {b : Nat} {d0 : Drawn} (hd0 : s.drawn.sameBut d0 lw_cs) (hx : p.tables.exec = Jvm.exec) (hb : c.code = code) (hr : meth.sig.returnType = ret) (hlocks : meth.locks = false) {pc : Nat} {H : Heap} {ls : Array Slot} (hdg : decode code pc = .ok (.ireturn, 1)) : W p l e room_1 (s.setDrawn d0) m #[Value.ref b] below meth c H [] 600000 7302250 (lw_Z below #[Value.ref b] s) (F0 m pc ls [.int 1]) := by
  intro T hT X
  obtain ⟨fs, hret, hrun, hended, hW, hframe⟩ := X.leave (v := some (.int 1)) (hlocks := hlocks) (fun h => by rw [hr] at h; cases h)
  have hmeth' : T.vm.method? m = some meth := X.method'
  refine ⟨T.setFrames fs, ?_, .returned (some (.int 1)), hrun, hended, rfl, lw_closed hd0 ⟨_, rfl⟩ hW hframe⟩
  jvm_step X.here [X.here.top, hx, hb, hdg, hmeth', hr, ret, narrow_b1]
  (try refine ⟨rfl, ?_⟩); (try refine ⟨rfl, ?_⟩)
  first | (intro acts; rw [hret _ acts rfl rfl rfl]) | rw [hret _ _ rfl rfl rfl]
  exact Steps.refl _
/-- what holds at the law's entry: the machine, the code, the tables' words (any of lw_tbl by 'hts w (by decide +kernel)'), the script of L ints xs at the cell b, what the Statement gives of the start (any of its parts by flat_of_before) -/
def lw_At (p : Program) (s : State) (m : MethodId) (meth : Method) (c : Code) (b L : Nat) (xs : Nat → Int32) : Prop :=
  p.tables.exec = Jvm.exec ∧ c.code = code ∧ meth.sig.returnType = ret ∧ c.maxLocals = 4 ∧ s.vm.findClass R_law = some m.cls ∧ (∀ w ∈ lw_tbl, w.before #[Value.ref b] s = true) ∧ va_X b L xs s s.heap ∧ b < s.heap.size ∧ meth.locks = false ∧ (Jvm.Cond.and given_1 narrow_1).before #[Value.ref b] s = true
/-! the law's start: the worlds' classes by number, the first state, and the walk out of a run -/
section ZLST
theorem zinT : ∀ i : Nat, 1 ≤ i → i ≤ 11 → Cond.instantiable (zRX i) (zNX i) ∈ lw_tbl := by
  intro i h1 h2
  match i, h1, h2 with
  | 1, _, _ => exact zch_in 1 _ (List.mem_of_getElem? (i := 84) (by decide +kernel))
  | 2, _, _ => exact zch_in 2 _ (List.mem_of_getElem? (i := 8) (by decide +kernel))
  | 3, _, _ => exact zch_in 1 _ (List.mem_of_getElem? (i := 204) (by decide +kernel))
  | 4, _, _ => exact zch_in 1 _ (List.mem_of_getElem? (i := 157) (by decide +kernel))
  | 5, _, _ => exact zch_in 1 _ (List.mem_of_getElem? (i := 30) (by decide +kernel))
  | 6, _, _ => exact zch_in 1 _ (List.mem_of_getElem? (i := 182) (by decide +kernel))
  | 7, _, _ => exact zch_in 1 _ (List.mem_of_getElem? (i := 36) (by decide +kernel))
  | 8, _, _ => exact zch_in 2 _ (List.mem_of_getElem? (i := 50) (by decide +kernel))
  | 9, _, _ => exact zch_in 1 _ (List.mem_of_getElem? (i := 91) (by decide +kernel))
  | 10, _, _ => exact zch_in 1 _ (List.mem_of_getElem? (i := 16) (by decide +kernel))
  | 11, _, _ => exact zch_in 5 _ (List.mem_of_getElem? (i := 226) (by decide +kernel))
  | n + 12, _, h => exact absurd h (by omega)
theorem zarO : ∀ k : Nat, 24 ≤ k → k ≤ 27 → Cond.arrayOver (.object (zRX (zCo k))) ∈ lw_tbl := by
  intro k h1 h2
  match k, h1, h2 with
  | 24, _, _ => exact zch_in 1 _ (List.mem_of_getElem? (i := 26) (by decide +kernel))
  | 25, _, _ => exact zch_in 1 _ (List.mem_of_getElem? (i := 24) (by decide +kernel))
  | 26, _, _ => exact zch_in 1 _ (List.mem_of_getElem? (i := 28) (by decide +kernel))
  | 27, _, _ => exact zch_in 1 _ (List.mem_of_getElem? (i := 90) (by decide +kernel))
  | n + 28, _, h => exact absurd h (by omega)
theorem zarC : ∀ k : Nat, 20 ≤ k → k ≤ 23 → Cond.arrayClass (zAt k) ∈ lw_tbl := by
  intro k h1 h2
  match k, h1, h2 with
  | 20, _, _ => exact zch_in 1 _ (List.mem_of_getElem? (i := 108) (by decide +kernel))
  | 21, _, _ => exact zch_in 1 _ (List.mem_of_getElem? (i := 155) (by decide +kernel))
  | 22, _, _ => exact zch_in 1 _ (List.mem_of_getElem? (i := 54) (by decide +kernel))
  | 23, _, _ => exact zch_in 6 _ (List.mem_of_getElem? (i := 166) (by decide +kernel))
  | n + 24, _, h => exact absurd h (by omega)
theorem zar_p {s : State} {A : Array Value} {ty : FieldType} (h : (Cond.arrayClass ty).before A s = true) (hr : ∀ c, s.vm.findClass ("[" ++ ty.toString) = some c → va_RA s c ty) : ∃ c, ArrOfT s c ty ∧ va_RA s c ty := by
  obtain ⟨c, kA, comp, h1, h2, h3⟩ := Cond.arrayClass_spec h
  exact ⟨c, fun n z => ⟨fun k h => (by cases h), kA, h2, comp, h3⟩, hr c h1⟩
theorem zar_o {s : State} {A : Array Value} {C : String} (h : (Cond.arrayOver (.object C)).before A s = true) : ∃ c, ArrOfT s c (.object C) ∧ va_RA s c (.object C) := by
  obtain ⟨comp, c, kA, h1, h2, h3, h4, h5⟩ := Cond.arrayOver_spec h
  exact ⟨c, fun n z => ⟨fun k h => (by cases h), kA, h3, comp, h4⟩, kA, comp, h3, h4, h1, h5⟩
theorem zar_k {s : State} {b : Nat} (hts : ∀ w ∈ lw_tbl, w.before #[Value.ref b] s = true) (k : Nat) : ∃ c : ClassId, 20 ≤ k → k ≤ 27 → ArrOfT s c (zAt k) ∧ va_RA s c (zAt k) := by
  by_cases h : 20 ≤ k ∧ k ≤ 27
  · obtain ⟨h1, h2⟩ := h
    match k, h1, h2 with
    | 20, _, _ => obtain ⟨c, h⟩ := zar_p (ty := .int) (hts _ (zarC 20 (by decide) (by decide))) (fun c h => h); exact ⟨c, fun _ _ => h⟩
    | 21, _, _ => obtain ⟨c, h⟩ := zar_p (ty := .boolean) (hts _ (zarC 21 (by decide) (by decide))) (fun c h => h); exact ⟨c, fun _ _ => h⟩
    | 22, _, _ => obtain ⟨c, h⟩ := zar_p (ty := .long) (hts _ (zarC 22 (by decide) (by decide))) (fun c h => h); exact ⟨c, fun _ _ => h⟩
    | 23, _, _ => obtain ⟨c, h⟩ := zar_p (ty := .double) (hts _ (zarC 23 (by decide) (by decide))) (fun c h => h); exact ⟨c, fun _ _ => h⟩
    | 24, _, _ => obtain ⟨c, h⟩ := zar_o (hts _ (zarO 24 (by decide) (by decide))); exact ⟨c, fun _ _ => h⟩
    | 25, _, _ => obtain ⟨c, h⟩ := zar_o (hts _ (zarO 25 (by decide) (by decide))); exact ⟨c, fun _ _ => h⟩
    | 26, _, _ => obtain ⟨c, h⟩ := zar_o (hts _ (zarO 26 (by decide) (by decide))); exact ⟨c, fun _ _ => h⟩
    | 27, _, _ => obtain ⟨c, h⟩ := zar_o (hts _ (zarO 27 (by decide) (by decide))); exact ⟨c, fun _ _ => h⟩
    | n + 28, _, h => exact absurd h (by omega)
  · exact ⟨(default : Nat), fun h1 h2 => absurd ⟨h1, h2⟩ h⟩
theorem zG_of {s : State} {b : Nat} (hts : ∀ w ∈ lw_tbl, w.before #[Value.ref b] s = true) {scr : Cell} (hsc : s.isArrayOf scr .int) : ∃ G : zG, zKN G s ∧ G.2.2.1 = (fun q => s.heap.size ≤ q) ∧ G.2.2.2 = scr := by
  have hT : ∀ w ∈ zTT, w.before #[Value.ref b] s = true := fun w hw => hts w (zTT_tbl hw)
  have hch : ∀ k : Nat, ∃ x : ClassId × (Nat → Nat), ∀ q, vwCl[k]? = some q → u_Kn s q.1 q.2.1 q.2.2 x.1 x.2 := fun k => by
    by_cases hk : k < 11
    · obtain ⟨cC, iS, h⟩ := u_known (C := zRX (k + 1)) (T := zTX (k + 1)) (N := zNX (k + 1)) (n := zNX (k + 1)) hT (zwsin (k + 1) (by omega) (by omega)) (hts _ (zinT (k + 1) (by omega) (by omega)))
      refine ⟨(cC, iS), fun q hq => ?_⟩
      have e : vwCl[k]? = some (zRX (k + 1), zTX (k + 1), zNX (k + 1)) := zcl (k + 1) (by omega) (by omega)
      rw [e] at hq
      cases hq
      exact h
    · refine ⟨((default : Nat), fun _ => 0), fun q hq => ?_⟩
      have : k < 11 := (List.getElem?_eq_some_iff.mp hq).1
      exact absurd this hk
  obtain ⟨f, hf⟩ := Classical.axiomOfChoice hch
  obtain ⟨a, ha⟩ := Classical.axiomOfChoice (zar_k hts)
  refine ⟨((fun k => (f k).1, fun k => (f k).2), a, (fun q => s.heap.size ≤ q), scr), ⟨⟨⟨fun k q h => hf k q h, ?_⟩, ?_, hsc⟩, ?_⟩, rfl, rfl⟩
  · intro k q h
    match k, h with
    | 0, h => cases h; exact ha 20 (by decide) (by decide)
    | 1, h => cases h; exact ha 21 (by decide) (by decide)
    | 2, h => cases h; exact ha 22 (by decide) (by decide)
    | 3, h => cases h; exact ha 23 (by decide) (by decide)
    | 4, h => cases h; exact ha 24 (by decide) (by decide)
    | 5, h => cases h; exact ha 25 (by decide) (by decide)
    | 6, h => cases h; exact ha 26 (by decide) (by decide)
    | 7, h => cases h; exact ha 27 (by decide) (by decide)
    | n + 8, h => simp [zTys] at h
  · exact ⟨va_AO.of (hts _ (zarO 24 (by decide) (by decide))), va_AO.of (hts _ (zarO 25 (by decide) (by decide))), va_AO.of (hts _ (zarO 26 (by decide) (by decide))), va_AO.of (hts _ (zarO 27 (by decide) (by decide)))⟩
  · intro w hw
    have h := hts _ (zNst_tbl _ hw)
    obtain ⟨a, i, x, q, rfl⟩ := zNst_form w hw
    exact va_Nw.of rfl h
/-- the first state: the script alone -/
def zS0 (b L n : Nat) (xs : Nat → Int32) : zS := (fun a => if a = b then (28, L) else (0, 0), n, fun a j => if a = b then xs j else 0, fun _ _ => 0, fun _ _ => 0, fun _ _ => none)
theorem zS0_sh {b L n : Nat} {xs : Nat → Int32} : zSh (zS0 b L n xs) b = (28, L) := if_pos rfl
theorem zRep_0 {G : zG} {s : State} {b L : Nat} {xs : Nat → Int32} (hG : G.2.2.1 = fun q => s.heap.size ≤ q) (h1 : s.heap[b]? = some G.2.2.2) (h2 : G.2.2.2.vm ≠ .unknown) (h3 : G.2.2.2.slots.size = L) (h4 : ∀ j : Nat, j < L → G.2.2.2.slots[j]? = some (.int (xs j))) : zRep G (zS0 b L s.heap.size xs) s.heap := by
  refine ⟨rfl, fun q hq => by rw [hG]; exact hq, fun a ha => ?_⟩
  by_cases hab : a = b
  · subst hab
    refine Or.inl ⟨by rw [zS0_sh], h1, h2, by rw [zS0_sh]; exact h3, fun j hj => ?_⟩
    rw [zS0_sh] at hj
    rw [h4 j hj]
    show some (Value.int (xs j)) = some (.int (if a = a then xs j else 0))
    rw [if_pos rfl]
  · have e : zSh (zS0 b L s.heap.size xs) a = (0, 0) := if_neg hab
    rw [e] at ha
    exact absurd rfl ha
def zLQ : Option Value → zS → Nat → Nat → Prop := fun v _ c1 c2 => v = some (.int 1) ∧ c1 ≤ 600000 ∧ c2 ≤ 7302250
theorem zlaw_W {p : Program} {e : Env} {s : State} {m : MethodId} {below : List Frame} {meth : Method} {c : Code} (l : Launch) {b L : Nat} {xs : Nat → Int32} (C0 : lw_At p s m meth c b L xs) (Γ : List zCt) (hm : ∀ G, zmets l G cal_L_law Γ)
    (body : ∀ (X : Nat → List (Option Value) → List Value → zS → Nat → Nat → Prop) (n : Nat), b < n → (∀ (k t : Nat) (L : List (Option Value)) (st : List Value) (S : zS) (c1 c2 : Nat), zrun 600000 7302250 zLQ Γ (fun t => zlk t bl_L_law) X k (zlk t bl_L_law) L st S c1 c2 → X t L st S c1 c2) → X 0 [some (.ref b), none, none, none] [] (zS0 b L n xs) 0 0) :
    W p l e room_1 s m #[Value.ref b] below meth c s.heap [] 0 0 (lw_Z below #[Value.ref b] s) (entryFrame m ([Value.ref b] : List Value).toArray 4) := by
  obtain ⟨hx, hb, hr, hml, hown, hts, hX, hbl, hlocks, hgv⟩ := C0
  obtain ⟨scr, h1, h2, h3, h4, h5⟩ := hX
  obtain ⟨G, hKN, hGA, rfl⟩ := zG_of hts h2
  have hd0 := Drawn.sameBut.refl s.drawn lw_cs
  have hl := lv_entry ([.ref b]) (n := 4) (Nat.le_of_ble_eq_true rfl)
  rw [lg_entry_eq]
  generalize (lg_sl ([.ref b]) ++ List.replicate (4 - (lg_sl ([.ref b])).length) Slot.unset).toArray = ls at hl ⊢
  have hL : zLok ls 4 (zlo [.ref b] 4) := ⟨hl.1, hl.2.1, zlo_len _ _ (Nat.le_of_ble_eq_true rfl), fun i v h => hl.2.2 (i, v) (by have := zlo_mem _ _ 0 i v h; simpa using this)⟩
  have F : zFix G p s m #[Value.ref b] meth c code 4 12 false := ⟨hx, hb, hml, hown, fun w hw => hts w (zTT_tbl hw), hKN, fun h => by cases h⟩
  have bd := body (zXX G p l e room_1 s m #[Value.ref b] below meth c 4 (lw_Z below #[Value.ref b] s)) s.heap.size hbl ?_
  · exact bd s.heap ls [] (zRep_0 hGA h1 h3 h4 h5) hL va_S.rf
  · intro k t L st S c1 c2 h
    obtain ⟨p0, hp⟩ := zall_blk bl_L_law pl_L_law ck_L_law t
    refine zrun_sound (R := room_1) F (zmets_e cal_L_law Γ (hm G)) (zall_blk _ _ ck_L_law) ?_ k _ p0 t L st S c1 c2 hp h
    intro pc ins v L S2 c1 c2 hd hk hq H ls locs hR hL hS
    obtain ⟨hv, q1, q2⟩ := hq
    refine W.widen q1 q2 (va_forget (fun q hq => ?_) ?_)
    · have := hS.2.2 q hq
      rw [hGA] at this
      exact this
    · unfold zretk at hk
      split at hk
      · cases hv
        exact W.base (lw_ret hd0 hx hb hr hlocks hd)
      · cases hv
      · cases hv
      · rcases hk.2 with ⟨n, hk⟩ | ⟨t, hk⟩ <;> cases hk
      · cases hv
      · exact hk.elim
end ZLST
