/-! new cells and calls, over the states -/
section ZCALL
variable {G : zG} {p : Program} {l : Launch} {e : Env} {R : Room} {s : State} {m : MethodId} {args : Array Value} {below : List Frame} {meth : Method} {c : Code} {nL o : Nat} {ini : Bool} {Qf : State → Prop} {cc : ByteArray} {pc : Nat} {L : List (Option Value)} {rest : List Value} {S : zS} {c1 c2 : Nat}
/-- a new cell behind all others -/
theorem zRep.new {H H1 : Heap} {k n : Nat} (h : zRep G S H) (hsz : H1.size = H.size + 1) (hq : ∀ q : Nat, q < H.size → H1[q]? = H[q]?) (hk : zOk k) (hat : va_at G.1 vwCl (zNx S, zent G (zsN S k n) (zNx S)) H1) : zRep G (zsN S k n) H1 := by
  obtain ⟨h1, h2, h3⟩ := h
  have hnx : zNx (zsN S k n) = zNx S + 1 := rfl
  have hsh : ∀ b, zSh (zsN S k n) b = if b = zNx S then (k, n) else zSh S b := fun _ => rfl
  refine ⟨by rw [hsz, h1, hnx], fun q hq' => h2 q (by rw [hnx] at hq'; omega), fun b hb => ?_⟩
  by_cases hbn : b = zNx S
  · subst hbn
    rw [hsh, if_pos rfl] at hb ⊢
    exact Or.inr ⟨hk, h2 _ (Nat.le_refl _), hat⟩
  · rw [hsh, if_neg hbn] at hb ⊢
    have e1 : zI (zsN S k n) b = zI S b := by funext j; show zup0 _ _ _ b j = _; unfold zup0; exact if_neg hbn
    have e2 : zJ (zsN S k n) b = zJ S b := by funext j; show zup0 _ _ _ b j = _; unfold zup0; exact if_neg hbn
    have e3 : zD (zsN S k n) b = zD S b := by funext j; show zup0 _ _ _ b j = _; unfold zup0; exact if_neg hbn
    have e4 : zR (zsN S k n) b = zR S b := by funext j; show zup0 _ _ _ b j = _; unfold zup0; exact if_neg hbn
    have e5 : zSh (zsN S k n) b = zSh S b := by rw [hsh, if_neg hbn]
    rcases h3 b hb with ⟨g0, g1⟩ | ⟨g0, g1, g2⟩
    · refine Or.inl ⟨g0, ?_⟩
      have hl := zscr_lt g1
      obtain ⟨g1, g2, g3, g4⟩ := g1
      exact ⟨by rw [hq b hl]; exact g1, g2, by rw [e5]; exact g3, by rw [e5, e1]; exact g4⟩
    · exact Or.inr ⟨g0, g1, by rw [zent_eq e5 e1 e2 e3 e4]; exact g2.kept (hq b (va_at.lt g2))⟩
theorem zsh_new {k n : Nat} : zSh (zsN S k n) (zNx S) = (k, n) := if_pos rfl
theorem zS_new {H H1 : Heap} {locs : List Loc} (hS : va_S G.2.2.1 s.heap H locs) (hsz : H1.size = H.size + 1) (hq : ∀ q : Nat, q < H.size → H1[q]? = H[q]?) : va_S G.2.2.1 s.heap H1 locs :=
  ⟨Nat.le_trans hS.1 (by omega), fun x h1 h2 => (hq x (Nat.lt_of_lt_of_le h1 hS.1)).trans (hS.2.1 x h1 h2), hS.2.2⟩
def ztok : FieldType → Bool
  | .int => true
  | .boolean => true
  | .long => true
  | .double => true
  | .object _ => true
  | .array _ => true
  | _ => false
theorem ztok_all : (List.range 12).all (fun i => (List.range (zNX i)).all (fun j => ztok (zYX i j))) = true := by decide +kernel
theorem ztok_of {i j : Nat} (h2 : i ≤ 11) (hj : j < zNX i) : ztok (zYX i j) = true :=
  List.all_eq_true.mp (List.all_eq_true.mp ztok_all i (List.mem_range.mpr (by omega))) j (List.mem_range.mpr hj)
theorem zdef_fs {i : Nat} (h2 : i ≤ 11) : ∀ j, j < zNX i → defaultValue (zYX i j) = vp_V (zfs (zsN S i 0) (zNx S) i) j := by
  intro j hj
  have hk := ztok_of h2 hj
  unfold vp_V
  rw [List.getD_eq_getElem?_getD, zfs_get hj]
  have e1 : zI (zsN S i 0) (zNx S) j = 0 := by show zup0 _ _ _ _ _ = _; unfold zup0; exact if_pos rfl
  have e2 : zJ (zsN S i 0) (zNx S) j = 0 := by show zup0 _ _ _ _ _ = _; unfold zup0; exact if_pos rfl
  have e3 : zD (zsN S i 0) (zNx S) j = 0 := by show zup0 _ _ _ _ _ = _; unfold zup0; exact if_pos rfl
  have e4 : zR (zsN S i 0) (zNx S) j = none := by show zup0 _ _ _ _ _ = _; unfold zup0; exact if_pos rfl
  generalize zYX i j = t at hk ⊢
  cases t <;> first | (cases hk; done) | simp [zfv, defaultValue, e1, e2, e3, e4, va_rf]
theorem zr_new (F : zFix G p s m args meth c cc nL o ini) {i index : Nat} (h1 : 1 ≤ i) (h2 : i ≤ 11) (hw1 : Cond.classLink (zRX o) index (zRX i) ∈ zTT) (hw2 : Cond.instantiable (zRX i) (zNX i) ∈ zTT) (hw3 : Cond.initialized (zRX i) ∈ zTT) (hd : decode cc pc = .ok (.new index, 3))
    (hc1 : c1 + 1 ≤ R.cells) (hc2 : c2 + zNX i ≤ R.slots) (kk : zXX G p l e R s m args below meth c nL Qf (pc + 3) L (.ref (zNx S) :: rest) (zsN S i 0) (c1 + 1) (c2 + zNX i)) : zXX G p l e R s m args below meth c nL Qf pc L rest S c1 c2 := by
  intro H ls locs hR hL hS
  obtain ⟨hx, hb, -, hown, hts, hK, -⟩ := F
  have hKn := hK.1.1.1 (i - 1) _ (zcl i h1 h2)
  refine W.newcK hx hb hown (hts _ hw1) (hts _ hw2) (hts _ hw3) rfl hd hc1 hc2 hKn.2.1 hR.1 fun H1 kC hkC e1 z1 o1 => ?_
  have z1' : H1.size = H.size + 1 := by rw [z1, hR.1]
  have o1' : ∀ q : Nat, q < H.size → H1[q]? = H[q]? := fun q hq => o1 q (by rw [← hR.1]; exact hq)
  refine kk H1 ls locs (hR.new z1' o1' (Or.inl ⟨h1, h2⟩) ?_) hL (zS_new hS z1' o1')
  have hsh : (zSh (zsN S i 0) (zNx S)).1 = i := by rw [zsh_new]
  rw [zent_obj hsh h2]
  exact ⟨_, zcl i h1 h2, (u_born (zYX i) hts (zwsin i h1 h2) hKn hkC e1 (zty_ok i h1 h2)).to (zdef_fs h2)⟩
theorem zr_newa (F : zFix G p s m args meth c cc nL o ini) {k : Nat} {t : ArrayType} {x : Int32} (h1 : 20 ≤ k) (h2 : k ≤ 23) (ht : newarray.typeOf t = zAt k) (hw : Cond.arrayClass (zAt k) ∈ zTT) (hd : decode cc pc = .ok (.newarray t, 2))
    (hn : ¬ x < 0) (hb8 : zix x * 8 ≤ 536870912) (hc1 : c1 + 1 ≤ R.cells) (hc2 : c2 + zix x ≤ R.slots) (kk : zXX G p l e R s m args below meth c nL Qf (pc + 2) L (.ref (zNx S) :: rest) (zsN S k (zix x)) (c1 + 1) (c2 + zix x)) : zXX G p l e R s m args below meth c nL Qf pc L (.int x :: rest) S c1 c2 := by
  intro H ls locs hR hL hS
  obtain ⟨hx, hb, -, hown, hts, hK, -⟩ := F
  have hbytes : zix x * componentBytes (newarray.typeOf t) ≤ 536870912 := by
    refine Nat.le_trans (Nat.mul_le_mul_left _ ?_) hb8
    cases t <;> decide
  refine va_newaK hx hb (by rw [ht]; exact hts _ hw) rfl hd rfl hn rfl hbytes hc1 hc2 hR.1 fun H1 cA e1 z1 o1 hAr hNm => ?_
  have z1' : H1.size = H.size + 1 := by rw [z1, hR.1]
  have o1' : ∀ q : Nat, q < H.size → H1[q]? = H[q]? := fun q hq => o1 q (by rw [← hR.1]; exact hq)
  refine kk H1 ls locs (hR.new z1' o1' (Or.inr ⟨h1, by omega⟩) ?_) hL (zS_new hS z1' o1')
  have hsh : zSh (zsN S k (zix x)) (zNx S) = (k, zix x) := by exact zsh_new
  rw [zent_arr (k := k) (by rw [hsh]) h1, hsh]
  show H1[zNx S]? = some (vp_cell _ _)
  rw [e1]
  have e2 : zI (zsN S k (zix x)) (zNx S) = fun _ => 0 := by funext j; show zup0 _ _ _ _ _ = _; unfold zup0; exact if_pos rfl
  have e3 : zJ (zsN S k (zix x)) (zNx S) = fun _ => 0 := by funext j; show zup0 _ _ _ _ _ = _; unfold zup0; exact if_pos rfl
  have e4 : zD (zsN S k (zix x)) (zNx S) = fun _ => 0 := by funext j; show zup0 _ _ _ _ _ = _; unfold zup0; exact if_pos rfl
  have hcA : cA = G.2.1 k := by
    have hRA : s.vm.findClass ("[" ++ (zAt k).toString) = some (G.2.1 k) := by
      match k, h1, h2 with
      | 20, _, _ => exact (hK.1.1.2 0 _ rfl).2
      | 21, _, _ => exact (hK.1.1.2 1 _ rfl).2
      | 22, _, _ => exact (hK.1.1.2 2 _ rfl).2
      | 23, _, _ => exact (hK.1.1.2 3 _ rfl).2
      | n + 24, _, h => exact absurd h (by omega)
    rw [ht] at hNm
    exact Option.some.inj (hNm.symm.trans hRA)
  rw [hcA, ht]
  congr 1
  match k, h1, h2 with
  | 20, _, _ => rw [zarrI (by omega), e2]; rfl
  | 21, _, _ => rw [zarrI (by omega), e2]; rfl
  | 22, _, _ => rw [zarrJ, e3]; rfl
  | 23, _, _ => rw [zarrD, e4]; rfl
  | n + 24, _, h => exact absurd h (by omega)
theorem zr_anew (F : zFix G p s m args meth c cc nL o ini) {k index : Nat} {x : Int32} (h1 : 24 ≤ k) (h2 : k ≤ 27) (hw : Cond.classLink (zRX o) index (zRX (zCo k)) ∈ zTT) (hd : decode cc pc = .ok (.anewarray index, 3))
    (hn : ¬ x < 0) (hb8 : zix x * 8 ≤ 536870912) (hc1 : c1 + 1 ≤ R.cells) (hc2 : c2 + zix x ≤ R.slots) (kk : zXX G p l e R s m args below meth c nL Qf (pc + 3) L (.ref (zNx S) :: rest) (zsN S k (zix x)) (c1 + 1) (c2 + zix x)) : zXX G p l e R s m args below meth c nL Qf pc L (.int x :: rest) S c1 c2 := by
  intro H ls locs hR hL hS
  obtain ⟨hx, hb, -, hown, hts, hK, -⟩ := F
  have hover : va_AO (zRX (zCo k)) s := by
    match k, h1, h2 with
    | 24, _, _ => exact hK.1.2.1.1
    | 25, _, _ => exact hK.1.2.1.2.1
    | 26, _, _ => exact hK.1.2.1.2.2.1
    | 27, _, _ => exact hK.1.2.1.2.2.2
    | n + 28, _, h => exact absurd h (by omega)
  refine W.anew hx hb hown (hts _ hw) (va_AO.use hover) rfl hd rfl hn (by show zix x * 4 ≤ _; omega) hc1 hc2 fun cA kA comp f1 f2 f3 f4 => ?_
  generalize hH1 : H.push ({ cls := cA, slots := Array.replicate x.toNatClampNeg .null, vm := .none } : Cell) = H1
  have z1' : H1.size = H.size + 1 := by rw [← hH1, Array.size_push]
  have e1 : H1[H.size]? = some (arrV cA x.toNatClampNeg (fun _ => .null)) := by rw [← hH1, Array.getElem?_push_size, ← arrV_new]
  have o1' : ∀ q : Nat, q < H.size → H1[q]? = H[q]? := fun q hq => by rw [← hH1, Array.getElem?_push, if_neg (Nat.ne_of_lt hq)]
  rw [hR.1]
  refine kk H1 ls locs (hR.new z1' o1' (Or.inr ⟨by omega, h2⟩) ?_) hL (zS_new hS z1' o1')
  have hsh : zSh (zsN S k (zix x)) (zNx S) = (k, zix x) := by exact zsh_new
  rw [zent_arr (k := k) (by rw [hsh]) (by omega), hsh, zarrR h1]
  show H1[zNx S]? = some (vp_cell _ _)
  rw [← hR.1, e1]
  have e2 : zR (zsN S k (zix x)) H.size = fun _ => none := by funext j; rw [hR.1]; show zup0 _ _ _ _ _ = _; unfold zup0; exact if_pos rfl
  have hcA : cA = G.2.1 k := by
    obtain ⟨C, hC, hCr⟩ := zAt_ref h1
    have hRA := (ztyR hK h1 h2).2
    rw [hC] at hRA
    obtain ⟨-, -, -, -, -, g4⟩ := hRA
    rw [hCr] at g4
    exact Option.some.inj (f1.symm.trans g4)
  rw [hcA, e2]
  rfl
-- calls
/-- a callee: its name, code, locals, answer, room, how many it takes, its kind (0 static, 1 virtual, 2 a constructor) -/
abbrev zCal : Type := MethodName × ByteArray × Nat × Option FieldType × Room × Nat × Nat
/-- the words that a call of it asks -/
def zwd (q : zCal) : Prop := Cond.code q.1 q.2.1 q.2.2.1 q.2.2.2.1 ∈ zTT ∧ Cond.initialized q.1.cls ∈ zTT ∧ (q.2.2.2.2.2.2 = 0 → Cond.static q.1 ∈ zTT) ∧ (q.2.2.2.2.2.2 ≠ 0 → Cond.instanceMethod q.1 ∈ zTT) ∧ (q.2.2.2.2.2.2 = 1 → Cond.selects q.1.cls q.1 q.1 ∈ zTT)
def zQ (G : zG) (K : Option Value → zS → Prop) : Array Value → State → Outcome → State → Prop := fun _ st oc t => (∃ (v : Option Value) (S' : zS), oc = .returned v ∧ K v S' ∧ zRep G S' t.heap) ∧ va_F G.2.2.1 st t
def zws (q : zCal) : List Cond := .code q.1 q.2.1 q.2.2.1 q.2.2.2.1 :: zTT
/-- the contract of a method -/
def zMet (l : Launch) (G : zG) (q : zCal) (ct : zCt) : Prop := zwd q ∧ ∀ (av : List Value) (S : zS) (K : Option Value → zS → Prop), ct.1 av S K → Met l q.1 (zws q) q.2.2.2.2.1 (va_Pc av (fun U => zRep G S U.heap ∧ zKN G U)) (zQ G K) ct.2.1 ct.2.2 G.2.2.1
theorem zcallR {K : Option Value → zS → Prop} {mc ms : Nat} {a : Array Value} {H : Heap} {ls : Array Slot} {locs : List Loc} {st0 : List Value} (hr : va_Run p l e R s m args below meth c H locs c1 c2 mc ms (F0 m pc ls st0) rest (zQ G K a) G.2.2.1) (hS : va_S G.2.2.1 s.heap H locs)
    (kk : ∀ (v : Option Value) (S' : zS) (H1 : Heap) (locs1 : List Loc), K v S' → zRep G S' H1 → va_S G.2.2.1 s.heap H1 locs1 → W p l e R s m args below meth c H1 locs1 (c1 + mc) (c2 + ms) Qf (F0 m (pc + 3) ls (v.toList ++ rest))) : W p l e R s m args below meth c H locs c1 c2 Qf (F0 m pc ls st0) := by
  intro T hT X
  obtain ⟨v, st₀, t, T', L0, h0, X', hL, e1, e2, ⟨⟨v2, S', hv, hk, hb⟩, hz, hq⟩, st⟩ := hr T hT X
  cases hv
  rw [h0] at hz hq
  obtain ⟨t2, a1, b1⟩ := kk v S' T'.heap (locs ++ L0) hk (by rw [e1]; exact hb)
    ⟨Nat.le_trans hS.1 (by rw [e1]; exact hz), fun q h1 h2 => by rw [e1, hq q (Nat.lt_of_lt_of_le h1 hS.1) h2]; exact hS.2.1 q h1 h2, fun q hq => by
      rcases List.mem_append.mp hq with h | h
      · exact hS.2.2 q h
      · exact hL q h⟩ T' rfl X'
  exact ⟨t2, st t2 a1, b1⟩
theorem zgood_in {ws : List Cond} (h : ∀ w ∈ ws, w ∈ zTT) : GoodIn zTT ws := fun w hw => ⟨h w hw, zTT_good (h w hw)⟩
theorem zpre {H : Heap} {av : List Value} (hR : zRep G S H) (hK : zKN G s) : PreS s H (va_Pc av (fun U => zRep G S U.heap ∧ zKN G U)) av :=
  ⟨fun a U g mk q => ⟨q.1, q.2.1, zKN.same (u := U) (U := U.calling g mk a) rfl q.2.2⟩, fun U hU hW => ⟨rfl, by rw [hU]; exact hR, hK.warm hW⟩⟩
/-- what a program decides of a callee, seen from a caller with room R -/
def zfits (R : Room) (q : zCal) (ct : zCt) : Prop := (q.1.cls ≠ "java/lang/invoke/MethodHandle" ∧ q.1.cls ≠ "java/lang/invoke/VarHandle" ∧ (parseMethodDescriptor q.1.desc).map (fun d => d.parameters.length) = some q.2.2.2.2.2.1) ∧ (q.2.2.2.2.1.frames + 1 ≤ R.frames ∧ 8 + (q.2.2.1 + 11) + q.2.2.2.2.1.locals ≤ R.locals) ∧ q.2.2.2.2.1.cells = ct.2.1 ∧ q.2.2.2.2.1.slots = ct.2.2
theorem zr_callS (F : zFix G p s m args meth c cc nL o ini) {q : zCal} {ct : zCt} (hM : zMet l G q ct) (hq : zfits R q ct) {index : Nat} (hw1 : Cond.methodLink (zRX o) index q.1 ∈ zTT) (hkd : q.2.2.2.2.2.2 = 0) (hd : decode cc pc = .ok (.invokestatic index, 3))
    {As st : List Value} (hst : st = As.reverse ++ rest) (hn : As.length = q.2.2.2.2.2.1) (hwt : zwt rest ≤ 8) (hc1 : c1 + ct.2.1 ≤ R.cells) (hc2 : c2 + ct.2.2 ≤ R.slots)
    {K : Option Value → zS → Prop} (kk : ct.1 As S K) (kx : ∀ (v : Option Value) (S' : zS), K v S' → zXX G p l e R s m args below meth c nL Qf (pc + 3) L (v.toList ++ rest) S' (c1 + ct.2.1) (c2 + ct.2.2)) : zXX G p l e R s m args below meth c nL Qf pc L st S c1 c2 := by
  intro H ls locs hR hL hS
  obtain ⟨hx, hb, hml, hown, hts, hK, -⟩ := F
  obtain ⟨q1, q2, q3, q4⟩ := hq
  obtain ⟨hw4, hw3, hw2, -, -⟩ := hM.1
  replace hw2 := hw2 hkd
  have hG : GoodIn zTT (va_wsS (zRX o) index q.1 (zws q)) := zgood_in fun w hw => by
    simp only [va_wsS, zws, List.cons_append, List.nil_append, List.mem_cons] at hw
    rcases hw with rfl | rfl | rfl | rfl | hw <;> assumption
  refine zcallR (va_runS (As := As) (rest := rest) ⟨hx, hb, hml, hown, hts⟩ (hM.2 As S _ kk) (va_cwS q.2.2.2.2.2.1 hts hG rfl q3 q4 q1 q2) (zpre hR hK) rfl hn hL.1 hst (by show 2 * 0 + zwt rest ≤ 8; omega) hd ⟨hc1, hc2⟩) hS fun v S' H1 locs1 h1 h2 h3 => kx v S' h1 H1 ls locs1 h2 hL h3
theorem zr_callV (F : zFix G p s m args meth c cc nL o ini) {q : zCal} {ct : zCt} (hM : zMet l G q ct) (hq : zfits R q ct) {index ci b : Nat} (hci1 : 1 ≤ ci) (hci2 : ci ≤ 11) (hcls : q.1.cls = zRX ci) (hsh : (zSh S b).1 = ci) (hw1 : Cond.methodLink (zRX o) index q.1 ∈ zTT) (hkd : q.2.2.2.2.2.2 = 1) (hd : decode cc pc = .ok (.invokevirtual index, 3))
    {As st : List Value} (hst : st = As.reverse ++ .ref b :: rest) (hn : As.length = q.2.2.2.2.2.1) (hwt : zwt rest ≤ 8) (hc1 : c1 + ct.2.1 ≤ R.cells) (hc2 : c2 + ct.2.2 ≤ R.slots)
    {K : Option Value → zS → Prop} (kk : ct.1 (.ref b :: As) S K) (kx : ∀ (v : Option Value) (S' : zS), K v S' → zXX G p l e R s m args below meth c nL Qf (pc + 3) L (v.toList ++ rest) S' (c1 + ct.2.1) (c2 + ct.2.2)) : zXX G p l e R s m args below meth c nL Qf pc L st S c1 c2 := by
  intro H ls locs hR hL hS
  obtain ⟨hx, hb, hml, hown, hts, hK, -⟩ := F
  obtain ⟨q1, q2, q3, q4⟩ := hq
  obtain ⟨hw5, hw4, -, hw2, hw3⟩ := hM.1
  replace hw2 := hw2 (by omega)
  replace hw3 := hw3 hkd
  have hG : GoodIn zTT (wsV (zRX o) index q.1.cls q.1 (zws q)) := zgood_in fun w hw => by
    simp only [wsV, zws, List.cons_append, List.nil_append, List.mem_cons] at hw
    rcases hw with rfl | rfl | rfl | rfl | rfl | hw <;> assumption
  obtain ⟨-, ho⟩ := hR.obj hsh hci1 hci2
  have hrec : ∃ cell : Cell, H[b]? = some cell ∧ cell.vm.isStatics = false ∧ s.vm.findClass q.1.cls = some cell.cls := by
    obtain ⟨r, g1, cell, q1, q2, q3, q4⟩ := ho
    exact ⟨cell, q1, by rw [q3]; rfl, by rw [q2, hcls]; exact (hK.1.1.1 (ci - 1) _ (zcl ci hci1 hci2)).2.1⟩
  have hp := zpre (av := .ref b :: As) hR hK
  refine zcallR (va_runV (As := As) (rest := rest) (C := q.1.cls) ⟨hx, hb, hml, hown, hts⟩ (hM.2 (.ref b :: As) S _ kk) (cwV q.2.2.2.2.2.1 hts hG rfl q3 q4 ⟨rfl, q1⟩ q2) ⟨hp.1, hrec, hp.2⟩ rfl hn hL.1 hst (by show 2 * 0 + zwt rest ≤ 8; omega) hd ⟨hc1, hc2⟩) hS fun v S' H1 locs1 h1 h2 h3 => kx v S' h1 H1 ls locs1 h2 hL h3
theorem zr_callI (F : zFix G p s m args meth c cc nL o ini) {q : zCal} {ct : zCt} (hM : zMet l G q ct) (hq : zfits R q ct) {index b : Nat} (hnm : q.1.name = "<init>") (hret : q.2.2.2.1 = none) (hw1 : Cond.methodLink (zRX o) index q.1 ∈ zTT ∨ ∃ h, Cond.methodLinkNest (zRX o) index q.1 h ∈ zNst) (hkd : q.2.2.2.2.2.2 = 2) (hd : decode cc pc = .ok (.invokespecial index, 3))
    {As st : List Value} (hst : st = As.reverse ++ .ref b :: rest) (hn : As.length = q.2.2.2.2.2.1) (hwt : zwt rest ≤ 8) (hc1 : c1 + ct.2.1 ≤ R.cells) (hc2 : c2 + ct.2.2 ≤ R.slots)
    {K : Option Value → zS → Prop} (kk : ct.1 (.ref b :: As) S K) (kx : ∀ (v : Option Value) (S' : zS), K v S' → zXX G p l e R s m args below meth c nL Qf (pc + 3) L (v.toList ++ rest) S' (c1 + ct.2.1) (c2 + ct.2.2)) : zXX G p l e R s m args below meth c nL Qf pc L st S c1 c2 := by
  intro H ls locs hR hL hS
  obtain ⟨hx, hb, hml, hown, hts, hK, -⟩ := F
  obtain ⟨q1, q2, q3, q4⟩ := hq
  obtain ⟨hw5, hw4, -, hw2, -⟩ := hM.1
  replace hw2 := hw2 (by omega)
  have hG : GoodIn zTT (zws q) := zgood_in fun w hw => by
    rcases List.mem_cons.mp hw with rfl | hw <;> assumption
  have hws : zws q = .code q.1 q.2.1 q.2.2.1 none :: zTT := by unfold zws; rw [hret]
  have hp := zpre (av := .ref b :: As) hR hK
  rcases hw1 with hw1 | ⟨h, hw1⟩
  · refine zcallR (va_runI (As := As) (rest := rest) ⟨hx, hb, hml, hown, hts⟩ (hM.2 (.ref b :: As) S _ kk) (cwI q.2.2.2.2.2.1 hts hG hws q3 q4 (hts _ hw4) (hts _ hw1) (hts _ hw2) hnm q1 q2) hp rfl hn hL.1 hst (by show 2 * 0 + zwt rest ≤ 8; omega) hd ⟨hc1, hc2⟩) hS fun v S' H1 locs1 h1 h2 h3 => kx v S' h1 H1 ls locs1 h2 hL h3
  · refine zcallR (va_runIN (As := As) (rest := rest) ⟨hx, hb, hml, hown, hts⟩ (hM.2 (.ref b :: As) S _ kk) ⟨va_cnB q.2.2.2.2.2.1 hts hG hws q3 q4 (hK.2 _ hw1) (hts _ hw4) q1 q2, hnm, hts _ hw2⟩ hp rfl hn hL.1 hst (by show 2 * 0 + zwt rest ≤ 8; omega) hd ⟨hc1, hc2⟩) hS fun v S' H1 locs1 h1 h2 h3 => kx v S' h1 H1 ls locs1 h2 hL h3
end ZCALL
