/-! a row an instruction, over the states -/
section ZROW
def zKN (G : zG) (U : State) : Prop := zK G U ∧ ∀ w ∈ zNst, va_Nw w U
theorem zNst_form : ∀ w ∈ zNst, ∃ (a : String) (i : Nat) (x : MethodName) (h : String), w = .methodLinkNest a i x h := by
  intro w hw
  simp only [zNst, List.mem_cons, List.not_mem_nil, or_false] at hw
  rcases hw with rfl | rfl | rfl | rfl | rfl | rfl | rfl <;> exact ⟨_, _, _, _, rfl⟩
theorem zKN.warm {G : zG} {s U : State} (hW : s.WarmedH U.vm) (h : zKN G s) : zKN G U := by
  refine ⟨h.1.moved hW.alike, fun w hw => ?_⟩
  obtain ⟨a, i, x, q, rfl⟩ := zNst_form w hw
  exact va_Nw.warmM hW (h.2 _ hw)
theorem zKN.same {G : zG} {u U : State} (hvm : u.vm = U.vm) (h : zKN G u) : zKN G U := by
  refine ⟨h.1.moved (by rw [hvm]; exact Vm.Alike.refl _), fun w hw => ?_⟩
  obtain ⟨a, i, x, q, rfl⟩ := zNst_form w hw
  exact va_Nw.same rfl hvm (h.2 _ hw)
def zFix (G : zG) (p : Program) (s : State) (m : MethodId) (args : Array Value) (meth : Method) (c : Code) (cc : ByteArray) (nL o : Nat) (ini : Bool) : Prop :=
  p.tables.exec = Jvm.exec ∧ c.code = cc ∧ c.maxLocals = nL ∧ s.vm.findClass (zRX o) = some m.cls ∧ (∀ w ∈ zTT, w.before args s = true) ∧ zKN G s ∧ (ini = true → meth.name = "<init>")
def zXX (G : zG) (p : Program) (l : Launch) (e : Env) (R : Room) (s : State) (m : MethodId) (args : Array Value) (below : List Frame) (meth : Method) (c : Code) (nL : Nat) (Qf : State → Prop) : Nat → List (Option Value) → List Value → zS → Nat → Nat → Prop :=
  fun pc L st S c1 c2 => ∀ (H : Heap) (ls : Array Slot) (locs : List Loc), zRep G S H → zLok ls nL L → va_S G.2.2.1 s.heap H locs → W p l e R s m args below meth c H locs c1 c2 Qf (F0 m pc ls st)
variable {G : zG} {p : Program} {l : Launch} {e : Env} {R : Room} {s : State} {m : MethodId} {args : Array Value} {below : List Frame} {meth : Method} {c : Code} {nL o : Nat} {ini : Bool} {Qf : State → Prop} {cc : ByteArray} {pc : Nat} {L : List (Option Value)} {rest : List Value} {S : zS} {c1 c2 : Nat}
theorem zfl {S' : zS} {H H1 : Heap} {locs : List Loc} {a k : Nat} (hS : va_S G.2.2.1 s.heap H locs) (hsz : H1.size = H.size) (hq : ∀ q : Nat, q ≠ a → H1[q]? = H[q]?) (ha : G.2.2.1 a) : va_S G.2.2.1 s.heap H1 (locs ++ [⟨a, k⟩]) := hS.put hsz hq ha
theorem zr_get (F : zFix G p s m args meth c cc nL o ini) {i k index a : Nat} (h1 : 1 ≤ i) (h2 : i ≤ 11) (hk : k < zNX i) (hsh : (zSh S a).1 = i) (hw : Cond.fieldLink (zRX o) index (zTX i k).1 (zTX i k).2.1 (zTX i k).2.2.1 ∈ zTT) (hd : decode cc pc = .ok (.getfield index, 3))
    (kk : zXX G p l e R s m args below meth c nL Qf (pc + 3) L (zfv (zYX i k) S a k :: rest) S c1 c2) : zXX G p l e R s m args below meth c nL Qf pc L (.ref a :: rest) S c1 c2 := by
  intro H ls locs hR hL hS
  obtain ⟨hx, hb, -, hown, hts, hK, -⟩ := F
  obtain ⟨-, ho⟩ := hR.obj hsh h1 h2
  exact va_get (D := G.1) (ci := i - 1) (C := zRX i) (T := zTX i) (N := zNX i) (ws := [(a, .inr (i - 1, zfs S a i))]) hx hb hts (zwsin i h1 h2) hown hK.1.1 (fun q x hx => by
    have hz : q < 1 := (List.getElem?_eq_some_iff.mp hx).1
    rw [show q = 0 by omega] at hx; cases hx; exact ho) 0 rfl (zcl i h1 h2) k hk (hts _ hw) (fun x h => h) (zfs_get hk) hd (kk H ls locs hR hL hS)
theorem zup_self {α : Type} {f : Nat → Nat → α} {a k : Nat} {v : α} : zup f a k v a = fun j => if j = k then v else f a j := by funext j; simp [zup]
theorem zup_ne {α : Type} {f : Nat → Nat → α} {a b k : Nat} {v : α} (h : b ≠ a) : zup f a k v b = f b := by funext j; simp [zup, h]
/-- a state with one place written -/
def zset (t : FieldType) (v : Value) (S : zS) (a k : Nat) : zS := match t, v with
  | .int, .int x => zsI S a k x
  | .boolean, .int x => zsI S a k x
  | .long, .long x => zsJ S a k x
  | .double, .double x => zsD S a k x
  | _, .null => zsR S a k none
  | _, .ref b => zsR S a k (some b)
  | _, _ => S
def zfit (t : FieldType) (v : Value) : Prop := match t, v with
  | .int, .int _ => True
  | .boolean, .int x => x = 0 ∨ x = 1
  | .long, .long _ => True
  | .double, .double _ => True
  | .object _, .null => True
  | .object _, .ref _ => True
  | .array _, .null => True
  | .array _, .ref _ => True
  | _, _ => False
theorem zput_iff {t : FieldType} {v : Value} {a k : Nat} {f : zS → Prop} (h : zput t v S a k f) : zfit t v ∧ f (zset t v S a k) := by
  cases t <;> cases v <;> first | exact ⟨trivial, h⟩ | exact h | exact h.elim
theorem zset_sh (t : FieldType) (v : Value) (S : zS) (a k : Nat) : zSh (zset t v S a k) = zSh S := by unfold zset; split <;> rfl
theorem zset_nx (t : FieldType) (v : Value) (S : zS) (a k : Nat) : zNx (zset t v S a k) = zNx S := by unfold zset; split <;> rfl
theorem zset_ne (t : FieldType) (v : Value) (S : zS) {a b : Nat} (k : Nat) (h : b ≠ a) : zI (zset t v S a k) b = zI S b ∧ zJ (zset t v S a k) b = zJ S b ∧ zD (zset t v S a k) b = zD S b ∧ zR (zset t v S a k) b = zR S b := by
  unfold zset
  split <;> refine ⟨?_, ?_, ?_, ?_⟩ <;> first | rfl | exact zup_ne h
/-- the fields behind a write -/
theorem zset_fs {t : FieldType} {v : Value} {S : zS} {a i k : Nat} (hf : zfit t v) (hk : k < zNX i) (ht : zYX i k = t) : zfs (zset t v S a k) a i = (zfs S a i).set k v := by
  apply List.ext_getElem?
  intro j
  by_cases hj : j < zNX i
  · by_cases hjk : j = k
    · subst hjk
      rw [zfs_get hk, List.getElem?_set_self (by rw [zfs_len]; exact hk), ht]
      cases t <;> cases v <;> first | exact hf.elim | simp [zfv, zset, zsI, zsJ, zsD, zsR, zI, zJ, zD, zR, zup, va_rf]
    · rw [zfs_get hj, List.getElem?_set_ne (Ne.symm hjk), zfs_get hj]
      congr 1
      generalize zYX i j = u
      cases t <;> cases v <;> first | exact hf.elim | (cases u <;> simp [zfv, zset, zsI, zsJ, zsD, zsR, zI, zJ, zD, zR, zup, hjk])
  · rw [List.getElem?_eq_none (by rw [zfs_len]; omega), List.getElem?_eq_none (by rw [List.length_set, zfs_len]; omega)]
theorem zfit_ok {t : FieldType} {v : Value} (h : zfit t v) : narrow t v = v ∧ fits t v = true := by
  cases t <;> cases v <;> first | exact h.elim | (rcases h with rfl | rfl <;> exact ⟨by decide, by decide⟩) | exact ⟨rfl, rfl⟩
theorem zent_obj {S : zS} {a i : Nat} (ha : (zSh S a).1 = i) (h2 : i ≤ 11) : zent G S a = .inr (i - 1, zfs S a i) := by unfold zent; rw [ha, if_pos (by omega)]
theorem zent_arr {S : zS} {a k : Nat} (ha : (zSh S a).1 = k) (h2 : 20 ≤ k) : zent G S a = .inl (G.2.1 k, zarr S a k (zSh S a).2) := by unfold zent; rw [ha, if_neg (by omega)]
theorem zr_put (F : zFix G p s m args meth c cc nL o ini) {i k index a : Nat} {v : Value} (h1 : 1 ≤ i) (h2 : i ≤ 11) (hk : k < zNX i) (hsh : (zSh S a).1 = i) (hw : Cond.fieldLink (zRX o) index (zTX i k).1 (zTX i k).2.1 (zTX i k).2.2.1 ∈ zTT) (hfi : (zTX i k).2.2.2 = true → ini = true ∧ (zTX i k).1 = zRX o) (hd : decode cc pc = .ok (.putfield index, 3))
    (hf : zfit (zYX i k) v) (kk : zXX G p l e R s m args below meth c nL Qf (pc + 3) L rest (zset (zYX i k) v S a k) c1 c2) : zXX G p l e R s m args below meth c nL Qf pc L (v :: .ref a :: rest) S c1 c2 := by
  intro H ls locs hR hL hS
  obtain ⟨hx, hb, -, hown, hts, hK, hin⟩ := F
  obtain ⟨hA, ho⟩ := hR.obj hsh h1 h2
  obtain ⟨hn, hfit⟩ := zfit_ok hf
  have hty := zty_ok i h1 h2
  have hlen : k < (zfs S a i).length := by rw [zfs_len]; exact hk
  have hap := va_apart (own := zRX o) (D := G.1) (ci := i - 1) hts (zwsin i h1 h2) (zYX i) hty (znm_ok i h1 h2) hK.1.1 (zcl i h1 h2)
  obtain ⟨r, g1, cell, q1, q2, q3, q4⟩ := ho
  have hr : r = (zRX i, zTX i, zNX i) := Option.some.inj (g1.symm.trans (zcl i h1 h2))
  subst hr
  obtain ⟨hSl, hfc, kC, hkC, hkind⟩ := hK.1.1.1 (i - 1) _ (zcl i h1 h2)
  obtain ⟨cf, kf, fi, f, hi, hsl⟩ := hSl k hk
  have hst := (u_facts hfc hkC (u_lays hts (zwsin i h1 h2) hk) hi).1
  have fin : ∀ (H' : Heap), H'[a]? = some (cell.setSlot f.slot v) → H'.size = H.size → (∀ q, q ≠ a → H'[q]? = H[q]?) → W p l e R s m args below meth c H' (locs ++ [⟨a, f.slot⟩]) c1 c2 Qf (F0 m (pc + 3) ls rest) := by
    intro H' e1 e2 e3
    rw [hsl] at e1 ⊢
    refine kk H' ls _ ?_ hL (hS.put e2 e3 hA)
    refine hR.put (zset_nx _ _ _ _ _) (zset_sh _ _ _ _ _) (by rw [hsh]; exact h1) (by rw [hsh]; omega) (fun b hb => zset_ne _ _ _ _ hb) e2 e3 ?_
    rw [zent_obj (by rw [zset_sh]; exact hsh) h2, zset_fs hf hk rfl]
    exact ⟨_, zcl i h1 h2, t_OB.to (V := updV (vp_V (zfs S a i)) k v) ⟨_, e1, q2, q3, t_set q4 hap hk v⟩ (fun j _ => vp_updV_set hlen v j)⟩
  have hlay := hts _ ((zwsin i h1 h2) _ (u_in_lay hk))
  unfold u_lay at hlay
  by_cases hfin : (zTX i k).2.2.2 = true
  · rw [if_pos hfin] at hlay
    obtain ⟨hi1, hdecl⟩ := hfi hfin
    have hcf : m.cls = cf := by
      obtain ⟨_, _, c', _, _, _, -, -, hf', -, -, -, hown2, -⟩ := Cond.laysFinal_spec hlay
      have e1 : c' = cf := by have := hi.symm.trans hf'; simp at this; exact this.1.symm
      rw [hdecl] at hown2
      rw [← e1]; exact Option.some.inj (hown.symm.trans hown2)
    have h6 := u_fits hfc hkC hkind (Or.inr hlay) hi (hty k hk) hn hfit
    exact W.putFinK hx hb hown (hts _ hw) hi hst hcf (hin hi1) (by rw [q2]; exact h6) q1 q3 (by rw [hsl]; exact k2_hasslot (q4 k hk)) rfl rfl hd fun H' e1 e2 e3 => fin H' e1 e2 e3
  · rw [if_neg hfin] at hlay
    have h6 := u_store hfc hkC hkind hlay hi (hty k hk) hn hfit
    exact W.putK hx hb (f := f) ⟨hown, hts _ hw, ⟨_, _, _, hi⟩, hst⟩ (by rw [q2]; exact h6) q1 q3 (by rw [hsl]; exact k2_hasslot (q4 k hk)) rfl rfl hd fun H' e1 e2 e3 => fin H' e1 e2 e3
-- arrays
theorem zarrI {S : zS} {a k n : Nat} (h : k < 22) : zarr S a k n = (n, .inl (zI S a)) := by unfold zarr; rw [if_pos h]
theorem zarrJ {S : zS} {a n : Nat} : zarr S a 22 n = (n, .inr (.inl (zJ S a))) := rfl
theorem zarrD {S : zS} {a n : Nat} : zarr S a 23 n = (n, .inr (.inr (.inr (.inl (zD S a))))) := rfl
theorem zarrR {S : zS} {a k n : Nat} (h : 24 ≤ k) : zarr S a k n = (n, .inr (.inr (.inr (.inr (zR S a))))) := by unfold zarr; rw [if_neg (by omega), if_neg (by omega), if_neg (by omega)]
theorem zty20 (hK : zKN G s) : ArrOfT s (G.2.1 20) .int := (hK.1.1.2 0 _ rfl).1
theorem zty21 (hK : zKN G s) : ArrOfT s (G.2.1 21) .boolean := (hK.1.1.2 1 _ rfl).1
theorem zty22 (hK : zKN G s) : ArrOfT s (G.2.1 22) .long := (hK.1.1.2 2 _ rfl).1
theorem zty23 (hK : zKN G s) : ArrOfT s (G.2.1 23) .double := (hK.1.1.2 3 _ rfl).1
theorem ztyR (hK : zKN G s) {k : Nat} (h1 : 24 ≤ k) (h2 : k ≤ 27) : ArrOfT s (G.2.1 k) (zAt k) ∧ va_RA s (G.2.1 k) (zAt k) := by
  match k, h1, h2 with
  | 24, _, _ => exact hK.1.1.2 4 _ rfl
  | 25, _, _ => exact hK.1.1.2 5 _ rfl
  | 26, _, _ => exact hK.1.1.2 6 _ rfl
  | 27, _, _ => exact hK.1.1.2 7 _ rfl
  | n + 28, _, h => exact absurd h (by omega)
theorem zAt_ref {k : Nat} (h1 : 24 ≤ k) : ∃ C, zAt k = .object C ∧ C = zRX (zCo k) := by
  match k, h1 with
  | 24, _ => exact ⟨_, rfl, rfl⟩
  | 25, _ => exact ⟨_, rfl, rfl⟩
  | 26, _ => exact ⟨_, rfl, rfl⟩
  | n + 27, _ => exact ⟨_, rfl, rfl⟩
theorem zin_lt {n : Nat} {i : Int32} (h : vp_in i n) : i.toNatClampNeg < n := Nat.not_le.mp fun q => h (Or.inr q)
theorem zr_iald (F : zFix G p s m args meth c cc nL o ini) {i : Int32} {a : Nat} (hi : zinI S a i) (hd : decode cc pc = .ok (.iaload, 1))
    (kk : zXX G p l e R s m args below meth c nL Qf (pc + 1) L (.int (zI S a (zix i)) :: rest) S c1 c2) : zXX G p l e R s m args below meth c nL Qf pc L (.int i :: .ref a :: rest) S c1 c2 := by
  intro H ls locs hR hL hS
  obtain ⟨hx, hb, -, hown, hts, hK, -⟩ := F
  obtain ⟨hk, hin⟩ := hi
  have hlt := zin_lt hin
  rcases hk with hk | hk
  · obtain ⟨-, hc⟩ := hR.arr hk (by omega) (by omega)
    rw [zarrI (by omega), vp_cell_i] at hc
    exact W.iald (v := .int (zI S a (zix i))) hx hb hc (zty20 hK _ _) (fun q => by cases q) (by rw [arrV_size]; exact hin) (by rw [arrV_read _ _ hlt]; rfl) rfl rfl hd (kk H ls locs hR hL hS)
  · rcases hR.2.2 a (by omega) with ⟨-, g1, g2, g3, g4⟩ | ⟨g0, -, -⟩
    · exact W.iald (v := .int (zI S a (zix i))) hx hb g1 hK.1.2.2 g2 (by rw [g3]; exact hin) (g4 _ hlt) rfl rfl hd (kk H ls locs hR hL hS)
    · unfold zOk at g0; omega
theorem zr_zald (F : zFix G p s m args meth c cc nL o ini) {i : Int32} {a : Nat} (hi : zin S a 21 i) (hd : decode cc pc = .ok (.baload, 1))
    (kk : zXX G p l e R s m args below meth c nL Qf (pc + 1) L (.int (zI S a (zix i)) :: rest) S c1 c2) : zXX G p l e R s m args below meth c nL Qf pc L (.int i :: .ref a :: rest) S c1 c2 := by
  intro H ls locs hR hL hS
  obtain ⟨hx, hb, -, hown, hts, hK, -⟩ := F
  obtain ⟨hk, hin⟩ := hi
  have hlt := zin_lt hin
  obtain ⟨-, hc⟩ := hR.arr hk (by omega) (by omega)
  rw [zarrI (by omega), vp_cell_i] at hc
  exact W.zald (v := .int (zI S a (zix i))) hx hb hc (zty21 hK _ _) (fun q => by cases q) (by rw [arrV_size]; exact hin) (by rw [arrV_read _ _ hlt]; rfl) rfl rfl hd (kk H ls locs hR hL hS)
theorem zr_lald (F : zFix G p s m args meth c cc nL o ini) {i : Int32} {a : Nat} (hi : zin S a 22 i) (hd : decode cc pc = .ok (.laload, 1))
    (kk : zXX G p l e R s m args below meth c nL Qf (pc + 1) L (.long (zJ S a (zix i)) :: rest) S c1 c2) : zXX G p l e R s m args below meth c nL Qf pc L (.int i :: .ref a :: rest) S c1 c2 := by
  intro H ls locs hR hL hS
  obtain ⟨hx, hb, -, hown, hts, hK, -⟩ := F
  obtain ⟨hk, hin⟩ := hi
  have hlt := zin_lt hin
  obtain ⟨-, hc⟩ := hR.arr hk (by omega) (by omega)
  rw [zarrJ, vp_cell_l] at hc
  exact W.lald (v := .long (zJ S a (zix i))) hx hb hc (zty22 hK _ _) (fun q => by cases q) (by rw [arrV_size]; exact hin) (by rw [arrV_read _ _ hlt]; rfl) rfl rfl hd (kk H ls locs hR hL hS)
theorem zr_dald (F : zFix G p s m args meth c cc nL o ini) {i : Int32} {a : Nat} (hi : zin S a 23 i) (hd : decode cc pc = .ok (.daload, 1))
    (kk : zXX G p l e R s m args below meth c nL Qf (pc + 1) L (.double (zD S a (zix i)) :: rest) S c1 c2) : zXX G p l e R s m args below meth c nL Qf pc L (.int i :: .ref a :: rest) S c1 c2 := by
  intro H ls locs hR hL hS
  obtain ⟨hx, hb, -, hown, hts, hK, -⟩ := F
  obtain ⟨hk, hin⟩ := hi
  have hlt := zin_lt hin
  obtain ⟨-, hc⟩ := hR.arr hk (by omega) (by omega)
  rw [zarrD, vp_cell_d] at hc
  exact W.dald (v := .double (zD S a (zix i))) hx hb hc (zty23 hK _ _) (fun q => by cases q) (by rw [arrV_size]; exact hin) (by rw [arrV_read _ _ hlt]; rfl) rfl rfl hd (kk H ls locs hR hL hS)
theorem zr_aald (F : zFix G p s m args meth c cc nL o ini) {i : Int32} {a : Nat} (hi : zinR S a i) (hd : decode cc pc = .ok (.aaload, 1))
    (kk : zXX G p l e R s m args below meth c nL Qf (pc + 1) L (va_rf (zR S a (zix i)) :: rest) S c1 c2) : zXX G p l e R s m args below meth c nL Qf pc L (.int i :: .ref a :: rest) S c1 c2 := by
  intro H ls locs hR hL hS
  obtain ⟨hx, hb, -, hown, hts, hK, -⟩ := F
  obtain ⟨⟨hk1, hk2⟩, hin⟩ := hi
  have hlt := zin_lt hin
  obtain ⟨-, hc⟩ := hR.arr (a := a) rfl (by omega) (by omega)
  rw [zarrR hk1, vp_cell_q] at hc
  obtain ⟨C, hC, -⟩ := zAt_ref hk1
  have hT := (ztyR hK hk1 hk2).1
  rw [hC] at hT
  exact W.aald (v := va_rf (zR S a (zix i))) (ty := .object C) hx hb hc (hT _ _) rfl (fun q => by cases q) (by rw [arrV_size]; exact hin) (by rw [arrV_read _ _ hlt]; rfl) rfl rfl hd (kk H ls locs hR hL hS)
theorem zarr_up {α : Type} {f : Nat → Nat → α} {a k : Nat} {v : α} {q : Nat} (cst : α → Value) : (fun j => cst (zup f a k v a j)) q = updV (fun j => cst (f a j)) k (cst v) q := by
  by_cases hq : q = k
  · subst hq; simp [zup, updV]
  · simp [zup, updV, hq]
theorem zr_iast (F : zFix G p s m args meth c cc nL o ini) {i x : Int32} {a : Nat} (hi : zin S a 20 i) (hd : decode cc pc = .ok (.iastore, 1))
    (kk : zXX G p l e R s m args below meth c nL Qf (pc + 1) L rest (zsI S a (zix i) x) c1 c2) : zXX G p l e R s m args below meth c nL Qf pc L (.int x :: .int i :: .ref a :: rest) S c1 c2 := by
  intro H ls locs hR hL hS
  obtain ⟨hx, hb, -, hown, hts, hK, -⟩ := F
  obtain ⟨hk, hin⟩ := hi
  obtain ⟨hA, hc⟩ := hR.arr hk (by omega) (by omega)
  rw [zarrI (by omega), vp_cell_i] at hc
  refine W.iast hx hb hc (zty20 hK _ _) (fun q => by cases q) (by rw [arrV_size]; exact hin) rfl rfl hd fun H1 e1 e2 e3 => ?_
  refine kk H1 ls _ (hR.put rfl rfl (by omega) (by omega) (fun b hb => ⟨zup_ne hb, rfl, rfl, rfl⟩) e2 e3 ?_) hL (hS.put e2 e3 hA)
  rw [zent_arr (S := zsI S a (zix i) x) hk (by omega), zarrI (by omega)]
  show H1[a]? = some (vp_cell _ _)
  rw [e1, vp_cell_i, arrV_store]
  congr 2
  funext q
  exact (zarr_up (f := zI S) Value.int).symm
theorem zr_zast (F : zFix G p s m args meth c cc nL o ini) {i x : Int32} {a : Nat} (hi : zin S a 21 i) (hxb : x = 0 ∨ x = 1) (hd : decode cc pc = .ok (.bastore, 1))
    (kk : zXX G p l e R s m args below meth c nL Qf (pc + 1) L rest (zsI S a (zix i) x) c1 c2) : zXX G p l e R s m args below meth c nL Qf pc L (.int x :: .int i :: .ref a :: rest) S c1 c2 := by
  intro H ls locs hR hL hS
  obtain ⟨hx, hb, -, hown, hts, hK, -⟩ := F
  obtain ⟨hk, hin⟩ := hi
  obtain ⟨hA, hc⟩ := hR.arr hk (by omega) (by omega)
  rw [zarrI (by omega), vp_cell_i] at hc
  refine W.zast hx hb hc (zty21 hK _ _) (fun q => by cases q) (by rw [arrV_size]; exact hin) rfl rfl hd fun H1 e1 e2 e3 => ?_
  refine kk H1 ls _ (hR.put rfl rfl (by omega) (by omega) (fun b hb => ⟨zup_ne hb, rfl, rfl, rfl⟩) e2 e3 ?_) hL (hS.put e2 e3 hA)
  rw [zent_arr (S := zsI S a (zix i) x) hk (by omega), zarrI (by omega)]
  show H1[a]? = some (vp_cell _ _)
  have hnx : narrow .boolean (.int x) = .int x := by rcases hxb with rfl | rfl <;> decide
  rw [e1, vp_cell_i, arrV_store, hnx]
  congr 2
  funext q
  exact (zarr_up (f := zI S) Value.int).symm
theorem zr_last (F : zFix G p s m args meth c cc nL o ini) {i : Int32} {x : Int64} {a : Nat} (hi : zin S a 22 i) (hd : decode cc pc = .ok (.lastore, 1))
    (kk : zXX G p l e R s m args below meth c nL Qf (pc + 1) L rest (zsJ S a (zix i) x) c1 c2) : zXX G p l e R s m args below meth c nL Qf pc L (.long x :: .int i :: .ref a :: rest) S c1 c2 := by
  intro H ls locs hR hL hS
  obtain ⟨hx, hb, -, hown, hts, hK, -⟩ := F
  obtain ⟨hk, hin⟩ := hi
  obtain ⟨hA, hc⟩ := hR.arr hk (by omega) (by omega)
  rw [zarrJ, vp_cell_l] at hc
  refine W.last hx hb hc (zty22 hK _ _) (fun q => by cases q) (by rw [arrV_size]; exact hin) rfl rfl hd fun H1 e1 e2 e3 => ?_
  refine kk H1 ls _ (hR.put rfl rfl (by omega) (by omega) (fun b hb => ⟨rfl, zup_ne hb, rfl, rfl⟩) e2 e3 ?_) hL (hS.put e2 e3 hA)
  rw [zent_arr (S := zsJ S a (zix i) x) hk (by omega), zarrJ]
  show H1[a]? = some (vp_cell _ _)
  rw [e1, vp_cell_l, arrV_store]
  congr 2
  funext q
  exact (zarr_up (f := zJ S) Value.long).symm
theorem zr_dast (F : zFix G p s m args meth c cc nL o ini) {i : Int32} {x : UInt64} {a : Nat} (hi : zin S a 23 i) (hd : decode cc pc = .ok (.dastore, 1))
    (kk : zXX G p l e R s m args below meth c nL Qf (pc + 1) L rest (zsD S a (zix i) x) c1 c2) : zXX G p l e R s m args below meth c nL Qf pc L (.double x :: .int i :: .ref a :: rest) S c1 c2 := by
  intro H ls locs hR hL hS
  obtain ⟨hx, hb, -, hown, hts, hK, -⟩ := F
  obtain ⟨hk, hin⟩ := hi
  obtain ⟨hA, hc⟩ := hR.arr hk (by omega) (by omega)
  rw [zarrD, vp_cell_d] at hc
  refine W.dast hx hb hc (zty23 hK _ _) (fun q => by cases q) (by rw [arrV_size]; exact hin) rfl rfl hd fun H1 e1 e2 e3 => ?_
  refine kk H1 ls _ (hR.put rfl rfl (by omega) (by omega) (fun b hb => ⟨rfl, rfl, zup_ne hb, rfl⟩) e2 e3 ?_) hL (hS.put e2 e3 hA)
  rw [zent_arr (S := zsD S a (zix i) x) hk (by omega), zarrD]
  show H1[a]? = some (vp_cell _ _)
  rw [e1, vp_cell_d, arrV_store]
  congr 2
  funext q
  exact (zarr_up (f := zD S) Value.double).symm
theorem zCo_ok {k : Nat} (h1 : 24 ≤ k) (h2 : k ≤ 27) : 1 ≤ zCo k ∧ zCo k ≤ 11 := by
  match k, h1, h2 with
  | 24, _, _ => decide
  | 25, _, _ => decide
  | 26, _, _ => decide
  | 27, _, _ => decide
  | n + 28, _, h => exact absurd h (by omega)
theorem zr_aast (F : zFix G p s m args meth c cc nL o ini) {i : Int32} {a v : Nat} (hi : zinR S a i) (hv : (zSh S v).1 = zCo (zSh S a).1) (hd : decode cc pc = .ok (.aastore, 1))
    (kk : zXX G p l e R s m args below meth c nL Qf (pc + 1) L rest (zsR S a (zix i) (some v)) c1 c2) : zXX G p l e R s m args below meth c nL Qf pc L (.ref v :: .int i :: .ref a :: rest) S c1 c2 := by
  intro H ls locs hR hL hS
  obtain ⟨hx, hb, -, hown, hts, hK, -⟩ := F
  obtain ⟨⟨hk1, hk2⟩, hin⟩ := hi
  have hlt := zin_lt hin
  have h0 : ¬ i < 0 := fun q => hin (Or.inl q)
  obtain ⟨hA, hc⟩ := hR.arr (a := a) rfl (by omega) (by omega)
  rw [zarrR hk1, vp_cell_q] at hc
  obtain ⟨C, hC, hCr⟩ := zAt_ref hk1
  obtain ⟨hco1, hco2⟩ := zCo_ok hk1 hk2
  obtain ⟨hT, hRA⟩ := ztyR hK hk1 hk2
  rw [hC] at hRA
  obtain ⟨kA, comp, k1, k2, k3, -⟩ := hRA
  obtain ⟨-, ho⟩ := hR.obj hv hco1 hco2
  obtain ⟨r, g1, cellV, q1, q2, q3, q4⟩ := ho
  have hcls := (hK.1.1.1 (zCo (zSh S a).1 - 1) _ (zcl _ hco1 hco2)).2
  rw [hCr] at k3
  have hcomp : comp = G.1.1 (zCo (zSh S a).1 - 1) := Option.some.inj (k3.symm.trans hcls.1)
  subst hcomp
  obtain ⟨kC, hkC, -⟩ := hcls.2
  refine W.aast hx hb hc (fun q h => by cases h) (fun h => by cases h) k1 k2 rfl hkC ⟨h0, by rw [arrV_size]; exact hlt⟩ q1 (fun q h => by rw [q3] at h; cases h) (by rw [q2]; exact hkC) (by rw [q2]; exact va_assign hcls) rfl rfl hd fun H1 e1 e2 e3 => ?_
  refine kk H1 ls _ (hR.put rfl rfl (by omega) (by omega) (fun b hb => ⟨rfl, rfl, rfl, zup_ne hb⟩) e2 e3 ?_) hL (hS.put e2 e3 hA)
  rw [zent_arr (S := zsR S a (zix i) (some v)) (k := (zSh S a).1) rfl (by omega), zarrR hk1]
  show H1[a]? = some (vp_cell _ _)
  rw [e1, vp_cell_q, arrV_store]
  congr 2
  funext q
  exact (zarr_up (f := zR S) (a := a) (k := zix i) (v := some v) va_rf).symm
theorem zr_alen (F : zFix G p s m args meth c cc nL o ini) {a : Nat} (hk : 20 ≤ (zSh S a).1 ∧ (zSh S a).1 ≤ 28) (hd : decode cc pc = .ok (.arraylength, 1))
    (kk : zXX G p l e R s m args below meth c nL Qf (pc + 1) L (.int (nI (zSh S a).2) :: rest) S c1 c2) : zXX G p l e R s m args below meth c nL Qf pc L (.ref a :: rest) S c1 c2 := by
  intro H ls locs hR hL hS
  obtain ⟨hx, hb, -, hown, hts, hK, -⟩ := F
  by_cases h28 : (zSh S a).1 = 28
  · rcases hR.2.2 a (by omega) with ⟨-, g1, g2, g3, g4⟩ | ⟨g0, -, -⟩
    · exact W.alen hx hb g1 hK.1.2.2 (by rw [g3]; rfl) rfl rfl hd (kk H ls locs hR hL hS)
    · unfold zOk at g0; omega
  obtain ⟨-, hc⟩ := hR.arr rfl hk.1 (by omega)
  have h1 : ArrOfT s (G.2.1 (zSh S a).1) (zAt (zSh S a).1) := by
    have hb1 := hk.1
    have hb2 : (zSh S a).1 ≤ 27 := by omega
    revert hb1 hb2
    generalize (zSh S a).1 = k
    intro hb1 hb2
    match k, hb1, hb2 with
    | 20, _, _ => exact zty20 hK
    | 21, _, _ => exact zty21 hK
    | 22, _, _ => exact zty22 hK
    | 23, _, _ => exact zty23 hK
    | 24, _, _ => exact (ztyR hK (k := 24) (by omega) (by omega)).1
    | 25, _, _ => exact (ztyR hK (k := 25) (by omega) (by omega)).1
    | 26, _, _ => exact (ztyR hK (k := 26) (by omega) (by omega)).1
    | 27, _, _ => exact (ztyR hK (k := 27) (by omega) (by omega)).1
    | n + 28, _, h => exact absurd h (by omega)
  have h2 : ∃ f : Nat → Value, vp_cell (G.2.1 (zSh S a).1) (zarr S a (zSh S a).1 (zSh S a).2) = arrV (G.2.1 (zSh S a).1) (zSh S a).2 f := by
    unfold zarr
    split
    · exact ⟨_, vp_cell_i _ _ _⟩
    · split
      · exact ⟨_, vp_cell_l _ _ _⟩
      · split
        · exact ⟨_, vp_cell_d _ _ _⟩
        · exact ⟨_, vp_cell_q _ _ _⟩
  obtain ⟨f, hf⟩ := h2
  rw [hf] at hc
  exact W.alen hx hb hc (h1 _ _) (by rw [arrV_size]; rfl) rfl rfl hd (kk H ls locs hR hL hS)
end ZROW
