/-! the states of the worlds: shapes of all cells, and what they hold, as functions of address and place -/
section ZVM
abbrev zS : Type := (Nat → Nat × Nat) × Nat × (Nat → Nat → Int32) × (Nat → Nat → Int64) × (Nat → Nat → UInt64) × (Nat → Nat → Option Nat)
def zSh (S : zS) : Nat → Nat × Nat := S.1
def zNx (S : zS) : Nat := S.2.1
def zI (S : zS) : Nat → Nat → Int32 := S.2.2.1
def zJ (S : zS) : Nat → Nat → Int64 := S.2.2.2.1
def zD (S : zS) : Nat → Nat → UInt64 := S.2.2.2.2.1
def zR (S : zS) : Nat → Nat → Option Nat := S.2.2.2.2.2
def zup {α : Type} (f : Nat → Nat → α) (a k : Nat) (v : α) : Nat → Nat → α := fun b j => if b = a ∧ j = k then v else f b j
def zsI (S : zS) (a k : Nat) (v : Int32) : zS := (S.1, S.2.1, zup S.2.2.1 a k v, S.2.2.2.1, S.2.2.2.2.1, S.2.2.2.2.2)
def zsJ (S : zS) (a k : Nat) (v : Int64) : zS := (S.1, S.2.1, S.2.2.1, zup S.2.2.2.1 a k v, S.2.2.2.2.1, S.2.2.2.2.2)
def zsD (S : zS) (a k : Nat) (v : UInt64) : zS := (S.1, S.2.1, S.2.2.1, S.2.2.2.1, zup S.2.2.2.2.1 a k v, S.2.2.2.2.2)
def zsR (S : zS) (a k : Nat) (v : Option Nat) : zS := (S.1, S.2.1, S.2.2.1, S.2.2.2.1, S.2.2.2.2.1, zup S.2.2.2.2.2 a k v)
def zup0 {α : Type} (f : Nat → Nat → α) (a : Nat) (v : α) : Nat → Nat → α := fun b j => if b = a then v else f b j
/-- a new cell of shape (k, n): its places hold the defaults -/
def zsN (S : zS) (k n : Nat) : zS := (fun b => if b = S.2.1 then (k, n) else S.1 b, S.2.1 + 1, zup0 S.2.2.1 S.2.1 0, zup0 S.2.2.2.1 S.2.1 0, zup0 S.2.2.2.2.1 S.2.1 0, zup0 S.2.2.2.2.2 S.2.1 none)
-- classes by number: 1 .. 11 of the worlds; 12 the law; 13, 14 of the JDK
def zRX : Nat → String
  | 0 => RX0 | 1 => RX1 | 2 => RX2 | 3 => RX3 | 4 => RX4 | 5 => RX5 | 6 => RX6 | 7 => RX7 | 8 => RX8 | 9 => RX9 | 10 => RX10 | 11 => RX11 | 12 => RL | 13 => RJxe99ae | _ => RJ9
def zTX : Nat → u_T
  | 1 => TX1 | 2 => TX2 | 3 => TX3 | 4 => TX4 | 5 => TX5 | 6 => TX6 | 7 => TX7 | 8 => TX8 | 9 => TX9 | 10 => TX10 | 11 => TX11 | _ => TX0
def zNX : Nat → Nat
  | 1 => 15 | 2 => 11 | 3 => 7 | 4 => 6 | 5 => 9 | 6 => 5 | 7 => 4 | 8 => 3 | 9 => 3 | 10 => 9 | 11 => 58 | _ => 0
def zYX : Nat → Nat → FieldType
  | 1 => tyX1 | 2 => tyX2 | 3 => tyX3 | 4 => tyX4 | 5 => tyX5 | 6 => tyX6 | 7 => tyX7 | 8 => tyX8 | 9 => tyX9 | 10 => tyX10 | 11 => tyX11 | _ => tyX0
/-- element types of arrays by shape: 20 ints, 21 booleans, 22 longs, 23 doubles, 24 .. 27 references -/
def zAt : Nat → FieldType
  | 20 => .int | 21 => .boolean | 22 => .long | 23 => .double | 24 => .object RX2 | 25 => .object RX3 | 26 => .object RX8 | _ => .object RX9
/-- the class of what an array of references holds -/
def zCo : Nat → Nat
  | 24 => 2 | 25 => 3 | 26 => 8 | _ => 9
theorem zcl : ∀ i : Nat, 1 ≤ i → i ≤ 11 → vwCl[i - 1]? = some (zRX i, zTX i, zNX i) := by
  intro i h1 h2
  match i, h1, h2 with
  | 1, _, _ => rfl
  | 2, _, _ => rfl
  | 3, _, _ => rfl
  | 4, _, _ => rfl
  | 5, _, _ => rfl
  | 6, _, _ => rfl
  | 7, _, _ => rfl
  | 8, _, _ => rfl
  | 9, _, _ => rfl
  | 10, _, _ => rfl
  | 11, _, _ => rfl
  | n + 12, _, h => exact absurd h (by omega)
theorem zty_ok : ∀ i : Nat, 1 ≤ i → i ≤ 11 → ∀ k, k < zNX i → parseFieldDescriptor (zTX i k).2.2.1 = some (zYX i k) := by
  intro i h1 h2
  match i, h1, h2 with
  | 1, _, _ => exact tyX1_ok
  | 2, _, _ => exact tyX2_ok
  | 3, _, _ => exact tyX3_ok
  | 4, _, _ => exact tyX4_ok
  | 5, _, _ => exact tyX5_ok
  | 6, _, _ => exact tyX6_ok
  | 7, _, _ => exact tyX7_ok
  | 8, _, _ => exact tyX8_ok
  | 9, _, _ => exact tyX9_ok
  | 10, _, _ => exact tyX10_ok
  | 11, _, _ => exact tyX11_ok
  | n + 12, _, h => exact absurd h (by omega)
theorem znm_ok : ∀ i : Nat, 1 ≤ i → i ≤ 11 → ∀ a, a < zNX i → ∀ b, b < zNX i → a ≠ b → (zTX i a).2.1 ≠ (zTX i b).2.1 := by
  intro i h1 h2
  match i, h1, h2 with
  | 1, _, _ => exact nmX1
  | 2, _, _ => exact nmX2
  | 3, _, _ => exact nmX3
  | 4, _, _ => exact nmX4
  | 5, _, _ => exact nmX5
  | 6, _, _ => exact nmX6
  | 7, _, _ => exact nmX7
  | 8, _, _ => exact nmX8
  | 9, _, _ => exact nmX9
  | 10, _, _ => exact nmX10
  | 11, _, _ => exact nmX11
  | n + 12, _, h => exact absurd h (by omega)
-- the words that serve
def zTT : List Cond := lw_tbl.filter goodWord
def zch : Nat → List Cond
  | 0 => k2_sels lw_privs | 1 => tables_1_1 | 2 => tables_1_2 | 3 => tables_1_3 | 4 => tables_1_4 | 5 => tables_1_5 | 6 => tables_1_6 | 7 => tables_1_7 | 8 => tables_1_8 | _ => []
theorem zch_in : ∀ k, ∀ w ∈ zch k, w ∈ lw_tbl := by
  intro k w h
  have e : lw_tbl = k2_sels lw_privs ++ (tables_1_1 ++ (tables_1_2 ++ (tables_1_3 ++ (tables_1_4 ++ (tables_1_5 ++ (tables_1_6 ++ (tables_1_7 ++ tables_1_8))))))) := rfl
  rw [e]
  simp only [List.mem_append]
  match k, h with
  | 0, h => exact Or.inl h
  | 1, h => exact Or.inr (Or.inl h)
  | 2, h => exact Or.inr (Or.inr (Or.inl h))
  | 3, h => exact Or.inr (Or.inr (Or.inr (Or.inl h)))
  | 4, h => exact Or.inr (Or.inr (Or.inr (Or.inr (Or.inl h))))
  | 5, h => exact Or.inr (Or.inr (Or.inr (Or.inr (Or.inr (Or.inl h)))))
  | 6, h => exact Or.inr (Or.inr (Or.inr (Or.inr (Or.inr (Or.inr (Or.inl h))))))
  | 7, h => exact Or.inr (Or.inr (Or.inr (Or.inr (Or.inr (Or.inr (Or.inr (Or.inl h)))))))
  | 8, h => exact Or.inr (Or.inr (Or.inr (Or.inr (Or.inr (Or.inr (Or.inr (Or.inr h)))))))
  | n + 9, h => cases h
def zw (p : Nat × Nat) (w : Cond) : Bool := decide ((zch p.1)[p.2]? = some w) && goodWord w
theorem zw_in {p : Nat × Nat} {w : Cond} (h : zw p w = true) : w ∈ zTT := by
  simp only [zw, Bool.and_eq_true, decide_eq_true_eq] at h
  exact List.mem_filter.mpr ⟨zch_in _ _ (List.mem_of_getElem? h.1), h.2⟩
theorem zTT_good {w : Cond} (h : w ∈ zTT) : (w.onTables && w.keeps) = true ∨ ∃ ty, w = .arrayClass ty := good_of_word (List.mem_filter.mp h).2
theorem zTT_tbl {w : Cond} (h : w ∈ zTT) : w ∈ lw_tbl := (List.mem_filter.mp h).1
theorem zws_of (ws : List Cond) (ps : List (Nat × Nat)) (h : (ws.zip ps).all (fun q => zw q.2 q.1) = true) (hl : ws.length = ps.length) : ∀ w ∈ ws, w ∈ zTT := by
  intro w hw
  obtain ⟨i, hi⟩ := List.getElem?_of_mem hw
  have hil : i < ws.length := (List.getElem?_eq_some_iff.mp hi).1
  have hz : (ws.zip ps)[i]? = some (w, ps[i]'(by omega)) := by
    rw [List.getElem?_zip_eq_some]
    exact ⟨hi, List.getElem?_eq_getElem (by omega)⟩
  exact zw_in (List.all_eq_true.mp h _ (List.mem_of_getElem? hz))
-- what is known of a launch: where classes and their fields lie, arrays' classes, which cells may be written, the script's cell
abbrev zG : Type := va_G × (Nat → ClassId) × (Nat → Prop) × Cell
def zTys (G : zG) : List (ClassId × FieldType) := [(G.2.1 20, .int), (G.2.1 21, .boolean), (G.2.1 22, .long), (G.2.1 23, .double), (G.2.1 24, .object RX2), (G.2.1 25, .object RX3), (G.2.1 26, .object RX8), (G.2.1 27, .object RX9)]
def zK (G : zG) (U : State) : Prop := va_K G.1 vwCl (zTys G) U ∧ (va_AO RX2 U ∧ va_AO RX3 U ∧ va_AO RX8 U ∧ va_AO RX9 U) ∧ U.isArrayOf G.2.2.2 .int
theorem zK.moved {G : zG} {u U : State} (hvm : u.vm.Alike U.vm) (h : zK G u) : zK G U :=
  ⟨h.1.moved hvm, ⟨h.2.1.1.moved hvm, h.2.1.2.1.moved hvm, h.2.1.2.2.1.moved hvm, h.2.1.2.2.2.moved hvm⟩, State.isArrayOf_alike hvm h.2.2⟩
def zfv (t : FieldType) (S : zS) (a j : Nat) : Value := match t with
  | .int => .int (zI S a j)
  | .boolean => .int (zI S a j)
  | .long => .long (zJ S a j)
  | .double => .double (zD S a j)
  | _ => va_rf (zR S a j)
def zfs (S : zS) (a i : Nat) : List Value := (List.range (zNX i)).map (fun j => zfv (zYX i j) S a j)
def zarr (S : zS) (a k n : Nat) : vp_A := if k < 22 then (n, .inl (zI S a)) else if k = 22 then (n, .inr (.inl (zJ S a))) else if k = 23 then (n, .inr (.inr (.inr (.inl (zD S a))))) else (n, .inr (.inr (.inr (.inr (zR S a)))))
def zent (G : zG) (S : zS) (a : Nat) : va_E := if (zSh S a).1 < 20 then .inr ((zSh S a).1 - 1, zfs S a (zSh S a).1) else .inl (G.2.1 (zSh S a).1, zarr S a (zSh S a).1 (zSh S a).2)
def zScr (G : zG) (S : zS) (a : Nat) (H : Heap) : Prop := H[a]? = some G.2.2.2 ∧ G.2.2.2.vm ≠ .unknown ∧ G.2.2.2.slots.size = (zSh S a).2 ∧ ∀ j : Nat, j < (zSh S a).2 → G.2.2.2.slots[j]? = some (.int (zI S a j))
def zOk (k : Nat) : Prop := (1 ≤ k ∧ k ≤ 11) ∨ (20 ≤ k ∧ k ≤ 27)
/-- the heap holds the state -/
def zRep (G : zG) (S : zS) (H : Heap) : Prop := H.size = zNx S ∧ (∀ q, zNx S ≤ q → G.2.2.1 q) ∧ ∀ a, (zSh S a).1 ≠ 0 → ((zSh S a).1 = 28 ∧ zScr G S a H) ∨ (zOk (zSh S a).1 ∧ G.2.2.1 a ∧ va_at G.1 vwCl (a, zent G S a) H)
theorem zscr_lt {G : zG} {S : zS} {a : Nat} {H : Heap} (h : zScr G S a H) : a < H.size := (Array.getElem?_eq_some_iff.mp h.1).1
theorem zRep.lt {G : zG} {S : zS} {H : Heap} (h : zRep G S H) {a : Nat} (ha : (zSh S a).1 ≠ 0) : a < H.size := by
  rcases h.2.2 a ha with ⟨-, h1⟩ | ⟨-, -, h1⟩
  · exact zscr_lt h1
  · exact va_at.lt h1
theorem zRep.at {G : zG} {S : zS} {H : Heap} (h : zRep G S H) {a k n : Nat} (ha : zSh S a = (k, n)) (h1 : 1 ≤ k) (h2 : k ≤ 27) : G.2.2.1 a ∧ zOk k ∧ va_at G.1 vwCl (a, zent G S a) H := by
  have hk : (zSh S a).1 = k := by rw [ha]
  rcases h.2.2 a (by rw [hk]; omega) with ⟨g, -⟩ | ⟨g0, g1, g2⟩
  · rw [hk] at g; omega
  · rw [hk] at g0; exact ⟨g1, g0, g2⟩
theorem zfs_get {S : zS} {a i k : Nat} (hk : k < zNX i) : (zfs S a i)[k]? = some (zfv (zYX i k) S a k) := by
  simp [zfs, hk]
theorem zfs_len {S : zS} {a i : Nat} : (zfs S a i).length = zNX i := by simp [zfs]
/-- an object's cell -/
theorem zRep.obj {G : zG} {S : zS} {H : Heap} (h : zRep G S H) {a i : Nat} (ha : (zSh S a).1 = i) (h1 : 1 ≤ i) (h2 : i ≤ 11) : G.2.2.1 a ∧ va_at G.1 vwCl (a, .inr (i - 1, zfs S a i)) H := by
  obtain ⟨g1, -, g2⟩ := h.at (a := a) (k := i) (n := (zSh S a).2) (by rw [← ha]) h1 (by omega)
  refine ⟨g1, ?_⟩
  have e : zent G S a = .inr (i - 1, zfs S a i) := by unfold zent; rw [ha, if_pos (by omega)]
  rw [e] at g2
  exact g2
/-- an array's cell -/
theorem zRep.arr {G : zG} {S : zS} {H : Heap} (h : zRep G S H) {a k : Nat} (ha : (zSh S a).1 = k) (h1 : 20 ≤ k) (h2 : k ≤ 27) : G.2.2.1 a ∧ H[a]? = some (vp_cell (G.2.1 k) (zarr S a k (zSh S a).2)) := by
  obtain ⟨g1, -, g2⟩ := h.at (a := a) (k := k) (n := (zSh S a).2) (by rw [← ha]) (by omega) h2
  refine ⟨g1, ?_⟩
  have e : zent G S a = .inl (G.2.1 k, zarr S a k (zSh S a).2) := by unfold zent; rw [ha, if_neg (by omega)]
  rw [e] at g2
  exact g2
theorem zent_eq {G : zG} {S S' : zS} {a : Nat} (hsh : zSh S' a = zSh S a) (h1 : zI S' a = zI S a) (h2 : zJ S' a = zJ S a) (h3 : zD S' a = zD S a) (h4 : zR S' a = zR S a) : zent G S' a = zent G S a := by
  have e1 : ∀ i, zfs S' a i = zfs S a i := by
    intro i
    unfold zfs
    refine List.map_congr_left fun j _ => ?_
    unfold zfv
    split <;> simp [h1, h2, h3, h4]
  unfold zent zarr
  rw [hsh, e1, h1, h2, h3, h4]
/-- one cell is written -/
theorem zRep.put {G : zG} {S S' : zS} {H H1 : Heap} {a : Nat} (h : zRep G S H) (hn : zNx S' = zNx S) (hsh : zSh S' = zSh S) (ha1 : 1 ≤ (zSh S a).1) (ha2 : (zSh S a).1 ≤ 27)
    (ho : ∀ b, b ≠ a → zI S' b = zI S b ∧ zJ S' b = zJ S b ∧ zD S' b = zD S b ∧ zR S' b = zR S b) (hsz : H1.size = H.size) (hq : ∀ q : Nat, q ≠ a → H1[q]? = H[q]?) (hat : va_at G.1 vwCl (a, zent G S' a) H1) : zRep G S' H1 := by
  refine ⟨by rw [hsz, hn]; exact h.1, fun q hq => h.2.1 q (by rw [← hn]; exact hq), fun b hb => ?_⟩
  rw [hsh] at hb ⊢
  by_cases hba : b = a
  · subst hba
    obtain ⟨g1, g2, -⟩ := h.at (a := b) (k := (zSh S b).1) (n := (zSh S b).2) rfl ha1 ha2
    exact Or.inr ⟨g2, g1, hat⟩
  · obtain ⟨e1, e2, e3, e4⟩ := ho b hba
    rcases h.2.2 b hb with ⟨g0, g1, g2, g3, g4⟩ | ⟨g0, g1, g2⟩
    · exact Or.inl ⟨g0, by rw [hq b hba]; exact g1, g2, by rw [hsh]; exact g3, by rw [hsh, e1]; exact g4⟩
    · exact Or.inr ⟨g0, g1, by rw [zent_eq (congrFun hsh b) e1 e2 e3 e4]; exact g2.kept (hq b hba)⟩
-- locals: by place; nothing is known of none
def zLok (ls : Array Slot) (nL : Nat) (L : List (Option Value)) : Prop := ls.size = nL ∧ lv_wf ls ∧ L.length = nL ∧ ∀ (i : Nat) (v : Value), L[i]? = some (some v) → ls[i]? = some (.val v)
def zkill (o : Option Value) : Option Value := match o with
  | some v => if v.category = 2 then none else some v
  | none => none
def zst1 : Nat → Value → List (Option Value) → List (Option Value)
  | 0, v, _ :: l => some v :: l
  | 1, v, a :: _ :: l => zkill a :: some v :: l
  | i + 2, v, a :: l => a :: zst1 (i + 1) v l
  | _, _, l => l
def zst2 : Nat → Value → List (Option Value) → List (Option Value)
  | 0, v, _ :: _ :: l => some v :: none :: l
  | 1, v, a :: _ :: _ :: l => zkill a :: some v :: none :: l
  | i + 2, v, a :: l => a :: zst2 (i + 1) v l
  | _, _, l => l
def znth : Nat → List (Option Value) → Option Value
  | 0, a :: _ => a
  | i + 1, _ :: l => znth i l
  | _, [] => none
theorem znth_eq : ∀ (i : Nat) (L : List (Option Value)) (v : Value), znth i L = some v → L[i]? = some (some v)
  | 0, a :: l, v, h => by simpa [znth] using h
  | i + 1, a :: l, v, h => by simpa using znth_eq i l v h
  | 0, [], v, h => by cases h
  | i + 1, [], v, h => by cases h
theorem zkill_eq {o : Option Value} {v : Value} (h : zkill o = some v) : o = some v ∧ ¬ v.category = 2 := by
  cases o with
  | none => cases h
  | some w =>
    by_cases h2 : w.category = 2
    · simp [zkill, h2] at h
    · simp [zkill, h2] at h
      subst h
      exact ⟨rfl, h2⟩
theorem zst1_len : ∀ (i : Nat) (v : Value) (L : List (Option Value)), (zst1 i v L).length = L.length
  | 0, v, [] => rfl
  | 0, v, a :: l => rfl
  | 1, v, [] => rfl
  | 1, v, [a] => rfl
  | 1, v, a :: b :: l => rfl
  | i + 2, v, [] => rfl
  | i + 2, v, a :: l => by simp [zst1, zst1_len (i + 1) v l]
theorem zst2_len : ∀ (i : Nat) (v : Value) (L : List (Option Value)), (zst2 i v L).length = L.length
  | 0, v, [] => rfl
  | 0, v, [a] => rfl
  | 0, v, a :: b :: l => rfl
  | 1, v, [] => rfl
  | 1, v, [a] => rfl
  | 1, v, [a, b] => rfl
  | 1, v, a :: b :: d :: l => rfl
  | i + 2, v, [] => rfl
  | i + 2, v, a :: l => by simp [zst2, zst2_len (i + 1) v l]
theorem zst1_get : ∀ (i : Nat) (v : Value) (L : List (Option Value)), i < L.length → ∀ (j : Nat) (w : Value), (zst1 i v L)[j]? = some (some w) → (j = i ∧ w = v) ∨ (j ≠ i ∧ L[j]? = some (some w) ∧ ¬ (j + 1 = i ∧ w.category = 2))
  | 0, v, [], h, _, _, _ => absurd h (by simp)
  | 0, v, a :: l, _, j, w, hj => by
    cases j with
    | zero => simp [zst1] at hj; exact Or.inl ⟨rfl, hj.symm⟩
    | succ j => exact Or.inr ⟨by omega, by simpa [zst1] using hj, by omega⟩
  | 1, v, [], h, _, _, _ => absurd h (by simp)
  | 1, v, [a], h, _, _, _ => absurd h (by simp)
  | 1, v, a :: b :: l, _, j, w, hj => by
    match j, hj with
    | 0, hj =>
      have h0 : zkill a = some w := by simpa [zst1] using hj
      obtain ⟨e1, e2⟩ := zkill_eq h0
      exact Or.inr ⟨by omega, by simp [e1], fun q => e2 q.2⟩
    | 1, hj => simp [zst1] at hj; exact Or.inl ⟨rfl, hj.symm⟩
    | j + 2, hj => exact Or.inr ⟨by omega, by simpa [zst1] using hj, by omega⟩
  | i + 2, v, [], h, _, _, _ => absurd h (by simp)
  | i + 2, v, a :: l, h, j, w, hj => by
    cases j with
    | zero => exact Or.inr ⟨by omega, by simpa [zst1] using hj, by omega⟩
    | succ j =>
      have h0 : (zst1 (i + 1) v l)[j]? = some (some w) := by simpa [zst1] using hj
      rcases zst1_get (i + 1) v l (by simp at h; omega) j w h0 with ⟨e1, e2⟩ | ⟨e1, e2, e3⟩
      · exact Or.inl ⟨by omega, e2⟩
      · exact Or.inr ⟨by omega, by simpa using e2, fun q => e3 ⟨by omega, q.2⟩⟩
theorem zst2_get : ∀ (i : Nat) (v : Value) (L : List (Option Value)), i + 1 < L.length → ∀ (j : Nat) (w : Value), (zst2 i v L)[j]? = some (some w) → (j = i ∧ w = v) ∨ (j ≠ i ∧ j ≠ i + 1 ∧ L[j]? = some (some w) ∧ ¬ (j + 1 = i ∧ w.category = 2))
  | 0, v, [], h, _, _, _ => absurd h (by simp)
  | 0, v, [a], h, _, _, _ => absurd h (by simp)
  | 0, v, a :: b :: l, _, j, w, hj => by
    match j, hj with
    | 0, hj => simp [zst2] at hj; exact Or.inl ⟨rfl, hj.symm⟩
    | 1, hj => simp [zst2] at hj
    | j + 2, hj => exact Or.inr ⟨by omega, by omega, by simpa [zst2] using hj, by omega⟩
  | 1, v, [], h, _, _, _ => absurd h (by simp)
  | 1, v, [a], h, _, _, _ => absurd h (by simp)
  | 1, v, [a, b], h, _, _, _ => absurd h (by simp)
  | 1, v, a :: b :: d :: l, _, j, w, hj => by
    match j, hj with
    | 0, hj =>
      have h0 : zkill a = some w := by simpa [zst2] using hj
      obtain ⟨e1, e2⟩ := zkill_eq h0
      exact Or.inr ⟨by omega, by omega, by simp [e1], fun q => e2 q.2⟩
    | 1, hj => simp [zst2] at hj; exact Or.inl ⟨rfl, hj.symm⟩
    | 2, hj => simp [zst2] at hj
    | j + 3, hj => exact Or.inr ⟨by omega, by omega, by simpa [zst2] using hj, by omega⟩
  | i + 2, v, [], h, _, _, _ => absurd h (by simp)
  | i + 2, v, a :: l, h, j, w, hj => by
    cases j with
    | zero => exact Or.inr ⟨by omega, by omega, by simpa [zst2] using hj, by omega⟩
    | succ j =>
      have h0 : (zst2 (i + 1) v l)[j]? = some (some w) := by simpa [zst2] using hj
      rcases zst2_get (i + 1) v l (by simp at h; omega) j w h0 with ⟨e1, e2⟩ | ⟨e1, e2, e3, e4⟩
      · exact Or.inl ⟨by omega, e2⟩
      · exact Or.inr ⟨by omega, by omega, by simpa using e3, fun q => e4 ⟨by omega, q.2⟩⟩
/-- as the kit lists them -/
def zal (L : List (Option Value)) : List (Nat × Value) := (List.range L.length).filterMap (fun i => (znth i L).map (fun v => (i, v)))
theorem znth_some {L : List (Option Value)} {i : Nat} {v : Value} (h : L[i]? = some (some v)) : znth i L = some v := by
  induction i generalizing L with
  | zero => cases L with
    | nil => simp at h
    | cons a l => simpa [znth] using h
  | succ i ih => cases L with
    | nil => simp at h
    | cons a l => exact ih (by simpa using h)
theorem zal_mem {L : List (Option Value)} {i : Nat} {v : Value} : (i, v) ∈ zal L ↔ L[i]? = some (some v) := by
  constructor
  · intro h
    obtain ⟨j, -, hj⟩ := List.mem_filterMap.mp h
    cases hn : znth j L with
    | none => rw [hn] at hj; cases hj
    | some w => rw [hn] at hj; cases hj; exact znth_eq _ _ _ hn
  · intro h
    refine List.mem_filterMap.mpr ⟨i, List.mem_range.mpr (List.getElem?_eq_some_iff.mp h).1, ?_⟩
    rw [znth_some h]; rfl
theorem zLok.has {ls : Array Slot} {nL : Nat} {L : List (Option Value)} (h : zLok ls nL L) : lv_has ls nL (zal L) := ⟨h.1, h.2.1, fun q hq => h.2.2.2 q.1 q.2 (zal_mem.mp hq)⟩
theorem zLok.st1 {ls ls' : Array Slot} {nL i : Nat} {v : Value} {L : List (Option Value)} (h : zLok ls nL L) (hi : i < nL) (h' : lv_has ls' nL ((i, v) :: (zal L).filter (fun q => !(q.1 == i) && !(q.1 + 1 == i && q.2.category == 2)))) : zLok ls' nL (zst1 i v L) := by
  refine ⟨h'.1, h'.2.1, by rw [zst1_len]; exact h.2.2.1, fun j w hj => ?_⟩
  rcases zst1_get i v L (by rw [h.2.2.1]; exact hi) j w hj with ⟨rfl, rfl⟩ | ⟨e1, e2, e3⟩
  · exact h'.2.2 _ List.mem_cons_self
  · refine h'.2.2 (j, w) (List.mem_cons_of_mem _ (List.mem_filter.mpr ⟨zal_mem.mpr e2, ?_⟩))
    simp only [Bool.and_eq_true, Bool.not_eq_true', beq_eq_false_iff_ne, Bool.and_eq_false_iff]
    refine ⟨e1, ?_⟩
    by_cases q : j + 1 = i
    · exact Or.inr (fun z => e3 ⟨q, z⟩)
    · exact Or.inl q
theorem zLok.st2 {ls ls' : Array Slot} {nL i : Nat} {v : Value} {L : List (Option Value)} (h : zLok ls nL L) (hi : i + 1 < nL) (h' : lv_has ls' nL ((i, v) :: (zal L).filter (fun q => !(q.1 == i) && (!(q.1 == i + 1) && !(q.1 + 1 == i && q.2.category == 2))))) : zLok ls' nL (zst2 i v L) := by
  refine ⟨h'.1, h'.2.1, by rw [zst2_len]; exact h.2.2.1, fun j w hj => ?_⟩
  rcases zst2_get i v L (by rw [h.2.2.1]; exact hi) j w hj with ⟨rfl, rfl⟩ | ⟨e1, e2, e3, e4⟩
  · exact h'.2.2 _ List.mem_cons_self
  · refine h'.2.2 (j, w) (List.mem_cons_of_mem _ (List.mem_filter.mpr ⟨zal_mem.mpr e3, ?_⟩))
    simp only [Bool.and_eq_true, Bool.not_eq_true', beq_eq_false_iff_ne, Bool.and_eq_false_iff]
    refine ⟨e1, e2, ?_⟩
    by_cases q : j + 1 = i
    · exact Or.inr (fun z => e4 ⟨q, z⟩)
    · exact Or.inl q
end ZVM
