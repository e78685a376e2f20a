/-! the rows by which a run is unfolded, without binders (written by gen/walk.py): simp goes through a term once -/
section ZW
def zisI : Option Value → Prop
  | some (.int _) => True
  | _ => False
def zgI : Option Value → Int32
  | some (.int x) => x
  | _ => 0
theorem zoI_w (o : Option Value) (f : Int32 → Prop) : zoI o f = (zisI o ∧ f (zgI o)) := by
  cases o with
  | none => simp [zoI, zisI]
  | some v => cases v <;> simp [zoI, zisI, zgI]
theorem zisI_s {x : Int32} : zisI (some (.int x)) = True := rfl
theorem zgI_s {x : Int32} : zgI (some (.int x)) = x := rfl
def zisJ : Option Value → Prop
  | some (.long _) => True
  | _ => False
def zgJ : Option Value → Int64
  | some (.long x) => x
  | _ => 0
theorem zoJ_w (o : Option Value) (f : Int64 → Prop) : zoJ o f = (zisJ o ∧ f (zgJ o)) := by
  cases o with
  | none => simp [zoJ, zisJ]
  | some v => cases v <;> simp [zoJ, zisJ, zgJ]
theorem zisJ_s {x : Int64} : zisJ (some (.long x)) = True := rfl
theorem zgJ_s {x : Int64} : zgJ (some (.long x)) = x := rfl
def zisD : Option Value → Prop
  | some (.double _) => True
  | _ => False
def zgD : Option Value → UInt64
  | some (.double x) => x
  | _ => 0
theorem zoD_w (o : Option Value) (f : UInt64 → Prop) : zoD o f = (zisD o ∧ f (zgD o)) := by
  cases o with
  | none => simp [zoD, zisD]
  | some v => cases v <;> simp [zoD, zisD, zgD]
theorem zisD_s {x : UInt64} : zisD (some (.double x)) = True := rfl
theorem zgD_s {x : UInt64} : zgD (some (.double x)) = x := rfl
def zisA : Option Value → Prop
  | some v => zref v
  | none => False
def zgA : Option Value → Value
  | some v => v
  | none => .null
theorem zoA_w (o : Option Value) (f : Value → Prop) : zoA o f = (zisA o ∧ f (zgA o)) := by cases o <;> simp [zoA, zisA, zgA]
theorem zisA_s {v : Value} : zisA (some v) = zref v := rfl
theorem zgA_s {v : Value} : zgA (some v) = v := rfl
def zpok : FieldType → Value → Prop
  | .int, .int _ => True
  | .boolean, .int x => x = 0 ∨ x = 1
  | .long, .long _ => True
  | .double, .double _ => True
  | .object _, .null => True
  | .object _, .ref _ => True
  | .array _, .null => True
  | .array _, .ref _ => True
  | _, _ => False
def zpst (t : FieldType) (v : Value) (S : zS) (a k : Nat) : zS := match t, v with
  | .int, .int x => zsI S a k x
  | .boolean, .int x => zsI S a k x
  | .long, .long x => zsJ S a k x
  | .double, .double x => zsD S a k x
  | _, .ref b => zsR S a k (some b)
  | _, _ => zsR S a k none
theorem zput_w (t : FieldType) (v : Value) (S : zS) (a k : Nat) (f : zS → Prop) : zput t v S a k f = (zpok t v ∧ f (zpst t v S a k)) := by cases t <;> cases v <;> simp [zput, zpok, zpst]
theorem zpokI {x : Int32} : zpok .int (.int x) = True := rfl
theorem zpstI {x : Int32} {S : zS} {a k : Nat} : zpst .int (.int x) S a k = zsI S a k x := rfl
theorem zpokZ {x : Int32} : zpok .boolean (.int x) = (x = 0 ∨ x = 1) := rfl
theorem zpstZ {x : Int32} {S : zS} {a k : Nat} : zpst .boolean (.int x) S a k = zsI S a k x := rfl
theorem zpokJ {x : Int64} : zpok .long (.long x) = True := rfl
theorem zpstJ {x : Int64} {S : zS} {a k : Nat} : zpst .long (.long x) S a k = zsJ S a k x := rfl
theorem zpokD {x : UInt64} : zpok .double (.double x) = True := rfl
theorem zpstD {x : UInt64} {S : zS} {a k : Nat} : zpst .double (.double x) S a k = zsD S a k x := rfl
theorem zpokO {C : String} {b : Nat} : zpok (.object C) (.ref b) = True := rfl
theorem zpstO {C : String} {b : Nat} {S : zS} {a k : Nat} : zpst (.object C) (.ref b) S a k = zsR S a k (some b) := rfl
theorem zpokOn {C : String} : zpok (.object C) .null = True := rfl
theorem zpstOn {C : String} {S : zS} {a k : Nat} : zpst (.object C) .null S a k = zsR S a k none := rfl
theorem zpokA {t : FieldType} {b : Nat} : zpok (.array t) (.ref b) = True := rfl
theorem zpstA {t : FieldType} {b : Nat} {S : zS} {a k : Nat} : zpst (.array t) (.ref b) S a k = zsR S a k (some b) := rfl
theorem zpokAn {t : FieldType} : zpok (.array t) .null = True := rfl
theorem zpstAn {t : FieldType} {S : zS} {a k : Nat} : zpst (.array t) .null S a k = zsR S a k none := rfl
def zpk : Nat → List Value → Prop
  | 0, _ => True
  | n + 1, _ :: st => zpk n st
  | _ + 1, [] => False
def zptk : Nat → List Value → List Value → List Value
  | 0, _, acc => acc
  | n + 1, v :: st, acc => zptk n st (v :: acc)
  | _ + 1, [], acc => acc
def zpdr : Nat → List Value → List Value
  | 0, st => st
  | n + 1, _ :: st => zpdr n st
  | _ + 1, [] => []
theorem zpop_w : ∀ (m : Nat) (st acc : List Value) (f : List Value → List Value → Prop), zpop m st acc f = (zpk m st ∧ f (zptk m st acc) (zpdr m st))
  | 0, st, acc, f => by simp [zpop, zpk, zptk, zpdr]
  | n + 1, v :: st, acc, f => by simp only [zpop, zpk, zptk, zpdr]; exact zpop_w n st (v :: acc) f
  | n + 1, [], acc, f => by simp [zpop, zpk]
theorem zpk_0 {st : List Value} : zpk 0 st = True := rfl
theorem zptk_0 {st acc : List Value} : zptk 0 st acc = acc := rfl
theorem zpdr_0 {st : List Value} : zpdr 0 st = st := rfl
theorem zpk_1 {v : Value} {st : List Value} : zpk 1 (v :: st) = zpk 0 st := rfl
theorem zptk_1 {v : Value} {st acc : List Value} : zptk 1 (v :: st) acc = zptk 0 st (v :: acc) := rfl
theorem zpdr_1 {v : Value} {st : List Value} : zpdr 1 (v :: st) = zpdr 0 st := rfl
theorem zpk_2 {v : Value} {st : List Value} : zpk 2 (v :: st) = zpk 1 st := rfl
theorem zptk_2 {v : Value} {st acc : List Value} : zptk 2 (v :: st) acc = zptk 1 st (v :: acc) := rfl
theorem zpdr_2 {v : Value} {st : List Value} : zpdr 2 (v :: st) = zpdr 1 st := rfl
theorem zpk_3 {v : Value} {st : List Value} : zpk 3 (v :: st) = zpk 2 st := rfl
theorem zptk_3 {v : Value} {st acc : List Value} : zptk 3 (v :: st) acc = zptk 2 st (v :: acc) := rfl
theorem zpdr_3 {v : Value} {st : List Value} : zpdr 3 (v :: st) = zpdr 2 st := rfl
theorem zpk_4 {v : Value} {st : List Value} : zpk 4 (v :: st) = zpk 3 st := rfl
theorem zptk_4 {v : Value} {st acc : List Value} : zptk 4 (v :: st) acc = zptk 3 st (v :: acc) := rfl
theorem zpdr_4 {v : Value} {st : List Value} : zpdr 4 (v :: st) = zpdr 3 st := rfl
theorem zpk_5 {v : Value} {st : List Value} : zpk 5 (v :: st) = zpk 4 st := rfl
theorem zptk_5 {v : Value} {st acc : List Value} : zptk 5 (v :: st) acc = zptk 4 st (v :: acc) := rfl
theorem zpdr_5 {v : Value} {st : List Value} : zpdr 5 (v :: st) = zpdr 4 st := rfl
theorem zpk_6 {v : Value} {st : List Value} : zpk 6 (v :: st) = zpk 5 st := rfl
theorem zptk_6 {v : Value} {st acc : List Value} : zptk 6 (v :: st) acc = zptk 5 st (v :: acc) := rfl
theorem zpdr_6 {v : Value} {st : List Value} : zpdr 6 (v :: st) = zpdr 5 st := rfl
theorem zpk_7 {v : Value} {st : List Value} : zpk 7 (v :: st) = zpk 6 st := rfl
theorem zptk_7 {v : Value} {st acc : List Value} : zptk 7 (v :: st) acc = zptk 6 st (v :: acc) := rfl
theorem zpdr_7 {v : Value} {st : List Value} : zpdr 7 (v :: st) = zpdr 6 st := rfl
theorem zpk_8 {v : Value} {st : List Value} : zpk 8 (v :: st) = zpk 7 st := rfl
theorem zptk_8 {v : Value} {st acc : List Value} : zptk 8 (v :: st) acc = zptk 7 st (v :: acc) := rfl
theorem zpdr_8 {v : Value} {st : List Value} : zpdr 8 (v :: st) = zpdr 7 st := rfl
def zisR : List Value → Prop
  | .ref _ :: _ => True
  | _ => False
def zgR : List Value → Nat
  | .ref a :: _ => a
  | _ => 0
def ztlR : List Value → List Value
  | _ :: r => r
  | [] => []
theorem zA1_w (st : List Value) (f : Nat → List Value → Prop) : zA1 st f = (zisR st ∧ f (zgR st) (ztlR st)) := by
  cases st with
  | nil => simp [zA1, zisR]
  | cons v r => cases v <;> simp [zA1, zisR, zgR, ztlR]
theorem zisR_s {a : Nat} {r : List Value} : zisR (.ref a :: r) = True := rfl
theorem zgR_s {a : Nat} {r : List Value} : zgR (.ref a :: r) = a := rfl
theorem ztlR_s {v : Value} {r : List Value} : ztlR (v :: r) = r := rfl
def zisC : Option zCt → Prop
  | some _ => True
  | none => False
def zgC : Option zCt → zCt
  | some c => c
  | none => (fun _ _ _ => False, 0, 0)
theorem zoc_w (o : Option zCt) (f : zCt → Prop) : zoc o f = (zisC o ∧ f (zgC o)) := by cases o <;> simp [zoc, zisC, zgC]
theorem zisC_s {c : zCt} : zisC (some c) = True := rfl
theorem zgC_s {c : zCt} : zgC (some c) = c := rfl
def zkont (Rc Rs : Nat) (Q : Option Value → zS → Nat → Nat → Prop) (Γ : List zCt) (blk : Nat → List zE) (X : Nat → List (Option Value) → List Value → zS → Nat → Nat → Prop) (n : Nat) (rest : List zE) (L : List (Option Value)) (r : List Value) (c1 c2 : Nat) : Option Value → zS → Prop := fun v S => zrun Rc Rs Q Γ blk X n rest L (v.toList ++ r) S c1 c2
variable {Rc Rs : Nat} {Q : Option Value → zS → Nat → Nat → Prop} {Γ : List zCt} {blk : Nat → List zE} {X : Nat → List (Option Value) → List Value → zS → Nat → Nat → Prop} {n pc : Nat} {inf : List Nat} {rest : List zE} {L : List (Option Value)} {st : List Value} {S : zS} {c1 c2 : Nat}
theorem zkont_s {r : List Value} {v : Value} : zkont Rc Rs Q Γ blk X n rest L r c1 c2 (some v) S = zrun Rc Rs Q Γ blk X n rest L (v :: r) S c1 c2 := rfl
theorem zkont_n {r : List Value} : zkont Rc Rs Q Γ blk X n rest L r c1 c2 none S = zrun Rc Rs Q Γ blk X n rest L r S c1 c2 := rfl
theorem zw_iload {i : Nat} : zrun Rc Rs Q Γ blk X (n + 1) ((pc, .iload i, inf) :: rest) L st S c1 c2 = (zisI (znth i L) ∧ zrun Rc Rs Q Γ blk X n rest L (.int (zgI (znth i L)) :: st) S c1 c2) := zoI_w _ _
theorem zw_iload_n0  : zrun Rc Rs Q Γ blk X (n + 1) ((pc, .iload_n 0, inf) :: rest) L st S c1 c2 = (zisI (znth 0 L) ∧ zrun Rc Rs Q Γ blk X n rest L (.int (zgI (znth 0 L)) :: st) S c1 c2) := zoI_w _ _
theorem zw_iload_n1  : zrun Rc Rs Q Γ blk X (n + 1) ((pc, .iload_n 1, inf) :: rest) L st S c1 c2 = (zisI (znth 1 L) ∧ zrun Rc Rs Q Γ blk X n rest L (.int (zgI (znth 1 L)) :: st) S c1 c2) := zoI_w _ _
theorem zw_iload_n2  : zrun Rc Rs Q Γ blk X (n + 1) ((pc, .iload_n 2, inf) :: rest) L st S c1 c2 = (zisI (znth 2 L) ∧ zrun Rc Rs Q Γ blk X n rest L (.int (zgI (znth 2 L)) :: st) S c1 c2) := zoI_w _ _
theorem zw_iload_n3  : zrun Rc Rs Q Γ blk X (n + 1) ((pc, .iload_n 3, inf) :: rest) L st S c1 c2 = (zisI (znth 3 L) ∧ zrun Rc Rs Q Γ blk X n rest L (.int (zgI (znth 3 L)) :: st) S c1 c2) := zoI_w _ _
theorem zw_lload {i : Nat} : zrun Rc Rs Q Γ blk X (n + 1) ((pc, .lload i, inf) :: rest) L st S c1 c2 = (zisJ (znth i L) ∧ zrun Rc Rs Q Γ blk X n rest L (.long (zgJ (znth i L)) :: st) S c1 c2) := zoJ_w _ _
theorem zw_lload_n0  : zrun Rc Rs Q Γ blk X (n + 1) ((pc, .lload_n 0, inf) :: rest) L st S c1 c2 = (zisJ (znth 0 L) ∧ zrun Rc Rs Q Γ blk X n rest L (.long (zgJ (znth 0 L)) :: st) S c1 c2) := zoJ_w _ _
theorem zw_lload_n1  : zrun Rc Rs Q Γ blk X (n + 1) ((pc, .lload_n 1, inf) :: rest) L st S c1 c2 = (zisJ (znth 1 L) ∧ zrun Rc Rs Q Γ blk X n rest L (.long (zgJ (znth 1 L)) :: st) S c1 c2) := zoJ_w _ _
theorem zw_lload_n2  : zrun Rc Rs Q Γ blk X (n + 1) ((pc, .lload_n 2, inf) :: rest) L st S c1 c2 = (zisJ (znth 2 L) ∧ zrun Rc Rs Q Γ blk X n rest L (.long (zgJ (znth 2 L)) :: st) S c1 c2) := zoJ_w _ _
theorem zw_lload_n3  : zrun Rc Rs Q Γ blk X (n + 1) ((pc, .lload_n 3, inf) :: rest) L st S c1 c2 = (zisJ (znth 3 L) ∧ zrun Rc Rs Q Γ blk X n rest L (.long (zgJ (znth 3 L)) :: st) S c1 c2) := zoJ_w _ _
theorem zw_dload {i : Nat} : zrun Rc Rs Q Γ blk X (n + 1) ((pc, .dload i, inf) :: rest) L st S c1 c2 = (zisD (znth i L) ∧ zrun Rc Rs Q Γ blk X n rest L (.double (zgD (znth i L)) :: st) S c1 c2) := zoD_w _ _
theorem zw_dload_n0  : zrun Rc Rs Q Γ blk X (n + 1) ((pc, .dload_n 0, inf) :: rest) L st S c1 c2 = (zisD (znth 0 L) ∧ zrun Rc Rs Q Γ blk X n rest L (.double (zgD (znth 0 L)) :: st) S c1 c2) := zoD_w _ _
theorem zw_dload_n1  : zrun Rc Rs Q Γ blk X (n + 1) ((pc, .dload_n 1, inf) :: rest) L st S c1 c2 = (zisD (znth 1 L) ∧ zrun Rc Rs Q Γ blk X n rest L (.double (zgD (znth 1 L)) :: st) S c1 c2) := zoD_w _ _
theorem zw_dload_n2  : zrun Rc Rs Q Γ blk X (n + 1) ((pc, .dload_n 2, inf) :: rest) L st S c1 c2 = (zisD (znth 2 L) ∧ zrun Rc Rs Q Γ blk X n rest L (.double (zgD (znth 2 L)) :: st) S c1 c2) := zoD_w _ _
theorem zw_dload_n3  : zrun Rc Rs Q Γ blk X (n + 1) ((pc, .dload_n 3, inf) :: rest) L st S c1 c2 = (zisD (znth 3 L) ∧ zrun Rc Rs Q Γ blk X n rest L (.double (zgD (znth 3 L)) :: st) S c1 c2) := zoD_w _ _
theorem zw_aload {i : Nat} : zrun Rc Rs Q Γ blk X (n + 1) ((pc, .aload i, inf) :: rest) L st S c1 c2 = (zisA (znth i L) ∧ zrun Rc Rs Q Γ blk X n rest L (zgA (znth i L) :: st) S c1 c2) := zoA_w _ _
theorem zw_aload_n0  : zrun Rc Rs Q Γ blk X (n + 1) ((pc, .aload_n 0, inf) :: rest) L st S c1 c2 = (zisA (znth 0 L) ∧ zrun Rc Rs Q Γ blk X n rest L (zgA (znth 0 L) :: st) S c1 c2) := zoA_w _ _
theorem zw_aload_n1  : zrun Rc Rs Q Γ blk X (n + 1) ((pc, .aload_n 1, inf) :: rest) L st S c1 c2 = (zisA (znth 1 L) ∧ zrun Rc Rs Q Γ blk X n rest L (zgA (znth 1 L) :: st) S c1 c2) := zoA_w _ _
theorem zw_aload_n2  : zrun Rc Rs Q Γ blk X (n + 1) ((pc, .aload_n 2, inf) :: rest) L st S c1 c2 = (zisA (znth 2 L) ∧ zrun Rc Rs Q Γ blk X n rest L (zgA (znth 2 L) :: st) S c1 c2) := zoA_w _ _
theorem zw_aload_n3  : zrun Rc Rs Q Γ blk X (n + 1) ((pc, .aload_n 3, inf) :: rest) L st S c1 c2 = (zisA (znth 3 L) ∧ zrun Rc Rs Q Γ blk X n rest L (zgA (znth 3 L) :: st) S c1 c2) := zoA_w _ _
theorem zw_iinc {i b : Nat} {k : Int} : zrun Rc Rs Q Γ blk X (n + 1) ((pc, .iinc i k, [b]) :: rest) L st S c1 c2 = (zisI (znth i L) ∧ zrun Rc Rs Q Γ blk X n rest (zst1 i (.int (zgI (znth i L) + nI b)) L) st S c1 c2) := zoI_w _ _
theorem zw_putfield {a i j k : Nat} {v : Value} : zrun Rc Rs Q Γ blk X (n + 1) ((pc, .putfield k, [i, j]) :: rest) L (v :: .ref a :: st) S c1 c2 = ((zSh S a).1 = i ∧ zpok (zYX i j) v ∧ zrun Rc Rs Q Γ blk X n rest L st (zpst (zYX i j) v S a j) c1 c2) := by rw [zq_putfield, zput_w]
theorem zw_callS {k i m : Nat} : zrun Rc Rs Q Γ blk X (n + 1) ((pc, .invokestatic k, [i, m]) :: rest) L st S c1 c2 = (zpk m st ∧ zwt (zpdr m st) ≤ 8 ∧ zisC (zget Γ i) ∧ c1 + (zgC (zget Γ i)).2.1 ≤ Rc ∧ c2 + (zgC (zget Γ i)).2.2 ≤ Rs ∧ (zgC (zget Γ i)).1 (zptk m st []) S (zkont Rc Rs Q Γ blk X n rest L (zpdr m st) (c1 + (zgC (zget Γ i)).2.1) (c2 + (zgC (zget Γ i)).2.2))) := by rw [zq_callS, zpop_w, zoc_w]; rfl
theorem zw_callV {k i m ci : Nat} : zrun Rc Rs Q Γ blk X (n + 1) ((pc, .invokevirtual k, [i, m, ci]) :: rest) L st S c1 c2 = (zpk m st ∧ zisR (zpdr m st) ∧ (zSh S (zgR (zpdr m st))).1 = ci ∧ zwt (ztlR (zpdr m st)) ≤ 8 ∧ zisC (zget Γ i) ∧ c1 + (zgC (zget Γ i)).2.1 ≤ Rc ∧ c2 + (zgC (zget Γ i)).2.2 ≤ Rs ∧ (zgC (zget Γ i)).1 (.ref (zgR (zpdr m st)) :: zptk m st []) S (zkont Rc Rs Q Γ blk X n rest L (ztlR (zpdr m st)) (c1 + (zgC (zget Γ i)).2.1) (c2 + (zgC (zget Γ i)).2.2))) := by rw [zq_callV, zpop_w, zA1_w, zoc_w]; rfl
theorem zw_callI {k i m : Nat} : zrun Rc Rs Q Γ blk X (n + 1) ((pc, .invokespecial k, [i, m]) :: rest) L st S c1 c2 = (zpk m st ∧ zisR (zpdr m st) ∧ zwt (ztlR (zpdr m st)) ≤ 8 ∧ zisC (zget Γ i) ∧ c1 + (zgC (zget Γ i)).2.1 ≤ Rc ∧ c2 + (zgC (zget Γ i)).2.2 ≤ Rs ∧ (zgC (zget Γ i)).1 (.ref (zgR (zpdr m st)) :: zptk m st []) S (zkont Rc Rs Q Γ blk X n rest L (ztlR (zpdr m st)) (c1 + (zgC (zget Γ i)).2.1) (c2 + (zgC (zget Γ i)).2.2))) := by rw [zq_callI, zpop_w, zA1_w, zoc_w]; rfl
end ZW
