/-! the rows by which a run is unfolded, without binders (written by gen/walk.py): simp goes through a term once -/
section ZW
def zisI : Option Value → Prop
  | some (.int _) => True
  | _ => False
def zgI : Option Value → Int32
  | some (.int x) => x
  | _ => 0
theorem zoI_w (o : Option Value) (f : Int32 → Prop) : zoI o f = (zisI o ∧ f (zgI o)) := by
  cases o with
  | none => simp [zoI, zisI]
  | some v => cases v <;> simp [zoI, zisI, zgI]
theorem zisI_s {x : Int32} : zisI (some (.int x)) = True := rfl
theorem zgI_s {x : Int32} : zgI (some (.int x)) = x := rfl
def zisJ : Option Value → Prop
  | some (.long _) => True
  | _ => False
def zgJ : Option Value → Int64
  | some (.long x) => x
  | _ => 0
theorem zoJ_w (o : Option Value) (f : Int64 → Prop) : zoJ o f = (zisJ o ∧ f (zgJ o)) := by
  cases o with
  | none => simp [zoJ, zisJ]
  | some v => cases v <;> simp [zoJ, zisJ, zgJ]
theorem zisJ_s {x : Int64} : zisJ (some (.long x)) = True := rfl
theorem zgJ_s {x : Int64} : zgJ (some (.long x)) = x := rfl
def zisD : Option Value → Prop
  | some (.double _) => True
  | _ => False
def zgD : Option Value → UInt64
  | some (.double x) => x
  | _ => 0
theorem zoD_w (o : Option Value) (f : UInt64 → Prop) : zoD o f = (zisD o ∧ f (zgD o)) := by
  cases o with
  | none => simp [zoD, zisD]
  | some v => cases v <;> simp [zoD, zisD, zgD]
theorem zisD_s {x : UInt64} : zisD (some (.double x)) = True := rfl
theorem zgD_s {x : UInt64} : zgD (some (.double x)) = x := rfl
def zisA : Option Value → Prop
  | some v => zref v
  | none => False
def zgA : Option Value → Value
  | some v => v
  | none => .null
theorem zoA_w (o : Option Value) (f : Value → Prop) : zoA o f = (zisA o ∧ f (zgA o)) := by cases o <;> simp [zoA, zisA, zgA]
theorem zisA_s {v : Value} : zisA (some v) = zref v := rfl
theorem zgA_s {v : Value} : zgA (some v) = v := rfl
def zpok : FieldType → Value → Prop
  | .int, .int _ => True
  | .boolean, .int x => x = 0 ∨ x = 1
  | .long, .long _ => True
  | .double, .double _ => True
  | .object _, .null => True
  | .object _, .ref _ => True
  | .array _, .null => True
  | .array _, .ref _ => True
  | _, _ => False
def zpst (t : FieldType) (v : Value) (S : zS) (a k : Nat) : zS := match t, v with
  | .int, .int x => zsI S a k x
  | .boolean, .int x => zsI S a k x
  | .long, .long x => zsJ S a k x
  | .double, .double x => zsD S a k x
  | _, .ref b => zsR S a k (some b)
  | _, _ => zsR S a k none
theorem zput_w (t : FieldType) (v : Value) (S : zS) (a k : Nat) (f : zS → Prop) : zput t v S a k f = (zpok t v ∧ f (zpst t v S a k)) := by cases t <;> cases v <;> simp [zput, zpok, zpst]
theorem zpokI {x : Int32} : zpok .int (.int x) = True := rfl
theorem zpstI {x : Int32} {S : zS} {a k : Nat} : zpst .int (.int x) S a k = zsI S a k x := rfl
theorem zpokZ {x : Int32} : zpok .boolean (.int x) = (x = 0 ∨ x = 1) := rfl
theorem zpstZ {x : Int32} {S : zS} {a k : Nat} : zpst .boolean (.int x) S a k = zsI S a k x := rfl
theorem zpokJ {x : Int64} : zpok .long (.long x) = True := rfl
theorem zpstJ {x : Int64} {S : zS} {a k : Nat} : zpst .long (.long x) S a k = zsJ S a k x := rfl
theorem zpokD {x : UInt64} : zpok .double (.double x) = True := rfl
theorem zpstD {x : UInt64} {S : zS} {a k : Nat} : zpst .double (.double x) S a k = zsD S a k x := rfl
theorem zpokO {C : String} {b : Nat} : zpok (.object C) (.ref b) = True := rfl
theorem zpstO {C : String} {b : Nat} {S : zS} {a k : Nat} : zpst (.object C) (.ref b) S a k = zsR S a k (some b) := rfl
theorem zpokOn {C : String} : zpok (.object C) .null = True := rfl
theorem zpstOn {C : String} {S : zS} {a k : Nat} : zpst (.object C) .null S a k = zsR S a k none := rfl
theorem zpokA {t : FieldType} {b : Nat} : zpok (.array t) (.ref b) = True := rfl
theorem zpstA {t : FieldType} {b : Nat} {S : zS} {a k : Nat} : zpst (.array t) (.ref b) S a k = zsR S a k (some b) := rfl
theorem zpokAn {t : FieldType} : zpok (.array t) .null = True := rfl
theorem zpstAn {t : FieldType} {S : zS} {a k : Nat} : zpst (.array t) .null S a k = zsR S a k none := rfl
def zpk : Nat → List Value → Prop
  | 0, _ => True
  | n + 1, _ :: st => zpk n st
  | _ + 1, [] => False
def zptk : Nat → List Value → List Value → List Value
  | 0, _, acc => acc
  | n + 1, v :: st, acc => zptk n st (v :: acc)
  | _ + 1, [], acc => acc
def zpdr : Nat → List Value → List Value
  | 0, st => st
  | n + 1, _ :: st => zpdr n st
  | _ + 1, [] => []
theorem zpop_w : ∀ (m : Nat) (st acc : List Value) (f : List Value → List Value → Prop), zpop m st acc f = (zpk m st ∧ f (zptk m st acc) (zpdr m st))
  | 0, st, acc, f => by simp [zpop, zpk, zptk, zpdr]
  | n + 1, v :: st, acc, f => by simp only [zpop, zpk, zptk, zpdr]; exact zpop_w n st (v :: acc) f
  | n + 1, [], acc, f => by simp [zpop, zpk]
theorem zpk_0 {st : List Value} : zpk 0 st = True := rfl
theorem zptk_0 {st acc : List Value} : zptk 0 st acc = acc := rfl
theorem zpdr_0 {st : List Value} : zpdr 0 st = st := rfl
theorem zpk_1 {v : Value} {st : List Value} : zpk 1 (v :: st) = zpk 0 st := rfl
theorem zptk_1 {v : Value} {st acc : List Value} : zptk 1 (v :: st) acc = zptk 0 st (v :: acc) := rfl
theorem zpdr_1 {v : Value} {st : List Value} : zpdr 1 (v :: st) = zpdr 0 st := rfl
theorem zpk_2 {v : Value} {st : List Value} : zpk 2 (v :: st) = zpk 1 st := rfl
theorem zptk_2 {v : Value} {st acc : List Value} : zptk 2 (v :: st) acc = zptk 1 st (v :: acc) := rfl
theorem zpdr_2 {v : Value} {st : List Value} : zpdr 2 (v :: st) = zpdr 1 st := rfl
theorem zpk_3 {v : Value} {st : List Value} : zpk 3 (v :: st) = zpk 2 st := rfl
theorem zptk_3 {v : Value} {st acc : List Value} : zptk 3 (v :: st) acc = zptk 2 st (v :: acc) := rfl
theorem zpdr_3 {v : Value} {st : List Value} : zpdr 3 (v :: st) = zpdr 2 st := rfl
theorem zpk_4 {v : Value} {st : List Value} : zpk 4 (v :: st) = zpk 3 st := rfl
theorem zptk_4 {v : Value} {st acc : List Value} : zptk 4 (v :: st) acc = zptk 3 st (v :: acc) := rfl
theorem zpdr_4 {v : Value} {st : List Value} : zpdr 4 (v :: st) = zpdr 3 st := rfl
theorem zpk_5 {v : Value} {st : List Value} : zpk 5 (v :: st) = zpk 4 st := rfl
theorem zptk_5 {v : Value} {st acc : List Value} : zptk 5 (v :: st) acc = zptk 4 st (v :: acc) := rfl
theorem zpdr_5 {v : Value} {st : List Value} : zpdr 5 (v :: st) = zpdr 4 st := rfl
theorem zpk_6 {v : Value} {st : List Value} : zpk 6 (v :: st) = zpk 5 st := rfl
theorem zptk_6 {v : Value} {st acc : List Value} : zptk 6 (v :: st) acc = zptk 5 st (v :: acc) := rfl
theorem zpdr_6 {v : Value} {st : List Value} : zpdr 6 (v :: st) = zpdr 5 st := rfl
theorem zpk_7 {v : Value} {st : List Value} : zpk 7 (v :: st) = zpk 6 st := rfl
theorem zptk_7 {v : Value} {st acc : List Value} : zptk 7 (v :: st) acc = zptk 6 st (v :: acc) := rfl
theorem zpdr_7 {v : Value} {st : List Value} : zpdr 7 (v :: st) = zpdr 6 st := rfl
theorem zpk_8 {v : Value} {st : List Value} : zpk 8 (v :: st) = zpk 7 st := rfl
theorem zptk_8 {v : Value} {st acc : List Value} : zptk 8 (v :: st) acc = zptk 7 st (v :: acc) := rfl
theorem zpdr_8 {v : Value} {st : List Value} : zpdr 8 (v :: st) = zpdr 7 st := rfl
def zisR : List Value → Prop
  | .ref _ :: _ => True
  | _ => False
def zgR : List Value → Nat
  | .ref a :: _ => a
  | _ => 0
def ztlR : List Value → List Value
  | _ :: r => r
  | [] => []
theorem zA1_w (st : List Value) (f : Nat → List Value → Prop) : zA1 st f = (zisR st ∧ f (zgR st) (ztlR st)) := by
  cases st with
  | nil => simp [zA1, zisR]
  | cons v r => cases v <;> simp [zA1, zisR, zgR, ztlR]
theorem zisR_s {a : Nat} {r : List Value} : zisR (.ref a :: r) = True := rfl
theorem zgR_s {a : Nat} {r : List Value} : zgR (.ref a :: r) = a := rfl
theorem ztlR_s {v : Value} {r : List Value} : ztlR (v :: r) = r := rfl
def zisC : Option zCt → Prop
  | some _ => True
  | none => False
def zgC : Option zCt → zCt
  | some c => c
  | none => (fun _ _ _ => False, 0, 0)
theorem zoc_w (o : Option zCt) (f : zCt → Prop) : zoc o f = (zisC o ∧ f (zgC o)) := by cases o <;> simp [zoc, zisC, zgC]
theorem zisC_s {c : zCt} : zisC (some c) = True := rfl
theorem zgC_s {c : zCt} : zgC (some c) = c := rfl
def zkont (Rc Rs : Nat) (Q : Option Value → zS → Nat → Nat → Prop) (Γ : List zCt) (blk : Nat → List zE) (X : Nat → List (Option Value) → List Value → zS → Nat → Nat → Prop) (n : Nat) (rest : List zE) (L : List (Option Value)) (r : List Value) (c1 c2 : Nat) : Option Value → zS → Prop := fun v S => zrun Rc Rs Q Γ blk X n rest L (v.toList ++ r) S c1 c2
variable {Rc Rs : Nat} {Q : Option Value → zS → Nat → Nat → Prop} {Γ : List zCt} {blk : Nat → List zE} {X : Nat → List (Option Value) → List Value → zS → Nat → Nat → Prop} {n pc : Nat} {inf : List Nat} {rest : List zE} {L : List (Option Value)} {st : List Value} {S : zS} {c1 c2 : Nat}
theorem zkont_s {r : List Value} {v : Value} : zkont Rc Rs Q Γ blk X n rest L r c1 c2 (some v) S = zrun Rc Rs Q Γ blk X n rest L (v :: r) S c1 c2 := Eq.trans rfl rfl
theorem zkont_n {r : List Value} : zkont Rc Rs Q Γ blk X n rest L r c1 c2 none S = zrun Rc Rs Q Γ blk X n rest L r S c1 c2 := Eq.trans rfl rfl
theorem zw_iload {i : Nat} : zrun Rc Rs Q Γ blk X (n + 1) ((pc, .iload i, inf) :: rest) L st S c1 c2 = (zisI (znth i L) ∧ zrun Rc Rs Q Γ blk X n rest L (.int (zgI (znth i L)) :: st) S c1 c2) := zoI_w _ _
theorem zw_iload_n0  : zrun Rc Rs Q Γ blk X (n + 1) ((pc, .iload_n 0, inf) :: rest) L st S c1 c2 = (zisI (znth 0 L) ∧ zrun Rc Rs Q Γ blk X n rest L (.int (zgI (znth 0 L)) :: st) S c1 c2) := zoI_w _ _
theorem zw_iload_n1  : zrun Rc Rs Q Γ blk X (n + 1) ((pc, .iload_n 1, inf) :: rest) L st S c1 c2 = (zisI (znth 1 L) ∧ zrun Rc Rs Q Γ blk X n rest L (.int (zgI (znth 1 L)) :: st) S c1 c2) := zoI_w _ _
theorem zw_iload_n2  : zrun Rc Rs Q Γ blk X (n + 1) ((pc, .iload_n 2, inf) :: rest) L st S c1 c2 = (zisI (znth 2 L) ∧ zrun Rc Rs Q Γ blk X n rest L (.int (zgI (znth 2 L)) :: st) S c1 c2) := zoI_w _ _
theorem zw_iload_n3  : zrun Rc Rs Q Γ blk X (n + 1) ((pc, .iload_n 3, inf) :: rest) L st S c1 c2 = (zisI (znth 3 L) ∧ zrun Rc Rs Q Γ blk X n rest L (.int (zgI (znth 3 L)) :: st) S c1 c2) := zoI_w _ _
theorem zw_lload {i : Nat} : zrun Rc Rs Q Γ blk X (n + 1) ((pc, .lload i, inf) :: rest) L st S c1 c2 = (zisJ (znth i L) ∧ zrun Rc Rs Q Γ blk X n rest L (.long (zgJ (znth i L)) :: st) S c1 c2) := zoJ_w _ _
theorem zw_lload_n0  : zrun Rc Rs Q Γ blk X (n + 1) ((pc, .lload_n 0, inf) :: rest) L st S c1 c2 = (zisJ (znth 0 L) ∧ zrun Rc Rs Q Γ blk X n rest L (.long (zgJ (znth 0 L)) :: st) S c1 c2) := zoJ_w _ _
theorem zw_lload_n1  : zrun Rc Rs Q Γ blk X (n + 1) ((pc, .lload_n 1, inf) :: rest) L st S c1 c2 = (zisJ (znth 1 L) ∧ zrun Rc Rs Q Γ blk X n rest L (.long (zgJ (znth 1 L)) :: st) S c1 c2) := zoJ_w _ _
theorem zw_lload_n2  : zrun Rc Rs Q Γ blk X (n + 1) ((pc, .lload_n 2, inf) :: rest) L st S c1 c2 = (zisJ (znth 2 L) ∧ zrun Rc Rs Q Γ blk X n rest L (.long (zgJ (znth 2 L)) :: st) S c1 c2) := zoJ_w _ _
theorem zw_lload_n3  : zrun Rc Rs Q Γ blk X (n + 1) ((pc, .lload_n 3, inf) :: rest) L st S c1 c2 = (zisJ (znth 3 L) ∧ zrun Rc Rs Q Γ blk X n rest L (.long (zgJ (znth 3 L)) :: st) S c1 c2) := zoJ_w _ _
theorem zw_dload {i : Nat} : zrun Rc Rs Q Γ blk X (n + 1) ((pc, .dload i, inf) :: rest) L st S c1 c2 = (zisD (znth i L) ∧ zrun Rc Rs Q Γ blk X n rest L (.double (zgD (znth i L)) :: st) S c1 c2) := zoD_w _ _
theorem zw_dload_n0  : zrun Rc Rs Q Γ blk X (n + 1) ((pc, .dload_n 0, inf) :: rest) L st S c1 c2 = (zisD (znth 0 L) ∧ zrun Rc Rs Q Γ blk X n rest L (.double (zgD (znth 0 L)) :: st) S c1 c2) := zoD_w _ _
theorem zw_dload_n1  : zrun Rc Rs Q Γ blk X (n + 1) ((pc, .dload_n 1, inf) :: rest) L st S c1 c2 = (zisD (znth 1 L) ∧ zrun Rc Rs Q Γ blk X n rest L (.double (zgD (znth 1 L)) :: st) S c1 c2) := zoD_w _ _
theorem zw_dload_n2  : zrun Rc Rs Q Γ blk X (n + 1) ((pc, .dload_n 2, inf) :: rest) L st S c1 c2 = (zisD (znth 2 L) ∧ zrun Rc Rs Q Γ blk X n rest L (.double (zgD (znth 2 L)) :: st) S c1 c2) := zoD_w _ _
theorem zw_dload_n3  : zrun Rc Rs Q Γ blk X (n + 1) ((pc, .dload_n 3, inf) :: rest) L st S c1 c2 = (zisD (znth 3 L) ∧ zrun Rc Rs Q Γ blk X n rest L (.double (zgD (znth 3 L)) :: st) S c1 c2) := zoD_w _ _
theorem zw_aload {i : Nat} : zrun Rc Rs Q Γ blk X (n + 1) ((pc, .aload i, inf) :: rest) L st S c1 c2 = (zisA (znth i L) ∧ zrun Rc Rs Q Γ blk X n rest L (zgA (znth i L) :: st) S c1 c2) := zoA_w _ _
theorem zw_aload_n0  : zrun Rc Rs Q Γ blk X (n + 1) ((pc, .aload_n 0, inf) :: rest) L st S c1 c2 = (zisA (znth 0 L) ∧ zrun Rc Rs Q Γ blk X n rest L (zgA (znth 0 L) :: st) S c1 c2) := zoA_w _ _
theorem zw_aload_n1  : zrun Rc Rs Q Γ blk X (n + 1) ((pc, .aload_n 1, inf) :: rest) L st S c1 c2 = (zisA (znth 1 L) ∧ zrun Rc Rs Q Γ blk X n rest L (zgA (znth 1 L) :: st) S c1 c2) := zoA_w _ _
theorem zw_aload_n2  : zrun Rc Rs Q Γ blk X (n + 1) ((pc, .aload_n 2, inf) :: rest) L st S c1 c2 = (zisA (znth 2 L) ∧ zrun Rc Rs Q Γ blk X n rest L (zgA (znth 2 L) :: st) S c1 c2) := zoA_w _ _
theorem zw_aload_n3  : zrun Rc Rs Q Γ blk X (n + 1) ((pc, .aload_n 3, inf) :: rest) L st S c1 c2 = (zisA (znth 3 L) ∧ zrun Rc Rs Q Γ blk X n rest L (zgA (znth 3 L) :: st) S c1 c2) := zoA_w _ _
theorem zw_iinc {i b : Nat} {k : Int} : zrun Rc Rs Q Γ blk X (n + 1) ((pc, .iinc i k, [b]) :: rest) L st S c1 c2 = (zisI (znth i L) ∧ zrun Rc Rs Q Γ blk X n rest (zst1 i (.int (zgI (znth i L) + nI b)) L) st S c1 c2) := zoI_w _ _
theorem zw_putfield {a i j k : Nat} {v : Value} : zrun Rc Rs Q Γ blk X (n + 1) ((pc, .putfield k, [i, j]) :: rest) L (v :: .ref a :: st) S c1 c2 = ((zSh S a).1 = i ∧ zpok (zYX i j) v ∧ zrun Rc Rs Q Γ blk X n rest L st (zpst (zYX i j) v S a j) c1 c2) := by rw [zq_putfield, zput_w]
theorem zw_callS {k i m : Nat} : zrun Rc Rs Q Γ blk X (n + 1) ((pc, .invokestatic k, [i, m]) :: rest) L st S c1 c2 = (zpk m st ∧ zwt (zpdr m st) ≤ 8 ∧ zisC (zget Γ i) ∧ c1 + (zgC (zget Γ i)).2.1 ≤ Rc ∧ c2 + (zgC (zget Γ i)).2.2 ≤ Rs ∧ (zgC (zget Γ i)).1 (zptk m st []) S (zkont Rc Rs Q Γ blk X n rest L (zpdr m st) (c1 + (zgC (zget Γ i)).2.1) (c2 + (zgC (zget Γ i)).2.2))) := by rw [zq_callS, zpop_w, zoc_w]; rfl
theorem zw_callV {k i m ci : Nat} : zrun Rc Rs Q Γ blk X (n + 1) ((pc, .invokevirtual k, [i, m, ci]) :: rest) L st S c1 c2 = (zpk m st ∧ zisR (zpdr m st) ∧ (zSh S (zgR (zpdr m st))).1 = ci ∧ zwt (ztlR (zpdr m st)) ≤ 8 ∧ zisC (zget Γ i) ∧ c1 + (zgC (zget Γ i)).2.1 ≤ Rc ∧ c2 + (zgC (zget Γ i)).2.2 ≤ Rs ∧ (zgC (zget Γ i)).1 (.ref (zgR (zpdr m st)) :: zptk m st []) S (zkont Rc Rs Q Γ blk X n rest L (ztlR (zpdr m st)) (c1 + (zgC (zget Γ i)).2.1) (c2 + (zgC (zget Γ i)).2.2))) := by rw [zq_callV, zpop_w, zA1_w, zoc_w]; rfl
theorem zw_callI {k i m : Nat} : zrun Rc Rs Q Γ blk X (n + 1) ((pc, .invokespecial k, [i, m]) :: rest) L st S c1 c2 = (zpk m st ∧ zisR (zpdr m st) ∧ zwt (ztlR (zpdr m st)) ≤ 8 ∧ zisC (zget Γ i) ∧ c1 + (zgC (zget Γ i)).2.1 ≤ Rc ∧ c2 + (zgC (zget Γ i)).2.2 ≤ Rs ∧ (zgC (zget Γ i)).1 (.ref (zgR (zpdr m st)) :: zptk m st []) S (zkont Rc Rs Q Γ blk X n rest L (ztlR (zpdr m st)) (c1 + (zgC (zget Γ i)).2.1) (c2 + (zgC (zget Γ i)).2.2))) := by rw [zq_callI, zpop_w, zA1_w, zoc_w]; rfl
theorem wzq_nop : zrun Rc Rs Q Γ blk X (n + 1) ((pc, .nop, []) :: rest) L st S c1 c2 = (X pc L st S c1 c2) := (zq_nop).trans rfl
theorem wzq_nop0 {b : Nat} : zrun Rc Rs Q Γ blk X (n + 1) ((pc, .nop, [b]) :: rest) L st S c1 c2 = (zrun Rc Rs Q Γ blk X n (blk pc) L st S c1 c2) := (zq_nop0).trans rfl
theorem wzq_null : zrun Rc Rs Q Γ blk X (n + 1) ((pc, .aconst_null, inf) :: rest) L st S c1 c2 = (zrun Rc Rs Q Γ blk X n rest L (.null :: st) S c1 c2) := (zq_null).trans rfl
theorem wzq_iconst {k : Int} {b : Nat} : zrun Rc Rs Q Γ blk X (n + 1) ((pc, .iconst k, [b]) :: rest) L st S c1 c2 = (zrun Rc Rs Q Γ blk X n rest L (.int (nI b) :: st) S c1 c2) := (zq_iconst).trans rfl
theorem wzq_bipush {k : Int} {b : Nat} : zrun Rc Rs Q Γ blk X (n + 1) ((pc, .bipush k, [b]) :: rest) L st S c1 c2 = (zrun Rc Rs Q Γ blk X n rest L (.int (nI b) :: st) S c1 c2) := (zq_bipush).trans rfl
theorem wzq_sipush {k : Int} {b : Nat} : zrun Rc Rs Q Γ blk X (n + 1) ((pc, .sipush k, [b]) :: rest) L st S c1 c2 = (zrun Rc Rs Q Γ blk X n rest L (.int (nI b) :: st) S c1 c2) := (zq_sipush).trans rfl
theorem wzq_ldc {k : Nat} {b : Nat} : zrun Rc Rs Q Γ blk X (n + 1) ((pc, .ldc k, [b]) :: rest) L st S c1 c2 = (zrun Rc Rs Q Γ blk X n rest L (.int (nI b) :: st) S c1 c2) := (zq_ldc).trans rfl
theorem wzq_ldc_w {k : Nat} {b : Nat} : zrun Rc Rs Q Γ blk X (n + 1) ((pc, .ldc_w k, [b]) :: rest) L st S c1 c2 = (zrun Rc Rs Q Γ blk X n rest L (.int (nI b) :: st) S c1 c2) := (zq_ldc_w).trans rfl
theorem wzq_lconst {k : Fin 2} {b : Nat} : zrun Rc Rs Q Γ blk X (n + 1) ((pc, .lconst k, [b]) :: rest) L st S c1 c2 = (zrun Rc Rs Q Γ blk X n rest L (.long (lN b) :: st) S c1 c2) := (zq_lconst).trans rfl
theorem wzq_dconst {k : Fin 2} {b : Nat} : zrun Rc Rs Q Γ blk X (n + 1) ((pc, .dconst k, [b]) :: rest) L st S c1 c2 = (zrun Rc Rs Q Γ blk X n rest L (.double (zdN b) :: st) S c1 c2) := (zq_dconst).trans rfl
theorem wzq_ldc2 {k b : Nat} : zrun Rc Rs Q Γ blk X (n + 1) ((pc, .ldc2_w k, [b]) :: rest) L st S c1 c2 = (zrun Rc Rs Q Γ blk X n rest L (.long (lN b) :: st) S c1 c2) := (zq_ldc2).trans rfl
theorem wzq_ldc2d {k b d : Nat} : zrun Rc Rs Q Γ blk X (n + 1) ((pc, .ldc2_w k, [b, d]) :: rest) L st S c1 c2 = (zrun Rc Rs Q Γ blk X n rest L (.double (zdN b) :: st) S c1 c2) := (zq_ldc2d).trans rfl
theorem wzq_iload {i : Nat} : zrun Rc Rs Q Γ blk X (n + 1) ((pc, .iload i, inf) :: rest) L st S c1 c2 = (zoI (znth i L) fun x => zrun Rc Rs Q Γ blk X n rest L (.int x :: st) S c1 c2) := (zq_iload).trans rfl
theorem wzq_iload_n0 : zrun Rc Rs Q Γ blk X (n + 1) ((pc, .iload_n 0, inf) :: rest) L st S c1 c2 = (zoI (znth 0 L) fun x => zrun Rc Rs Q Γ blk X n rest L (.int x :: st) S c1 c2) := (zq_iload_n0).trans rfl
theorem wzq_iload_n1 : zrun Rc Rs Q Γ blk X (n + 1) ((pc, .iload_n 1, inf) :: rest) L st S c1 c2 = (zoI (znth 1 L) fun x => zrun Rc Rs Q Γ blk X n rest L (.int x :: st) S c1 c2) := (zq_iload_n1).trans rfl
theorem wzq_iload_n2 : zrun Rc Rs Q Γ blk X (n + 1) ((pc, .iload_n 2, inf) :: rest) L st S c1 c2 = (zoI (znth 2 L) fun x => zrun Rc Rs Q Γ blk X n rest L (.int x :: st) S c1 c2) := (zq_iload_n2).trans rfl
theorem wzq_iload_n3 : zrun Rc Rs Q Γ blk X (n + 1) ((pc, .iload_n 3, inf) :: rest) L st S c1 c2 = (zoI (znth 3 L) fun x => zrun Rc Rs Q Γ blk X n rest L (.int x :: st) S c1 c2) := (zq_iload_n3).trans rfl
theorem wzq_lload {i : Nat} : zrun Rc Rs Q Γ blk X (n + 1) ((pc, .lload i, inf) :: rest) L st S c1 c2 = (zoJ (znth i L) fun x => zrun Rc Rs Q Γ blk X n rest L (.long x :: st) S c1 c2) := (zq_lload).trans rfl
theorem wzq_lload_n0 : zrun Rc Rs Q Γ blk X (n + 1) ((pc, .lload_n 0, inf) :: rest) L st S c1 c2 = (zoJ (znth 0 L) fun x => zrun Rc Rs Q Γ blk X n rest L (.long x :: st) S c1 c2) := (zq_lload_n0).trans rfl
theorem wzq_lload_n1 : zrun Rc Rs Q Γ blk X (n + 1) ((pc, .lload_n 1, inf) :: rest) L st S c1 c2 = (zoJ (znth 1 L) fun x => zrun Rc Rs Q Γ blk X n rest L (.long x :: st) S c1 c2) := (zq_lload_n1).trans rfl
theorem wzq_lload_n2 : zrun Rc Rs Q Γ blk X (n + 1) ((pc, .lload_n 2, inf) :: rest) L st S c1 c2 = (zoJ (znth 2 L) fun x => zrun Rc Rs Q Γ blk X n rest L (.long x :: st) S c1 c2) := (zq_lload_n2).trans rfl
theorem wzq_lload_n3 : zrun Rc Rs Q Γ blk X (n + 1) ((pc, .lload_n 3, inf) :: rest) L st S c1 c2 = (zoJ (znth 3 L) fun x => zrun Rc Rs Q Γ blk X n rest L (.long x :: st) S c1 c2) := (zq_lload_n3).trans rfl
theorem wzq_dload {i : Nat} : zrun Rc Rs Q Γ blk X (n + 1) ((pc, .dload i, inf) :: rest) L st S c1 c2 = (zoD (znth i L) fun x => zrun Rc Rs Q Γ blk X n rest L (.double x :: st) S c1 c2) := (zq_dload).trans rfl
theorem wzq_dload_n0 : zrun Rc Rs Q Γ blk X (n + 1) ((pc, .dload_n 0, inf) :: rest) L st S c1 c2 = (zoD (znth 0 L) fun x => zrun Rc Rs Q Γ blk X n rest L (.double x :: st) S c1 c2) := (zq_dload_n0).trans rfl
theorem wzq_dload_n1 : zrun Rc Rs Q Γ blk X (n + 1) ((pc, .dload_n 1, inf) :: rest) L st S c1 c2 = (zoD (znth 1 L) fun x => zrun Rc Rs Q Γ blk X n rest L (.double x :: st) S c1 c2) := (zq_dload_n1).trans rfl
theorem wzq_dload_n2 : zrun Rc Rs Q Γ blk X (n + 1) ((pc, .dload_n 2, inf) :: rest) L st S c1 c2 = (zoD (znth 2 L) fun x => zrun Rc Rs Q Γ blk X n rest L (.double x :: st) S c1 c2) := (zq_dload_n2).trans rfl
theorem wzq_dload_n3 : zrun Rc Rs Q Γ blk X (n + 1) ((pc, .dload_n 3, inf) :: rest) L st S c1 c2 = (zoD (znth 3 L) fun x => zrun Rc Rs Q Γ blk X n rest L (.double x :: st) S c1 c2) := (zq_dload_n3).trans rfl
theorem wzq_aload {i : Nat} : zrun Rc Rs Q Γ blk X (n + 1) ((pc, .aload i, inf) :: rest) L st S c1 c2 = (zoA (znth i L) fun x => zrun Rc Rs Q Γ blk X n rest L (x :: st) S c1 c2) := (zq_aload).trans rfl
theorem wzq_aload_n0 : zrun Rc Rs Q Γ blk X (n + 1) ((pc, .aload_n 0, inf) :: rest) L st S c1 c2 = (zoA (znth 0 L) fun x => zrun Rc Rs Q Γ blk X n rest L (x :: st) S c1 c2) := (zq_aload_n0).trans rfl
theorem wzq_aload_n1 : zrun Rc Rs Q Γ blk X (n + 1) ((pc, .aload_n 1, inf) :: rest) L st S c1 c2 = (zoA (znth 1 L) fun x => zrun Rc Rs Q Γ blk X n rest L (x :: st) S c1 c2) := (zq_aload_n1).trans rfl
theorem wzq_aload_n2 : zrun Rc Rs Q Γ blk X (n + 1) ((pc, .aload_n 2, inf) :: rest) L st S c1 c2 = (zoA (znth 2 L) fun x => zrun Rc Rs Q Γ blk X n rest L (x :: st) S c1 c2) := (zq_aload_n2).trans rfl
theorem wzq_aload_n3 : zrun Rc Rs Q Γ blk X (n + 1) ((pc, .aload_n 3, inf) :: rest) L st S c1 c2 = (zoA (znth 3 L) fun x => zrun Rc Rs Q Γ blk X n rest L (x :: st) S c1 c2) := (zq_aload_n3).trans rfl
theorem wzq_istore {i : Nat} {x : Int32} : zrun Rc Rs Q Γ blk X (n + 1) ((pc, .istore i, inf) :: rest) L (.int x :: st) S c1 c2 = (zrun Rc Rs Q Γ blk X n rest (zst1 i (.int x) L) st S c1 c2) := (zq_istore).trans rfl
theorem wzq_istore_n0 {x : Int32} : zrun Rc Rs Q Γ blk X (n + 1) ((pc, .istore_n 0, inf) :: rest) L (.int x :: st) S c1 c2 = (zrun Rc Rs Q Γ blk X n rest (zst1 0 (.int x) L) st S c1 c2) := (zq_istore_n0).trans rfl
theorem wzq_istore_n1 {x : Int32} : zrun Rc Rs Q Γ blk X (n + 1) ((pc, .istore_n 1, inf) :: rest) L (.int x :: st) S c1 c2 = (zrun Rc Rs Q Γ blk X n rest (zst1 1 (.int x) L) st S c1 c2) := (zq_istore_n1).trans rfl
theorem wzq_istore_n2 {x : Int32} : zrun Rc Rs Q Γ blk X (n + 1) ((pc, .istore_n 2, inf) :: rest) L (.int x :: st) S c1 c2 = (zrun Rc Rs Q Γ blk X n rest (zst1 2 (.int x) L) st S c1 c2) := (zq_istore_n2).trans rfl
theorem wzq_istore_n3 {x : Int32} : zrun Rc Rs Q Γ blk X (n + 1) ((pc, .istore_n 3, inf) :: rest) L (.int x :: st) S c1 c2 = (zrun Rc Rs Q Γ blk X n rest (zst1 3 (.int x) L) st S c1 c2) := (zq_istore_n3).trans rfl
theorem wzq_lstore {i : Nat} {x : Int64} : zrun Rc Rs Q Γ blk X (n + 1) ((pc, .lstore i, inf) :: rest) L (.long x :: st) S c1 c2 = (zrun Rc Rs Q Γ blk X n rest (zst2 i (.long x) L) st S c1 c2) := (zq_lstore).trans rfl
theorem wzq_lstore_n0 {x : Int64} : zrun Rc Rs Q Γ blk X (n + 1) ((pc, .lstore_n 0, inf) :: rest) L (.long x :: st) S c1 c2 = (zrun Rc Rs Q Γ blk X n rest (zst2 0 (.long x) L) st S c1 c2) := (zq_lstore_n0).trans rfl
theorem wzq_lstore_n1 {x : Int64} : zrun Rc Rs Q Γ blk X (n + 1) ((pc, .lstore_n 1, inf) :: rest) L (.long x :: st) S c1 c2 = (zrun Rc Rs Q Γ blk X n rest (zst2 1 (.long x) L) st S c1 c2) := (zq_lstore_n1).trans rfl
theorem wzq_lstore_n2 {x : Int64} : zrun Rc Rs Q Γ blk X (n + 1) ((pc, .lstore_n 2, inf) :: rest) L (.long x :: st) S c1 c2 = (zrun Rc Rs Q Γ blk X n rest (zst2 2 (.long x) L) st S c1 c2) := (zq_lstore_n2).trans rfl
theorem wzq_lstore_n3 {x : Int64} : zrun Rc Rs Q Γ blk X (n + 1) ((pc, .lstore_n 3, inf) :: rest) L (.long x :: st) S c1 c2 = (zrun Rc Rs Q Γ blk X n rest (zst2 3 (.long x) L) st S c1 c2) := (zq_lstore_n3).trans rfl
theorem wzq_dstore {i : Nat} {x : UInt64} : zrun Rc Rs Q Γ blk X (n + 1) ((pc, .dstore i, inf) :: rest) L (.double x :: st) S c1 c2 = (zrun Rc Rs Q Γ blk X n rest (zst2 i (.double x) L) st S c1 c2) := (zq_dstore).trans rfl
theorem wzq_dstore_n0 {x : UInt64} : zrun Rc Rs Q Γ blk X (n + 1) ((pc, .dstore_n 0, inf) :: rest) L (.double x :: st) S c1 c2 = (zrun Rc Rs Q Γ blk X n rest (zst2 0 (.double x) L) st S c1 c2) := (zq_dstore_n0).trans rfl
theorem wzq_dstore_n1 {x : UInt64} : zrun Rc Rs Q Γ blk X (n + 1) ((pc, .dstore_n 1, inf) :: rest) L (.double x :: st) S c1 c2 = (zrun Rc Rs Q Γ blk X n rest (zst2 1 (.double x) L) st S c1 c2) := (zq_dstore_n1).trans rfl
theorem wzq_dstore_n2 {x : UInt64} : zrun Rc Rs Q Γ blk X (n + 1) ((pc, .dstore_n 2, inf) :: rest) L (.double x :: st) S c1 c2 = (zrun Rc Rs Q Γ blk X n rest (zst2 2 (.double x) L) st S c1 c2) := (zq_dstore_n2).trans rfl
theorem wzq_dstore_n3 {x : UInt64} : zrun Rc Rs Q Γ blk X (n + 1) ((pc, .dstore_n 3, inf) :: rest) L (.double x :: st) S c1 c2 = (zrun Rc Rs Q Γ blk X n rest (zst2 3 (.double x) L) st S c1 c2) := (zq_dstore_n3).trans rfl
theorem wzq_astore {i : Nat} {v : Value} : zrun Rc Rs Q Γ blk X (n + 1) ((pc, .astore i, inf) :: rest) L (v :: st) S c1 c2 = (zref v ∧ zrun Rc Rs Q Γ blk X n rest (zst1 i v L) st S c1 c2) := (zq_astore).trans rfl
theorem wzq_astore_n0 {v : Value} : zrun Rc Rs Q Γ blk X (n + 1) ((pc, .astore_n 0, inf) :: rest) L (v :: st) S c1 c2 = (zref v ∧ zrun Rc Rs Q Γ blk X n rest (zst1 0 v L) st S c1 c2) := (zq_astore_n0).trans rfl
theorem wzq_astore_n1 {v : Value} : zrun Rc Rs Q Γ blk X (n + 1) ((pc, .astore_n 1, inf) :: rest) L (v :: st) S c1 c2 = (zref v ∧ zrun Rc Rs Q Γ blk X n rest (zst1 1 v L) st S c1 c2) := (zq_astore_n1).trans rfl
theorem wzq_astore_n2 {v : Value} : zrun Rc Rs Q Γ blk X (n + 1) ((pc, .astore_n 2, inf) :: rest) L (v :: st) S c1 c2 = (zref v ∧ zrun Rc Rs Q Γ blk X n rest (zst1 2 v L) st S c1 c2) := (zq_astore_n2).trans rfl
theorem wzq_astore_n3 {v : Value} : zrun Rc Rs Q Γ blk X (n + 1) ((pc, .astore_n 3, inf) :: rest) L (v :: st) S c1 c2 = (zref v ∧ zrun Rc Rs Q Γ blk X n rest (zst1 3 v L) st S c1 c2) := (zq_astore_n3).trans rfl
theorem wzq_iinc {i b : Nat} {k : Int} : zrun Rc Rs Q Γ blk X (n + 1) ((pc, .iinc i k, [b]) :: rest) L st S c1 c2 = (zoI (znth i L) fun x => zrun Rc Rs Q Γ blk X n rest (zst1 i (.int (x + nI b)) L) st S c1 c2) := (zq_iinc).trans rfl
theorem wzq_iadd {x y : Int32} : zrun Rc Rs Q Γ blk X (n + 1) ((pc, .iadd, inf) :: rest) L (.int y :: .int x :: st) S c1 c2 = (zrun Rc Rs Q Γ blk X n rest L (.int (x + y) :: st) S c1 c2) := (zq_iadd).trans rfl
theorem wzq_isub {x y : Int32} : zrun Rc Rs Q Γ blk X (n + 1) ((pc, .isub, inf) :: rest) L (.int y :: .int x :: st) S c1 c2 = (zrun Rc Rs Q Γ blk X n rest L (.int (x - y) :: st) S c1 c2) := (zq_isub).trans rfl
theorem wzq_imul {x y : Int32} : zrun Rc Rs Q Γ blk X (n + 1) ((pc, .imul, inf) :: rest) L (.int y :: .int x :: st) S c1 c2 = (zrun Rc Rs Q Γ blk X n rest L (.int (x * y) :: st) S c1 c2) := (zq_imul).trans rfl
theorem wzq_iand {x y : Int32} : zrun Rc Rs Q Γ blk X (n + 1) ((pc, .iand, inf) :: rest) L (.int y :: .int x :: st) S c1 c2 = (zrun Rc Rs Q Γ blk X n rest L (.int (x &&& y) :: st) S c1 c2) := (zq_iand).trans rfl
theorem wzq_ior {x y : Int32} : zrun Rc Rs Q Γ blk X (n + 1) ((pc, .ior, inf) :: rest) L (.int y :: .int x :: st) S c1 c2 = (zrun Rc Rs Q Γ blk X n rest L (.int (x ||| y) :: st) S c1 c2) := (zq_ior).trans rfl
theorem wzq_ishr {x y : Int32} : zrun Rc Rs Q Γ blk X (n + 1) ((pc, .ishr, inf) :: rest) L (.int y :: .int x :: st) S c1 c2 = (zrun Rc Rs Q Γ blk X n rest L (.int (x >>> (y &&& 31)) :: st) S c1 c2) := (zq_ishr).trans rfl
theorem wzq_iushr {x y : Int32} : zrun Rc Rs Q Γ blk X (n + 1) ((pc, .iushr, inf) :: rest) L (.int y :: .int x :: st) S c1 c2 = (zrun Rc Rs Q Γ blk X n rest L (.int ((x.toUInt32 >>> (y.toUInt32 &&& Int32.toUInt32 31)).toInt32) :: st) S c1 c2) := (zq_iushr).trans rfl
theorem wzq_idiv {x y : Int32} : zrun Rc Rs Q Γ blk X (n + 1) ((pc, .idiv, inf) :: rest) L (.int y :: .int x :: st) S c1 c2 = (¬ y = 0 ∧ zrun Rc Rs Q Γ blk X n rest L (.int (x / y) :: st) S c1 c2) := (zq_idiv).trans rfl
theorem wzq_irem {x y : Int32} : zrun Rc Rs Q Γ blk X (n + 1) ((pc, .irem, inf) :: rest) L (.int y :: .int x :: st) S c1 c2 = (¬ y = 0 ∧ zrun Rc Rs Q Γ blk X n rest L (.int (x - x / y * y) :: st) S c1 c2) := (zq_irem).trans rfl
theorem wzq_ineg {x : Int32} : zrun Rc Rs Q Γ blk X (n + 1) ((pc, .ineg, inf) :: rest) L (.int x :: st) S c1 c2 = (zrun Rc Rs Q Γ blk X n rest L (.int (-x) :: st) S c1 c2) := (zq_ineg).trans rfl
theorem wzq_ladd {x y : Int64} : zrun Rc Rs Q Γ blk X (n + 1) ((pc, .ladd, inf) :: rest) L (.long y :: .long x :: st) S c1 c2 = (zrun Rc Rs Q Γ blk X n rest L (.long (x + y) :: st) S c1 c2) := (zq_ladd).trans rfl
theorem wzq_lsub {x y : Int64} : zrun Rc Rs Q Γ blk X (n + 1) ((pc, .lsub, inf) :: rest) L (.long y :: .long x :: st) S c1 c2 = (zrun Rc Rs Q Γ blk X n rest L (.long (x - y) :: st) S c1 c2) := (zq_lsub).trans rfl
theorem wzq_lmul {x y : Int64} : zrun Rc Rs Q Γ blk X (n + 1) ((pc, .lmul, inf) :: rest) L (.long y :: .long x :: st) S c1 c2 = (zrun Rc Rs Q Γ blk X n rest L (.long (x * y) :: st) S c1 c2) := (zq_lmul).trans rfl
theorem wzq_land {x y : Int64} : zrun Rc Rs Q Γ blk X (n + 1) ((pc, .land, inf) :: rest) L (.long y :: .long x :: st) S c1 c2 = (zrun Rc Rs Q Γ blk X n rest L (.long (x &&& y) :: st) S c1 c2) := (zq_land).trans rfl
theorem wzq_lor {x y : Int64} : zrun Rc Rs Q Γ blk X (n + 1) ((pc, .lor, inf) :: rest) L (.long y :: .long x :: st) S c1 c2 = (zrun Rc Rs Q Γ blk X n rest L (.long (x ||| y) :: st) S c1 c2) := (zq_lor).trans rfl
theorem wzq_lxor {x y : Int64} : zrun Rc Rs Q Γ blk X (n + 1) ((pc, .lxor, inf) :: rest) L (.long y :: .long x :: st) S c1 c2 = (zrun Rc Rs Q Γ blk X n rest L (.long (x ^^^ y) :: st) S c1 c2) := (zq_lxor).trans rfl
theorem wzq_ldiv {x y : Int64} : zrun Rc Rs Q Γ blk X (n + 1) ((pc, .ldiv, inf) :: rest) L (.long y :: .long x :: st) S c1 c2 = (¬ y = 0 ∧ zrun Rc Rs Q Γ blk X n rest L (.long (x / y) :: st) S c1 c2) := (zq_ldiv).trans rfl
theorem wzq_lrem {x y : Int64} : zrun Rc Rs Q Γ blk X (n + 1) ((pc, .lrem, inf) :: rest) L (.long y :: .long x :: st) S c1 c2 = (¬ y = 0 ∧ zrun Rc Rs Q Γ blk X n rest L (.long (x - x / y * y) :: st) S c1 c2) := (zq_lrem).trans rfl
theorem wzq_lneg {x : Int64} : zrun Rc Rs Q Γ blk X (n + 1) ((pc, .lneg, inf) :: rest) L (.long x :: st) S c1 c2 = (zrun Rc Rs Q Γ blk X n rest L (.long (-x) :: st) S c1 c2) := (zq_lneg).trans rfl
theorem wzq_lshl {x : Int64} {y : Int32} : zrun Rc Rs Q Γ blk X (n + 1) ((pc, .lshl, inf) :: rest) L (.int y :: .long x :: st) S c1 c2 = (zrun Rc Rs Q Γ blk X n rest L (.long (x <<< (y.toInt64 &&& 63)) :: st) S c1 c2) := (zq_lshl).trans rfl
theorem wzq_lshr {x : Int64} {y : Int32} : zrun Rc Rs Q Γ blk X (n + 1) ((pc, .lshr, inf) :: rest) L (.int y :: .long x :: st) S c1 c2 = (zrun Rc Rs Q Γ blk X n rest L (.long (x >>> (y.toInt64 &&& 63)) :: st) S c1 c2) := (zq_lshr).trans rfl
theorem wzq_lushr {x : Int64} {y : Int32} : zrun Rc Rs Q Γ blk X (n + 1) ((pc, .lushr, inf) :: rest) L (.int y :: .long x :: st) S c1 c2 = (zrun Rc Rs Q Γ blk X n rest L (.long ((x.toUInt64 >>> (y.toInt64.toUInt64 &&& Int64.toUInt64 63)).toInt64) :: st) S c1 c2) := (zq_lushr).trans rfl
theorem wzq_i2l {x : Int32} : zrun Rc Rs Q Γ blk X (n + 1) ((pc, .i2l, inf) :: rest) L (.int x :: st) S c1 c2 = (zrun Rc Rs Q Γ blk X n rest L (.long x.toInt64 :: st) S c1 c2) := (zq_i2l).trans rfl
theorem wzq_l2i {x : Int64} : zrun Rc Rs Q Γ blk X (n + 1) ((pc, .l2i, inf) :: rest) L (.long x :: st) S c1 c2 = (zrun Rc Rs Q Γ blk X n rest L (.int x.toInt32 :: st) S c1 c2) := (zq_l2i).trans rfl
theorem wzq_lcmp {x y : Int64} : zrun Rc Rs Q Γ blk X (n + 1) ((pc, .lcmp, inf) :: rest) L (.long y :: .long x :: st) S c1 c2 = (zrun Rc Rs Q Γ blk X n rest L (.int (lg_cmp x y) :: st) S c1 c2) := (zq_lcmp).trans rfl
theorem wzq_dcmp {x y : UInt64} {op : CmpOp} : zrun Rc Rs Q Γ blk X (n + 1) ((pc, .dcmp op, inf) :: rest) L (.double y :: .double x :: st) S c1 c2 = (zrun Rc Rs Q Γ blk X n rest L (.int (Op.cmpValue (FP.dcmp x y) op) :: st) S c1 c2) := (zq_dcmp).trans rfl
theorem wzq_dadd {x y : UInt64} : zrun Rc Rs Q Γ blk X (n + 1) ((pc, .dadd, inf) :: rest) L (.double y :: .double x :: st) S c1 c2 = (vf_n64 (FP.dadd x y) ∧ zrun Rc Rs Q Γ blk X n rest L (.double (FP.dadd x y) :: st) S c1 c2) := (zq_dadd).trans rfl
theorem wzq_dsub {x y : UInt64} : zrun Rc Rs Q Γ blk X (n + 1) ((pc, .dsub, inf) :: rest) L (.double y :: .double x :: st) S c1 c2 = (vf_n64 (FP.dsub x y) ∧ zrun Rc Rs Q Γ blk X n rest L (.double (FP.dsub x y) :: st) S c1 c2) := (zq_dsub).trans rfl
theorem wzq_dmul {x y : UInt64} : zrun Rc Rs Q Γ blk X (n + 1) ((pc, .dmul, inf) :: rest) L (.double y :: .double x :: st) S c1 c2 = (vf_n64 (FP.dmul x y) ∧ zrun Rc Rs Q Γ blk X n rest L (.double (FP.dmul x y) :: st) S c1 c2) := (zq_dmul).trans rfl
theorem wzq_ddiv {x y : UInt64} : zrun Rc Rs Q Γ blk X (n + 1) ((pc, .ddiv, inf) :: rest) L (.double y :: .double x :: st) S c1 c2 = (vf_n64 (FP.ddiv x y) ∧ zrun Rc Rs Q Γ blk X n rest L (.double (FP.ddiv x y) :: st) S c1 c2) := (zq_ddiv).trans rfl
theorem wzq_dneg {x : UInt64} : zrun Rc Rs Q Γ blk X (n + 1) ((pc, .dneg, inf) :: rest) L (.double x :: st) S c1 c2 = (zrun Rc Rs Q Γ blk X n rest L (.double (FP.dneg x) :: st) S c1 c2) := (zq_dneg).trans rfl
theorem wzq_dup {v : Value} : zrun Rc Rs Q Γ blk X (n + 1) ((pc, .dup, inf) :: rest) L (v :: st) S c1 c2 = (v.category = 1 ∧ zrun Rc Rs Q Γ blk X n rest L (v :: v :: st) S c1 c2) := (zq_dup).trans rfl
theorem wzq_pop {v : Value} : zrun Rc Rs Q Γ blk X (n + 1) ((pc, .pop, inf) :: rest) L (v :: st) S c1 c2 = (v.category = 1 ∧ zrun Rc Rs Q Γ blk X n rest L st S c1 c2) := (zq_pop).trans rfl
theorem wzq_pop2 {v : Value} : zrun Rc Rs Q Γ blk X (n + 1) ((pc, .pop2, inf) :: rest) L (v :: st) S c1 c2 = (v.category = 2 ∧ zrun Rc Rs Q Γ blk X n rest L st S c1 c2) := (zq_pop2).trans rfl
theorem wzq_dup2J {x : Int64} : zrun Rc Rs Q Γ blk X (n + 1) ((pc, .dup2, inf) :: rest) L (.long x :: st) S c1 c2 = (zrun Rc Rs Q Γ blk X n rest L (.long x :: .long x :: st) S c1 c2) := (zq_dup2J).trans rfl
theorem wzq_dup2D {x : UInt64} : zrun Rc Rs Q Γ blk X (n + 1) ((pc, .dup2, inf) :: rest) L (.double x :: st) S c1 c2 = (zrun Rc Rs Q Γ blk X n rest L (.double x :: .double x :: st) S c1 c2) := (zq_dup2D).trans rfl
theorem wzq_dup2I {x : Int32} {v : Value} : zrun Rc Rs Q Γ blk X (n + 1) ((pc, .dup2, inf) :: rest) L (.int x :: v :: st) S c1 c2 = (Value.category (.int x) = 1 ∧ v.category = 1 ∧ zrun Rc Rs Q Γ blk X n rest L (.int x :: v :: .int x :: v :: st) S c1 c2) := (zq_dup2I).trans rfl
theorem wzq_goto0 {k : Int} {t : Nat} : zrun Rc Rs Q Γ blk X (n + 1) ((pc, .goto k, [t, 0]) :: rest) L st S c1 c2 = (zrun Rc Rs Q Γ blk X n (blk t) L st S c1 c2) := (zq_goto0).trans rfl
theorem wzq_goto1 {k : Int} {t : Nat} : zrun Rc Rs Q Γ blk X (n + 1) ((pc, .goto k, [t, 1]) :: rest) L st S c1 c2 = (X t L st S c1 c2) := (zq_goto1).trans rfl
theorem wzq_if_eq0 {x : Int32} {k : Int} {t : Nat} : zrun Rc Rs Q Γ blk X (n + 1) ((pc, .ifCond .eq k, [t, 0]) :: rest) L (.int x :: st) S c1 c2 = ((x = nI 0 → zrun Rc Rs Q Γ blk X n (blk t) L st S c1 c2) ∧ (¬ (x = nI 0) → zrun Rc Rs Q Γ blk X n rest L st S c1 c2)) := (zq_if_eq0).trans rfl
theorem wzq_if_eq1 {x : Int32} {k : Int} {t : Nat} : zrun Rc Rs Q Γ blk X (n + 1) ((pc, .ifCond .eq k, [t, 1]) :: rest) L (.int x :: st) S c1 c2 = ((x = nI 0 → X t L st S c1 c2) ∧ (¬ (x = nI 0) → zrun Rc Rs Q Γ blk X n rest L st S c1 c2)) := (zq_if_eq1).trans rfl
theorem wzq_icmp_eq0 {x y : Int32} {k : Int} {t : Nat} : zrun Rc Rs Q Γ blk X (n + 1) ((pc, .if_icmp .eq k, [t, 0]) :: rest) L (.int y :: .int x :: st) S c1 c2 = ((x = y → zrun Rc Rs Q Γ blk X n (blk t) L st S c1 c2) ∧ (¬ (x = y) → zrun Rc Rs Q Γ blk X n rest L st S c1 c2)) := (zq_icmp_eq0).trans rfl
theorem wzq_icmp_eq1 {x y : Int32} {k : Int} {t : Nat} : zrun Rc Rs Q Γ blk X (n + 1) ((pc, .if_icmp .eq k, [t, 1]) :: rest) L (.int y :: .int x :: st) S c1 c2 = ((x = y → X t L st S c1 c2) ∧ (¬ (x = y) → zrun Rc Rs Q Γ blk X n rest L st S c1 c2)) := (zq_icmp_eq1).trans rfl
theorem wzq_if_ne0 {x : Int32} {k : Int} {t : Nat} : zrun Rc Rs Q Γ blk X (n + 1) ((pc, .ifCond .ne k, [t, 0]) :: rest) L (.int x :: st) S c1 c2 = ((¬ x = nI 0 → zrun Rc Rs Q Γ blk X n (blk t) L st S c1 c2) ∧ (¬ (¬ x = nI 0) → zrun Rc Rs Q Γ blk X n rest L st S c1 c2)) := (zq_if_ne0).trans rfl
theorem wzq_if_ne1 {x : Int32} {k : Int} {t : Nat} : zrun Rc Rs Q Γ blk X (n + 1) ((pc, .ifCond .ne k, [t, 1]) :: rest) L (.int x :: st) S c1 c2 = ((¬ x = nI 0 → X t L st S c1 c2) ∧ (¬ (¬ x = nI 0) → zrun Rc Rs Q Γ blk X n rest L st S c1 c2)) := (zq_if_ne1).trans rfl
theorem wzq_icmp_ne0 {x y : Int32} {k : Int} {t : Nat} : zrun Rc Rs Q Γ blk X (n + 1) ((pc, .if_icmp .ne k, [t, 0]) :: rest) L (.int y :: .int x :: st) S c1 c2 = ((¬ x = y → zrun Rc Rs Q Γ blk X n (blk t) L st S c1 c2) ∧ (¬ (¬ x = y) → zrun Rc Rs Q Γ blk X n rest L st S c1 c2)) := (zq_icmp_ne0).trans rfl
theorem wzq_icmp_ne1 {x y : Int32} {k : Int} {t : Nat} : zrun Rc Rs Q Γ blk X (n + 1) ((pc, .if_icmp .ne k, [t, 1]) :: rest) L (.int y :: .int x :: st) S c1 c2 = ((¬ x = y → X t L st S c1 c2) ∧ (¬ (¬ x = y) → zrun Rc Rs Q Γ blk X n rest L st S c1 c2)) := (zq_icmp_ne1).trans rfl
theorem wzq_if_lt0 {x : Int32} {k : Int} {t : Nat} : zrun Rc Rs Q Γ blk X (n + 1) ((pc, .ifCond .lt k, [t, 0]) :: rest) L (.int x :: st) S c1 c2 = ((x < nI 0 → zrun Rc Rs Q Γ blk X n (blk t) L st S c1 c2) ∧ (¬ (x < nI 0) → zrun Rc Rs Q Γ blk X n rest L st S c1 c2)) := (zq_if_lt0).trans rfl
theorem wzq_if_lt1 {x : Int32} {k : Int} {t : Nat} : zrun Rc Rs Q Γ blk X (n + 1) ((pc, .ifCond .lt k, [t, 1]) :: rest) L (.int x :: st) S c1 c2 = ((x < nI 0 → X t L st S c1 c2) ∧ (¬ (x < nI 0) → zrun Rc Rs Q Γ blk X n rest L st S c1 c2)) := (zq_if_lt1).trans rfl
theorem wzq_icmp_lt0 {x y : Int32} {k : Int} {t : Nat} : zrun Rc Rs Q Γ blk X (n + 1) ((pc, .if_icmp .lt k, [t, 0]) :: rest) L (.int y :: .int x :: st) S c1 c2 = ((x < y → zrun Rc Rs Q Γ blk X n (blk t) L st S c1 c2) ∧ (¬ (x < y) → zrun Rc Rs Q Γ blk X n rest L st S c1 c2)) := (zq_icmp_lt0).trans rfl
theorem wzq_icmp_lt1 {x y : Int32} {k : Int} {t : Nat} : zrun Rc Rs Q Γ blk X (n + 1) ((pc, .if_icmp .lt k, [t, 1]) :: rest) L (.int y :: .int x :: st) S c1 c2 = ((x < y → X t L st S c1 c2) ∧ (¬ (x < y) → zrun Rc Rs Q Γ blk X n rest L st S c1 c2)) := (zq_icmp_lt1).trans rfl
theorem wzq_if_ge0 {x : Int32} {k : Int} {t : Nat} : zrun Rc Rs Q Γ blk X (n + 1) ((pc, .ifCond .ge k, [t, 0]) :: rest) L (.int x :: st) S c1 c2 = ((nI 0 ≤ x → zrun Rc Rs Q Γ blk X n (blk t) L st S c1 c2) ∧ (¬ (nI 0 ≤ x) → zrun Rc Rs Q Γ blk X n rest L st S c1 c2)) := (zq_if_ge0).trans rfl
theorem wzq_if_ge1 {x : Int32} {k : Int} {t : Nat} : zrun Rc Rs Q Γ blk X (n + 1) ((pc, .ifCond .ge k, [t, 1]) :: rest) L (.int x :: st) S c1 c2 = ((nI 0 ≤ x → X t L st S c1 c2) ∧ (¬ (nI 0 ≤ x) → zrun Rc Rs Q Γ blk X n rest L st S c1 c2)) := (zq_if_ge1).trans rfl
theorem wzq_icmp_ge0 {x y : Int32} {k : Int} {t : Nat} : zrun Rc Rs Q Γ blk X (n + 1) ((pc, .if_icmp .ge k, [t, 0]) :: rest) L (.int y :: .int x :: st) S c1 c2 = ((y ≤ x → zrun Rc Rs Q Γ blk X n (blk t) L st S c1 c2) ∧ (¬ (y ≤ x) → zrun Rc Rs Q Γ blk X n rest L st S c1 c2)) := (zq_icmp_ge0).trans rfl
theorem wzq_icmp_ge1 {x y : Int32} {k : Int} {t : Nat} : zrun Rc Rs Q Γ blk X (n + 1) ((pc, .if_icmp .ge k, [t, 1]) :: rest) L (.int y :: .int x :: st) S c1 c2 = ((y ≤ x → X t L st S c1 c2) ∧ (¬ (y ≤ x) → zrun Rc Rs Q Γ blk X n rest L st S c1 c2)) := (zq_icmp_ge1).trans rfl
theorem wzq_if_gt0 {x : Int32} {k : Int} {t : Nat} : zrun Rc Rs Q Γ blk X (n + 1) ((pc, .ifCond .gt k, [t, 0]) :: rest) L (.int x :: st) S c1 c2 = ((nI 0 < x → zrun Rc Rs Q Γ blk X n (blk t) L st S c1 c2) ∧ (¬ (nI 0 < x) → zrun Rc Rs Q Γ blk X n rest L st S c1 c2)) := (zq_if_gt0).trans rfl
theorem wzq_if_gt1 {x : Int32} {k : Int} {t : Nat} : zrun Rc Rs Q Γ blk X (n + 1) ((pc, .ifCond .gt k, [t, 1]) :: rest) L (.int x :: st) S c1 c2 = ((nI 0 < x → X t L st S c1 c2) ∧ (¬ (nI 0 < x) → zrun Rc Rs Q Γ blk X n rest L st S c1 c2)) := (zq_if_gt1).trans rfl
theorem wzq_icmp_gt0 {x y : Int32} {k : Int} {t : Nat} : zrun Rc Rs Q Γ blk X (n + 1) ((pc, .if_icmp .gt k, [t, 0]) :: rest) L (.int y :: .int x :: st) S c1 c2 = ((y < x → zrun Rc Rs Q Γ blk X n (blk t) L st S c1 c2) ∧ (¬ (y < x) → zrun Rc Rs Q Γ blk X n rest L st S c1 c2)) := (zq_icmp_gt0).trans rfl
theorem wzq_icmp_gt1 {x y : Int32} {k : Int} {t : Nat} : zrun Rc Rs Q Γ blk X (n + 1) ((pc, .if_icmp .gt k, [t, 1]) :: rest) L (.int y :: .int x :: st) S c1 c2 = ((y < x → X t L st S c1 c2) ∧ (¬ (y < x) → zrun Rc Rs Q Γ blk X n rest L st S c1 c2)) := (zq_icmp_gt1).trans rfl
theorem wzq_if_le0 {x : Int32} {k : Int} {t : Nat} : zrun Rc Rs Q Γ blk X (n + 1) ((pc, .ifCond .le k, [t, 0]) :: rest) L (.int x :: st) S c1 c2 = ((x ≤ nI 0 → zrun Rc Rs Q Γ blk X n (blk t) L st S c1 c2) ∧ (¬ (x ≤ nI 0) → zrun Rc Rs Q Γ blk X n rest L st S c1 c2)) := (zq_if_le0).trans rfl
theorem wzq_if_le1 {x : Int32} {k : Int} {t : Nat} : zrun Rc Rs Q Γ blk X (n + 1) ((pc, .ifCond .le k, [t, 1]) :: rest) L (.int x :: st) S c1 c2 = ((x ≤ nI 0 → X t L st S c1 c2) ∧ (¬ (x ≤ nI 0) → zrun Rc Rs Q Γ blk X n rest L st S c1 c2)) := (zq_if_le1).trans rfl
theorem wzq_icmp_le0 {x y : Int32} {k : Int} {t : Nat} : zrun Rc Rs Q Γ blk X (n + 1) ((pc, .if_icmp .le k, [t, 0]) :: rest) L (.int y :: .int x :: st) S c1 c2 = ((x ≤ y → zrun Rc Rs Q Γ blk X n (blk t) L st S c1 c2) ∧ (¬ (x ≤ y) → zrun Rc Rs Q Γ blk X n rest L st S c1 c2)) := (zq_icmp_le0).trans rfl
theorem wzq_icmp_le1 {x y : Int32} {k : Int} {t : Nat} : zrun Rc Rs Q Γ blk X (n + 1) ((pc, .if_icmp .le k, [t, 1]) :: rest) L (.int y :: .int x :: st) S c1 c2 = ((x ≤ y → X t L st S c1 c2) ∧ (¬ (x ≤ y) → zrun Rc Rs Q Γ blk X n rest L st S c1 c2)) := (zq_icmp_le1).trans rfl
theorem wzq_ifnull0 {k : Int} {t : Nat} : zrun Rc Rs Q Γ blk X (n + 1) ((pc, .ifnull k, [t, 0]) :: rest) L (.null :: st) S c1 c2 = (zrun Rc Rs Q Γ blk X n (blk t) L st S c1 c2) := (zq_ifnull0 (a := 0)).trans rfl
theorem wzq_ifnull1 {k : Int} {t : Nat} : zrun Rc Rs Q Γ blk X (n + 1) ((pc, .ifnull k, [t, 1]) :: rest) L (.null :: st) S c1 c2 = (X t L st S c1 c2) := (zq_ifnull1 (a := 0)).trans rfl
theorem wzq_ifnull_a {k : Int} {t a : Nat} : zrun Rc Rs Q Γ blk X (n + 1) ((pc, .ifnull k, [t, 0]) :: rest) L (.ref a :: st) S c1 c2 = (zrun Rc Rs Q Γ blk X n rest L st S c1 c2) := (zq_ifnull_a).trans rfl
theorem wzq_ifnull_b {k : Int} {t a : Nat} : zrun Rc Rs Q Γ blk X (n + 1) ((pc, .ifnull k, [t, 1]) :: rest) L (.ref a :: st) S c1 c2 = (zrun Rc Rs Q Γ blk X n rest L st S c1 c2) := (zq_ifnull_b).trans rfl
theorem wzq_ifnonnull0 {k : Int} {t a : Nat} : zrun Rc Rs Q Γ blk X (n + 1) ((pc, .ifnonnull k, [t, 0]) :: rest) L (.ref a :: st) S c1 c2 = (zrun Rc Rs Q Γ blk X n (blk t) L st S c1 c2) := (zq_ifnonnull0).trans rfl
theorem wzq_ifnonnull1 {k : Int} {t a : Nat} : zrun Rc Rs Q Γ blk X (n + 1) ((pc, .ifnonnull k, [t, 1]) :: rest) L (.ref a :: st) S c1 c2 = (X t L st S c1 c2) := (zq_ifnonnull1).trans rfl
theorem wzq_ifnonnull_a {k : Int} {t : Nat} : zrun Rc Rs Q Γ blk X (n + 1) ((pc, .ifnonnull k, [t, 0]) :: rest) L (.null :: st) S c1 c2 = (zrun Rc Rs Q Γ blk X n rest L st S c1 c2) := (zq_ifnonnull_a (a := 0)).trans rfl
theorem wzq_ifnonnull_b {k : Int} {t : Nat} : zrun Rc Rs Q Γ blk X (n + 1) ((pc, .ifnonnull k, [t, 1]) :: rest) L (.null :: st) S c1 c2 = (zrun Rc Rs Q Γ blk X n rest L st S c1 c2) := (zq_ifnonnull_b (a := 0)).trans rfl
theorem wzq_table {x : Int32} {d lo hi : Int} {offs : Array Int} {t : Nat} {ts : List Nat} : zrun Rc Rs Q Γ blk X (n + 1) ((pc, .tableswitch d lo hi offs, (t :: ts)) :: rest) L (.int x :: st) S c1 c2 = (zsw x.toInt (fun t => zrun Rc Rs Q Γ blk X n (blk t) L st S c1 c2) lo ts ∧ (x.toInt < lo ∨ hi < x.toInt → zrun Rc Rs Q Γ blk X n (blk t) L st S c1 c2)) := (zq_table).trans rfl
theorem wzq_getfield {a i j k : Nat} : zrun Rc Rs Q Γ blk X (n + 1) ((pc, .getfield k, [i, j]) :: rest) L (.ref a :: st) S c1 c2 = ((zSh S a).1 = i ∧ zrun Rc Rs Q Γ blk X n rest L (zfv (zYX i j) S a j :: st) S c1 c2) := (zq_getfield).trans rfl
theorem wzq_putfield {a i j k : Nat} {v : Value} : zrun Rc Rs Q Γ blk X (n + 1) ((pc, .putfield k, [i, j]) :: rest) L (v :: .ref a :: st) S c1 c2 = ((zSh S a).1 = i ∧ zput (zYX i j) v S a j fun S' => zrun Rc Rs Q Γ blk X n rest L st S' c1 c2) := (zq_putfield).trans rfl
theorem wzq_alen {a : Nat} : zrun Rc Rs Q Γ blk X (n + 1) ((pc, .arraylength, inf) :: rest) L (.ref a :: st) S c1 c2 = ((20 ≤ (zSh S a).1 ∧ (zSh S a).1 ≤ 28) ∧ zrun Rc Rs Q Γ blk X n rest L (.int (nI (zSh S a).2) :: st) S c1 c2) := (zq_alen).trans rfl
theorem wzq_iaload {a : Nat} {i : Int32} : zrun Rc Rs Q Γ blk X (n + 1) ((pc, .iaload, inf) :: rest) L (.int i :: .ref a :: st) S c1 c2 = (zinI S a i ∧ zrun Rc Rs Q Γ blk X n rest L (.int (zI S a (zix i)) :: st) S c1 c2) := (zq_iaload).trans rfl
theorem wzq_baload {a : Nat} {i : Int32} : zrun Rc Rs Q Γ blk X (n + 1) ((pc, .baload, inf) :: rest) L (.int i :: .ref a :: st) S c1 c2 = (zin S a 21 i ∧ zrun Rc Rs Q Γ blk X n rest L (.int (zI S a (zix i)) :: st) S c1 c2) := (zq_baload).trans rfl
theorem wzq_laload {a : Nat} {i : Int32} : zrun Rc Rs Q Γ blk X (n + 1) ((pc, .laload, inf) :: rest) L (.int i :: .ref a :: st) S c1 c2 = (zin S a 22 i ∧ zrun Rc Rs Q Γ blk X n rest L (.long (zJ S a (zix i)) :: st) S c1 c2) := (zq_laload).trans rfl
theorem wzq_daload {a : Nat} {i : Int32} : zrun Rc Rs Q Γ blk X (n + 1) ((pc, .daload, inf) :: rest) L (.int i :: .ref a :: st) S c1 c2 = (zin S a 23 i ∧ zrun Rc Rs Q Γ blk X n rest L (.double (zD S a (zix i)) :: st) S c1 c2) := (zq_daload).trans rfl
theorem wzq_aaload {a : Nat} {i : Int32} : zrun Rc Rs Q Γ blk X (n + 1) ((pc, .aaload, inf) :: rest) L (.int i :: .ref a :: st) S c1 c2 = (zinR S a i ∧ zrun Rc Rs Q Γ blk X n rest L (va_rf (zR S a (zix i)) :: st) S c1 c2) := (zq_aaload).trans rfl
theorem wzq_iastore {a : Nat} {i x : Int32} : zrun Rc Rs Q Γ blk X (n + 1) ((pc, .iastore, inf) :: rest) L (.int x :: .int i :: .ref a :: st) S c1 c2 = (zin S a 20 i ∧ zrun Rc Rs Q Γ blk X n rest L st (zsI S a (zix i) x) c1 c2) := (zq_iastore).trans rfl
theorem wzq_bastore {a : Nat} {i x : Int32} : zrun Rc Rs Q Γ blk X (n + 1) ((pc, .bastore, inf) :: rest) L (.int x :: .int i :: .ref a :: st) S c1 c2 = (zin S a 21 i ∧ (x = 0 ∨ x = 1) ∧ zrun Rc Rs Q Γ blk X n rest L st (zsI S a (zix i) x) c1 c2) := (zq_bastore).trans rfl
theorem wzq_lastore {a : Nat} {i : Int32} {x : Int64} : zrun Rc Rs Q Γ blk X (n + 1) ((pc, .lastore, inf) :: rest) L (.long x :: .int i :: .ref a :: st) S c1 c2 = (zin S a 22 i ∧ zrun Rc Rs Q Γ blk X n rest L st (zsJ S a (zix i) x) c1 c2) := (zq_lastore).trans rfl
theorem wzq_dastore {a : Nat} {i : Int32} {x : UInt64} : zrun Rc Rs Q Γ blk X (n + 1) ((pc, .dastore, inf) :: rest) L (.double x :: .int i :: .ref a :: st) S c1 c2 = (zin S a 23 i ∧ zrun Rc Rs Q Γ blk X n rest L st (zsD S a (zix i) x) c1 c2) := (zq_dastore).trans rfl
theorem wzq_aastore {a v : Nat} {i : Int32} : zrun Rc Rs Q Γ blk X (n + 1) ((pc, .aastore, inf) :: rest) L (.ref v :: .int i :: .ref a :: st) S c1 c2 = (zinR S a i ∧ (zSh S v).1 = zCo (zSh S a).1 ∧ zrun Rc Rs Q Γ blk X n rest L st (zsR S a (zix i) (some v)) c1 c2) := (zq_aastore).trans rfl
theorem wzq_new {i k : Nat} : zrun Rc Rs Q Γ blk X (n + 1) ((pc, .new k, [i]) :: rest) L st S c1 c2 = (c1 + 1 ≤ Rc ∧ c2 + zNX i ≤ Rs ∧ zrun Rc Rs Q Γ blk X n rest L (.ref (zNx S) :: st) (zsN S i 0) (c1 + 1) (c2 + zNX i)) := (zq_new).trans rfl
theorem wzq_newarray {k : ArrayType} {x : Int32} {i : Nat} : zrun Rc Rs Q Γ blk X (n + 1) ((pc, .newarray k, [i]) :: rest) L (.int x :: st) S c1 c2 = (¬ x < 0 ∧ zix x * 8 ≤ 536870912 ∧ c1 + 1 ≤ Rc ∧ c2 + zix x ≤ Rs ∧ zrun Rc Rs Q Γ blk X n rest L (.ref (zNx S) :: st) (zsN S i (zix x)) (c1 + 1) (c2 + zix x)) := (zq_newarray).trans rfl
theorem wzq_anewarray {k : Nat} {x : Int32} {i : Nat} : zrun Rc Rs Q Γ blk X (n + 1) ((pc, .anewarray k, [i]) :: rest) L (.int x :: st) S c1 c2 = (¬ x < 0 ∧ zix x * 8 ≤ 536870912 ∧ c1 + 1 ≤ Rc ∧ c2 + zix x ≤ Rs ∧ zrun Rc Rs Q Γ blk X n rest L (.ref (zNx S) :: st) (zsN S i (zix x)) (c1 + 1) (c2 + zix x)) := (zq_anewarray).trans rfl
theorem wzq_d2l {k : Nat} {x : UInt64} : zrun Rc Rs Q Γ blk X (n + 1) ((pc, .invokestatic k, [100]) :: rest) L (.double x :: st) S c1 c2 = (zwt st ≤ 8 ∧ zrun Rc Rs Q Γ blk X n rest L (.long x.toInt64 :: st) S c1 c2) := (zq_d2l).trans rfl
theorem wzq_l2d {k : Nat} {x : Int64} : zrun Rc Rs Q Γ blk X (n + 1) ((pc, .invokestatic k, [101]) :: rest) L (.long x :: st) S c1 c2 = (zwt st ≤ 8 ∧ vn_snl2d x = false ∧ zrun Rc Rs Q Γ blk X n rest L (.double x.toUInt64 :: st) S c1 c2) := (zq_l2d).trans rfl
theorem wzq_mmax {k : Nat} {x y : Int32} : zrun Rc Rs Q Γ blk X (n + 1) ((pc, .invokestatic k, [102]) :: rest) L (.int y :: .int x :: st) S c1 c2 = (zwt st ≤ 8 ∧ c1 ≤ Rc ∧ c2 ≤ Rs ∧ zrun Rc Rs Q Γ blk X n rest L (.int (if x < y then y else x) :: st) S c1 c2) := (zq_mmax).trans rfl
theorem wzq_mmin {k : Nat} {x y : Int32} : zrun Rc Rs Q Γ blk X (n + 1) ((pc, .invokestatic k, [103]) :: rest) L (.int y :: .int x :: st) S c1 c2 = (zwt st ≤ 8 ∧ c1 ≤ Rc ∧ c2 ≤ Rs ∧ zrun Rc Rs Q Γ blk X n rest L (.int (if y < x then y else x) :: st) S c1 c2) := (zq_mmin).trans rfl
theorem wzq_mmaxl {k : Nat} {x y : Int64} : zrun Rc Rs Q Γ blk X (n + 1) ((pc, .invokestatic k, [105]) :: rest) L (.long y :: .long x :: st) S c1 c2 = (zwt st ≤ 8 ∧ c1 ≤ Rc ∧ c2 ≤ Rs ∧ zrun Rc Rs Q Γ blk X n rest L (.long (if y < x then x else y) :: st) S c1 c2) := (zq_mmaxl).trans rfl
theorem wzq_mabs {k : Nat} {x : Int32} : zrun Rc Rs Q Γ blk X (n + 1) ((pc, .invokestatic k, [104]) :: rest) L (.int x :: st) S c1 c2 = (zwt st ≤ 8 ∧ c1 ≤ Rc ∧ c2 ≤ Rs ∧ zrun Rc Rs Q Γ blk X n rest L (.int (if 0 ≤ x then x else 0 - x) :: st) S c1 c2) := (zq_mabs).trans rfl
theorem wzq_callV {k i m ci : Nat} : zrun Rc Rs Q Γ blk X (n + 1) ((pc, .invokevirtual k, [i, m, ci]) :: rest) L st S c1 c2 = (zpop m st [] fun as r => zA1 r fun a r => (zSh S a).1 = ci ∧ zwt r ≤ 8 ∧ zoc (zget Γ i) fun ct => c1 + ct.2.1 ≤ Rc ∧ c2 + ct.2.2 ≤ Rs ∧ ct.1 (.ref a :: as) S fun v S' => zrun Rc Rs Q Γ blk X n rest L (v.toList ++ r) S' (c1 + ct.2.1) (c2 + ct.2.2)) := (zq_callV).trans rfl
theorem wzq_objInit {k a : Nat} : zrun Rc Rs Q Γ blk X (n + 1) ((pc, .invokespecial k, []) :: rest) L (.ref a :: st) S c1 c2 = (zwt st ≤ 8 ∧ zrun Rc Rs Q Γ blk X n rest L st S c1 c2) := (zq_objInit).trans rfl
theorem wzq_callI {k i m : Nat} : zrun Rc Rs Q Γ blk X (n + 1) ((pc, .invokespecial k, [i, m]) :: rest) L st S c1 c2 = (zpop m st [] fun as r => zA1 r fun a r => zwt r ≤ 8 ∧ zoc (zget Γ i) fun ct => c1 + ct.2.1 ≤ Rc ∧ c2 + ct.2.2 ≤ Rs ∧ ct.1 (.ref a :: as) S fun v S' => zrun Rc Rs Q Γ blk X n rest L (v.toList ++ r) S' (c1 + ct.2.1) (c2 + ct.2.2)) := (zq_callI).trans rfl
theorem wzq_ireturn {x : Int32} : zrun Rc Rs Q Γ blk X (n + 1) ((pc, .ireturn, inf) :: rest) L [.int x] S c1 c2 = (Q (some (.int x)) S c1 c2) := (zq_ireturn).trans rfl
theorem wzq_lreturn {x : Int64} : zrun Rc Rs Q Γ blk X (n + 1) ((pc, .lreturn, inf) :: rest) L [.long x] S c1 c2 = (Q (some (.long x)) S c1 c2) := (zq_lreturn).trans rfl
theorem wzq_dreturn {x : UInt64} : zrun Rc Rs Q Γ blk X (n + 1) ((pc, .dreturn, inf) :: rest) L [.double x] S c1 c2 = (Q (some (.double x)) S c1 c2) := (zq_dreturn).trans rfl
theorem wzq_areturn {v : Value} : zrun Rc Rs Q Γ blk X (n + 1) ((pc, .areturn, inf) :: rest) L [v] S c1 c2 = (zref v ∧ Q (some v) S c1 c2) := (zq_areturn).trans rfl
theorem wzq_return : zrun Rc Rs Q Γ blk X (n + 1) ((pc, .return_, inf) :: rest) L [] S c1 c2 = (Q none S c1 c2) := (zq_return).trans rfl
theorem wzend_z {K : Option Value → zS → Prop} {mc ms c1 c2 : Nat} {x : Int32} {S : zS} : zend (some .boolean) K mc ms (some (.int x)) S c1 c2 = ((x = 0 ∨ x = 1) ∧ K (some (.int x)) S ∧ c1 ≤ mc ∧ c2 ≤ ms) := (zend_z).trans rfl
end ZW
