/-! a run of a method's code over the states, as a formula; cut marks stand where a row of one's own goes on -/
section ZRUN
/-- an instruction: its place, itself, what it resolves to -/
abbrev zE : Type := Nat × Instr × List Nat
/-- a contract: from where it may be called and what it leaves, as a transformer; cells and slots that it makes -/
abbrev zCt : Type := (List Value → zS → (Option Value → zS → Prop) → Prop) × Nat × Nat
def zdN (n : Nat) : UInt64 := UInt64.ofNat n
def zI1 (st : List Value) (f : Int32 → List Value → Prop) : Prop := match st with
  | .int x :: r => f x r
  | _ => False
def zI2 (st : List Value) (f : Int32 → Int32 → List Value → Prop) : Prop := match st with
  | .int y :: .int x :: r => f x y r
  | _ => False
def zJ1 (st : List Value) (f : Int64 → List Value → Prop) : Prop := match st with
  | .long x :: r => f x r
  | _ => False
def zJ2 (st : List Value) (f : Int64 → Int64 → List Value → Prop) : Prop := match st with
  | .long y :: .long x :: r => f x y r
  | _ => False
def zJI (st : List Value) (f : Int64 → Int32 → List Value → Prop) : Prop := match st with
  | .int y :: .long x :: r => f x y r
  | _ => False
def zD1 (st : List Value) (f : UInt64 → List Value → Prop) : Prop := match st with
  | .double x :: r => f x r
  | _ => False
def zD2 (st : List Value) (f : UInt64 → UInt64 → List Value → Prop) : Prop := match st with
  | .double y :: .double x :: r => f x y r
  | _ => False
def zV1 (st : List Value) (f : Value → List Value → Prop) : Prop := match st with
  | v :: r => f v r
  | _ => False
def zA1 (st : List Value) (f : Nat → List Value → Prop) : Prop := match st with
  | .ref a :: r => f a r
  | _ => False
/-- index and array -/
def zXA (st : List Value) (f : Int32 → Nat → List Value → Prop) : Prop := match st with
  | .int i :: .ref a :: r => f i a r
  | _ => False
/-- value, index, array -/
def zVXA (st : List Value) (f : Value → Int32 → Nat → List Value → Prop) : Prop := match st with
  | v :: .int i :: .ref a :: r => f v i a r
  | _ => False
def zVA (st : List Value) (f : Value → Nat → List Value → Prop) : Prop := match st with
  | v :: .ref a :: r => f v a r
  | _ => False
def zoI (o : Option Value) (f : Int32 → Prop) : Prop := match o with
  | some (.int x) => f x
  | _ => False
def zoJ (o : Option Value) (f : Int64 → Prop) : Prop := match o with
  | some (.long x) => f x
  | _ => False
def zoD (o : Option Value) (f : UInt64 → Prop) : Prop := match o with
  | some (.double x) => f x
  | _ => False
def zref : Value → Prop
  | .null => True
  | .ref _ => True
  | _ => False
def zoA (o : Option Value) (f : Value → Prop) : Prop := match o with
  | some v => zref v ∧ f v
  | none => False
def zoV (o : Option Value) (f : Value → Prop) : Prop := match o with
  | some v => f v
  | none => False
def zwt (st : List Value) : Nat := (st.map fun v => v.category).sum
def zpop : Nat → List Value → List Value → (List Value → List Value → Prop) → Prop
  | 0, st, acc, f => f acc st
  | n + 1, v :: st, acc, f => zpop n st (v :: acc) f
  | _ + 1, [], _, _ => False
def zget : List zCt → Nat → Option zCt
  | [], _ => none
  | a :: _, 0 => some a
  | _ :: l, n + 1 => zget l n
def zoc (o : Option zCt) (f : zCt → Prop) : Prop := match o with
  | some c => f c
  | none => False
def zcc (c : Jvm.ClassFile.Cond) (x y : Int32) : Prop := match c with
  | .eq => x = y
  | .ne => ¬ x = y
  | .lt => x < y
  | .ge => y ≤ x
  | .gt => y < x
  | .le => x ≤ y
def zsw (x : Int) (f : Nat → Prop) : Int → List Nat → Prop
  | _, [] => True
  | v, t :: ts => (x = v → f t) ∧ zsw x f (v + 1) ts
def zput (t : FieldType) (v : Value) (S : zS) (a k : Nat) (f : zS → Prop) : Prop := match t, v with
  | .int, .int x => f (zsI S a k x)
  | .boolean, .int x => (x = 0 ∨ x = 1) ∧ f (zsI S a k x)
  | .long, .long x => f (zsJ S a k x)
  | .double, .double x => f (zsD S a k x)
  | .object _, .null => f (zsR S a k none)
  | .object _, .ref b => f (zsR S a k (some b))
  | .array _, .null => f (zsR S a k none)
  | .array _, .ref b => f (zsR S a k (some b))
  | _, _ => False
def zix (i : Int32) : Nat := i.toNatClampNeg
/-- an array of that kind, and a place of it -/
def zin (S : zS) (a k : Nat) (i : Int32) : Prop := (zSh S a).1 = k ∧ vp_in i (zSh S a).2
def zinI (S : zS) (a : Nat) (i : Int32) : Prop := ((zSh S a).1 = 20 ∨ (zSh S a).1 = 28) ∧ vp_in i (zSh S a).2
def zinR (S : zS) (a : Nat) (i : Int32) : Prop := (24 ≤ (zSh S a).1 ∧ (zSh S a).1 ≤ 27) ∧ vp_in i (zSh S a).2
def zrefs (S : zS) (a : Nat) (v : Value) (f : Option Nat → Prop) : Prop := match v with
  | .ref b => (zSh S b).1 = zCo (zSh S a).1 ∧ f (some b)
  | _ => False
/-- the run: Q behind a return, X at a mark; Rc, Rs: cells and slots that there is room for -/
def zrun (Rc Rs : Nat) (Q : Option Value → zS → Nat → Nat → Prop) (Γ : List zCt) (blk : Nat → List zE) (X : Nat → List (Option Value) → List Value → zS → Nat → Nat → Prop) : Nat → List zE → List (Option Value) → List Value → zS → Nat → Nat → Prop
  | 0, _, _, _, _, _, _ => False
  | _ + 1, [], _, _, _, _, _ => False
  | n + 1, (pc, ins, inf) :: rest, L, st, S, c1, c2 =>
    match ins with
    | .nop => (match inf with
      | [] => X pc L st S c1 c2
      | _ => zrun Rc Rs Q Γ blk X n (blk pc) L st S c1 c2)
    | .aconst_null => zrun Rc Rs Q Γ blk X n rest L (.null :: st) S c1 c2
    | .iconst _ => zrun Rc Rs Q Γ blk X n rest L (.int (nI (inf.headD 0)) :: st) S c1 c2
    | .bipush _ => zrun Rc Rs Q Γ blk X n rest L (.int (nI (inf.headD 0)) :: st) S c1 c2
    | .sipush _ => zrun Rc Rs Q Γ blk X n rest L (.int (nI (inf.headD 0)) :: st) S c1 c2
    | .ldc _ => zrun Rc Rs Q Γ blk X n rest L (.int (nI (inf.headD 0)) :: st) S c1 c2
    | .ldc_w _ => zrun Rc Rs Q Γ blk X n rest L (.int (nI (inf.headD 0)) :: st) S c1 c2
    | .lconst _ => zrun Rc Rs Q Γ blk X n rest L (.long (lN (inf.headD 0)) :: st) S c1 c2
    | .dconst _ => zrun Rc Rs Q Γ blk X n rest L (.double (zdN (inf.headD 0)) :: st) S c1 c2
    | .ldc2_w _ => (match inf with
      | [x] => zrun Rc Rs Q Γ blk X n rest L (.long (lN x) :: st) S c1 c2
      | [x, _] => zrun Rc Rs Q Γ blk X n rest L (.double (zdN x) :: st) S c1 c2
      | _ => False)
    | .iload i => zoI (znth i L) fun x => zrun Rc Rs Q Γ blk X n rest L (.int x :: st) S c1 c2
    | .iload_n i => zoI (znth i.val L) fun x => zrun Rc Rs Q Γ blk X n rest L (.int x :: st) S c1 c2
    | .lload i => zoJ (znth i L) fun x => zrun Rc Rs Q Γ blk X n rest L (.long x :: st) S c1 c2
    | .lload_n i => zoJ (znth i.val L) fun x => zrun Rc Rs Q Γ blk X n rest L (.long x :: st) S c1 c2
    | .dload i => zoD (znth i L) fun x => zrun Rc Rs Q Γ blk X n rest L (.double x :: st) S c1 c2
    | .dload_n i => zoD (znth i.val L) fun x => zrun Rc Rs Q Γ blk X n rest L (.double x :: st) S c1 c2
    | .aload i => zoA (znth i L) fun x => zrun Rc Rs Q Γ blk X n rest L (x :: st) S c1 c2
    | .aload_n i => zoA (znth i.val L) fun x => zrun Rc Rs Q Γ blk X n rest L (x :: st) S c1 c2
    | .istore i => zI1 st fun x r => zrun Rc Rs Q Γ blk X n rest (zst1 i (.int x) L) r S c1 c2
    | .istore_n i => zI1 st fun x r => zrun Rc Rs Q Γ blk X n rest (zst1 i.val (.int x) L) r S c1 c2
    | .lstore i => zJ1 st fun x r => zrun Rc Rs Q Γ blk X n rest (zst2 i (.long x) L) r S c1 c2
    | .lstore_n i => zJ1 st fun x r => zrun Rc Rs Q Γ blk X n rest (zst2 i.val (.long x) L) r S c1 c2
    | .dstore i => zD1 st fun x r => zrun Rc Rs Q Γ blk X n rest (zst2 i (.double x) L) r S c1 c2
    | .dstore_n i => zD1 st fun x r => zrun Rc Rs Q Γ blk X n rest (zst2 i.val (.double x) L) r S c1 c2
    | .astore i => zV1 st fun x r => zref x ∧ zrun Rc Rs Q Γ blk X n rest (zst1 i x L) r S c1 c2
    | .astore_n i => zV1 st fun x r => zref x ∧ zrun Rc Rs Q Γ blk X n rest (zst1 i.val x L) r S c1 c2
    | .iinc i _ => zoI (znth i L) fun x => zrun Rc Rs Q Γ blk X n rest (zst1 i (.int (x + nI (inf.headD 0))) L) st S c1 c2
    | .iadd => zI2 st fun x y r => zrun Rc Rs Q Γ blk X n rest L (.int (x + y) :: r) S c1 c2
    | .isub => zI2 st fun x y r => zrun Rc Rs Q Γ blk X n rest L (.int (x - y) :: r) S c1 c2
    | .imul => zI2 st fun x y r => zrun Rc Rs Q Γ blk X n rest L (.int (x * y) :: r) S c1 c2
    | .idiv => zI2 st fun x y r => ¬ y = 0 ∧ zrun Rc Rs Q Γ blk X n rest L (.int (x / y) :: r) S c1 c2
    | .irem => zI2 st fun x y r => ¬ y = 0 ∧ zrun Rc Rs Q Γ blk X n rest L (.int (x - x / y * y) :: r) S c1 c2
    | .iand => zI2 st fun x y r => zrun Rc Rs Q Γ blk X n rest L (.int (x &&& y) :: r) S c1 c2
    | .ior => zI2 st fun x y r => zrun Rc Rs Q Γ blk X n rest L (.int (x ||| y) :: r) S c1 c2
    | .ishr => zI2 st fun x y r => zrun Rc Rs Q Γ blk X n rest L (.int (x >>> (y &&& 31)) :: r) S c1 c2
    | .iushr => zI2 st fun x y r => zrun Rc Rs Q Γ blk X n rest L (.int (x.toUInt32 >>> (y.toUInt32 &&& Int32.toUInt32 31)).toInt32 :: r) S c1 c2
    | .ineg => zI1 st fun x r => zrun Rc Rs Q Γ blk X n rest L (.int (-x) :: r) S c1 c2
    | .ladd => zJ2 st fun x y r => zrun Rc Rs Q Γ blk X n rest L (.long (x + y) :: r) S c1 c2
    | .lsub => zJ2 st fun x y r => zrun Rc Rs Q Γ blk X n rest L (.long (x - y) :: r) S c1 c2
    | .lmul => zJ2 st fun x y r => zrun Rc Rs Q Γ blk X n rest L (.long (x * y) :: r) S c1 c2
    | .ldiv => zJ2 st fun x y r => ¬ y = 0 ∧ zrun Rc Rs Q Γ blk X n rest L (.long (x / y) :: r) S c1 c2
    | .lrem => zJ2 st fun x y r => ¬ y = 0 ∧ zrun Rc Rs Q Γ blk X n rest L (.long (x - x / y * y) :: r) S c1 c2
    | .land => zJ2 st fun x y r => zrun Rc Rs Q Γ blk X n rest L (.long (x &&& y) :: r) S c1 c2
    | .lor => zJ2 st fun x y r => zrun Rc Rs Q Γ blk X n rest L (.long (x ||| y) :: r) S c1 c2
    | .lxor => zJ2 st fun x y r => zrun Rc Rs Q Γ blk X n rest L (.long (x ^^^ y) :: r) S c1 c2
    | .lneg => zJ1 st fun x r => zrun Rc Rs Q Γ blk X n rest L (.long (-x) :: r) S c1 c2
    | .lshl => zJI st fun x y r => zrun Rc Rs Q Γ blk X n rest L (.long (x <<< (y.toInt64 &&& 63)) :: r) S c1 c2
    | .lshr => zJI st fun x y r => zrun Rc Rs Q Γ blk X n rest L (.long (x >>> (y.toInt64 &&& 63)) :: r) S c1 c2
    | .lushr => zJI st fun x y r => zrun Rc Rs Q Γ blk X n rest L (.long (x.toUInt64 >>> (y.toInt64.toUInt64 &&& Int64.toUInt64 63)).toInt64 :: r) S c1 c2
    | .i2l => zI1 st fun x r => zrun Rc Rs Q Γ blk X n rest L (.long x.toInt64 :: r) S c1 c2
    | .l2i => zJ1 st fun x r => zrun Rc Rs Q Γ blk X n rest L (.int x.toInt32 :: r) S c1 c2
    | .lcmp => zJ2 st fun x y r => zrun Rc Rs Q Γ blk X n rest L (.int (lg_cmp x y) :: r) S c1 c2
    | .dcmp op => zD2 st fun x y r => zrun Rc Rs Q Γ blk X n rest L (.int (Op.cmpValue (FP.dcmp x y) op) :: r) S c1 c2
    | .dadd => zD2 st fun x y r => vf_n64 (FP.dadd x y) ∧ zrun Rc Rs Q Γ blk X n rest L (.double (FP.dadd x y) :: r) S c1 c2
    | .dsub => zD2 st fun x y r => vf_n64 (FP.dsub x y) ∧ zrun Rc Rs Q Γ blk X n rest L (.double (FP.dsub x y) :: r) S c1 c2
    | .dmul => zD2 st fun x y r => vf_n64 (FP.dmul x y) ∧ zrun Rc Rs Q Γ blk X n rest L (.double (FP.dmul x y) :: r) S c1 c2
    | .ddiv => zD2 st fun x y r => vf_n64 (FP.ddiv x y) ∧ zrun Rc Rs Q Γ blk X n rest L (.double (FP.ddiv x y) :: r) S c1 c2
    | .dneg => zD1 st fun x r => zrun Rc Rs Q Γ blk X n rest L (.double (FP.dneg x) :: r) S c1 c2
    | .dup => zV1 st fun v r => v.category = 1 ∧ zrun Rc Rs Q Γ blk X n rest L (v :: v :: r) S c1 c2
    | .dup2 => (match st with
      | .long x :: r => zrun Rc Rs Q Γ blk X n rest L (.long x :: .long x :: r) S c1 c2
      | .double x :: r => zrun Rc Rs Q Γ blk X n rest L (.double x :: .double x :: r) S c1 c2
      | v :: w :: r => v.category = 1 ∧ w.category = 1 ∧ zrun Rc Rs Q Γ blk X n rest L (v :: w :: v :: w :: r) S c1 c2
      | _ => False)
    | .pop => zV1 st fun v r => v.category = 1 ∧ zrun Rc Rs Q Γ blk X n rest L r S c1 c2
    | .pop2 => zV1 st fun v r => v.category = 2 ∧ zrun Rc Rs Q Γ blk X n rest L r S c1 c2
    | .goto _ => (match inf with
      | [t, 0] => zrun Rc Rs Q Γ blk X n (blk t) L st S c1 c2
      | [t, 1] => X t L st S c1 c2
      | _ => False)
    | .ifCond c _ => (match inf with
      | [t, 0] => zI1 st fun x r => (zcc c x (nI 0) → zrun Rc Rs Q Γ blk X n (blk t) L r S c1 c2) ∧ (¬ zcc c x (nI 0) → zrun Rc Rs Q Γ blk X n rest L r S c1 c2)
      | [t, 1] => zI1 st fun x r => (zcc c x (nI 0) → X t L r S c1 c2) ∧ (¬ zcc c x (nI 0) → zrun Rc Rs Q Γ blk X n rest L r S c1 c2)
      | _ => False)
    | .if_icmp c _ => (match inf with
      | [t, 0] => zI2 st fun x y r => (zcc c x y → zrun Rc Rs Q Γ blk X n (blk t) L r S c1 c2) ∧ (¬ zcc c x y → zrun Rc Rs Q Γ blk X n rest L r S c1 c2)
      | [t, 1] => zI2 st fun x y r => (zcc c x y → X t L r S c1 c2) ∧ (¬ zcc c x y → zrun Rc Rs Q Γ blk X n rest L r S c1 c2)
      | _ => False)
    | .ifnull _ => (match inf, st with
      | [t, 0], .null :: r => zrun Rc Rs Q Γ blk X n (blk t) L r S c1 c2
      | [t, 1], .null :: r => X t L r S c1 c2
      | _, .ref _ :: r => zrun Rc Rs Q Γ blk X n rest L r S c1 c2
      | _, _ => False)
    | .ifnonnull _ => (match inf, st with
      | [t, 0], .ref _ :: r => zrun Rc Rs Q Γ blk X n (blk t) L r S c1 c2
      | [t, 1], .ref _ :: r => X t L r S c1 c2
      | _, .null :: r => zrun Rc Rs Q Γ blk X n rest L r S c1 c2
      | _, _ => False)
    | .tableswitch _ lo hi _ => (match inf with
      | d :: ts => zI1 st fun x r => zsw x.toInt (fun t => zrun Rc Rs Q Γ blk X n (blk t) L r S c1 c2) lo ts ∧ (x.toInt < lo ∨ hi < x.toInt → zrun Rc Rs Q Γ blk X n (blk d) L r S c1 c2)
      | _ => False)
    | .getfield _ => zA1 st fun a r => (match inf with
      | [i, k] => (zSh S a).1 = i ∧ zrun Rc Rs Q Γ blk X n rest L (zfv (zYX i k) S a k :: r) S c1 c2
      | _ => False)
    | .putfield _ => zVA st fun v a r => (match inf with
      | [i, k] => (zSh S a).1 = i ∧ zput (zYX i k) v S a k fun S' => zrun Rc Rs Q Γ blk X n rest L r S' c1 c2
      | _ => False)
    | .arraylength => zA1 st fun a r => (20 ≤ (zSh S a).1 ∧ (zSh S a).1 ≤ 28) ∧ zrun Rc Rs Q Γ blk X n rest L (.int (nI (zSh S a).2) :: r) S c1 c2
    | .iaload => zXA st fun i a r => zinI S a i ∧ zrun Rc Rs Q Γ blk X n rest L (.int (zI S a (zix i)) :: r) S c1 c2
    | .baload => zXA st fun i a r => zin S a 21 i ∧ zrun Rc Rs Q Γ blk X n rest L (.int (zI S a (zix i)) :: r) S c1 c2
    | .laload => zXA st fun i a r => zin S a 22 i ∧ zrun Rc Rs Q Γ blk X n rest L (.long (zJ S a (zix i)) :: r) S c1 c2
    | .daload => zXA st fun i a r => zin S a 23 i ∧ zrun Rc Rs Q Γ blk X n rest L (.double (zD S a (zix i)) :: r) S c1 c2
    | .aaload => zXA st fun i a r => zinR S a i ∧ zrun Rc Rs Q Γ blk X n rest L (va_rf (zR S a (zix i)) :: r) S c1 c2
    | .iastore => zVXA st fun v i a r => (match v with
      | .int x => zin S a 20 i ∧ zrun Rc Rs Q Γ blk X n rest L r (zsI S a (zix i) x) c1 c2
      | _ => False)
    | .bastore => zVXA st fun v i a r => (match v with
      | .int x => zin S a 21 i ∧ (x = 0 ∨ x = 1) ∧ zrun Rc Rs Q Γ blk X n rest L r (zsI S a (zix i) x) c1 c2
      | _ => False)
    | .lastore => zVXA st fun v i a r => (match v with
      | .long x => zin S a 22 i ∧ zrun Rc Rs Q Γ blk X n rest L r (zsJ S a (zix i) x) c1 c2
      | _ => False)
    | .dastore => zVXA st fun v i a r => (match v with
      | .double x => zin S a 23 i ∧ zrun Rc Rs Q Γ blk X n rest L r (zsD S a (zix i) x) c1 c2
      | _ => False)
    | .aastore => zVXA st fun v i a r => zinR S a i ∧ zrefs S a v fun o => zrun Rc Rs Q Γ blk X n rest L r (zsR S a (zix i) o) c1 c2
    | .new _ => (match inf with
      | [i] => c1 + 1 ≤ Rc ∧ c2 + zNX i ≤ Rs ∧ zrun Rc Rs Q Γ blk X n rest L (.ref (zNx S) :: st) (zsN S i 0) (c1 + 1) (c2 + zNX i)
      | _ => False)
    | .newarray _ => zI1 st fun x r => ¬ x < 0 ∧ zix x * 8 ≤ 536870912 ∧ c1 + 1 ≤ Rc ∧ c2 + zix x ≤ Rs ∧ zrun Rc Rs Q Γ blk X n rest L (.ref (zNx S) :: r) (zsN S (inf.headD 0) (zix x)) (c1 + 1) (c2 + zix x)
    | .anewarray _ => zI1 st fun x r => ¬ x < 0 ∧ zix x * 8 ≤ 536870912 ∧ c1 + 1 ≤ Rc ∧ c2 + zix x ≤ Rs ∧ zrun Rc Rs Q Γ blk X n rest L (.ref (zNx S) :: r) (zsN S (inf.headD 0) (zix x)) (c1 + 1) (c2 + zix x)
    | .invokestatic _ => (match inf with
      | [100] => zD1 st fun x r => zwt r ≤ 8 ∧ zrun Rc Rs Q Γ blk X n rest L (.long x.toInt64 :: r) S c1 c2
      | [101] => zJ1 st fun x r => zwt r ≤ 8 ∧ vn_snl2d x = false ∧ zrun Rc Rs Q Γ blk X n rest L (.double x.toUInt64 :: r) S c1 c2
      | [102] => zI2 st fun x y r => zwt r ≤ 8 ∧ c1 ≤ Rc ∧ c2 ≤ Rs ∧ zrun Rc Rs Q Γ blk X n rest L (.int (if x < y then y else x) :: r) S c1 c2
      | [103] => zI2 st fun x y r => zwt r ≤ 8 ∧ c1 ≤ Rc ∧ c2 ≤ Rs ∧ zrun Rc Rs Q Γ blk X n rest L (.int (if y < x then y else x) :: r) S c1 c2
      | [104] => zI1 st fun x r => zwt r ≤ 8 ∧ c1 ≤ Rc ∧ c2 ≤ Rs ∧ zrun Rc Rs Q Γ blk X n rest L (.int (if 0 ≤ x then x else 0 - x) :: r) S c1 c2
      | [105] => zJ2 st fun x y r => zwt r ≤ 8 ∧ c1 ≤ Rc ∧ c2 ≤ Rs ∧ zrun Rc Rs Q Γ blk X n rest L (.long (if y < x then x else y) :: r) S c1 c2
      | [i, m] => zpop m st [] fun av r => zwt r ≤ 8 ∧ zoc (zget Γ i) fun ct => c1 + ct.2.1 ≤ Rc ∧ c2 + ct.2.2 ≤ Rs ∧ ct.1 av S fun v S' => zrun Rc Rs Q Γ blk X n rest L (v.toList ++ r) S' (c1 + ct.2.1) (c2 + ct.2.2)
      | _ => False)
    | .invokevirtual _ => (match inf with
      | [i, m, ci] => zpop m st [] fun as r => zA1 r fun a r => (zSh S a).1 = ci ∧ zwt r ≤ 8 ∧ zoc (zget Γ i) fun ct => c1 + ct.2.1 ≤ Rc ∧ c2 + ct.2.2 ≤ Rs ∧ ct.1 (.ref a :: as) S fun v S' => zrun Rc Rs Q Γ blk X n rest L (v.toList ++ r) S' (c1 + ct.2.1) (c2 + ct.2.2)
      | _ => False)
    | .invokespecial _ => (match inf with
      | [] => zA1 st fun _ r => zwt r ≤ 8 ∧ zrun Rc Rs Q Γ blk X n rest L r S c1 c2
      | [i, m] => zpop m st [] fun as r => zA1 r fun a r => zwt r ≤ 8 ∧ zoc (zget Γ i) fun ct => c1 + ct.2.1 ≤ Rc ∧ c2 + ct.2.2 ≤ Rs ∧ ct.1 (.ref a :: as) S fun v S' => zrun Rc Rs Q Γ blk X n rest L (v.toList ++ r) S' (c1 + ct.2.1) (c2 + ct.2.2)
      | _ => False)
    | .ireturn => (match st with
      | [.int x] => Q (some (.int x)) S c1 c2
      | _ => False)
    | .lreturn => (match st with
      | [.long x] => Q (some (.long x)) S c1 c2
      | _ => False)
    | .dreturn => (match st with
      | [.double x] => Q (some (.double x)) S c1 c2
      | _ => False)
    | .areturn => (match st with
      | [v] => zref v ∧ Q (some v) S c1 c2
      | _ => False)
    | .return_ => (match st with
      | [] => Q none S c1 c2
      | _ => False)
    | _ => False
end ZRUN
