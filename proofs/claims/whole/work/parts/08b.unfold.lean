/-! the rows by which a run is unfolded (written by wip/whole/gen/simp.py) -/
section ZQ
variable {Rc Rs : Nat} {Q : Option Value → zS → Nat → Nat → Prop} {Γ : List zCt} {blk : Nat → List zE} {X : Nat → List (Option Value) → List Value → zS → Nat → Nat → Prop} {n pc : Nat} {inf : List Nat} {rest : List zE} {L : List (Option Value)} {st : List Value} {S : zS} {c1 c2 : Nat}
theorem zq_nop : zrun Rc Rs Q Γ blk X (n + 1) ((pc, .nop, []) :: rest) L st S c1 c2 = (X pc L st S c1 c2) := rfl
theorem zq_nop0 {b : Nat} : zrun Rc Rs Q Γ blk X (n + 1) ((pc, .nop, [b]) :: rest) L st S c1 c2 = (zrun Rc Rs Q Γ blk X n (blk pc) L st S c1 c2) := rfl
theorem zq_null : zrun Rc Rs Q Γ blk X (n + 1) ((pc, .aconst_null, inf) :: rest) L st S c1 c2 = (zrun Rc Rs Q Γ blk X n rest L (.null :: st) S c1 c2) := rfl
theorem zq_iconst {k : Int} {b : Nat} : zrun Rc Rs Q Γ blk X (n + 1) ((pc, .iconst k, [b]) :: rest) L st S c1 c2 = (zrun Rc Rs Q Γ blk X n rest L (.int (nI b) :: st) S c1 c2) := rfl
theorem zq_bipush {k : Int} {b : Nat} : zrun Rc Rs Q Γ blk X (n + 1) ((pc, .bipush k, [b]) :: rest) L st S c1 c2 = (zrun Rc Rs Q Γ blk X n rest L (.int (nI b) :: st) S c1 c2) := rfl
theorem zq_sipush {k : Int} {b : Nat} : zrun Rc Rs Q Γ blk X (n + 1) ((pc, .sipush k, [b]) :: rest) L st S c1 c2 = (zrun Rc Rs Q Γ blk X n rest L (.int (nI b) :: st) S c1 c2) := rfl
theorem zq_ldc {k : Nat} {b : Nat} : zrun Rc Rs Q Γ blk X (n + 1) ((pc, .ldc k, [b]) :: rest) L st S c1 c2 = (zrun Rc Rs Q Γ blk X n rest L (.int (nI b) :: st) S c1 c2) := rfl
theorem zq_ldc_w {k : Nat} {b : Nat} : zrun Rc Rs Q Γ blk X (n + 1) ((pc, .ldc_w k, [b]) :: rest) L st S c1 c2 = (zrun Rc Rs Q Γ blk X n rest L (.int (nI b) :: st) S c1 c2) := rfl
theorem zq_lconst {k : Fin 2} {b : Nat} : zrun Rc Rs Q Γ blk X (n + 1) ((pc, .lconst k, [b]) :: rest) L st S c1 c2 = (zrun Rc Rs Q Γ blk X n rest L (.long (lN b) :: st) S c1 c2) := rfl
theorem zq_dconst {k : Fin 2} {b : Nat} : zrun Rc Rs Q Γ blk X (n + 1) ((pc, .dconst k, [b]) :: rest) L st S c1 c2 = (zrun Rc Rs Q Γ blk X n rest L (.double (zdN b) :: st) S c1 c2) := rfl
theorem zq_ldc2 {k b : Nat} : zrun Rc Rs Q Γ blk X (n + 1) ((pc, .ldc2_w k, [b]) :: rest) L st S c1 c2 = (zrun Rc Rs Q Γ blk X n rest L (.long (lN b) :: st) S c1 c2) := rfl
theorem zq_ldc2d {k b d : Nat} : zrun Rc Rs Q Γ blk X (n + 1) ((pc, .ldc2_w k, [b, d]) :: rest) L st S c1 c2 = (zrun Rc Rs Q Γ blk X n rest L (.double (zdN b) :: st) S c1 c2) := rfl
theorem zq_iload {i : Nat} : zrun Rc Rs Q Γ blk X (n + 1) ((pc, .iload i, inf) :: rest) L st S c1 c2 = (zoI (znth i L) fun x => zrun Rc Rs Q Γ blk X n rest L (.int x :: st) S c1 c2) := rfl
theorem zq_iload_n0 : zrun Rc Rs Q Γ blk X (n + 1) ((pc, .iload_n 0, inf) :: rest) L st S c1 c2 = (zoI (znth 0 L) fun x => zrun Rc Rs Q Γ blk X n rest L (.int x :: st) S c1 c2) := rfl
theorem zq_iload_n1 : zrun Rc Rs Q Γ blk X (n + 1) ((pc, .iload_n 1, inf) :: rest) L st S c1 c2 = (zoI (znth 1 L) fun x => zrun Rc Rs Q Γ blk X n rest L (.int x :: st) S c1 c2) := rfl
theorem zq_iload_n2 : zrun Rc Rs Q Γ blk X (n + 1) ((pc, .iload_n 2, inf) :: rest) L st S c1 c2 = (zoI (znth 2 L) fun x => zrun Rc Rs Q Γ blk X n rest L (.int x :: st) S c1 c2) := rfl
theorem zq_iload_n3 : zrun Rc Rs Q Γ blk X (n + 1) ((pc, .iload_n 3, inf) :: rest) L st S c1 c2 = (zoI (znth 3 L) fun x => zrun Rc Rs Q Γ blk X n rest L (.int x :: st) S c1 c2) := rfl
theorem zq_lload {i : Nat} : zrun Rc Rs Q Γ blk X (n + 1) ((pc, .lload i, inf) :: rest) L st S c1 c2 = (zoJ (znth i L) fun x => zrun Rc Rs Q Γ blk X n rest L (.long x :: st) S c1 c2) := rfl
theorem zq_lload_n0 : zrun Rc Rs Q Γ blk X (n + 1) ((pc, .lload_n 0, inf) :: rest) L st S c1 c2 = (zoJ (znth 0 L) fun x => zrun Rc Rs Q Γ blk X n rest L (.long x :: st) S c1 c2) := rfl
theorem zq_lload_n1 : zrun Rc Rs Q Γ blk X (n + 1) ((pc, .lload_n 1, inf) :: rest) L st S c1 c2 = (zoJ (znth 1 L) fun x => zrun Rc Rs Q Γ blk X n rest L (.long x :: st) S c1 c2) := rfl
theorem zq_lload_n2 : zrun Rc Rs Q Γ blk X (n + 1) ((pc, .lload_n 2, inf) :: rest) L st S c1 c2 = (zoJ (znth 2 L) fun x => zrun Rc Rs Q Γ blk X n rest L (.long x :: st) S c1 c2) := rfl
theorem zq_lload_n3 : zrun Rc Rs Q Γ blk X (n + 1) ((pc, .lload_n 3, inf) :: rest) L st S c1 c2 = (zoJ (znth 3 L) fun x => zrun Rc Rs Q Γ blk X n rest L (.long x :: st) S c1 c2) := rfl
theorem zq_dload {i : Nat} : zrun Rc Rs Q Γ blk X (n + 1) ((pc, .dload i, inf) :: rest) L st S c1 c2 = (zoD (znth i L) fun x => zrun Rc Rs Q Γ blk X n rest L (.double x :: st) S c1 c2) := rfl
theorem zq_dload_n0 : zrun Rc Rs Q Γ blk X (n + 1) ((pc, .dload_n 0, inf) :: rest) L st S c1 c2 = (zoD (znth 0 L) fun x => zrun Rc Rs Q Γ blk X n rest L (.double x :: st) S c1 c2) := rfl
theorem zq_dload_n1 : zrun Rc Rs Q Γ blk X (n + 1) ((pc, .dload_n 1, inf) :: rest) L st S c1 c2 = (zoD (znth 1 L) fun x => zrun Rc Rs Q Γ blk X n rest L (.double x :: st) S c1 c2) := rfl
theorem zq_dload_n2 : zrun Rc Rs Q Γ blk X (n + 1) ((pc, .dload_n 2, inf) :: rest) L st S c1 c2 = (zoD (znth 2 L) fun x => zrun Rc Rs Q Γ blk X n rest L (.double x :: st) S c1 c2) := rfl
theorem zq_dload_n3 : zrun Rc Rs Q Γ blk X (n + 1) ((pc, .dload_n 3, inf) :: rest) L st S c1 c2 = (zoD (znth 3 L) fun x => zrun Rc Rs Q Γ blk X n rest L (.double x :: st) S c1 c2) := rfl
theorem zq_aload {i : Nat} : zrun Rc Rs Q Γ blk X (n + 1) ((pc, .aload i, inf) :: rest) L st S c1 c2 = (zoA (znth i L) fun x => zrun Rc Rs Q Γ blk X n rest L (x :: st) S c1 c2) := rfl
theorem zq_aload_n0 : zrun Rc Rs Q Γ blk X (n + 1) ((pc, .aload_n 0, inf) :: rest) L st S c1 c2 = (zoA (znth 0 L) fun x => zrun Rc Rs Q Γ blk X n rest L (x :: st) S c1 c2) := rfl
theorem zq_aload_n1 : zrun Rc Rs Q Γ blk X (n + 1) ((pc, .aload_n 1, inf) :: rest) L st S c1 c2 = (zoA (znth 1 L) fun x => zrun Rc Rs Q Γ blk X n rest L (x :: st) S c1 c2) := rfl
theorem zq_aload_n2 : zrun Rc Rs Q Γ blk X (n + 1) ((pc, .aload_n 2, inf) :: rest) L st S c1 c2 = (zoA (znth 2 L) fun x => zrun Rc Rs Q Γ blk X n rest L (x :: st) S c1 c2) := rfl
theorem zq_aload_n3 : zrun Rc Rs Q Γ blk X (n + 1) ((pc, .aload_n 3, inf) :: rest) L st S c1 c2 = (zoA (znth 3 L) fun x => zrun Rc Rs Q Γ blk X n rest L (x :: st) S c1 c2) := rfl
theorem zq_istore {i : Nat} {x : Int32} : zrun Rc Rs Q Γ blk X (n + 1) ((pc, .istore i, inf) :: rest) L (.int x :: st) S c1 c2 = (zrun Rc Rs Q Γ blk X n rest (zst1 i (.int x) L) st S c1 c2) := rfl
theorem zq_istore_n0 {x : Int32} : zrun Rc Rs Q Γ blk X (n + 1) ((pc, .istore_n 0, inf) :: rest) L (.int x :: st) S c1 c2 = (zrun Rc Rs Q Γ blk X n rest (zst1 0 (.int x) L) st S c1 c2) := rfl
theorem zq_istore_n1 {x : Int32} : zrun Rc Rs Q Γ blk X (n + 1) ((pc, .istore_n 1, inf) :: rest) L (.int x :: st) S c1 c2 = (zrun Rc Rs Q Γ blk X n rest (zst1 1 (.int x) L) st S c1 c2) := rfl
theorem zq_istore_n2 {x : Int32} : zrun Rc Rs Q Γ blk X (n + 1) ((pc, .istore_n 2, inf) :: rest) L (.int x :: st) S c1 c2 = (zrun Rc Rs Q Γ blk X n rest (zst1 2 (.int x) L) st S c1 c2) := rfl
theorem zq_istore_n3 {x : Int32} : zrun Rc Rs Q Γ blk X (n + 1) ((pc, .istore_n 3, inf) :: rest) L (.int x :: st) S c1 c2 = (zrun Rc Rs Q Γ blk X n rest (zst1 3 (.int x) L) st S c1 c2) := rfl
theorem zq_lstore {i : Nat} {x : Int64} : zrun Rc Rs Q Γ blk X (n + 1) ((pc, .lstore i, inf) :: rest) L (.long x :: st) S c1 c2 = (zrun Rc Rs Q Γ blk X n rest (zst2 i (.long x) L) st S c1 c2) := rfl
theorem zq_lstore_n0 {x : Int64} : zrun Rc Rs Q Γ blk X (n + 1) ((pc, .lstore_n 0, inf) :: rest) L (.long x :: st) S c1 c2 = (zrun Rc Rs Q Γ blk X n rest (zst2 0 (.long x) L) st S c1 c2) := rfl
theorem zq_lstore_n1 {x : Int64} : zrun Rc Rs Q Γ blk X (n + 1) ((pc, .lstore_n 1, inf) :: rest) L (.long x :: st) S c1 c2 = (zrun Rc Rs Q Γ blk X n rest (zst2 1 (.long x) L) st S c1 c2) := rfl
theorem zq_lstore_n2 {x : Int64} : zrun Rc Rs Q Γ blk X (n + 1) ((pc, .lstore_n 2, inf) :: rest) L (.long x :: st) S c1 c2 = (zrun Rc Rs Q Γ blk X n rest (zst2 2 (.long x) L) st S c1 c2) := rfl
theorem zq_lstore_n3 {x : Int64} : zrun Rc Rs Q Γ blk X (n + 1) ((pc, .lstore_n 3, inf) :: rest) L (.long x :: st) S c1 c2 = (zrun Rc Rs Q Γ blk X n rest (zst2 3 (.long x) L) st S c1 c2) := rfl
theorem zq_dstore {i : Nat} {x : UInt64} : zrun Rc Rs Q Γ blk X (n + 1) ((pc, .dstore i, inf) :: rest) L (.double x :: st) S c1 c2 = (zrun Rc Rs Q Γ blk X n rest (zst2 i (.double x) L) st S c1 c2) := rfl
theorem zq_dstore_n0 {x : UInt64} : zrun Rc Rs Q Γ blk X (n + 1) ((pc, .dstore_n 0, inf) :: rest) L (.double x :: st) S c1 c2 = (zrun Rc Rs Q Γ blk X n rest (zst2 0 (.double x) L) st S c1 c2) := rfl
theorem zq_dstore_n1 {x : UInt64} : zrun Rc Rs Q Γ blk X (n + 1) ((pc, .dstore_n 1, inf) :: rest) L (.double x :: st) S c1 c2 = (zrun Rc Rs Q Γ blk X n rest (zst2 1 (.double x) L) st S c1 c2) := rfl
theorem zq_dstore_n2 {x : UInt64} : zrun Rc Rs Q Γ blk X (n + 1) ((pc, .dstore_n 2, inf) :: rest) L (.double x :: st) S c1 c2 = (zrun Rc Rs Q Γ blk X n rest (zst2 2 (.double x) L) st S c1 c2) := rfl
theorem zq_dstore_n3 {x : UInt64} : zrun Rc Rs Q Γ blk X (n + 1) ((pc, .dstore_n 3, inf) :: rest) L (.double x :: st) S c1 c2 = (zrun Rc Rs Q Γ blk X n rest (zst2 3 (.double x) L) st S c1 c2) := rfl
theorem zq_astore {i : Nat} {v : Value} : zrun Rc Rs Q Γ blk X (n + 1) ((pc, .astore i, inf) :: rest) L (v :: st) S c1 c2 = (zref v ∧ zrun Rc Rs Q Γ blk X n rest (zst1 i v L) st S c1 c2) := rfl
theorem zq_astore_n0 {v : Value} : zrun Rc Rs Q Γ blk X (n + 1) ((pc, .astore_n 0, inf) :: rest) L (v :: st) S c1 c2 = (zref v ∧ zrun Rc Rs Q Γ blk X n rest (zst1 0 v L) st S c1 c2) := rfl
theorem zq_astore_n1 {v : Value} : zrun Rc Rs Q Γ blk X (n + 1) ((pc, .astore_n 1, inf) :: rest) L (v :: st) S c1 c2 = (zref v ∧ zrun Rc Rs Q Γ blk X n rest (zst1 1 v L) st S c1 c2) := rfl
theorem zq_astore_n2 {v : Value} : zrun Rc Rs Q Γ blk X (n + 1) ((pc, .astore_n 2, inf) :: rest) L (v :: st) S c1 c2 = (zref v ∧ zrun Rc Rs Q Γ blk X n rest (zst1 2 v L) st S c1 c2) := rfl
theorem zq_astore_n3 {v : Value} : zrun Rc Rs Q Γ blk X (n + 1) ((pc, .astore_n 3, inf) :: rest) L (v :: st) S c1 c2 = (zref v ∧ zrun Rc Rs Q Γ blk X n rest (zst1 3 v L) st S c1 c2) := rfl
theorem zq_iinc {i b : Nat} {k : Int} : zrun Rc Rs Q Γ blk X (n + 1) ((pc, .iinc i k, [b]) :: rest) L st S c1 c2 = (zoI (znth i L) fun x => zrun Rc Rs Q Γ blk X n rest (zst1 i (.int (x + nI b)) L) st S c1 c2) := rfl
theorem zq_iadd {x y : Int32} : zrun Rc Rs Q Γ blk X (n + 1) ((pc, .iadd, inf) :: rest) L (.int y :: .int x :: st) S c1 c2 = (zrun Rc Rs Q Γ blk X n rest L (.int (x + y) :: st) S c1 c2) := rfl
theorem zq_isub {x y : Int32} : zrun Rc Rs Q Γ blk X (n + 1) ((pc, .isub, inf) :: rest) L (.int y :: .int x :: st) S c1 c2 = (zrun Rc Rs Q Γ blk X n rest L (.int (x - y) :: st) S c1 c2) := rfl
theorem zq_imul {x y : Int32} : zrun Rc Rs Q Γ blk X (n + 1) ((pc, .imul, inf) :: rest) L (.int y :: .int x :: st) S c1 c2 = (zrun Rc Rs Q Γ blk X n rest L (.int (x * y) :: st) S c1 c2) := rfl
theorem zq_iand {x y : Int32} : zrun Rc Rs Q Γ blk X (n + 1) ((pc, .iand, inf) :: rest) L (.int y :: .int x :: st) S c1 c2 = (zrun Rc Rs Q Γ blk X n rest L (.int (x &&& y) :: st) S c1 c2) := rfl
theorem zq_ior {x y : Int32} : zrun Rc Rs Q Γ blk X (n + 1) ((pc, .ior, inf) :: rest) L (.int y :: .int x :: st) S c1 c2 = (zrun Rc Rs Q Γ blk X n rest L (.int (x ||| y) :: st) S c1 c2) := rfl
theorem zq_ishr {x y : Int32} : zrun Rc Rs Q Γ blk X (n + 1) ((pc, .ishr, inf) :: rest) L (.int y :: .int x :: st) S c1 c2 = (zrun Rc Rs Q Γ blk X n rest L (.int (x >>> (y &&& 31)) :: st) S c1 c2) := rfl
theorem zq_iushr {x y : Int32} : zrun Rc Rs Q Γ blk X (n + 1) ((pc, .iushr, inf) :: rest) L (.int y :: .int x :: st) S c1 c2 = (zrun Rc Rs Q Γ blk X n rest L (.int ((x.toUInt32 >>> (y.toUInt32 &&& Int32.toUInt32 31)).toInt32) :: st) S c1 c2) := rfl
theorem zq_idiv {x y : Int32} : zrun Rc Rs Q Γ blk X (n + 1) ((pc, .idiv, inf) :: rest) L (.int y :: .int x :: st) S c1 c2 = (¬ y = 0 ∧ zrun Rc Rs Q Γ blk X n rest L (.int (x / y) :: st) S c1 c2) := rfl
theorem zq_irem {x y : Int32} : zrun Rc Rs Q Γ blk X (n + 1) ((pc, .irem, inf) :: rest) L (.int y :: .int x :: st) S c1 c2 = (¬ y = 0 ∧ zrun Rc Rs Q Γ blk X n rest L (.int (x - x / y * y) :: st) S c1 c2) := rfl
theorem zq_ineg {x : Int32} : zrun Rc Rs Q Γ blk X (n + 1) ((pc, .ineg, inf) :: rest) L (.int x :: st) S c1 c2 = (zrun Rc Rs Q Γ blk X n rest L (.int (-x) :: st) S c1 c2) := rfl
theorem zq_ladd {x y : Int64} : zrun Rc Rs Q Γ blk X (n + 1) ((pc, .ladd, inf) :: rest) L (.long y :: .long x :: st) S c1 c2 = (zrun Rc Rs Q Γ blk X n rest L (.long (x + y) :: st) S c1 c2) := rfl
theorem zq_lsub {x y : Int64} : zrun Rc Rs Q Γ blk X (n + 1) ((pc, .lsub, inf) :: rest) L (.long y :: .long x :: st) S c1 c2 = (zrun Rc Rs Q Γ blk X n rest L (.long (x - y) :: st) S c1 c2) := rfl
theorem zq_lmul {x y : Int64} : zrun Rc Rs Q Γ blk X (n + 1) ((pc, .lmul, inf) :: rest) L (.long y :: .long x :: st) S c1 c2 = (zrun Rc Rs Q Γ blk X n rest L (.long (x * y) :: st) S c1 c2) := rfl
theorem zq_land {x y : Int64} : zrun Rc Rs Q Γ blk X (n + 1) ((pc, .land, inf) :: rest) L (.long y :: .long x :: st) S c1 c2 = (zrun Rc Rs Q Γ blk X n rest L (.long (x &&& y) :: st) S c1 c2) := rfl
theorem zq_lor {x y : Int64} : zrun Rc Rs Q Γ blk X (n + 1) ((pc, .lor, inf) :: rest) L (.long y :: .long x :: st) S c1 c2 = (zrun Rc Rs Q Γ blk X n rest L (.long (x ||| y) :: st) S c1 c2) := rfl
theorem zq_lxor {x y : Int64} : zrun Rc Rs Q Γ blk X (n + 1) ((pc, .lxor, inf) :: rest) L (.long y :: .long x :: st) S c1 c2 = (zrun Rc Rs Q Γ blk X n rest L (.long (x ^^^ y) :: st) S c1 c2) := rfl
theorem zq_ldiv {x y : Int64} : zrun Rc Rs Q Γ blk X (n + 1) ((pc, .ldiv, inf) :: rest) L (.long y :: .long x :: st) S c1 c2 = (¬ y = 0 ∧ zrun Rc Rs Q Γ blk X n rest L (.long (x / y) :: st) S c1 c2) := rfl
theorem zq_lrem {x y : Int64} : zrun Rc Rs Q Γ blk X (n + 1) ((pc, .lrem, inf) :: rest) L (.long y :: .long x :: st) S c1 c2 = (¬ y = 0 ∧ zrun Rc Rs Q Γ blk X n rest L (.long (x - x / y * y) :: st) S c1 c2) := rfl
theorem zq_lneg {x : Int64} : zrun Rc Rs Q Γ blk X (n + 1) ((pc, .lneg, inf) :: rest) L (.long x :: st) S c1 c2 = (zrun Rc Rs Q Γ blk X n rest L (.long (-x) :: st) S c1 c2) := rfl
theorem zq_lshl {x : Int64} {y : Int32} : zrun Rc Rs Q Γ blk X (n + 1) ((pc, .lshl, inf) :: rest) L (.int y :: .long x :: st) S c1 c2 = (zrun Rc Rs Q Γ blk X n rest L (.long (x <<< (y.toInt64 &&& 63)) :: st) S c1 c2) := rfl
theorem zq_lshr {x : Int64} {y : Int32} : zrun Rc Rs Q Γ blk X (n + 1) ((pc, .lshr, inf) :: rest) L (.int y :: .long x :: st) S c1 c2 = (zrun Rc Rs Q Γ blk X n rest L (.long (x >>> (y.toInt64 &&& 63)) :: st) S c1 c2) := rfl
theorem zq_lushr {x : Int64} {y : Int32} : zrun Rc Rs Q Γ blk X (n + 1) ((pc, .lushr, inf) :: rest) L (.int y :: .long x :: st) S c1 c2 = (zrun Rc Rs Q Γ blk X n rest L (.long ((x.toUInt64 >>> (y.toInt64.toUInt64 &&& Int64.toUInt64 63)).toInt64) :: st) S c1 c2) := rfl
theorem zq_i2l {x : Int32} : zrun Rc Rs Q Γ blk X (n + 1) ((pc, .i2l, inf) :: rest) L (.int x :: st) S c1 c2 = (zrun Rc Rs Q Γ blk X n rest L (.long x.toInt64 :: st) S c1 c2) := rfl
theorem zq_l2i {x : Int64} : zrun Rc Rs Q Γ blk X (n + 1) ((pc, .l2i, inf) :: rest) L (.long x :: st) S c1 c2 = (zrun Rc Rs Q Γ blk X n rest L (.int x.toInt32 :: st) S c1 c2) := rfl
theorem zq_lcmp {x y : Int64} : zrun Rc Rs Q Γ blk X (n + 1) ((pc, .lcmp, inf) :: rest) L (.long y :: .long x :: st) S c1 c2 = (zrun Rc Rs Q Γ blk X n rest L (.int (lg_cmp x y) :: st) S c1 c2) := rfl
theorem zq_dcmp {x y : UInt64} {op : CmpOp} : zrun Rc Rs Q Γ blk X (n + 1) ((pc, .dcmp op, inf) :: rest) L (.double y :: .double x :: st) S c1 c2 = (zrun Rc Rs Q Γ blk X n rest L (.int (Op.cmpValue (FP.dcmp x y) op) :: st) S c1 c2) := rfl
theorem zq_dadd {x y : UInt64} : zrun Rc Rs Q Γ blk X (n + 1) ((pc, .dadd, inf) :: rest) L (.double y :: .double x :: st) S c1 c2 = (vf_n64 (FP.dadd x y) ∧ zrun Rc Rs Q Γ blk X n rest L (.double (FP.dadd x y) :: st) S c1 c2) := rfl
theorem zq_dsub {x y : UInt64} : zrun Rc Rs Q Γ blk X (n + 1) ((pc, .dsub, inf) :: rest) L (.double y :: .double x :: st) S c1 c2 = (vf_n64 (FP.dsub x y) ∧ zrun Rc Rs Q Γ blk X n rest L (.double (FP.dsub x y) :: st) S c1 c2) := rfl
theorem zq_dmul {x y : UInt64} : zrun Rc Rs Q Γ blk X (n + 1) ((pc, .dmul, inf) :: rest) L (.double y :: .double x :: st) S c1 c2 = (vf_n64 (FP.dmul x y) ∧ zrun Rc Rs Q Γ blk X n rest L (.double (FP.dmul x y) :: st) S c1 c2) := rfl
theorem zq_ddiv {x y : UInt64} : zrun Rc Rs Q Γ blk X (n + 1) ((pc, .ddiv, inf) :: rest) L (.double y :: .double x :: st) S c1 c2 = (vf_n64 (FP.ddiv x y) ∧ zrun Rc Rs Q Γ blk X n rest L (.double (FP.ddiv x y) :: st) S c1 c2) := rfl
theorem zq_dneg {x : UInt64} : zrun Rc Rs Q Γ blk X (n + 1) ((pc, .dneg, inf) :: rest) L (.double x :: st) S c1 c2 = (zrun Rc Rs Q Γ blk X n rest L (.double (FP.dneg x) :: st) S c1 c2) := rfl
theorem zq_dup {v : Value} : zrun Rc Rs Q Γ blk X (n + 1) ((pc, .dup, inf) :: rest) L (v :: st) S c1 c2 = (v.category = 1 ∧ zrun Rc Rs Q Γ blk X n rest L (v :: v :: st) S c1 c2) := rfl
theorem zq_pop {v : Value} : zrun Rc Rs Q Γ blk X (n + 1) ((pc, .pop, inf) :: rest) L (v :: st) S c1 c2 = (v.category = 1 ∧ zrun Rc Rs Q Γ blk X n rest L st S c1 c2) := rfl
theorem zq_pop2 {v : Value} : zrun Rc Rs Q Γ blk X (n + 1) ((pc, .pop2, inf) :: rest) L (v :: st) S c1 c2 = (v.category = 2 ∧ zrun Rc Rs Q Γ blk X n rest L st S c1 c2) := rfl
theorem zq_dup2J {x : Int64} : zrun Rc Rs Q Γ blk X (n + 1) ((pc, .dup2, inf) :: rest) L (.long x :: st) S c1 c2 = (zrun Rc Rs Q Γ blk X n rest L (.long x :: .long x :: st) S c1 c2) := rfl
theorem zq_dup2D {x : UInt64} : zrun Rc Rs Q Γ blk X (n + 1) ((pc, .dup2, inf) :: rest) L (.double x :: st) S c1 c2 = (zrun Rc Rs Q Γ blk X n rest L (.double x :: .double x :: st) S c1 c2) := rfl
theorem zq_dup2I {x : Int32} {v : Value} : zrun Rc Rs Q Γ blk X (n + 1) ((pc, .dup2, inf) :: rest) L (.int x :: v :: st) S c1 c2 = (Value.category (.int x) = 1 ∧ v.category = 1 ∧ zrun Rc Rs Q Γ blk X n rest L (.int x :: v :: .int x :: v :: st) S c1 c2) := rfl
theorem zq_goto0 {k : Int} {t : Nat} : zrun Rc Rs Q Γ blk X (n + 1) ((pc, .goto k, [t, 0]) :: rest) L st S c1 c2 = (zrun Rc Rs Q Γ blk X n (blk t) L st S c1 c2) := rfl
theorem zq_goto1 {k : Int} {t : Nat} : zrun Rc Rs Q Γ blk X (n + 1) ((pc, .goto k, [t, 1]) :: rest) L st S c1 c2 = (X t L st S c1 c2) := rfl
theorem zq_if_eq0 {x : Int32} {k : Int} {t : Nat} : zrun Rc Rs Q Γ blk X (n + 1) ((pc, .ifCond .eq k, [t, 0]) :: rest) L (.int x :: st) S c1 c2 = ((x = nI 0 → zrun Rc Rs Q Γ blk X n (blk t) L st S c1 c2) ∧ (¬ (x = nI 0) → zrun Rc Rs Q Γ blk X n rest L st S c1 c2)) := rfl
theorem zq_if_eq1 {x : Int32} {k : Int} {t : Nat} : zrun Rc Rs Q Γ blk X (n + 1) ((pc, .ifCond .eq k, [t, 1]) :: rest) L (.int x :: st) S c1 c2 = ((x = nI 0 → X t L st S c1 c2) ∧ (¬ (x = nI 0) → zrun Rc Rs Q Γ blk X n rest L st S c1 c2)) := rfl
theorem zq_icmp_eq0 {x y : Int32} {k : Int} {t : Nat} : zrun Rc Rs Q Γ blk X (n + 1) ((pc, .if_icmp .eq k, [t, 0]) :: rest) L (.int y :: .int x :: st) S c1 c2 = ((x = y → zrun Rc Rs Q Γ blk X n (blk t) L st S c1 c2) ∧ (¬ (x = y) → zrun Rc Rs Q Γ blk X n rest L st S c1 c2)) := rfl
theorem zq_icmp_eq1 {x y : Int32} {k : Int} {t : Nat} : zrun Rc Rs Q Γ blk X (n + 1) ((pc, .if_icmp .eq k, [t, 1]) :: rest) L (.int y :: .int x :: st) S c1 c2 = ((x = y → X t L st S c1 c2) ∧ (¬ (x = y) → zrun Rc Rs Q Γ blk X n rest L st S c1 c2)) := rfl
theorem zq_if_ne0 {x : Int32} {k : Int} {t : Nat} : zrun Rc Rs Q Γ blk X (n + 1) ((pc, .ifCond .ne k, [t, 0]) :: rest) L (.int x :: st) S c1 c2 = ((¬ x = nI 0 → zrun Rc Rs Q Γ blk X n (blk t) L st S c1 c2) ∧ (¬ (¬ x = nI 0) → zrun Rc Rs Q Γ blk X n rest L st S c1 c2)) := rfl
theorem zq_if_ne1 {x : Int32} {k : Int} {t : Nat} : zrun Rc Rs Q Γ blk X (n + 1) ((pc, .ifCond .ne k, [t, 1]) :: rest) L (.int x :: st) S c1 c2 = ((¬ x = nI 0 → X t L st S c1 c2) ∧ (¬ (¬ x = nI 0) → zrun Rc Rs Q Γ blk X n rest L st S c1 c2)) := rfl
theorem zq_icmp_ne0 {x y : Int32} {k : Int} {t : Nat} : zrun Rc Rs Q Γ blk X (n + 1) ((pc, .if_icmp .ne k, [t, 0]) :: rest) L (.int y :: .int x :: st) S c1 c2 = ((¬ x = y → zrun Rc Rs Q Γ blk X n (blk t) L st S c1 c2) ∧ (¬ (¬ x = y) → zrun Rc Rs Q Γ blk X n rest L st S c1 c2)) := rfl
theorem zq_icmp_ne1 {x y : Int32} {k : Int} {t : Nat} : zrun Rc Rs Q Γ blk X (n + 1) ((pc, .if_icmp .ne k, [t, 1]) :: rest) L (.int y :: .int x :: st) S c1 c2 = ((¬ x = y → X t L st S c1 c2) ∧ (¬ (¬ x = y) → zrun Rc Rs Q Γ blk X n rest L st S c1 c2)) := rfl
theorem zq_if_lt0 {x : Int32} {k : Int} {t : Nat} : zrun Rc Rs Q Γ blk X (n + 1) ((pc, .ifCond .lt k, [t, 0]) :: rest) L (.int x :: st) S c1 c2 = ((x < nI 0 → zrun Rc Rs Q Γ blk X n (blk t) L st S c1 c2) ∧ (¬ (x < nI 0) → zrun Rc Rs Q Γ blk X n rest L st S c1 c2)) := rfl
theorem zq_if_lt1 {x : Int32} {k : Int} {t : Nat} : zrun Rc Rs Q Γ blk X (n + 1) ((pc, .ifCond .lt k, [t, 1]) :: rest) L (.int x :: st) S c1 c2 = ((x < nI 0 → X t L st S c1 c2) ∧ (¬ (x < nI 0) → zrun Rc Rs Q Γ blk X n rest L st S c1 c2)) := rfl
theorem zq_icmp_lt0 {x y : Int32} {k : Int} {t : Nat} : zrun Rc Rs Q Γ blk X (n + 1) ((pc, .if_icmp .lt k, [t, 0]) :: rest) L (.int y :: .int x :: st) S c1 c2 = ((x < y → zrun Rc Rs Q Γ blk X n (blk t) L st S c1 c2) ∧ (¬ (x < y) → zrun Rc Rs Q Γ blk X n rest L st S c1 c2)) := rfl
theorem zq_icmp_lt1 {x y : Int32} {k : Int} {t : Nat} : zrun Rc Rs Q Γ blk X (n + 1) ((pc, .if_icmp .lt k, [t, 1]) :: rest) L (.int y :: .int x :: st) S c1 c2 = ((x < y → X t L st S c1 c2) ∧ (¬ (x < y) → zrun Rc Rs Q Γ blk X n rest L st S c1 c2)) := rfl
theorem zq_if_ge0 {x : Int32} {k : Int} {t : Nat} : zrun Rc Rs Q Γ blk X (n + 1) ((pc, .ifCond .ge k, [t, 0]) :: rest) L (.int x :: st) S c1 c2 = ((nI 0 ≤ x → zrun Rc Rs Q Γ blk X n (blk t) L st S c1 c2) ∧ (¬ (nI 0 ≤ x) → zrun Rc Rs Q Γ blk X n rest L st S c1 c2)) := rfl
theorem zq_if_ge1 {x : Int32} {k : Int} {t : Nat} : zrun Rc Rs Q Γ blk X (n + 1) ((pc, .ifCond .ge k, [t, 1]) :: rest) L (.int x :: st) S c1 c2 = ((nI 0 ≤ x → X t L st S c1 c2) ∧ (¬ (nI 0 ≤ x) → zrun Rc Rs Q Γ blk X n rest L st S c1 c2)) := rfl
theorem zq_icmp_ge0 {x y : Int32} {k : Int} {t : Nat} : zrun Rc Rs Q Γ blk X (n + 1) ((pc, .if_icmp .ge k, [t, 0]) :: rest) L (.int y :: .int x :: st) S c1 c2 = ((y ≤ x → zrun Rc Rs Q Γ blk X n (blk t) L st S c1 c2) ∧ (¬ (y ≤ x) → zrun Rc Rs Q Γ blk X n rest L st S c1 c2)) := rfl
theorem zq_icmp_ge1 {x y : Int32} {k : Int} {t : Nat} : zrun Rc Rs Q Γ blk X (n + 1) ((pc, .if_icmp .ge k, [t, 1]) :: rest) L (.int y :: .int x :: st) S c1 c2 = ((y ≤ x → X t L st S c1 c2) ∧ (¬ (y ≤ x) → zrun Rc Rs Q Γ blk X n rest L st S c1 c2)) := rfl
theorem zq_if_gt0 {x : Int32} {k : Int} {t : Nat} : zrun Rc Rs Q Γ blk X (n + 1) ((pc, .ifCond .gt k, [t, 0]) :: rest) L (.int x :: st) S c1 c2 = ((nI 0 < x → zrun Rc Rs Q Γ blk X n (blk t) L st S c1 c2) ∧ (¬ (nI 0 < x) → zrun Rc Rs Q Γ blk X n rest L st S c1 c2)) := rfl
theorem zq_if_gt1 {x : Int32} {k : Int} {t : Nat} : zrun Rc Rs Q Γ blk X (n + 1) ((pc, .ifCond .gt k, [t, 1]) :: rest) L (.int x :: st) S c1 c2 = ((nI 0 < x → X t L st S c1 c2) ∧ (¬ (nI 0 < x) → zrun Rc Rs Q Γ blk X n rest L st S c1 c2)) := rfl
theorem zq_icmp_gt0 {x y : Int32} {k : Int} {t : Nat} : zrun Rc Rs Q Γ blk X (n + 1) ((pc, .if_icmp .gt k, [t, 0]) :: rest) L (.int y :: .int x :: st) S c1 c2 = ((y < x → zrun Rc Rs Q Γ blk X n (blk t) L st S c1 c2) ∧ (¬ (y < x) → zrun Rc Rs Q Γ blk X n rest L st S c1 c2)) := rfl
theorem zq_icmp_gt1 {x y : Int32} {k : Int} {t : Nat} : zrun Rc Rs Q Γ blk X (n + 1) ((pc, .if_icmp .gt k, [t, 1]) :: rest) L (.int y :: .int x :: st) S c1 c2 = ((y < x → X t L st S c1 c2) ∧ (¬ (y < x) → zrun Rc Rs Q Γ blk X n rest L st S c1 c2)) := rfl
theorem zq_if_le0 {x : Int32} {k : Int} {t : Nat} : zrun Rc Rs Q Γ blk X (n + 1) ((pc, .ifCond .le k, [t, 0]) :: rest) L (.int x :: st) S c1 c2 = ((x ≤ nI 0 → zrun Rc Rs Q Γ blk X n (blk t) L st S c1 c2) ∧ (¬ (x ≤ nI 0) → zrun Rc Rs Q Γ blk X n rest L st S c1 c2)) := rfl
theorem zq_if_le1 {x : Int32} {k : Int} {t : Nat} : zrun Rc Rs Q Γ blk X (n + 1) ((pc, .ifCond .le k, [t, 1]) :: rest) L (.int x :: st) S c1 c2 = ((x ≤ nI 0 → X t L st S c1 c2) ∧ (¬ (x ≤ nI 0) → zrun Rc Rs Q Γ blk X n rest L st S c1 c2)) := rfl
theorem zq_icmp_le0 {x y : Int32} {k : Int} {t : Nat} : zrun Rc Rs Q Γ blk X (n + 1) ((pc, .if_icmp .le k, [t, 0]) :: rest) L (.int y :: .int x :: st) S c1 c2 = ((x ≤ y → zrun Rc Rs Q Γ blk X n (blk t) L st S c1 c2) ∧ (¬ (x ≤ y) → zrun Rc Rs Q Γ blk X n rest L st S c1 c2)) := rfl
theorem zq_icmp_le1 {x y : Int32} {k : Int} {t : Nat} : zrun Rc Rs Q Γ blk X (n + 1) ((pc, .if_icmp .le k, [t, 1]) :: rest) L (.int y :: .int x :: st) S c1 c2 = ((x ≤ y → X t L st S c1 c2) ∧ (¬ (x ≤ y) → zrun Rc Rs Q Γ blk X n rest L st S c1 c2)) := rfl
theorem zq_ifnull0 {k : Int} {t a : Nat} : zrun Rc Rs Q Γ blk X (n + 1) ((pc, .ifnull k, [t, 0]) :: rest) L (.null :: st) S c1 c2 = (zrun Rc Rs Q Γ blk X n (blk t) L st S c1 c2) := rfl
theorem zq_ifnull1 {k : Int} {t a : Nat} : zrun Rc Rs Q Γ blk X (n + 1) ((pc, .ifnull k, [t, 1]) :: rest) L (.null :: st) S c1 c2 = (X t L st S c1 c2) := rfl
theorem zq_ifnull_a {k : Int} {t a : Nat} : zrun Rc Rs Q Γ blk X (n + 1) ((pc, .ifnull k, [t, 0]) :: rest) L (.ref a :: st) S c1 c2 = (zrun Rc Rs Q Γ blk X n rest L st S c1 c2) := rfl
theorem zq_ifnull_b {k : Int} {t a : Nat} : zrun Rc Rs Q Γ blk X (n + 1) ((pc, .ifnull k, [t, 1]) :: rest) L (.ref a :: st) S c1 c2 = (zrun Rc Rs Q Γ blk X n rest L st S c1 c2) := rfl
theorem zq_ifnonnull0 {k : Int} {t a : Nat} : zrun Rc Rs Q Γ blk X (n + 1) ((pc, .ifnonnull k, [t, 0]) :: rest) L (.ref a :: st) S c1 c2 = (zrun Rc Rs Q Γ blk X n (blk t) L st S c1 c2) := rfl
theorem zq_ifnonnull1 {k : Int} {t a : Nat} : zrun Rc Rs Q Γ blk X (n + 1) ((pc, .ifnonnull k, [t, 1]) :: rest) L (.ref a :: st) S c1 c2 = (X t L st S c1 c2) := rfl
theorem zq_ifnonnull_a {k : Int} {t a : Nat} : zrun Rc Rs Q Γ blk X (n + 1) ((pc, .ifnonnull k, [t, 0]) :: rest) L (.null :: st) S c1 c2 = (zrun Rc Rs Q Γ blk X n rest L st S c1 c2) := rfl
theorem zq_ifnonnull_b {k : Int} {t a : Nat} : zrun Rc Rs Q Γ blk X (n + 1) ((pc, .ifnonnull k, [t, 1]) :: rest) L (.null :: st) S c1 c2 = (zrun Rc Rs Q Γ blk X n rest L st S c1 c2) := rfl
theorem zq_table {x : Int32} {d lo hi : Int} {offs : Array Int} {t : Nat} {ts : List Nat} : zrun Rc Rs Q Γ blk X (n + 1) ((pc, .tableswitch d lo hi offs, (t :: ts)) :: rest) L (.int x :: st) S c1 c2 = (zsw x.toInt (fun t => zrun Rc Rs Q Γ blk X n (blk t) L st S c1 c2) lo ts ∧ (x.toInt < lo ∨ hi < x.toInt → zrun Rc Rs Q Γ blk X n (blk t) L st S c1 c2)) := rfl
theorem zq_getfield {a i j k : Nat} : zrun Rc Rs Q Γ blk X (n + 1) ((pc, .getfield k, [i, j]) :: rest) L (.ref a :: st) S c1 c2 = ((zSh S a).1 = i ∧ zrun Rc Rs Q Γ blk X n rest L (zfv (zYX i j) S a j :: st) S c1 c2) := rfl
theorem zq_putfield {a i j k : Nat} {v : Value} : zrun Rc Rs Q Γ blk X (n + 1) ((pc, .putfield k, [i, j]) :: rest) L (v :: .ref a :: st) S c1 c2 = ((zSh S a).1 = i ∧ zput (zYX i j) v S a j fun S' => zrun Rc Rs Q Γ blk X n rest L st S' c1 c2) := rfl
theorem zq_alen {a : Nat} : zrun Rc Rs Q Γ blk X (n + 1) ((pc, .arraylength, inf) :: rest) L (.ref a :: st) S c1 c2 = ((20 ≤ (zSh S a).1 ∧ (zSh S a).1 ≤ 28) ∧ zrun Rc Rs Q Γ blk X n rest L (.int (nI (zSh S a).2) :: st) S c1 c2) := rfl
theorem zq_iaload {a : Nat} {i : Int32} : zrun Rc Rs Q Γ blk X (n + 1) ((pc, .iaload, inf) :: rest) L (.int i :: .ref a :: st) S c1 c2 = (zinI S a i ∧ zrun Rc Rs Q Γ blk X n rest L (.int (zI S a (zix i)) :: st) S c1 c2) := rfl
theorem zq_baload {a : Nat} {i : Int32} : zrun Rc Rs Q Γ blk X (n + 1) ((pc, .baload, inf) :: rest) L (.int i :: .ref a :: st) S c1 c2 = (zin S a 21 i ∧ zrun Rc Rs Q Γ blk X n rest L (.int (zI S a (zix i)) :: st) S c1 c2) := rfl
theorem zq_laload {a : Nat} {i : Int32} : zrun Rc Rs Q Γ blk X (n + 1) ((pc, .laload, inf) :: rest) L (.int i :: .ref a :: st) S c1 c2 = (zin S a 22 i ∧ zrun Rc Rs Q Γ blk X n rest L (.long (zJ S a (zix i)) :: st) S c1 c2) := rfl
theorem zq_daload {a : Nat} {i : Int32} : zrun Rc Rs Q Γ blk X (n + 1) ((pc, .daload, inf) :: rest) L (.int i :: .ref a :: st) S c1 c2 = (zin S a 23 i ∧ zrun Rc Rs Q Γ blk X n rest L (.double (zD S a (zix i)) :: st) S c1 c2) := rfl
theorem zq_aaload {a : Nat} {i : Int32} : zrun Rc Rs Q Γ blk X (n + 1) ((pc, .aaload, inf) :: rest) L (.int i :: .ref a :: st) S c1 c2 = (zinR S a i ∧ zrun Rc Rs Q Γ blk X n rest L (va_rf (zR S a (zix i)) :: st) S c1 c2) := rfl
theorem zq_iastore {a : Nat} {i x : Int32} : zrun Rc Rs Q Γ blk X (n + 1) ((pc, .iastore, inf) :: rest) L (.int x :: .int i :: .ref a :: st) S c1 c2 = (zin S a 20 i ∧ zrun Rc Rs Q Γ blk X n rest L st (zsI S a (zix i) x) c1 c2) := rfl
theorem zq_bastore {a : Nat} {i x : Int32} : zrun Rc Rs Q Γ blk X (n + 1) ((pc, .bastore, inf) :: rest) L (.int x :: .int i :: .ref a :: st) S c1 c2 = (zin S a 21 i ∧ (x = 0 ∨ x = 1) ∧ zrun Rc Rs Q Γ blk X n rest L st (zsI S a (zix i) x) c1 c2) := rfl
theorem zq_lastore {a : Nat} {i : Int32} {x : Int64} : zrun Rc Rs Q Γ blk X (n + 1) ((pc, .lastore, inf) :: rest) L (.long x :: .int i :: .ref a :: st) S c1 c2 = (zin S a 22 i ∧ zrun Rc Rs Q Γ blk X n rest L st (zsJ S a (zix i) x) c1 c2) := rfl
theorem zq_dastore {a : Nat} {i : Int32} {x : UInt64} : zrun Rc Rs Q Γ blk X (n + 1) ((pc, .dastore, inf) :: rest) L (.double x :: .int i :: .ref a :: st) S c1 c2 = (zin S a 23 i ∧ zrun Rc Rs Q Γ blk X n rest L st (zsD S a (zix i) x) c1 c2) := rfl
theorem zq_aastore {a v : Nat} {i : Int32} : zrun Rc Rs Q Γ blk X (n + 1) ((pc, .aastore, inf) :: rest) L (.ref v :: .int i :: .ref a :: st) S c1 c2 = (zinR S a i ∧ (zSh S v).1 = zCo (zSh S a).1 ∧ zrun Rc Rs Q Γ blk X n rest L st (zsR S a (zix i) (some v)) c1 c2) := rfl
theorem zq_new {i k : Nat} : zrun Rc Rs Q Γ blk X (n + 1) ((pc, .new k, [i]) :: rest) L st S c1 c2 = (c1 + 1 ≤ Rc ∧ c2 + zNX i ≤ Rs ∧ zrun Rc Rs Q Γ blk X n rest L (.ref (zNx S) :: st) (zsN S i 0) (c1 + 1) (c2 + zNX i)) := rfl
theorem zq_newarray {k : ArrayType} {x : Int32} {i : Nat} : zrun Rc Rs Q Γ blk X (n + 1) ((pc, .newarray k, [i]) :: rest) L (.int x :: st) S c1 c2 = (¬ x < 0 ∧ zix x * 8 ≤ 536870912 ∧ c1 + 1 ≤ Rc ∧ c2 + zix x ≤ Rs ∧ zrun Rc Rs Q Γ blk X n rest L (.ref (zNx S) :: st) (zsN S i (zix x)) (c1 + 1) (c2 + zix x)) := rfl
theorem zq_anewarray {k : Nat} {x : Int32} {i : Nat} : zrun Rc Rs Q Γ blk X (n + 1) ((pc, .anewarray k, [i]) :: rest) L (.int x :: st) S c1 c2 = (¬ x < 0 ∧ zix x * 8 ≤ 536870912 ∧ c1 + 1 ≤ Rc ∧ c2 + zix x ≤ Rs ∧ zrun Rc Rs Q Γ blk X n rest L (.ref (zNx S) :: st) (zsN S i (zix x)) (c1 + 1) (c2 + zix x)) := rfl
theorem zq_d2l {k : Nat} {x : UInt64} : zrun Rc Rs Q Γ blk X (n + 1) ((pc, .invokestatic k, [100]) :: rest) L (.double x :: st) S c1 c2 = (zwt st ≤ 8 ∧ zrun Rc Rs Q Γ blk X n rest L (.long x.toInt64 :: st) S c1 c2) := rfl
theorem zq_l2d {k : Nat} {x : Int64} : zrun Rc Rs Q Γ blk X (n + 1) ((pc, .invokestatic k, [101]) :: rest) L (.long x :: st) S c1 c2 = (zwt st ≤ 8 ∧ vn_snl2d x = false ∧ zrun Rc Rs Q Γ blk X n rest L (.double x.toUInt64 :: st) S c1 c2) := rfl
theorem zq_mmax {k : Nat} {x y : Int32} : zrun Rc Rs Q Γ blk X (n + 1) ((pc, .invokestatic k, [102]) :: rest) L (.int y :: .int x :: st) S c1 c2 = (zwt st ≤ 8 ∧ c1 ≤ Rc ∧ c2 ≤ Rs ∧ zrun Rc Rs Q Γ blk X n rest L (.int (if x < y then y else x) :: st) S c1 c2) := rfl
theorem zq_mmin {k : Nat} {x y : Int32} : zrun Rc Rs Q Γ blk X (n + 1) ((pc, .invokestatic k, [103]) :: rest) L (.int y :: .int x :: st) S c1 c2 = (zwt st ≤ 8 ∧ c1 ≤ Rc ∧ c2 ≤ Rs ∧ zrun Rc Rs Q Γ blk X n rest L (.int (if y < x then y else x) :: st) S c1 c2) := rfl
theorem zq_mmaxl {k : Nat} {x y : Int64} : zrun Rc Rs Q Γ blk X (n + 1) ((pc, .invokestatic k, [105]) :: rest) L (.long y :: .long x :: st) S c1 c2 = (zwt st ≤ 8 ∧ c1 ≤ Rc ∧ c2 ≤ Rs ∧ zrun Rc Rs Q Γ blk X n rest L (.long (if y < x then x else y) :: st) S c1 c2) := rfl
theorem zq_mabs {k : Nat} {x : Int32} : zrun Rc Rs Q Γ blk X (n + 1) ((pc, .invokestatic k, [104]) :: rest) L (.int x :: st) S c1 c2 = (zwt st ≤ 8 ∧ c1 ≤ Rc ∧ c2 ≤ Rs ∧ zrun Rc Rs Q Γ blk X n rest L (.int (if 0 ≤ x then x else 0 - x) :: st) S c1 c2) := rfl
theorem zq_callS {k i m : Nat} : zrun Rc Rs Q Γ blk X (n + 1) ((pc, .invokestatic k, [i, m]) :: rest) L st S c1 c2 = (zpop m st [] fun av r => zwt r ≤ 8 ∧ zoc (zget Γ i) fun ct => c1 + ct.2.1 ≤ Rc ∧ c2 + ct.2.2 ≤ Rs ∧ ct.1 av S fun v S' => zrun Rc Rs Q Γ blk X n rest L (v.toList ++ r) S' (c1 + ct.2.1) (c2 + ct.2.2)) := by
  simp only [zrun]
theorem zq_callV {k i m ci : Nat} : zrun Rc Rs Q Γ blk X (n + 1) ((pc, .invokevirtual k, [i, m, ci]) :: rest) L st S c1 c2 = (zpop m st [] fun as r => zA1 r fun a r => (zSh S a).1 = ci ∧ zwt r ≤ 8 ∧ zoc (zget Γ i) fun ct => c1 + ct.2.1 ≤ Rc ∧ c2 + ct.2.2 ≤ Rs ∧ ct.1 (.ref a :: as) S fun v S' => zrun Rc Rs Q Γ blk X n rest L (v.toList ++ r) S' (c1 + ct.2.1) (c2 + ct.2.2)) := rfl
theorem zq_objInit {k a : Nat} : zrun Rc Rs Q Γ blk X (n + 1) ((pc, .invokespecial k, []) :: rest) L (.ref a :: st) S c1 c2 = (zwt st ≤ 8 ∧ zrun Rc Rs Q Γ blk X n rest L st S c1 c2) := rfl
theorem zq_callI {k i m : Nat} : zrun Rc Rs Q Γ blk X (n + 1) ((pc, .invokespecial k, [i, m]) :: rest) L st S c1 c2 = (zpop m st [] fun as r => zA1 r fun a r => zwt r ≤ 8 ∧ zoc (zget Γ i) fun ct => c1 + ct.2.1 ≤ Rc ∧ c2 + ct.2.2 ≤ Rs ∧ ct.1 (.ref a :: as) S fun v S' => zrun Rc Rs Q Γ blk X n rest L (v.toList ++ r) S' (c1 + ct.2.1) (c2 + ct.2.2)) := rfl
theorem zq_ireturn {x : Int32} : zrun Rc Rs Q Γ blk X (n + 1) ((pc, .ireturn, inf) :: rest) L [.int x] S c1 c2 = (Q (some (.int x)) S c1 c2) := rfl
theorem zq_lreturn {x : Int64} : zrun Rc Rs Q Γ blk X (n + 1) ((pc, .lreturn, inf) :: rest) L [.long x] S c1 c2 = (Q (some (.long x)) S c1 c2) := rfl
theorem zq_dreturn {x : UInt64} : zrun Rc Rs Q Γ blk X (n + 1) ((pc, .dreturn, inf) :: rest) L [.double x] S c1 c2 = (Q (some (.double x)) S c1 c2) := rfl
theorem zq_areturn {v : Value} : zrun Rc Rs Q Γ blk X (n + 1) ((pc, .areturn, inf) :: rest) L [v] S c1 c2 = (zref v ∧ Q (some v) S c1 c2) := rfl
theorem zq_return : zrun Rc Rs Q Γ blk X (n + 1) ((pc, .return_, inf) :: rest) L [] S c1 c2 = (Q none S c1 c2) := rfl
end ZQ
theorem znth0 {a0 : Option Value} {l : List (Option Value)} : znth 0 (a0 :: l) = a0 := rfl
theorem zst1_0 {a0 : Option Value} {v : Value} {l : List (Option Value)} : zst1 0 v (a0 :: l) = some v :: l := rfl
theorem zst2_0 {a0 a1 : Option Value} {v : Value} {l : List (Option Value)} : zst2 0 v (a0 :: a1 :: l) = some v :: none :: l := rfl
theorem znth1 {a0 a1 : Option Value} {l : List (Option Value)} : znth 1 (a0 :: a1 :: l) = a1 := rfl
theorem zst1_1 {a0 a1 : Option Value} {v : Value} {l : List (Option Value)} : zst1 1 v (a0 :: a1 :: l) = zkill a0 :: some v :: l := rfl
theorem zst2_1 {a0 a1 a2 : Option Value} {v : Value} {l : List (Option Value)} : zst2 1 v (a0 :: a1 :: a2 :: l) = zkill a0 :: some v :: none :: l := rfl
theorem znth2 {a0 a1 a2 : Option Value} {l : List (Option Value)} : znth 2 (a0 :: a1 :: a2 :: l) = a2 := rfl
theorem zst1_2 {a0 a1 a2 : Option Value} {v : Value} {l : List (Option Value)} : zst1 2 v (a0 :: a1 :: a2 :: l) = a0 :: zkill a1 :: some v :: l := rfl
theorem zst2_2 {a0 a1 a2 a3 : Option Value} {v : Value} {l : List (Option Value)} : zst2 2 v (a0 :: a1 :: a2 :: a3 :: l) = a0 :: zkill a1 :: some v :: none :: l := rfl
theorem znth3 {a0 a1 a2 a3 : Option Value} {l : List (Option Value)} : znth 3 (a0 :: a1 :: a2 :: a3 :: l) = a3 := rfl
theorem zst1_3 {a0 a1 a2 a3 : Option Value} {v : Value} {l : List (Option Value)} : zst1 3 v (a0 :: a1 :: a2 :: a3 :: l) = a0 :: a1 :: zkill a2 :: some v :: l := rfl
theorem zst2_3 {a0 a1 a2 a3 a4 : Option Value} {v : Value} {l : List (Option Value)} : zst2 3 v (a0 :: a1 :: a2 :: a3 :: a4 :: l) = a0 :: a1 :: zkill a2 :: some v :: none :: l := rfl
theorem znth4 {a0 a1 a2 a3 a4 : Option Value} {l : List (Option Value)} : znth 4 (a0 :: a1 :: a2 :: a3 :: a4 :: l) = a4 := rfl
theorem zst1_4 {a0 a1 a2 a3 a4 : Option Value} {v : Value} {l : List (Option Value)} : zst1 4 v (a0 :: a1 :: a2 :: a3 :: a4 :: l) = a0 :: a1 :: a2 :: zkill a3 :: some v :: l := rfl
theorem zst2_4 {a0 a1 a2 a3 a4 a5 : Option Value} {v : Value} {l : List (Option Value)} : zst2 4 v (a0 :: a1 :: a2 :: a3 :: a4 :: a5 :: l) = a0 :: a1 :: a2 :: zkill a3 :: some v :: none :: l := rfl
theorem znth5 {a0 a1 a2 a3 a4 a5 : Option Value} {l : List (Option Value)} : znth 5 (a0 :: a1 :: a2 :: a3 :: a4 :: a5 :: l) = a5 := rfl
theorem zst1_5 {a0 a1 a2 a3 a4 a5 : Option Value} {v : Value} {l : List (Option Value)} : zst1 5 v (a0 :: a1 :: a2 :: a3 :: a4 :: a5 :: l) = a0 :: a1 :: a2 :: a3 :: zkill a4 :: some v :: l := rfl
theorem zst2_5 {a0 a1 a2 a3 a4 a5 a6 : Option Value} {v : Value} {l : List (Option Value)} : zst2 5 v (a0 :: a1 :: a2 :: a3 :: a4 :: a5 :: a6 :: l) = a0 :: a1 :: a2 :: a3 :: zkill a4 :: some v :: none :: l := rfl
theorem znth6 {a0 a1 a2 a3 a4 a5 a6 : Option Value} {l : List (Option Value)} : znth 6 (a0 :: a1 :: a2 :: a3 :: a4 :: a5 :: a6 :: l) = a6 := rfl
theorem zst1_6 {a0 a1 a2 a3 a4 a5 a6 : Option Value} {v : Value} {l : List (Option Value)} : zst1 6 v (a0 :: a1 :: a2 :: a3 :: a4 :: a5 :: a6 :: l) = a0 :: a1 :: a2 :: a3 :: a4 :: zkill a5 :: some v :: l := rfl
theorem zst2_6 {a0 a1 a2 a3 a4 a5 a6 a7 : Option Value} {v : Value} {l : List (Option Value)} : zst2 6 v (a0 :: a1 :: a2 :: a3 :: a4 :: a5 :: a6 :: a7 :: l) = a0 :: a1 :: a2 :: a3 :: a4 :: zkill a5 :: some v :: none :: l := rfl
theorem znth7 {a0 a1 a2 a3 a4 a5 a6 a7 : Option Value} {l : List (Option Value)} : znth 7 (a0 :: a1 :: a2 :: a3 :: a4 :: a5 :: a6 :: a7 :: l) = a7 := rfl
theorem zst1_7 {a0 a1 a2 a3 a4 a5 a6 a7 : Option Value} {v : Value} {l : List (Option Value)} : zst1 7 v (a0 :: a1 :: a2 :: a3 :: a4 :: a5 :: a6 :: a7 :: l) = a0 :: a1 :: a2 :: a3 :: a4 :: a5 :: zkill a6 :: some v :: l := rfl
theorem zst2_7 {a0 a1 a2 a3 a4 a5 a6 a7 a8 : Option Value} {v : Value} {l : List (Option Value)} : zst2 7 v (a0 :: a1 :: a2 :: a3 :: a4 :: a5 :: a6 :: a7 :: a8 :: l) = a0 :: a1 :: a2 :: a3 :: a4 :: a5 :: zkill a6 :: some v :: none :: l := rfl
theorem znth8 {a0 a1 a2 a3 a4 a5 a6 a7 a8 : Option Value} {l : List (Option Value)} : znth 8 (a0 :: a1 :: a2 :: a3 :: a4 :: a5 :: a6 :: a7 :: a8 :: l) = a8 := rfl
theorem zst1_8 {a0 a1 a2 a3 a4 a5 a6 a7 a8 : Option Value} {v : Value} {l : List (Option Value)} : zst1 8 v (a0 :: a1 :: a2 :: a3 :: a4 :: a5 :: a6 :: a7 :: a8 :: l) = a0 :: a1 :: a2 :: a3 :: a4 :: a5 :: a6 :: zkill a7 :: some v :: l := rfl
theorem zst2_8 {a0 a1 a2 a3 a4 a5 a6 a7 a8 a9 : Option Value} {v : Value} {l : List (Option Value)} : zst2 8 v (a0 :: a1 :: a2 :: a3 :: a4 :: a5 :: a6 :: a7 :: a8 :: a9 :: l) = a0 :: a1 :: a2 :: a3 :: a4 :: a5 :: a6 :: zkill a7 :: some v :: none :: l := rfl
theorem znth9 {a0 a1 a2 a3 a4 a5 a6 a7 a8 a9 : Option Value} {l : List (Option Value)} : znth 9 (a0 :: a1 :: a2 :: a3 :: a4 :: a5 :: a6 :: a7 :: a8 :: a9 :: l) = a9 := rfl
theorem zst1_9 {a0 a1 a2 a3 a4 a5 a6 a7 a8 a9 : Option Value} {v : Value} {l : List (Option Value)} : zst1 9 v (a0 :: a1 :: a2 :: a3 :: a4 :: a5 :: a6 :: a7 :: a8 :: a9 :: l) = a0 :: a1 :: a2 :: a3 :: a4 :: a5 :: a6 :: a7 :: zkill a8 :: some v :: l := rfl
theorem zst2_9 {a0 a1 a2 a3 a4 a5 a6 a7 a8 a9 a10 : Option Value} {v : Value} {l : List (Option Value)} : zst2 9 v (a0 :: a1 :: a2 :: a3 :: a4 :: a5 :: a6 :: a7 :: a8 :: a9 :: a10 :: l) = a0 :: a1 :: a2 :: a3 :: a4 :: a5 :: a6 :: a7 :: zkill a8 :: some v :: none :: l := rfl
theorem znth10 {a0 a1 a2 a3 a4 a5 a6 a7 a8 a9 a10 : Option Value} {l : List (Option Value)} : znth 10 (a0 :: a1 :: a2 :: a3 :: a4 :: a5 :: a6 :: a7 :: a8 :: a9 :: a10 :: l) = a10 := rfl
theorem zst1_10 {a0 a1 a2 a3 a4 a5 a6 a7 a8 a9 a10 : Option Value} {v : Value} {l : List (Option Value)} : zst1 10 v (a0 :: a1 :: a2 :: a3 :: a4 :: a5 :: a6 :: a7 :: a8 :: a9 :: a10 :: l) = a0 :: a1 :: a2 :: a3 :: a4 :: a5 :: a6 :: a7 :: a8 :: zkill a9 :: some v :: l := rfl
theorem zst2_10 {a0 a1 a2 a3 a4 a5 a6 a7 a8 a9 a10 a11 : Option Value} {v : Value} {l : List (Option Value)} : zst2 10 v (a0 :: a1 :: a2 :: a3 :: a4 :: a5 :: a6 :: a7 :: a8 :: a9 :: a10 :: a11 :: l) = a0 :: a1 :: a2 :: a3 :: a4 :: a5 :: a6 :: a7 :: a8 :: zkill a9 :: some v :: none :: l := rfl
theorem znth11 {a0 a1 a2 a3 a4 a5 a6 a7 a8 a9 a10 a11 : Option Value} {l : List (Option Value)} : znth 11 (a0 :: a1 :: a2 :: a3 :: a4 :: a5 :: a6 :: a7 :: a8 :: a9 :: a10 :: a11 :: l) = a11 := rfl
theorem zst1_11 {a0 a1 a2 a3 a4 a5 a6 a7 a8 a9 a10 a11 : Option Value} {v : Value} {l : List (Option Value)} : zst1 11 v (a0 :: a1 :: a2 :: a3 :: a4 :: a5 :: a6 :: a7 :: a8 :: a9 :: a10 :: a11 :: l) = a0 :: a1 :: a2 :: a3 :: a4 :: a5 :: a6 :: a7 :: a8 :: a9 :: zkill a10 :: some v :: l := rfl
theorem zst2_11 {a0 a1 a2 a3 a4 a5 a6 a7 a8 a9 a10 a11 a12 : Option Value} {v : Value} {l : List (Option Value)} : zst2 11 v (a0 :: a1 :: a2 :: a3 :: a4 :: a5 :: a6 :: a7 :: a8 :: a9 :: a10 :: a11 :: a12 :: l) = a0 :: a1 :: a2 :: a3 :: a4 :: a5 :: a6 :: a7 :: a8 :: a9 :: zkill a10 :: some v :: none :: l := rfl
theorem znth12 {a0 a1 a2 a3 a4 a5 a6 a7 a8 a9 a10 a11 a12 : Option Value} {l : List (Option Value)} : znth 12 (a0 :: a1 :: a2 :: a3 :: a4 :: a5 :: a6 :: a7 :: a8 :: a9 :: a10 :: a11 :: a12 :: l) = a12 := rfl
theorem zst1_12 {a0 a1 a2 a3 a4 a5 a6 a7 a8 a9 a10 a11 a12 : Option Value} {v : Value} {l : List (Option Value)} : zst1 12 v (a0 :: a1 :: a2 :: a3 :: a4 :: a5 :: a6 :: a7 :: a8 :: a9 :: a10 :: a11 :: a12 :: l) = a0 :: a1 :: a2 :: a3 :: a4 :: a5 :: a6 :: a7 :: a8 :: a9 :: a10 :: zkill a11 :: some v :: l := rfl
theorem zst2_12 {a0 a1 a2 a3 a4 a5 a6 a7 a8 a9 a10 a11 a12 a13 : Option Value} {v : Value} {l : List (Option Value)} : zst2 12 v (a0 :: a1 :: a2 :: a3 :: a4 :: a5 :: a6 :: a7 :: a8 :: a9 :: a10 :: a11 :: a12 :: a13 :: l) = a0 :: a1 :: a2 :: a3 :: a4 :: a5 :: a6 :: a7 :: a8 :: a9 :: a10 :: zkill a11 :: some v :: none :: l := rfl
theorem znth13 {a0 a1 a2 a3 a4 a5 a6 a7 a8 a9 a10 a11 a12 a13 : Option Value} {l : List (Option Value)} : znth 13 (a0 :: a1 :: a2 :: a3 :: a4 :: a5 :: a6 :: a7 :: a8 :: a9 :: a10 :: a11 :: a12 :: a13 :: l) = a13 := rfl
theorem zst1_13 {a0 a1 a2 a3 a4 a5 a6 a7 a8 a9 a10 a11 a12 a13 : Option Value} {v : Value} {l : List (Option Value)} : zst1 13 v (a0 :: a1 :: a2 :: a3 :: a4 :: a5 :: a6 :: a7 :: a8 :: a9 :: a10 :: a11 :: a12 :: a13 :: l) = a0 :: a1 :: a2 :: a3 :: a4 :: a5 :: a6 :: a7 :: a8 :: a9 :: a10 :: a11 :: zkill a12 :: some v :: l := rfl
theorem zst2_13 {a0 a1 a2 a3 a4 a5 a6 a7 a8 a9 a10 a11 a12 a13 a14 : Option Value} {v : Value} {l : List (Option Value)} : zst2 13 v (a0 :: a1 :: a2 :: a3 :: a4 :: a5 :: a6 :: a7 :: a8 :: a9 :: a10 :: a11 :: a12 :: a13 :: a14 :: l) = a0 :: a1 :: a2 :: a3 :: a4 :: a5 :: a6 :: a7 :: a8 :: a9 :: a10 :: a11 :: zkill a12 :: some v :: none :: l := rfl
theorem znth14 {a0 a1 a2 a3 a4 a5 a6 a7 a8 a9 a10 a11 a12 a13 a14 : Option Value} {l : List (Option Value)} : znth 14 (a0 :: a1 :: a2 :: a3 :: a4 :: a5 :: a6 :: a7 :: a8 :: a9 :: a10 :: a11 :: a12 :: a13 :: a14 :: l) = a14 := rfl
theorem zst1_14 {a0 a1 a2 a3 a4 a5 a6 a7 a8 a9 a10 a11 a12 a13 a14 : Option Value} {v : Value} {l : List (Option Value)} : zst1 14 v (a0 :: a1 :: a2 :: a3 :: a4 :: a5 :: a6 :: a7 :: a8 :: a9 :: a10 :: a11 :: a12 :: a13 :: a14 :: l) = a0 :: a1 :: a2 :: a3 :: a4 :: a5 :: a6 :: a7 :: a8 :: a9 :: a10 :: a11 :: a12 :: zkill a13 :: some v :: l := rfl
theorem zst2_14 {a0 a1 a2 a3 a4 a5 a6 a7 a8 a9 a10 a11 a12 a13 a14 a15 : Option Value} {v : Value} {l : List (Option Value)} : zst2 14 v (a0 :: a1 :: a2 :: a3 :: a4 :: a5 :: a6 :: a7 :: a8 :: a9 :: a10 :: a11 :: a12 :: a13 :: a14 :: a15 :: l) = a0 :: a1 :: a2 :: a3 :: a4 :: a5 :: a6 :: a7 :: a8 :: a9 :: a10 :: a11 :: a12 :: zkill a13 :: some v :: none :: l := rfl
theorem znth15 {a0 a1 a2 a3 a4 a5 a6 a7 a8 a9 a10 a11 a12 a13 a14 a15 : Option Value} {l : List (Option Value)} : znth 15 (a0 :: a1 :: a2 :: a3 :: a4 :: a5 :: a6 :: a7 :: a8 :: a9 :: a10 :: a11 :: a12 :: a13 :: a14 :: a15 :: l) = a15 := rfl
theorem zst1_15 {a0 a1 a2 a3 a4 a5 a6 a7 a8 a9 a10 a11 a12 a13 a14 a15 : Option Value} {v : Value} {l : List (Option Value)} : zst1 15 v (a0 :: a1 :: a2 :: a3 :: a4 :: a5 :: a6 :: a7 :: a8 :: a9 :: a10 :: a11 :: a12 :: a13 :: a14 :: a15 :: l) = a0 :: a1 :: a2 :: a3 :: a4 :: a5 :: a6 :: a7 :: a8 :: a9 :: a10 :: a11 :: a12 :: a13 :: zkill a14 :: some v :: l := rfl
theorem zst2_15 {a0 a1 a2 a3 a4 a5 a6 a7 a8 a9 a10 a11 a12 a13 a14 a15 a16 : Option Value} {v : Value} {l : List (Option Value)} : zst2 15 v (a0 :: a1 :: a2 :: a3 :: a4 :: a5 :: a6 :: a7 :: a8 :: a9 :: a10 :: a11 :: a12 :: a13 :: a14 :: a15 :: a16 :: l) = a0 :: a1 :: a2 :: a3 :: a4 :: a5 :: a6 :: a7 :: a8 :: a9 :: a10 :: a11 :: a12 :: a13 :: zkill a14 :: some v :: none :: l := rfl
theorem znth16 {a0 a1 a2 a3 a4 a5 a6 a7 a8 a9 a10 a11 a12 a13 a14 a15 a16 : Option Value} {l : List (Option Value)} : znth 16 (a0 :: a1 :: a2 :: a3 :: a4 :: a5 :: a6 :: a7 :: a8 :: a9 :: a10 :: a11 :: a12 :: a13 :: a14 :: a15 :: a16 :: l) = a16 := rfl
theorem zst1_16 {a0 a1 a2 a3 a4 a5 a6 a7 a8 a9 a10 a11 a12 a13 a14 a15 a16 : Option Value} {v : Value} {l : List (Option Value)} : zst1 16 v (a0 :: a1 :: a2 :: a3 :: a4 :: a5 :: a6 :: a7 :: a8 :: a9 :: a10 :: a11 :: a12 :: a13 :: a14 :: a15 :: a16 :: l) = a0 :: a1 :: a2 :: a3 :: a4 :: a5 :: a6 :: a7 :: a8 :: a9 :: a10 :: a11 :: a12 :: a13 :: a14 :: zkill a15 :: some v :: l := rfl
theorem zst2_16 {a0 a1 a2 a3 a4 a5 a6 a7 a8 a9 a10 a11 a12 a13 a14 a15 a16 a17 : Option Value} {v : Value} {l : List (Option Value)} : zst2 16 v (a0 :: a1 :: a2 :: a3 :: a4 :: a5 :: a6 :: a7 :: a8 :: a9 :: a10 :: a11 :: a12 :: a13 :: a14 :: a15 :: a16 :: a17 :: l) = a0 :: a1 :: a2 :: a3 :: a4 :: a5 :: a6 :: a7 :: a8 :: a9 :: a10 :: a11 :: a12 :: a13 :: a14 :: zkill a15 :: some v :: none :: l := rfl
theorem znth17 {a0 a1 a2 a3 a4 a5 a6 a7 a8 a9 a10 a11 a12 a13 a14 a15 a16 a17 : Option Value} {l : List (Option Value)} : znth 17 (a0 :: a1 :: a2 :: a3 :: a4 :: a5 :: a6 :: a7 :: a8 :: a9 :: a10 :: a11 :: a12 :: a13 :: a14 :: a15 :: a16 :: a17 :: l) = a17 := rfl
theorem zst1_17 {a0 a1 a2 a3 a4 a5 a6 a7 a8 a9 a10 a11 a12 a13 a14 a15 a16 a17 : Option Value} {v : Value} {l : List (Option Value)} : zst1 17 v (a0 :: a1 :: a2 :: a3 :: a4 :: a5 :: a6 :: a7 :: a8 :: a9 :: a10 :: a11 :: a12 :: a13 :: a14 :: a15 :: a16 :: a17 :: l) = a0 :: a1 :: a2 :: a3 :: a4 :: a5 :: a6 :: a7 :: a8 :: a9 :: a10 :: a11 :: a12 :: a13 :: a14 :: a15 :: zkill a16 :: some v :: l := rfl
theorem zst2_17 {a0 a1 a2 a3 a4 a5 a6 a7 a8 a9 a10 a11 a12 a13 a14 a15 a16 a17 a18 : Option Value} {v : Value} {l : List (Option Value)} : zst2 17 v (a0 :: a1 :: a2 :: a3 :: a4 :: a5 :: a6 :: a7 :: a8 :: a9 :: a10 :: a11 :: a12 :: a13 :: a14 :: a15 :: a16 :: a17 :: a18 :: l) = a0 :: a1 :: a2 :: a3 :: a4 :: a5 :: a6 :: a7 :: a8 :: a9 :: a10 :: a11 :: a12 :: a13 :: a14 :: a15 :: zkill a16 :: some v :: none :: l := rfl
theorem znth18 {a0 a1 a2 a3 a4 a5 a6 a7 a8 a9 a10 a11 a12 a13 a14 a15 a16 a17 a18 : Option Value} {l : List (Option Value)} : znth 18 (a0 :: a1 :: a2 :: a3 :: a4 :: a5 :: a6 :: a7 :: a8 :: a9 :: a10 :: a11 :: a12 :: a13 :: a14 :: a15 :: a16 :: a17 :: a18 :: l) = a18 := rfl
theorem zst1_18 {a0 a1 a2 a3 a4 a5 a6 a7 a8 a9 a10 a11 a12 a13 a14 a15 a16 a17 a18 : Option Value} {v : Value} {l : List (Option Value)} : zst1 18 v (a0 :: a1 :: a2 :: a3 :: a4 :: a5 :: a6 :: a7 :: a8 :: a9 :: a10 :: a11 :: a12 :: a13 :: a14 :: a15 :: a16 :: a17 :: a18 :: l) = a0 :: a1 :: a2 :: a3 :: a4 :: a5 :: a6 :: a7 :: a8 :: a9 :: a10 :: a11 :: a12 :: a13 :: a14 :: a15 :: a16 :: zkill a17 :: some v :: l := rfl
theorem zst2_18 {a0 a1 a2 a3 a4 a5 a6 a7 a8 a9 a10 a11 a12 a13 a14 a15 a16 a17 a18 a19 : Option Value} {v : Value} {l : List (Option Value)} : zst2 18 v (a0 :: a1 :: a2 :: a3 :: a4 :: a5 :: a6 :: a7 :: a8 :: a9 :: a10 :: a11 :: a12 :: a13 :: a14 :: a15 :: a16 :: a17 :: a18 :: a19 :: l) = a0 :: a1 :: a2 :: a3 :: a4 :: a5 :: a6 :: a7 :: a8 :: a9 :: a10 :: a11 :: a12 :: a13 :: a14 :: a15 :: a16 :: zkill a17 :: some v :: none :: l := rfl
theorem znth19 {a0 a1 a2 a3 a4 a5 a6 a7 a8 a9 a10 a11 a12 a13 a14 a15 a16 a17 a18 a19 : Option Value} {l : List (Option Value)} : znth 19 (a0 :: a1 :: a2 :: a3 :: a4 :: a5 :: a6 :: a7 :: a8 :: a9 :: a10 :: a11 :: a12 :: a13 :: a14 :: a15 :: a16 :: a17 :: a18 :: a19 :: l) = a19 := rfl
theorem zst1_19 {a0 a1 a2 a3 a4 a5 a6 a7 a8 a9 a10 a11 a12 a13 a14 a15 a16 a17 a18 a19 : Option Value} {v : Value} {l : List (Option Value)} : zst1 19 v (a0 :: a1 :: a2 :: a3 :: a4 :: a5 :: a6 :: a7 :: a8 :: a9 :: a10 :: a11 :: a12 :: a13 :: a14 :: a15 :: a16 :: a17 :: a18 :: a19 :: l) = a0 :: a1 :: a2 :: a3 :: a4 :: a5 :: a6 :: a7 :: a8 :: a9 :: a10 :: a11 :: a12 :: a13 :: a14 :: a15 :: a16 :: a17 :: zkill a18 :: some v :: l := rfl
theorem zst2_19 {a0 a1 a2 a3 a4 a5 a6 a7 a8 a9 a10 a11 a12 a13 a14 a15 a16 a17 a18 a19 a20 : Option Value} {v : Value} {l : List (Option Value)} : zst2 19 v (a0 :: a1 :: a2 :: a3 :: a4 :: a5 :: a6 :: a7 :: a8 :: a9 :: a10 :: a11 :: a12 :: a13 :: a14 :: a15 :: a16 :: a17 :: a18 :: a19 :: a20 :: l) = a0 :: a1 :: a2 :: a3 :: a4 :: a5 :: a6 :: a7 :: a8 :: a9 :: a10 :: a11 :: a12 :: a13 :: a14 :: a15 :: a16 :: a17 :: zkill a18 :: some v :: none :: l := rfl
theorem znth20 {a0 a1 a2 a3 a4 a5 a6 a7 a8 a9 a10 a11 a12 a13 a14 a15 a16 a17 a18 a19 a20 : Option Value} {l : List (Option Value)} : znth 20 (a0 :: a1 :: a2 :: a3 :: a4 :: a5 :: a6 :: a7 :: a8 :: a9 :: a10 :: a11 :: a12 :: a13 :: a14 :: a15 :: a16 :: a17 :: a18 :: a19 :: a20 :: l) = a20 := rfl
theorem zst1_20 {a0 a1 a2 a3 a4 a5 a6 a7 a8 a9 a10 a11 a12 a13 a14 a15 a16 a17 a18 a19 a20 : Option Value} {v : Value} {l : List (Option Value)} : zst1 20 v (a0 :: a1 :: a2 :: a3 :: a4 :: a5 :: a6 :: a7 :: a8 :: a9 :: a10 :: a11 :: a12 :: a13 :: a14 :: a15 :: a16 :: a17 :: a18 :: a19 :: a20 :: l) = a0 :: a1 :: a2 :: a3 :: a4 :: a5 :: a6 :: a7 :: a8 :: a9 :: a10 :: a11 :: a12 :: a13 :: a14 :: a15 :: a16 :: a17 :: a18 :: zkill a19 :: some v :: l := rfl
theorem zst2_20 {a0 a1 a2 a3 a4 a5 a6 a7 a8 a9 a10 a11 a12 a13 a14 a15 a16 a17 a18 a19 a20 a21 : Option Value} {v : Value} {l : List (Option Value)} : zst2 20 v (a0 :: a1 :: a2 :: a3 :: a4 :: a5 :: a6 :: a7 :: a8 :: a9 :: a10 :: a11 :: a12 :: a13 :: a14 :: a15 :: a16 :: a17 :: a18 :: a19 :: a20 :: a21 :: l) = a0 :: a1 :: a2 :: a3 :: a4 :: a5 :: a6 :: a7 :: a8 :: a9 :: a10 :: a11 :: a12 :: a13 :: a14 :: a15 :: a16 :: a17 :: a18 :: zkill a19 :: some v :: none :: l := rfl
theorem znth21 {a0 a1 a2 a3 a4 a5 a6 a7 a8 a9 a10 a11 a12 a13 a14 a15 a16 a17 a18 a19 a20 a21 : Option Value} {l : List (Option Value)} : znth 21 (a0 :: a1 :: a2 :: a3 :: a4 :: a5 :: a6 :: a7 :: a8 :: a9 :: a10 :: a11 :: a12 :: a13 :: a14 :: a15 :: a16 :: a17 :: a18 :: a19 :: a20 :: a21 :: l) = a21 := rfl
theorem zst1_21 {a0 a1 a2 a3 a4 a5 a6 a7 a8 a9 a10 a11 a12 a13 a14 a15 a16 a17 a18 a19 a20 a21 : Option Value} {v : Value} {l : List (Option Value)} : zst1 21 v (a0 :: a1 :: a2 :: a3 :: a4 :: a5 :: a6 :: a7 :: a8 :: a9 :: a10 :: a11 :: a12 :: a13 :: a14 :: a15 :: a16 :: a17 :: a18 :: a19 :: a20 :: a21 :: l) = a0 :: a1 :: a2 :: a3 :: a4 :: a5 :: a6 :: a7 :: a8 :: a9 :: a10 :: a11 :: a12 :: a13 :: a14 :: a15 :: a16 :: a17 :: a18 :: a19 :: zkill a20 :: some v :: l := rfl
theorem zst2_21 {a0 a1 a2 a3 a4 a5 a6 a7 a8 a9 a10 a11 a12 a13 a14 a15 a16 a17 a18 a19 a20 a21 a22 : Option Value} {v : Value} {l : List (Option Value)} : zst2 21 v (a0 :: a1 :: a2 :: a3 :: a4 :: a5 :: a6 :: a7 :: a8 :: a9 :: a10 :: a11 :: a12 :: a13 :: a14 :: a15 :: a16 :: a17 :: a18 :: a19 :: a20 :: a21 :: a22 :: l) = a0 :: a1 :: a2 :: a3 :: a4 :: a5 :: a6 :: a7 :: a8 :: a9 :: a10 :: a11 :: a12 :: a13 :: a14 :: a15 :: a16 :: a17 :: a18 :: a19 :: zkill a20 :: some v :: none :: l := rfl
theorem znth22 {a0 a1 a2 a3 a4 a5 a6 a7 a8 a9 a10 a11 a12 a13 a14 a15 a16 a17 a18 a19 a20 a21 a22 : Option Value} {l : List (Option Value)} : znth 22 (a0 :: a1 :: a2 :: a3 :: a4 :: a5 :: a6 :: a7 :: a8 :: a9 :: a10 :: a11 :: a12 :: a13 :: a14 :: a15 :: a16 :: a17 :: a18 :: a19 :: a20 :: a21 :: a22 :: l) = a22 := rfl
theorem zst1_22 {a0 a1 a2 a3 a4 a5 a6 a7 a8 a9 a10 a11 a12 a13 a14 a15 a16 a17 a18 a19 a20 a21 a22 : Option Value} {v : Value} {l : List (Option Value)} : zst1 22 v (a0 :: a1 :: a2 :: a3 :: a4 :: a5 :: a6 :: a7 :: a8 :: a9 :: a10 :: a11 :: a12 :: a13 :: a14 :: a15 :: a16 :: a17 :: a18 :: a19 :: a20 :: a21 :: a22 :: l) = a0 :: a1 :: a2 :: a3 :: a4 :: a5 :: a6 :: a7 :: a8 :: a9 :: a10 :: a11 :: a12 :: a13 :: a14 :: a15 :: a16 :: a17 :: a18 :: a19 :: a20 :: zkill a21 :: some v :: l := rfl
theorem zst2_22 {a0 a1 a2 a3 a4 a5 a6 a7 a8 a9 a10 a11 a12 a13 a14 a15 a16 a17 a18 a19 a20 a21 a22 a23 : Option Value} {v : Value} {l : List (Option Value)} : zst2 22 v (a0 :: a1 :: a2 :: a3 :: a4 :: a5 :: a6 :: a7 :: a8 :: a9 :: a10 :: a11 :: a12 :: a13 :: a14 :: a15 :: a16 :: a17 :: a18 :: a19 :: a20 :: a21 :: a22 :: a23 :: l) = a0 :: a1 :: a2 :: a3 :: a4 :: a5 :: a6 :: a7 :: a8 :: a9 :: a10 :: a11 :: a12 :: a13 :: a14 :: a15 :: a16 :: a17 :: a18 :: a19 :: a20 :: zkill a21 :: some v :: none :: l := rfl
theorem znth23 {a0 a1 a2 a3 a4 a5 a6 a7 a8 a9 a10 a11 a12 a13 a14 a15 a16 a17 a18 a19 a20 a21 a22 a23 : Option Value} {l : List (Option Value)} : znth 23 (a0 :: a1 :: a2 :: a3 :: a4 :: a5 :: a6 :: a7 :: a8 :: a9 :: a10 :: a11 :: a12 :: a13 :: a14 :: a15 :: a16 :: a17 :: a18 :: a19 :: a20 :: a21 :: a22 :: a23 :: l) = a23 := rfl
theorem zst1_23 {a0 a1 a2 a3 a4 a5 a6 a7 a8 a9 a10 a11 a12 a13 a14 a15 a16 a17 a18 a19 a20 a21 a22 a23 : Option Value} {v : Value} {l : List (Option Value)} : zst1 23 v (a0 :: a1 :: a2 :: a3 :: a4 :: a5 :: a6 :: a7 :: a8 :: a9 :: a10 :: a11 :: a12 :: a13 :: a14 :: a15 :: a16 :: a17 :: a18 :: a19 :: a20 :: a21 :: a22 :: a23 :: l) = a0 :: a1 :: a2 :: a3 :: a4 :: a5 :: a6 :: a7 :: a8 :: a9 :: a10 :: a11 :: a12 :: a13 :: a14 :: a15 :: a16 :: a17 :: a18 :: a19 :: a20 :: a21 :: zkill a22 :: some v :: l := rfl
theorem zst2_23 {a0 a1 a2 a3 a4 a5 a6 a7 a8 a9 a10 a11 a12 a13 a14 a15 a16 a17 a18 a19 a20 a21 a22 a23 a24 : Option Value} {v : Value} {l : List (Option Value)} : zst2 23 v (a0 :: a1 :: a2 :: a3 :: a4 :: a5 :: a6 :: a7 :: a8 :: a9 :: a10 :: a11 :: a12 :: a13 :: a14 :: a15 :: a16 :: a17 :: a18 :: a19 :: a20 :: a21 :: a22 :: a23 :: a24 :: l) = a0 :: a1 :: a2 :: a3 :: a4 :: a5 :: a6 :: a7 :: a8 :: a9 :: a10 :: a11 :: a12 :: a13 :: a14 :: a15 :: a16 :: a17 :: a18 :: a19 :: a20 :: a21 :: zkill a22 :: some v :: none :: l := rfl
theorem znth24 {a0 a1 a2 a3 a4 a5 a6 a7 a8 a9 a10 a11 a12 a13 a14 a15 a16 a17 a18 a19 a20 a21 a22 a23 a24 : Option Value} {l : List (Option Value)} : znth 24 (a0 :: a1 :: a2 :: a3 :: a4 :: a5 :: a6 :: a7 :: a8 :: a9 :: a10 :: a11 :: a12 :: a13 :: a14 :: a15 :: a16 :: a17 :: a18 :: a19 :: a20 :: a21 :: a22 :: a23 :: a24 :: l) = a24 := rfl
theorem zst1_24 {a0 a1 a2 a3 a4 a5 a6 a7 a8 a9 a10 a11 a12 a13 a14 a15 a16 a17 a18 a19 a20 a21 a22 a23 a24 : Option Value} {v : Value} {l : List (Option Value)} : zst1 24 v (a0 :: a1 :: a2 :: a3 :: a4 :: a5 :: a6 :: a7 :: a8 :: a9 :: a10 :: a11 :: a12 :: a13 :: a14 :: a15 :: a16 :: a17 :: a18 :: a19 :: a20 :: a21 :: a22 :: a23 :: a24 :: l) = a0 :: a1 :: a2 :: a3 :: a4 :: a5 :: a6 :: a7 :: a8 :: a9 :: a10 :: a11 :: a12 :: a13 :: a14 :: a15 :: a16 :: a17 :: a18 :: a19 :: a20 :: a21 :: a22 :: zkill a23 :: some v :: l := rfl
theorem zst2_24 {a0 a1 a2 a3 a4 a5 a6 a7 a8 a9 a10 a11 a12 a13 a14 a15 a16 a17 a18 a19 a20 a21 a22 a23 a24 a25 : Option Value} {v : Value} {l : List (Option Value)} : zst2 24 v (a0 :: a1 :: a2 :: a3 :: a4 :: a5 :: a6 :: a7 :: a8 :: a9 :: a10 :: a11 :: a12 :: a13 :: a14 :: a15 :: a16 :: a17 :: a18 :: a19 :: a20 :: a21 :: a22 :: a23 :: a24 :: a25 :: l) = a0 :: a1 :: a2 :: a3 :: a4 :: a5 :: a6 :: a7 :: a8 :: a9 :: a10 :: a11 :: a12 :: a13 :: a14 :: a15 :: a16 :: a17 :: a18 :: a19 :: a20 :: a21 :: a22 :: zkill a23 :: some v :: none :: l := rfl
theorem znth25 {a0 a1 a2 a3 a4 a5 a6 a7 a8 a9 a10 a11 a12 a13 a14 a15 a16 a17 a18 a19 a20 a21 a22 a23 a24 a25 : Option Value} {l : List (Option Value)} : znth 25 (a0 :: a1 :: a2 :: a3 :: a4 :: a5 :: a6 :: a7 :: a8 :: a9 :: a10 :: a11 :: a12 :: a13 :: a14 :: a15 :: a16 :: a17 :: a18 :: a19 :: a20 :: a21 :: a22 :: a23 :: a24 :: a25 :: l) = a25 := rfl
theorem zst1_25 {a0 a1 a2 a3 a4 a5 a6 a7 a8 a9 a10 a11 a12 a13 a14 a15 a16 a17 a18 a19 a20 a21 a22 a23 a24 a25 : Option Value} {v : Value} {l : List (Option Value)} : zst1 25 v (a0 :: a1 :: a2 :: a3 :: a4 :: a5 :: a6 :: a7 :: a8 :: a9 :: a10 :: a11 :: a12 :: a13 :: a14 :: a15 :: a16 :: a17 :: a18 :: a19 :: a20 :: a21 :: a22 :: a23 :: a24 :: a25 :: l) = a0 :: a1 :: a2 :: a3 :: a4 :: a5 :: a6 :: a7 :: a8 :: a9 :: a10 :: a11 :: a12 :: a13 :: a14 :: a15 :: a16 :: a17 :: a18 :: a19 :: a20 :: a21 :: a22 :: a23 :: zkill a24 :: some v :: l := rfl
theorem zst2_25 {a0 a1 a2 a3 a4 a5 a6 a7 a8 a9 a10 a11 a12 a13 a14 a15 a16 a17 a18 a19 a20 a21 a22 a23 a24 a25 a26 : Option Value} {v : Value} {l : List (Option Value)} : zst2 25 v (a0 :: a1 :: a2 :: a3 :: a4 :: a5 :: a6 :: a7 :: a8 :: a9 :: a10 :: a11 :: a12 :: a13 :: a14 :: a15 :: a16 :: a17 :: a18 :: a19 :: a20 :: a21 :: a22 :: a23 :: a24 :: a25 :: a26 :: l) = a0 :: a1 :: a2 :: a3 :: a4 :: a5 :: a6 :: a7 :: a8 :: a9 :: a10 :: a11 :: a12 :: a13 :: a14 :: a15 :: a16 :: a17 :: a18 :: a19 :: a20 :: a21 :: a22 :: a23 :: zkill a24 :: some v :: none :: l := rfl
theorem zkill_n : zkill none = none := rfl
theorem zkill_int {x : Int32} : zkill (some (.int x)) = some (.int x) := rfl
theorem zkill_ref {x : Nat} : zkill (some (.ref x)) = some (.ref x) := rfl
theorem zkill_null : zkill (some .null) = some .null := rfl
theorem zkill_long {x : Int64} : zkill (some (.long x)) = none := rfl
theorem zkill_double {x : UInt64} : zkill (some (.double x)) = none := rfl
theorem zkill_rf {r : Option Nat} : zkill (some (va_rf r)) = some (va_rf r) := by cases r <;> rfl
theorem zoI_s {x : Int32} {f : Int32 → Prop} : zoI (some (.int x)) f = f x := rfl
theorem zoJ_s {x : Int64} {f : Int64 → Prop} : zoJ (some (.long x)) f = f x := rfl
theorem zoD_s {x : UInt64} {f : UInt64 → Prop} : zoD (some (.double x)) f = f x := rfl
theorem zoA_s {x : Nat} {f : Value → Prop} : zoA (some (.ref x)) f = f (.ref x) := propext ⟨fun h => h.2, fun h => ⟨trivial, h⟩⟩
theorem zoA_n {f : Value → Prop} : zoA (some .null) f = f .null := propext ⟨fun h => h.2, fun h => ⟨trivial, h⟩⟩
theorem zoA_rf {r : Option Nat} {f : Value → Prop} : zoA (some (va_rf r)) f = f (va_rf r) := by cases r <;> exact propext ⟨fun h => h.2, fun h => ⟨trivial, h⟩⟩
theorem zref_s {x : Nat} : zref (.ref x) = True := rfl
theorem zref_n : zref .null = True := rfl
theorem zref_rf {r : Option Nat} : zref (va_rf r) = True := by cases r <;> rfl
theorem va_rf_s {x : Nat} : va_rf (some x) = .ref x := rfl
theorem va_rf_n : va_rf none = .null := rfl
theorem zpop_0 {st acc : List Value} {f : List Value → List Value → Prop} : zpop 0 st acc f = f acc st := rfl
theorem zpop_1 {v : Value} {st acc : List Value} {f : List Value → List Value → Prop} : zpop 1 (v :: st) acc f = zpop 0 st (v :: acc) f := rfl
theorem zpop_2 {v : Value} {st acc : List Value} {f : List Value → List Value → Prop} : zpop 2 (v :: st) acc f = zpop 1 st (v :: acc) f := rfl
theorem zpop_3 {v : Value} {st acc : List Value} {f : List Value → List Value → Prop} : zpop 3 (v :: st) acc f = zpop 2 st (v :: acc) f := rfl
theorem zpop_4 {v : Value} {st acc : List Value} {f : List Value → List Value → Prop} : zpop 4 (v :: st) acc f = zpop 3 st (v :: acc) f := rfl
theorem zpop_5 {v : Value} {st acc : List Value} {f : List Value → List Value → Prop} : zpop 5 (v :: st) acc f = zpop 4 st (v :: acc) f := rfl
theorem zpop_6 {v : Value} {st acc : List Value} {f : List Value → List Value → Prop} : zpop 6 (v :: st) acc f = zpop 5 st (v :: acc) f := rfl
theorem zA1_s {a : Nat} {r : List Value} {f : Nat → List Value → Prop} : zA1 (.ref a :: r) f = f a r := rfl
theorem zoc_s {c : zCt} {f : zCt → Prop} : zoc (some c) f = f c := rfl
theorem zget0 {a0 : zCt} {l : List zCt} : zget (a0 :: l) 0 = some a0 := rfl
theorem zget1 {a0 a1 : zCt} {l : List zCt} : zget (a0 :: a1 :: l) 1 = some a1 := rfl
theorem zget2 {a0 a1 a2 : zCt} {l : List zCt} : zget (a0 :: a1 :: a2 :: l) 2 = some a2 := rfl
theorem zget3 {a0 a1 a2 a3 : zCt} {l : List zCt} : zget (a0 :: a1 :: a2 :: a3 :: l) 3 = some a3 := rfl
theorem zget4 {a0 a1 a2 a3 a4 : zCt} {l : List zCt} : zget (a0 :: a1 :: a2 :: a3 :: a4 :: l) 4 = some a4 := rfl
theorem zget5 {a0 a1 a2 a3 a4 a5 : zCt} {l : List zCt} : zget (a0 :: a1 :: a2 :: a3 :: a4 :: a5 :: l) 5 = some a5 := rfl
theorem zget6 {a0 a1 a2 a3 a4 a5 a6 : zCt} {l : List zCt} : zget (a0 :: a1 :: a2 :: a3 :: a4 :: a5 :: a6 :: l) 6 = some a6 := rfl
theorem zget7 {a0 a1 a2 a3 a4 a5 a6 a7 : zCt} {l : List zCt} : zget (a0 :: a1 :: a2 :: a3 :: a4 :: a5 :: a6 :: a7 :: l) 7 = some a7 := rfl
theorem zget8 {a0 a1 a2 a3 a4 a5 a6 a7 a8 : zCt} {l : List zCt} : zget (a0 :: a1 :: a2 :: a3 :: a4 :: a5 :: a6 :: a7 :: a8 :: l) 8 = some a8 := rfl
theorem zget9 {a0 a1 a2 a3 a4 a5 a6 a7 a8 a9 : zCt} {l : List zCt} : zget (a0 :: a1 :: a2 :: a3 :: a4 :: a5 :: a6 :: a7 :: a8 :: a9 :: l) 9 = some a9 := rfl
theorem zget10 {a0 a1 a2 a3 a4 a5 a6 a7 a8 a9 a10 : zCt} {l : List zCt} : zget (a0 :: a1 :: a2 :: a3 :: a4 :: a5 :: a6 :: a7 :: a8 :: a9 :: a10 :: l) 10 = some a10 := rfl
theorem zget11 {a0 a1 a2 a3 a4 a5 a6 a7 a8 a9 a10 a11 : zCt} {l : List zCt} : zget (a0 :: a1 :: a2 :: a3 :: a4 :: a5 :: a6 :: a7 :: a8 :: a9 :: a10 :: a11 :: l) 11 = some a11 := rfl
theorem zget12 {a0 a1 a2 a3 a4 a5 a6 a7 a8 a9 a10 a11 a12 : zCt} {l : List zCt} : zget (a0 :: a1 :: a2 :: a3 :: a4 :: a5 :: a6 :: a7 :: a8 :: a9 :: a10 :: a11 :: a12 :: l) 12 = some a12 := rfl
theorem zget13 {a0 a1 a2 a3 a4 a5 a6 a7 a8 a9 a10 a11 a12 a13 : zCt} {l : List zCt} : zget (a0 :: a1 :: a2 :: a3 :: a4 :: a5 :: a6 :: a7 :: a8 :: a9 :: a10 :: a11 :: a12 :: a13 :: l) 13 = some a13 := rfl
theorem zget14 {a0 a1 a2 a3 a4 a5 a6 a7 a8 a9 a10 a11 a12 a13 a14 : zCt} {l : List zCt} : zget (a0 :: a1 :: a2 :: a3 :: a4 :: a5 :: a6 :: a7 :: a8 :: a9 :: a10 :: a11 :: a12 :: a13 :: a14 :: l) 14 = some a14 := rfl
theorem zget15 {a0 a1 a2 a3 a4 a5 a6 a7 a8 a9 a10 a11 a12 a13 a14 a15 : zCt} {l : List zCt} : zget (a0 :: a1 :: a2 :: a3 :: a4 :: a5 :: a6 :: a7 :: a8 :: a9 :: a10 :: a11 :: a12 :: a13 :: a14 :: a15 :: l) 15 = some a15 := rfl
theorem zget16 {a0 a1 a2 a3 a4 a5 a6 a7 a8 a9 a10 a11 a12 a13 a14 a15 a16 : zCt} {l : List zCt} : zget (a0 :: a1 :: a2 :: a3 :: a4 :: a5 :: a6 :: a7 :: a8 :: a9 :: a10 :: a11 :: a12 :: a13 :: a14 :: a15 :: a16 :: l) 16 = some a16 := rfl
theorem zget17 {a0 a1 a2 a3 a4 a5 a6 a7 a8 a9 a10 a11 a12 a13 a14 a15 a16 a17 : zCt} {l : List zCt} : zget (a0 :: a1 :: a2 :: a3 :: a4 :: a5 :: a6 :: a7 :: a8 :: a9 :: a10 :: a11 :: a12 :: a13 :: a14 :: a15 :: a16 :: a17 :: l) 17 = some a17 := rfl
theorem zget18 {a0 a1 a2 a3 a4 a5 a6 a7 a8 a9 a10 a11 a12 a13 a14 a15 a16 a17 a18 : zCt} {l : List zCt} : zget (a0 :: a1 :: a2 :: a3 :: a4 :: a5 :: a6 :: a7 :: a8 :: a9 :: a10 :: a11 :: a12 :: a13 :: a14 :: a15 :: a16 :: a17 :: a18 :: l) 18 = some a18 := rfl
theorem zget19 {a0 a1 a2 a3 a4 a5 a6 a7 a8 a9 a10 a11 a12 a13 a14 a15 a16 a17 a18 a19 : zCt} {l : List zCt} : zget (a0 :: a1 :: a2 :: a3 :: a4 :: a5 :: a6 :: a7 :: a8 :: a9 :: a10 :: a11 :: a12 :: a13 :: a14 :: a15 :: a16 :: a17 :: a18 :: a19 :: l) 19 = some a19 := rfl
theorem zget20 {a0 a1 a2 a3 a4 a5 a6 a7 a8 a9 a10 a11 a12 a13 a14 a15 a16 a17 a18 a19 a20 : zCt} {l : List zCt} : zget (a0 :: a1 :: a2 :: a3 :: a4 :: a5 :: a6 :: a7 :: a8 :: a9 :: a10 :: a11 :: a12 :: a13 :: a14 :: a15 :: a16 :: a17 :: a18 :: a19 :: a20 :: l) 20 = some a20 := rfl
theorem zget21 {a0 a1 a2 a3 a4 a5 a6 a7 a8 a9 a10 a11 a12 a13 a14 a15 a16 a17 a18 a19 a20 a21 : zCt} {l : List zCt} : zget (a0 :: a1 :: a2 :: a3 :: a4 :: a5 :: a6 :: a7 :: a8 :: a9 :: a10 :: a11 :: a12 :: a13 :: a14 :: a15 :: a16 :: a17 :: a18 :: a19 :: a20 :: a21 :: l) 21 = some a21 := rfl
theorem zget22 {a0 a1 a2 a3 a4 a5 a6 a7 a8 a9 a10 a11 a12 a13 a14 a15 a16 a17 a18 a19 a20 a21 a22 : zCt} {l : List zCt} : zget (a0 :: a1 :: a2 :: a3 :: a4 :: a5 :: a6 :: a7 :: a8 :: a9 :: a10 :: a11 :: a12 :: a13 :: a14 :: a15 :: a16 :: a17 :: a18 :: a19 :: a20 :: a21 :: a22 :: l) 22 = some a22 := rfl
theorem zget23 {a0 a1 a2 a3 a4 a5 a6 a7 a8 a9 a10 a11 a12 a13 a14 a15 a16 a17 a18 a19 a20 a21 a22 a23 : zCt} {l : List zCt} : zget (a0 :: a1 :: a2 :: a3 :: a4 :: a5 :: a6 :: a7 :: a8 :: a9 :: a10 :: a11 :: a12 :: a13 :: a14 :: a15 :: a16 :: a17 :: a18 :: a19 :: a20 :: a21 :: a22 :: a23 :: l) 23 = some a23 := rfl
theorem zget24 {a0 a1 a2 a3 a4 a5 a6 a7 a8 a9 a10 a11 a12 a13 a14 a15 a16 a17 a18 a19 a20 a21 a22 a23 a24 : zCt} {l : List zCt} : zget (a0 :: a1 :: a2 :: a3 :: a4 :: a5 :: a6 :: a7 :: a8 :: a9 :: a10 :: a11 :: a12 :: a13 :: a14 :: a15 :: a16 :: a17 :: a18 :: a19 :: a20 :: a21 :: a22 :: a23 :: a24 :: l) 24 = some a24 := rfl
theorem zget25 {a0 a1 a2 a3 a4 a5 a6 a7 a8 a9 a10 a11 a12 a13 a14 a15 a16 a17 a18 a19 a20 a21 a22 a23 a24 a25 : zCt} {l : List zCt} : zget (a0 :: a1 :: a2 :: a3 :: a4 :: a5 :: a6 :: a7 :: a8 :: a9 :: a10 :: a11 :: a12 :: a13 :: a14 :: a15 :: a16 :: a17 :: a18 :: a19 :: a20 :: a21 :: a22 :: a23 :: a24 :: a25 :: l) 25 = some a25 := rfl
theorem zwt_0 : zwt [] = 0 := rfl
theorem zwt_int {x : Int32} {l : List Value} : zwt (.int x :: l) = 1 + zwt l := by simp [zwt, Value.category]
theorem zcat_int {x : Int32} : Value.category (.int x) = 1 := rfl
theorem zwt_ref {x : Nat} {l : List Value} : zwt (.ref x :: l) = 1 + zwt l := by simp [zwt, Value.category]
theorem zcat_ref {x : Nat} : Value.category (.ref x) = 1 := rfl
theorem zwt_long {x : Int64} {l : List Value} : zwt (.long x :: l) = 2 + zwt l := by simp [zwt, Value.category]
theorem zcat_long {x : Int64} : Value.category (.long x) = 2 := rfl
theorem zwt_double {x : UInt64} {l : List Value} : zwt (.double x :: l) = 2 + zwt l := by simp [zwt, Value.category]
theorem zcat_double {x : UInt64} : Value.category (.double x) = 2 := rfl
theorem zwt_null {l : List Value} : zwt (.null :: l) = 1 + zwt l := by simp [zwt, Value.category]
theorem zwt_rf {r : Option Nat} {l : List Value} : zwt (va_rf r :: l) = 1 + zwt l := by cases r <;> simp [zwt, Value.category, va_rf]
theorem zcat_null : Value.category .null = 1 := rfl
theorem zcat_rf {r : Option Nat} : Value.category (va_rf r) = 1 := by cases r <;> rfl
theorem ztl_s {v : Value} {r : List Value} : (some v).toList ++ r = v :: r := rfl
theorem ztl_n {r : List Value} : (none : Option Value).toList ++ r = r := rfl
theorem zpI {x : Int32} {S : zS} {a k : Nat} {f : zS → Prop} : zput .int (.int x) S a k f = f (zsI S a k x) := rfl
theorem zpZ {x : Int32} {S : zS} {a k : Nat} {f : zS → Prop} : zput .boolean (.int x) S a k f = ((x = 0 ∨ x = 1) ∧ f (zsI S a k x)) := rfl
theorem zpJ {x : Int64} {S : zS} {a k : Nat} {f : zS → Prop} : zput .long (.long x) S a k f = f (zsJ S a k x) := rfl
theorem zpD {x : UInt64} {S : zS} {a k : Nat} {f : zS → Prop} : zput .double (.double x) S a k f = f (zsD S a k x) := rfl
theorem zpO {x : Nat} {C : String} {S : zS} {a k : Nat} {f : zS → Prop} : zput (.object C) (.ref x) S a k f = f (zsR S a k (some x)) := rfl
theorem zpA {x : Nat} {t : FieldType} {S : zS} {a k : Nat} {f : zS → Prop} : zput (.array t) (.ref x) S a k f = f (zsR S a k (some x)) := rfl
theorem zfI {S : zS} {a k : Nat} : zfv .int S a k = .int (zI S a k) := rfl
theorem zfZ {S : zS} {a k : Nat} : zfv .boolean S a k = .int (zI S a k) := rfl
theorem zfJ {S : zS} {a k : Nat} : zfv .long S a k = .long (zJ S a k) := rfl
theorem zfD {S : zS} {a k : Nat} : zfv .double S a k = .double (zD S a k) := rfl
theorem zfO {C : String} {S : zS} {a k : Nat} : zfv (.object C) S a k = va_rf (zR S a k) := rfl
theorem zfA {t : FieldType} {S : zS} {a k : Nat} : zfv (.array t) S a k = va_rf (zR S a k) := rfl
theorem zsw_0 {x v : Int} {f : Nat → Prop} : zsw x f v [] = True := rfl
theorem zsw_s {x v : Int} {f : Nat → Prop} {t : Nat} {ts : List Nat} : zsw x f v (t :: ts) = ((x = v → f t) ∧ zsw x f (v + 1) ts) := rfl
theorem zYX1_0 : zYX 1 0 = .array (.object "SystemLab$Whole") := rfl
theorem zYX1_1 : zYX 1 1 = .object "SystemLab$Whole" := rfl
theorem zYX1_2 : zYX 1 2 = .object "SystemLab$Whole" := rfl
theorem zYX1_3 : zYX 1 3 = .object "SystemLab$Whole" := rfl
theorem zYX1_4 : zYX 1 4 = .object "SystemLab$Whole" := rfl
theorem zYX1_5 : zYX 1 5 = .array .int := rfl
theorem zYX1_6 : zYX 1 6 = .array .boolean := rfl
theorem zYX1_7 : zYX 1 7 = .int := rfl
theorem zYX1_8 : zYX 1 8 = .int := rfl
theorem zYX1_9 : zYX 1 9 = .int := rfl
theorem zYX1_10 : zYX 1 10 = .int := rfl
theorem zYX1_11 : zYX 1 11 = .int := rfl
theorem zYX1_12 : zYX 1 12 = .boolean := rfl
theorem zYX1_13 : zYX 1 13 = .int := rfl
theorem zYX1_14 : zYX 1 14 = .int := rfl
theorem zNX1 : zNX 1 = 15 := rfl
theorem zYX2_0 : zYX 2 0 = .boolean := rfl
theorem zYX2_1 : zYX 2 1 = .int := rfl
theorem zYX2_2 : zYX 2 2 = .int := rfl
theorem zYX2_3 : zYX 2 3 = .boolean := rfl
theorem zYX2_4 : zYX 2 4 = .boolean := rfl
theorem zYX2_5 : zYX 2 5 = .long := rfl
theorem zYX2_6 : zYX 2 6 = .array .long := rfl
theorem zYX2_7 : zYX 2 7 = .array .int := rfl
theorem zYX2_8 : zYX 2 8 = .array .int := rfl
theorem zYX2_9 : zYX 2 9 = .array .long := rfl
theorem zYX2_10 : zYX 2 10 = .array .long := rfl
theorem zNX2 : zNX 2 = 11 := rfl
theorem zYX3_0 : zYX 3 0 = .boolean := rfl
theorem zYX3_1 : zYX 3 1 = .int := rfl
theorem zYX3_2 : zYX 3 2 = .int := rfl
theorem zYX3_3 : zYX 3 3 = .int := rfl
theorem zYX3_4 : zYX 3 4 = .int := rfl
theorem zYX3_5 : zYX 3 5 = .int := rfl
theorem zYX3_6 : zYX 3 6 = .array .long := rfl
theorem zNX3 : zNX 3 = 7 := rfl
theorem zYX4_0 : zYX 4 0 = .array .int := rfl
theorem zYX4_1 : zYX 4 1 = .array .int := rfl
theorem zYX4_2 : zYX 4 2 = .array .int := rfl
theorem zYX4_3 : zYX 4 3 = .array .boolean := rfl
theorem zYX4_4 : zYX 4 4 = .int := rfl
theorem zYX4_5 : zYX 4 5 = .int := rfl
theorem zNX4 : zNX 4 = 6 := rfl
theorem zYX5_0 : zYX 5 0 = .object "SystemLab$Total" := rfl
theorem zYX5_1 : zYX 5 1 = .object "SystemLab$Total" := rfl
theorem zYX5_2 : zYX 5 2 = .object "SystemLab$Total" := rfl
theorem zYX5_3 : zYX 5 3 = .object "SystemLab$Total" := rfl
theorem zYX5_4 : zYX 5 4 = .array .long := rfl
theorem zYX5_5 : zYX 5 5 = .array .long := rfl
theorem zYX5_6 : zYX 5 6 = .array .long := rfl
theorem zYX5_7 : zYX 5 7 = .array .long := rfl
theorem zYX5_8 : zYX 5 8 = .array .long := rfl
theorem zNX5 : zNX 5 = 9 := rfl
theorem zYX6_0 : zYX 6 0 = .int := rfl
theorem zYX6_1 : zYX 6 1 = .int := rfl
theorem zYX6_2 : zYX 6 2 = .int := rfl
theorem zYX6_3 : zYX 6 3 = .array .int := rfl
theorem zYX6_4 : zYX 6 4 = .array .int := rfl
theorem zNX6 : zNX 6 = 5 := rfl
theorem zYX7_0 : zYX 7 0 = .array .long := rfl
theorem zYX7_1 : zYX 7 1 = .int := rfl
theorem zYX7_2 : zYX 7 2 = .int := rfl
theorem zYX7_3 : zYX 7 3 = .boolean := rfl
theorem zNX7 : zNX 7 = 4 := rfl
theorem zYX8_0 : zYX 8 0 = .boolean := rfl
theorem zYX8_1 : zYX 8 1 = .int := rfl
theorem zYX8_2 : zYX 8 2 = .array .long := rfl
theorem zNX8 : zNX 8 = 3 := rfl
theorem zYX9_0 : zYX 9 0 = .array .int := rfl
theorem zYX9_1 : zYX 9 1 = .int := rfl
theorem zYX9_2 : zYX 9 2 = .int := rfl
theorem zNX9 : zNX 9 = 3 := rfl
theorem zYX10_0 : zYX 10 0 = .array (.object "SystemLab$Matrix") := rfl
theorem zYX10_1 : zYX 10 1 = .array (.object "SystemLab$Factor") := rfl
theorem zYX10_2 : zYX 10 2 = .array (.object "SystemLab$Vector") := rfl
theorem zYX10_3 : zYX 10 3 = .object "SystemLab$Residuals" := rfl
theorem zYX10_4 : zYX 10 4 = .object "SystemLab$Elimination" := rfl
theorem zYX10_5 : zYX 10 5 = .object "SystemLab$Ordering" := rfl
theorem zYX10_6 : zYX 10 6 = .object "SystemLab$Tape" := rfl
theorem zYX10_7 : zYX 10 7 = .array .long := rfl
theorem zYX10_8 : zYX 10 8 = .array .long := rfl
theorem zNX10 : zNX 10 = 9 := rfl
theorem zYX11_0 : zYX 11 0 = .array .long := rfl
theorem zYX11_1 : zYX 11 1 = .array .long := rfl
theorem zYX11_2 : zYX 11 2 = .array .long := rfl
theorem zYX11_3 : zYX 11 3 = .boolean := rfl
theorem zYX11_4 : zYX 11 4 = .array .double := rfl
theorem zYX11_5 : zYX 11 5 = .array .boolean := rfl
theorem zYX11_6 : zYX 11 6 = .array .int := rfl
theorem zYX11_7 : zYX 11 7 = .array .int := rfl
theorem zYX11_8 : zYX 11 8 = .array .int := rfl
theorem zYX11_9 : zYX 11 9 = .array .int := rfl
theorem zYX11_10 : zYX 11 10 = .array .int := rfl
theorem zYX11_11 : zYX 11 11 = .array .double := rfl
theorem zYX11_12 : zYX 11 12 = .array .double := rfl
theorem zYX11_13 : zYX 11 13 = .array .boolean := rfl
theorem zYX11_14 : zYX 11 14 = .array .int := rfl
theorem zYX11_15 : zYX 11 15 = .array .boolean := rfl
theorem zYX11_16 : zYX 11 16 = .array .int := rfl
theorem zYX11_17 : zYX 11 17 = .array .int := rfl
theorem zYX11_18 : zYX 11 18 = .array .int := rfl
theorem zYX11_19 : zYX 11 19 = .array .int := rfl
theorem zYX11_20 : zYX 11 20 = .array .double := rfl
theorem zYX11_21 : zYX 11 21 = .double := rfl
theorem zYX11_22 : zYX 11 22 = .long := rfl
theorem zYX11_23 : zYX 11 23 = .array .double := rfl
theorem zYX11_24 : zYX 11 24 = .array .int := rfl
theorem zYX11_25 : zYX 11 25 = .array .double := rfl
theorem zYX11_26 : zYX 11 26 = .array .double := rfl
theorem zYX11_27 : zYX 11 27 = .array .double := rfl
theorem zYX11_28 : zYX 11 28 = .array .double := rfl
theorem zYX11_29 : zYX 11 29 = .array .long := rfl
theorem zYX11_30 : zYX 11 30 = .array .long := rfl
theorem zYX11_31 : zYX 11 31 = .array .double := rfl
theorem zYX11_32 : zYX 11 32 = .array .long := rfl
theorem zYX11_33 : zYX 11 33 = .array .int := rfl
theorem zYX11_34 : zYX 11 34 = .array .long := rfl
theorem zYX11_35 : zYX 11 35 = .array .long := rfl
theorem zYX11_36 : zYX 11 36 = .array .long := rfl
theorem zYX11_37 : zYX 11 37 = .int := rfl
theorem zYX11_38 : zYX 11 38 = .int := rfl
theorem zYX11_39 : zYX 11 39 = .int := rfl
theorem zYX11_40 : zYX 11 40 = .int := rfl
theorem zYX11_41 : zYX 11 41 = .array .int := rfl
theorem zYX11_42 : zYX 11 42 = .boolean := rfl
theorem zYX11_43 : zYX 11 43 = .array .long := rfl
theorem zYX11_44 : zYX 11 44 = .array .long := rfl
theorem zYX11_45 : zYX 11 45 = .array .long := rfl
theorem zYX11_46 : zYX 11 46 = .array .long := rfl
theorem zYX11_47 : zYX 11 47 = .double := rfl
theorem zYX11_48 : zYX 11 48 = .array .int := rfl
theorem zYX11_49 : zYX 11 49 = .array .int := rfl
theorem zYX11_50 : zYX 11 50 = .int := rfl
theorem zYX11_51 : zYX 11 51 = .array .boolean := rfl
theorem zYX11_52 : zYX 11 52 = .array .boolean := rfl
theorem zYX11_53 : zYX 11 53 = .array .int := rfl
theorem zYX11_54 : zYX 11 54 = .int := rfl
theorem zYX11_55 : zYX 11 55 = .array .int := rfl
theorem zYX11_56 : zYX 11 56 = .int := rfl
theorem zYX11_57 : zYX 11 57 = .int := rfl
theorem zNX11 : zNX 11 = 58 := rfl
theorem zend_i {K : Option Value → zS → Prop} {mc ms c1 c2 : Nat} {v : Option Value} {S : zS} : zend (some .int) K mc ms v S c1 c2 = (K v S ∧ c1 ≤ mc ∧ c2 ≤ ms) := propext ⟨fun h => h.2, fun h => ⟨trivial, h⟩⟩
theorem zend_l {K : Option Value → zS → Prop} {mc ms c1 c2 : Nat} {v : Option Value} {S : zS} : zend (some .long) K mc ms v S c1 c2 = (K v S ∧ c1 ≤ mc ∧ c2 ≤ ms) := propext ⟨fun h => h.2, fun h => ⟨trivial, h⟩⟩
theorem zend_d {K : Option Value → zS → Prop} {mc ms c1 c2 : Nat} {v : Option Value} {S : zS} : zend (some .double) K mc ms v S c1 c2 = (K v S ∧ c1 ≤ mc ∧ c2 ≤ ms) := propext ⟨fun h => h.2, fun h => ⟨trivial, h⟩⟩
theorem zend_o {C : String} {K : Option Value → zS → Prop} {mc ms c1 c2 : Nat} {v : Option Value} {S : zS} : zend (some (.object C)) K mc ms v S c1 c2 = (K v S ∧ c1 ≤ mc ∧ c2 ≤ ms) := propext ⟨fun h => h.2, fun h => ⟨trivial, h⟩⟩
theorem zend_v {K : Option Value → zS → Prop} {mc ms c1 c2 : Nat} {v : Option Value} {S : zS} : zend none K mc ms v S c1 c2 = (K v S ∧ c1 ≤ mc ∧ c2 ≤ ms) := propext ⟨fun h => h.2, fun h => ⟨trivial, h⟩⟩
theorem zend_z {K : Option Value → zS → Prop} {mc ms c1 c2 : Nat} {x : Int32} {S : zS} : zend (some .boolean) K mc ms (some (.int x)) S c1 c2 = ((x = 0 ∨ x = 1) ∧ K (some (.int x)) S ∧ c1 ≤ mc ∧ c2 ≤ ms) := rfl
theorem znle  : (nI 0 = (0 : Int32)) = True := by simp [nI_0]
