/-! a run that holds as a formula holds of the machine -/
section ZSOUND
def zlen : Instr → Nat
  | .nop => 0
  | .bipush _ => 2 | .ldc _ => 2 | .iload _ => 2 | .lload _ => 2 | .dload _ => 2 | .aload _ => 2
  | .istore _ => 2 | .lstore _ => 2 | .dstore _ => 2 | .astore _ => 2 | .newarray _ => 2
  | .sipush _ => 3 | .ldc_w _ => 3 | .ldc2_w _ => 3 | .getfield _ => 3 | .putfield _ => 3
  | .invokevirtual _ => 3 | .invokestatic _ => 3 | .invokespecial _ => 3
  | .if_icmp _ _ => 3 | .ifCond _ _ => 3 | .ifnull _ => 3 | .ifnonnull _ => 3 | .goto _ => 3
  | .new _ => 3 | .anewarray _ => 3 | .iinc _ _ => 3
  | _ => 1
def zd2l : MethodName := ⟨"java/lang/Double", "doubleToRawLongBits", "(D)J"⟩
def zl2d : MethodName := ⟨"java/lang/Double", "longBitsToDouble", "(J)D"⟩
def zcal (o idx : Nat) (R : Room) (q : zCal) (m : Nat) : Bool := decide (q.1.cls ≠ "java/lang/invoke/MethodHandle") && decide (q.1.cls ≠ "java/lang/invoke/VarHandle") && decide ((parseMethodDescriptor q.1.desc).map (fun d => d.parameters.length) = some q.2.2.2.2.2.1) && decide (q.2.2.2.2.1.frames + 1 ≤ R.frames) && decide (8 + (q.2.2.1 + 11) + q.2.2.2.2.1.locals ≤ R.locals) && decide (m = q.2.2.2.2.2.1)
/-- what a program decides of an instruction -/
def zchk (R : Room) (cc : ByteArray) (o : Nat) (ini : Bool) (nL : Nat) (cal : List zCal) (rt : Option FieldType) (pc : Nat) (ins : Instr) (inf : List Nat) (ps : List (Nat × Nat)) : Bool :=
  match ins with
  | .nop => true
  | .tableswitch d lo hi offs => (match inf with
    | t :: ts => (match decode cc pc with
      | .ok (i, _) => decide (i = .tableswitch d lo hi offs)
      | _ => false) && decide ((pc : Int) + d = (t : Int)) && decide (offs.toList.map (fun x => (pc : Int) + x) = ts.map Int.ofNat) && decide (hi - lo + 1 = ((ts.length : Nat) : Int))
    | _ => false)
  | _ => decide (decode cc pc = .ok (ins, zlen ins)) && (match ins with
    | .iconst i => decide (nI (inf.headD 0) = Int32.ofInt i)
    | .bipush i => decide (nI (inf.headD 0) = (Int8.ofInt i).toInt32)
    | .sipush i => decide (nI (inf.headD 0) = (Int16.ofInt i).toInt32)
    | .ldc i => zw (ps.headD (9, 0)) (.constant (zRX o) i (nI (inf.headD 0)))
    | .ldc_w i => zw (ps.headD (9, 0)) (.constant (zRX o) i (nI (inf.headD 0)))
    | .lconst d => decide (lN (inf.headD 0) = Int64.ofNat d.val)
    | .dconst d => decide (zdN (inf.headD 0) = if d = 0 then FP.dconst0 else FP.dconst1)
    | .ldc2_w i => (match inf with
      | [x] => zw (ps.headD (9, 0)) (.constantLong (zRX o) i (lN x))
      | [x, _] => zw (ps.headD (9, 0)) (.constantDouble (zRX o) i (zdN x))
      | _ => false)
    | .istore i => decide (i < nL)
    | .istore_n i => decide (i.val < nL)
    | .astore i => decide (i < nL)
    | .astore_n i => decide (i.val < nL)
    | .lstore i => decide (i + 1 < nL)
    | .lstore_n i => decide (i.val + 1 < nL)
    | .dstore i => decide (i + 1 < nL)
    | .dstore_n i => decide (i.val + 1 < nL)
    | .iinc i k => decide (i < nL) && decide (nI (inf.headD 0) = Int32.ofInt k)
    | .goto off => decide ((pc : Int) + off = ((inf.headD 0 : Nat) : Int))
    | .ifCond _ off => decide ((pc : Int) + off = ((inf.headD 0 : Nat) : Int))
    | .if_icmp _ off => decide ((pc : Int) + off = ((inf.headD 0 : Nat) : Int))
    | .ifnull off => decide ((pc : Int) + off = ((inf.headD 0 : Nat) : Int))
    | .ifnonnull off => decide ((pc : Int) + off = ((inf.headD 0 : Nat) : Int))
    | .getfield idx => (match inf with
      | [i, k] => decide (1 ≤ i) && decide (i ≤ 11) && decide (k < zNX i) && zw (ps.headD (9, 0)) (.fieldLink (zRX o) idx (zTX i k).1 (zTX i k).2.1 (zTX i k).2.2.1)
      | _ => false)
    | .putfield idx => (match inf with
      | [i, k] => decide (1 ≤ i) && decide (i ≤ 11) && decide (k < zNX i) && zw (ps.headD (9, 0)) (.fieldLink (zRX o) idx (zTX i k).1 (zTX i k).2.1 (zTX i k).2.2.1) && ((zTX i k).2.2.2 == false || (ini && decide ((zTX i k).1 = zRX o)))
      | _ => false)
    | .new idx => (match inf, ps with
      | [i], [p0, p1, p2] => decide (1 ≤ i) && decide (i ≤ 11) && zw p0 (.classLink (zRX o) idx (zRX i)) && zw p1 (.instantiable (zRX i) (zNX i)) && zw p2 (.initialized (zRX i))
      | _, _ => false)
    | .newarray t => (match inf with
      | [k] => decide (20 ≤ k) && decide (k ≤ 23) && decide (newarray.typeOf t = zAt k) && zw (ps.headD (9, 0)) (.arrayClass (zAt k))
      | _ => false)
    | .anewarray idx => (match inf with
      | [k] => decide (24 ≤ k) && decide (k ≤ 27) && zw (ps.headD (9, 0)) (.classLink (zRX o) idx (zRX (zCo k)))
      | _ => false)
    | .invokestatic idx => (match inf, ps with
      | [100], [p0, p1, p2, p3] => decide (1 ≤ R.frames) && decide (23 ≤ R.locals) && zw p0 (.methodLink (zRX o) idx zd2l) && zw p1 (.native zd2l) && zw p2 (.static zd2l) && zw p3 (.initialized "java/lang/Double")
      | [101], [p0, p1, p2, p3] => decide (1 ≤ R.frames) && decide (23 ≤ R.locals) && zw p0 (.methodLink (zRX o) idx zl2d) && zw p1 (.native zl2d) && zw p2 (.static zl2d) && zw p3 (.initialized "java/lang/Double")
      | [102], [p0, p1, p2, p3] => decide (1 ≤ R.frames) && decide (23 ≤ R.locals) && zw p0 (.methodLink (zRX o) idx Lib.Math.max.name) && zw p1 (.static Lib.Math.max.name) && zw p2 (.initialized "java/lang/Math") && zw p3 (.code Lib.Math.max.name Lib.Math.max.code 2 (some .int))
      | [103], [p0, p1, p2, p3] => decide (1 ≤ R.frames) && decide (23 ≤ R.locals) && zw p0 (.methodLink (zRX o) idx Lib.Math.min.name) && zw p1 (.static Lib.Math.min.name) && zw p2 (.initialized "java/lang/Math") && zw p3 (.code Lib.Math.min.name Lib.Math.min.code 2 (some .int))
      | [104], [p0, p1, p2, p3] => decide (1 ≤ R.frames) && decide (23 ≤ R.locals) && zw p0 (.methodLink (zRX o) idx Lib.Math.abs.name) && zw p1 (.static Lib.Math.abs.name) && zw p2 (.initialized "java/lang/Math") && zw p3 (.code Lib.Math.abs.name Lib.Math.abs.code 1 (some .int))
      | [105], [p0, p1, p2, p3] => decide (1 ≤ R.frames) && decide (23 ≤ R.locals) && zw p0 (.methodLink (zRX o) idx Lib.MathLoose.max_long.x) && zw p1 (.static Lib.MathLoose.max_long.x) && zw p2 (.initialized "java/lang/Math") && zw p3 (.code Lib.MathLoose.max_long.x Lib.MathLoose.max_long.code 4 (some .long))
      | [i, m], [p0] => (match cal[i]? with
        | some q => zcal o idx R q m && zw p0 (.methodLink (zRX o) idx q.1) && decide (q.2.2.2.2.2.2 = 0)
        | none => false)
      | _, _ => false)
    | .invokevirtual idx => (match inf, ps with
      | [i, m, ci], [p0] => (match cal[i]? with
        | some q => zcal o idx R q m && decide (1 ≤ ci) && decide (ci ≤ 11) && decide (q.1.cls = zRX ci) && zw p0 (.methodLink (zRX o) idx q.1) && decide (q.2.2.2.2.2.2 = 1)
        | none => false)
      | _, _ => false)
    | .invokespecial idx => (match inf, ps with
      | [], [p0, p1, p2] => decide (1 ≤ R.frames) && decide (20 ≤ R.locals) && zw p0 (.methodLink (zRX o) idx objectInit) && zw p1 (.instanceMethod objectInit) && zw p2 (.code objectInit ⟨#[0xb1]⟩ 1 none)
      | [i, m], [] => (match cal[i]? with
        | some q => zcal o idx R q m && decide (q.1.name = "<init>") && decide (q.2.2.2.1 = none) && decide (q.2.2.2.2.2.2 = 2) && zNst.any (fun w => match w with
          | .methodLinkNest a b y _ => decide (a = zRX o) && decide (b = idx) && decide (y = q.1)
          | _ => false)
        | none => false)
      | [i, m], [p0] => (match cal[i]? with
        | some q => zcal o idx R q m && decide (q.1.name = "<init>") && decide (q.2.2.2.1 = none) && decide (q.2.2.2.2.2.2 = 2) && zw p0 (.methodLink (zRX o) idx q.1)
        | none => false)
      | _, _ => false)
    | .ireturn => decide (rt = some .int) || decide (rt = some .boolean)
    | .lreturn => decide (rt = some .long)
    | .dreturn => decide (rt = some .double)
    | .areturn => (match rt with
      | some (.object _) => true
      | some (.array _) => true
      | _ => false)
    | .return_ => decide (rt = none)
    | _ => true)
def zchn (R : Room) (cc : ByteArray) (o : Nat) (ini : Bool) (nL : Nat) (cal : List zCal) (rt : Option FieldType) : Nat → List zE → List (List (Nat × Nat)) → Bool
  | _, [], _ => true
  | pc, (pc', ins, inf) :: rest, ps => decide (pc' = pc) && zchk R cc o ini nL cal rt pc ins inf (ps.headD []) && zchn R cc o ini nL cal rt (pc + zlen ins) rest ps.tail
def zretk (rt : Option FieldType) : Instr → Option Value → Prop
  | .ireturn, some (.int _) => rt = some .int ∨ rt = some .boolean
  | .lreturn, some (.long _) => rt = some .long
  | .dreturn, some (.double _) => rt = some .double
  | .areturn, some v => zref v ∧ ((∃ n, rt = some (.object n)) ∨ ∃ t, rt = some (.array t))
  | .return_, none => rt = none
  | _, _ => False
theorem zI1_e {st : List Value} {f : Int32 → List Value → Prop} (h : zI1 st f) : ∃ x r, st = .int x :: r ∧ f x r := by
  unfold zI1 at h; split at h
  · exact ⟨_, _, rfl, h⟩
  · exact h.elim
theorem zI2_e {st : List Value} {f : Int32 → Int32 → List Value → Prop} (h : zI2 st f) : ∃ x y r, st = .int y :: .int x :: r ∧ f x y r := by
  unfold zI2 at h; split at h
  · exact ⟨_, _, _, rfl, h⟩
  · exact h.elim
theorem zJ1_e {st : List Value} {f : Int64 → List Value → Prop} (h : zJ1 st f) : ∃ x r, st = .long x :: r ∧ f x r := by
  unfold zJ1 at h; split at h
  · exact ⟨_, _, rfl, h⟩
  · exact h.elim
theorem zJ2_e {st : List Value} {f : Int64 → Int64 → List Value → Prop} (h : zJ2 st f) : ∃ x y r, st = .long y :: .long x :: r ∧ f x y r := by
  unfold zJ2 at h; split at h
  · exact ⟨_, _, _, rfl, h⟩
  · exact h.elim
theorem zJI_e {st : List Value} {f : Int64 → Int32 → List Value → Prop} (h : zJI st f) : ∃ x y r, st = .int y :: .long x :: r ∧ f x y r := by
  unfold zJI at h; split at h
  · exact ⟨_, _, _, rfl, h⟩
  · exact h.elim
theorem zD1_e {st : List Value} {f : UInt64 → List Value → Prop} (h : zD1 st f) : ∃ x r, st = .double x :: r ∧ f x r := by
  unfold zD1 at h; split at h
  · exact ⟨_, _, rfl, h⟩
  · exact h.elim
theorem zD2_e {st : List Value} {f : UInt64 → UInt64 → List Value → Prop} (h : zD2 st f) : ∃ x y r, st = .double y :: .double x :: r ∧ f x y r := by
  unfold zD2 at h; split at h
  · exact ⟨_, _, _, rfl, h⟩
  · exact h.elim
theorem zV1_e {st : List Value} {f : Value → List Value → Prop} (h : zV1 st f) : ∃ x r, st = x :: r ∧ f x r := by
  unfold zV1 at h; split at h
  · exact ⟨_, _, rfl, h⟩
  · exact h.elim
theorem zA1_e {st : List Value} {f : Nat → List Value → Prop} (h : zA1 st f) : ∃ x r, st = .ref x :: r ∧ f x r := by
  unfold zA1 at h; split at h
  · exact ⟨_, _, rfl, h⟩
  · exact h.elim
theorem zXA_e {st : List Value} {f : Int32 → Nat → List Value → Prop} (h : zXA st f) : ∃ i a r, st = .int i :: .ref a :: r ∧ f i a r := by
  unfold zXA at h; split at h
  · exact ⟨_, _, _, rfl, h⟩
  · exact h.elim
theorem zVXA_e {st : List Value} {f : Value → Int32 → Nat → List Value → Prop} (h : zVXA st f) : ∃ v i a r, st = v :: .int i :: .ref a :: r ∧ f v i a r := by
  unfold zVXA at h; split at h
  · exact ⟨_, _, _, _, rfl, h⟩
  · exact h.elim
theorem zVA_e {st : List Value} {f : Value → Nat → List Value → Prop} (h : zVA st f) : ∃ v a r, st = v :: .ref a :: r ∧ f v a r := by
  unfold zVA at h; split at h
  · exact ⟨_, _, _, rfl, h⟩
  · exact h.elim
theorem zoI_e {v : Option Value} {f : Int32 → Prop} (h : zoI v f) : ∃ x, v = some (.int x) ∧ f x := by
  unfold zoI at h; split at h
  · exact ⟨_, rfl, h⟩
  · exact h.elim
theorem zoJ_e {v : Option Value} {f : Int64 → Prop} (h : zoJ v f) : ∃ x, v = some (.long x) ∧ f x := by
  unfold zoJ at h; split at h
  · exact ⟨_, rfl, h⟩
  · exact h.elim
theorem zoD_e {v : Option Value} {f : UInt64 → Prop} (h : zoD v f) : ∃ x, v = some (.double x) ∧ f x := by
  unfold zoD at h; split at h
  · exact ⟨_, rfl, h⟩
  · exact h.elim
theorem zoA_e {v : Option Value} {f : Value → Prop} (h : zoA v f) : ∃ x, v = some x ∧ zref x ∧ f x := by
  unfold zoA at h; split at h
  · exact ⟨_, rfl, h⟩
  · exact h.elim
theorem zref_e {v : Value} (h : zref v) : v = .null ∨ ∃ a, v = .ref a := by
  cases v <;> first | exact Or.inl rfl | exact Or.inr ⟨_, rfl⟩ | exact h.elim
theorem zpop_e : ∀ (n : Nat) (st acc : List Value) (f : List Value → List Value → Prop), zpop n st acc f → ∃ As r, st = As.reverse ++ r ∧ As.length = n ∧ f (As ++ acc) r
  | 0, st, acc, f, h => ⟨[], st, by simp, rfl, h⟩
  | n + 1, [], acc, f, h => h.elim
  | n + 1, v :: st, acc, f, h => by
    obtain ⟨As, r, h1, h2, h3⟩ := zpop_e n st (v :: acc) f h
    exact ⟨As ++ [v], r, by simp [h1], by simp [h2], by simpa using h3⟩
theorem zoc_e {a : Option zCt} {f : zCt → Prop} (h : zoc a f) : ∃ c, a = some c ∧ f c := by
  unfold zoc at h; split at h
  · exact ⟨_, rfl, h⟩
  · exact h.elim
theorem zsw_e {x : Int} {f : Nat → Prop} : ∀ (ts : List Nat) (v : Int), zsw x f v ts → ∀ (i : Nat) (t : Nat), ts[i]? = some t → x = v + i → f t
  | [], _, _, i, t, h, _ => by simp at h
  | t0 :: ts, v, h, i, t, hi, hx => by
    cases i with
    | zero => simp at hi; subst hi; exact h.1 (by simpa using hx)
    | succ i => exact zsw_e ts (v + 1) h.2 i t (by simpa using hi) (by omega)
section
variable {G : zG} {p : Program} {l : Launch} {e : Env} {R : Room} {s : State} {m : MethodId} {args : Array Value} {below : List Frame} {meth : Method} {c : Code} {nL o : Nat} {ini : Bool} {Qf : State → Prop} {cc : ByteArray} {pc : Nat} {L : List (Option Value)} {rest : List Value} {S : zS} {c1 c2 : Nat}
theorem zr_if {cnd : Jvm.ClassFile.Cond} {off : Int} {tgt : Nat} {x : Int32} (hx : p.tables.exec = Jvm.exec) (hb : c.code = cc) (hd : decode cc pc = .ok (.ifCond cnd off, 3)) (ht : (pc : Int) + off = (tgt : Int))
    (k1 : zcc cnd x 0 → zXX G p l e R s m args below meth c nL Qf tgt L rest S c1 c2) (k2 : ¬ zcc cnd x 0 → zXX G p l e R s m args below meth c nL Qf (pc + 3) L rest S c1 c2) : zXX G p l e R s m args below meth c nL Qf pc L (.int x :: rest) S c1 c2 := by
  intro H ls locs hR hL hS
  cases cnd with
  | eq => exact lv_if_eq hx hb hd ht (fun g => k1 g H ls locs hR hL hS) (fun g => k2 g H ls locs hR hL hS)
  | ne => exact lv_if_ne hx hb hd ht (fun g => k1 g H ls locs hR hL hS) (fun g => k2 (fun z => z g) H ls locs hR hL hS)
  | lt => exact lv_if_lt hx hb hd ht (fun g => k1 g H ls locs hR hL hS) (fun g => k2 g H ls locs hR hL hS)
  | ge => exact lv_if_ge hx hb hd ht (fun g => k1 g H ls locs hR hL hS) (fun g => k2 g H ls locs hR hL hS)
  | gt => exact lv_if_gt hx hb hd ht (fun g => k1 g H ls locs hR hL hS) (fun g => k2 g H ls locs hR hL hS)
  | le => exact lv_if_le hx hb hd ht (fun g => k1 g H ls locs hR hL hS) (fun g => k2 g H ls locs hR hL hS)
theorem zr_icmp {cnd : Jvm.ClassFile.Cond} {off : Int} {tgt : Nat} {x y : Int32} (hx : p.tables.exec = Jvm.exec) (hb : c.code = cc) (hd : decode cc pc = .ok (.if_icmp cnd off, 3)) (ht : (pc : Int) + off = (tgt : Int))
    (k1 : zcc cnd x y → zXX G p l e R s m args below meth c nL Qf tgt L rest S c1 c2) (k2 : ¬ zcc cnd x y → zXX G p l e R s m args below meth c nL Qf (pc + 3) L rest S c1 c2) : zXX G p l e R s m args below meth c nL Qf pc L (.int y :: .int x :: rest) S c1 c2 := by
  intro H ls locs hR hL hS
  cases cnd with
  | eq => exact lv_icmp_eq hx hb hd ht (fun g => k1 g H ls locs hR hL hS) (fun g => k2 g H ls locs hR hL hS)
  | ne => exact lv_icmp_ne hx hb hd ht (fun g => k1 g H ls locs hR hL hS) (fun g => k2 (fun z => z g) H ls locs hR hL hS)
  | lt => exact lv_icmp_lt hx hb hd ht (fun g => k1 g H ls locs hR hL hS) (fun g => k2 g H ls locs hR hL hS)
  | ge => exact lv_icmp_ge hx hb hd ht (fun g => k1 g H ls locs hR hL hS) (fun g => k2 g H ls locs hR hL hS)
  | gt => exact lv_icmp_gt hx hb hd ht (fun g => k1 g H ls locs hR hL hS) (fun g => k2 g H ls locs hR hL hS)
  | le => exact lv_icmp_le hx hb hd ht (fun g => k1 g H ls locs hR hL hS) (fun g => k2 g H ls locs hR hL hS)
theorem zr_table {d lo hi : Int} {offs : Array Int} {t : Nat} {ts : List Nat} {x : Int32} (hx : p.tables.exec = Jvm.exec) (hb : c.code = cc) (k0 : (match decode cc pc with
      | .ok (i, _) => decide (i = .tableswitch d lo hi offs)
      | _ => false) = true) (k1 : (pc : Int) + d = (t : Int)) (k2 : offs.toList.map (fun x => (pc : Int) + x) = ts.map Int.ofNat) (k3 : hi - lo + 1 = ((ts.length : Nat) : Int))
    (h1 : ∀ (i t : Nat), ts[i]? = some t → x.toInt = lo + i → zXX G p l e R s m args below meth c nL Qf t L rest S c1 c2) (h2 : x.toInt < lo ∨ hi < x.toInt → zXX G p l e R s m args below meth c nL Qf t L rest S c1 c2) : zXX G p l e R s m args below meth c nL Qf pc L (.int x :: rest) S c1 c2 := by
  intro H ls locs hR hL hS
  split at k0
  · rename_i i len hde
    have k0 := of_decide_eq_true k0
    subst k0
    by_cases g : x.toInt < lo ∨ hi < x.toInt
    · exact lv_tableOut hx hb hde g k1 (h2 g H ls locs hR hL hS)
    · have g1 : ¬ x.toInt < lo := fun z => g (Or.inl z)
      have g2 : ¬ hi < x.toInt := fun z => g (Or.inr z)
      have hlen : (x.toInt - lo).toNat < ts.length := by omega
      have hl2 : offs.toList.length = ts.length := by
        have := congrArg List.length k2
        simpa using this
      have ht : ts[(x.toInt - lo).toNat]? = some ts[(x.toInt - lo).toNat] := List.getElem?_eq_getElem hlen
      have ho : offs[(x.toInt - lo).toNat]? = some (offs[(x.toInt - lo).toNat]'(by rw [← Array.length_toList, hl2]; exact hlen)) := Array.getElem?_eq_getElem _
      have he : (pc : Int) + offs[(x.toInt - lo).toNat]'(by rw [← Array.length_toList, hl2]; exact hlen) = (ts[(x.toInt - lo).toNat] : Int) := by
        have h3 := congrArg (fun q => q[(x.toInt - lo).toNat]?) k2
        simp only [List.getElem?_map, ht, Array.getElem?_toList, ho, Option.map_some] at h3
        exact Option.some.inj h3
      exact lv_tableIn hx hb hde g1 g2 ho he (h1 _ _ ht (by omega) H ls locs hR hL hS)
  · cases k0
theorem zcal_e {idx k : Nat} {q : zCal} {ct : zCt} (h : zcal o idx R q k = true) (hc : q.2.2.2.2.1.cells = ct.2.1 ∧ q.2.2.2.2.1.slots = ct.2.2) : zfits R q ct ∧ k = q.2.2.2.2.2.1 := by
  simp only [zcal, Bool.and_eq_true, decide_eq_true_eq] at h
  obtain ⟨⟨⟨⟨⟨h1, h2⟩, h3⟩, h4⟩, h5⟩, h6⟩ := h
  exact ⟨⟨⟨h1, h2, h3⟩, ⟨h4, h5⟩, hc.1, hc.2⟩, h6⟩
end
end ZSOUND
