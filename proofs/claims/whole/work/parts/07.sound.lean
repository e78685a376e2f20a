/-! a run that holds as a formula holds of the machine: a case an instruction (written by wip/whole/gen/sound.py) -/
section ZSOUND2
variable {G : zG} {p : Program} {l : Launch} {e : Env} {R : Room} {s : State} {m : MethodId} {args : Array Value} {below : List Frame} {meth : Method} {c : Code} {nL o : Nat} {ini : Bool} {Qf : State → Prop} {cc : ByteArray}
theorem zcl_e {cal : List zCal} {i : Nat} {f : zCal → Bool} (h : (match cal[i]? with | some q => f q | none => false) = true) : ∃ q, cal[i]? = some q ∧ f q = true := by
  cases hc : cal[i]? with
  | none => rw [hc] at h; cases h
  | some q => rw [hc] at h; exact ⟨q, rfl, h⟩
theorem zr_dconst {d : Fin 2} {pc : Nat} {L : List (Option Value)} {rest : List Value} {S : zS} {c1 c2 : Nat} (hx : p.tables.exec = Jvm.exec) (hb : c.code = cc) (hd : decode cc pc = .ok (.dconst d, 1)) (k : zXX G p l e R s m args below meth c nL Qf (pc + 1) L (.double (if d = 0 then FP.dconst0 else FP.dconst1) :: rest) S c1 c2) : zXX G p l e R s m args below meth c nL Qf pc L rest S c1 c2 := by
  match d, hd, k with
  | 0, hd, k => exact fun H ls locs hR hL hS => lv_dconst0 hx hb hd (k H ls locs hR hL hS)
  | 1, hd, k => exact fun H ls locs hR hL hS => lv_dconst1 hx hb hd (k H ls locs hR hL hS)
theorem znst_e {o idx : Nat} {q : zCal} (h : zNst.any (fun w => match w with
          | .methodLinkNest a b y _ => decide (a = zRX o) && decide (b = idx) && decide (y = q.1)
          | _ => false) = true) : ∃ h, Cond.methodLinkNest (zRX o) idx q.1 h ∈ zNst := by
  obtain ⟨w, hw, h⟩ := List.any_eq_true.mp h
  obtain ⟨a, i, x, hh, rfl⟩ := zNst_form w hw
  simp only [Bool.and_eq_true, decide_eq_true_eq] at h
  obtain ⟨⟨rfl, rfl⟩, rfl⟩ := h
  exact ⟨hh, hw⟩
theorem zand_e {a b : Bool} (h : (a && b) = true) : a = true ∧ b = true := by simpa using h
set_option maxHeartbeats 4000000 in
set_option maxRecDepth 100000 in
theorem zrun_sound {Q : Option Value → zS → Nat → Nat → Prop} {Γ : List zCt} {cal : List zCal} {rt : Option FieldType} {blk : Nat → List zE} (F : zFix G p s m args meth c cc nL o ini)
    (hΓ : ∀ (i : Nat) (q : zCal) (ct : zCt), cal[i]? = some q → zget Γ i = some ct → zMet l G q ct ∧ q.2.2.2.2.1.cells = ct.2.1 ∧ q.2.2.2.2.1.slots = ct.2.2)
    (hblk : ∀ t, ∃ ps, zchn R cc o ini nL cal rt t (blk t) ps = true)
    (HR : ∀ (pc : Nat) (ins : Instr) (v : Option Value) (L : List (Option Value)) (S : zS) (c1 c2 : Nat), decode cc pc = .ok (ins, 1) → zretk rt ins v → Q v S c1 c2 → zXX G p l e R s m args below meth c nL Qf pc L v.toList S c1 c2) :
    ∀ (n : Nat) (els : List zE) (ps : List (List (Nat × Nat))) (pc : Nat) (L : List (Option Value)) (st : List Value) (S : zS) (c1 c2 : Nat), zchn R cc o ini nL cal rt pc els ps = true →
      zrun R.cells R.slots Q Γ blk (zXX G p l e R s m args below meth c nL Qf) n els L st S c1 c2 → zXX G p l e R s m args below meth c nL Qf pc L st S c1 c2 := by
  obtain ⟨hx, hb, hml, hown, hts, hK, hin⟩ := id F
  intro n
  induction n with
  | zero => intro els ps pc L st S c1 c2 _ h; exact h.elim
  | succ n ih =>
  intro els ps pc L st S c1 c2 hc h
  match els, hc, h with
  | [], _, h => exact h.elim
  | (pc', ins, inf) :: rest, hc, h =>
  simp only [zchn, Bool.and_eq_true, decide_eq_true_eq] at hc
  obtain ⟨⟨rfl, hk⟩, hch⟩ := hc
  unfold zchk at hk
  cases ins with
  | iadd =>
    have hd := of_decide_eq_true (zand_e hk).1
    replace hk := (zand_e hk).2
    simp only [zrun] at h
    obtain ⟨x, y, r, rfl, h⟩ := zI2_e h
    exact fun H ls locs hR hL hS => lv_iadd hx hb hd (ih _ _ _ _ _ _ _ _ hch h H ls locs hR hL hS)
  | isub =>
    have hd := of_decide_eq_true (zand_e hk).1
    replace hk := (zand_e hk).2
    simp only [zrun] at h
    obtain ⟨x, y, r, rfl, h⟩ := zI2_e h
    exact fun H ls locs hR hL hS => lv_isub hx hb hd (ih _ _ _ _ _ _ _ _ hch h H ls locs hR hL hS)
  | imul =>
    have hd := of_decide_eq_true (zand_e hk).1
    replace hk := (zand_e hk).2
    simp only [zrun] at h
    obtain ⟨x, y, r, rfl, h⟩ := zI2_e h
    exact fun H ls locs hR hL hS => lv_imul hx hb hd (ih _ _ _ _ _ _ _ _ hch h H ls locs hR hL hS)
  | iand =>
    have hd := of_decide_eq_true (zand_e hk).1
    replace hk := (zand_e hk).2
    simp only [zrun] at h
    obtain ⟨x, y, r, rfl, h⟩ := zI2_e h
    exact fun H ls locs hR hL hS => lv_iand hx hb hd (ih _ _ _ _ _ _ _ _ hch h H ls locs hR hL hS)
  | ior =>
    have hd := of_decide_eq_true (zand_e hk).1
    replace hk := (zand_e hk).2
    simp only [zrun] at h
    obtain ⟨x, y, r, rfl, h⟩ := zI2_e h
    exact fun H ls locs hR hL hS => lv_ior hx hb hd (ih _ _ _ _ _ _ _ _ hch h H ls locs hR hL hS)
  | ishr =>
    have hd := of_decide_eq_true (zand_e hk).1
    replace hk := (zand_e hk).2
    simp only [zrun] at h
    obtain ⟨x, y, r, rfl, h⟩ := zI2_e h
    exact fun H ls locs hR hL hS => lv_ishr hx hb hd (ih _ _ _ _ _ _ _ _ hch h H ls locs hR hL hS)
  | iushr =>
    have hd := of_decide_eq_true (zand_e hk).1
    replace hk := (zand_e hk).2
    simp only [zrun] at h
    obtain ⟨x, y, r, rfl, h⟩ := zI2_e h
    exact fun H ls locs hR hL hS => lv_iushr hx hb hd rfl (ih _ _ _ _ _ _ _ _ hch h H ls locs hR hL hS)
  | idiv =>
    have hd := of_decide_eq_true (zand_e hk).1
    replace hk := (zand_e hk).2
    simp only [zrun] at h
    obtain ⟨x, y, r, rfl, h⟩ := zI2_e h
    exact fun H ls locs hR hL hS => lv_idiv hx hb hd h.1 (ih _ _ _ _ _ _ _ _ hch h.2 H ls locs hR hL hS)
  | irem =>
    have hd := of_decide_eq_true (zand_e hk).1
    replace hk := (zand_e hk).2
    simp only [zrun] at h
    obtain ⟨x, y, r, rfl, h⟩ := zI2_e h
    exact fun H ls locs hR hL hS => lv_irem hx hb hd h.1 (ih _ _ _ _ _ _ _ _ hch h.2 H ls locs hR hL hS)
  | ineg =>
    have hd := of_decide_eq_true (zand_e hk).1
    replace hk := (zand_e hk).2
    simp only [zrun] at h
    obtain ⟨x, r, rfl, h⟩ := zI1_e h
    exact fun H ls locs hR hL hS => lv_ineg hx hb hd (ih _ _ _ _ _ _ _ _ hch h H ls locs hR hL hS)
  | ladd =>
    have hd := of_decide_eq_true (zand_e hk).1
    replace hk := (zand_e hk).2
    simp only [zrun] at h
    obtain ⟨x, y, r, rfl, h⟩ := zJ2_e h
    exact fun H ls locs hR hL hS => lv_ladd hx hb hd (ih _ _ _ _ _ _ _ _ hch h H ls locs hR hL hS)
  | lsub =>
    have hd := of_decide_eq_true (zand_e hk).1
    replace hk := (zand_e hk).2
    simp only [zrun] at h
    obtain ⟨x, y, r, rfl, h⟩ := zJ2_e h
    exact fun H ls locs hR hL hS => lv_lsub hx hb hd (ih _ _ _ _ _ _ _ _ hch h H ls locs hR hL hS)
  | lmul =>
    have hd := of_decide_eq_true (zand_e hk).1
    replace hk := (zand_e hk).2
    simp only [zrun] at h
    obtain ⟨x, y, r, rfl, h⟩ := zJ2_e h
    exact fun H ls locs hR hL hS => lv_lmul hx hb hd (ih _ _ _ _ _ _ _ _ hch h H ls locs hR hL hS)
  | land =>
    have hd := of_decide_eq_true (zand_e hk).1
    replace hk := (zand_e hk).2
    simp only [zrun] at h
    obtain ⟨x, y, r, rfl, h⟩ := zJ2_e h
    exact fun H ls locs hR hL hS => lv_land hx hb hd (ih _ _ _ _ _ _ _ _ hch h H ls locs hR hL hS)
  | lor =>
    have hd := of_decide_eq_true (zand_e hk).1
    replace hk := (zand_e hk).2
    simp only [zrun] at h
    obtain ⟨x, y, r, rfl, h⟩ := zJ2_e h
    exact fun H ls locs hR hL hS => lv_lor hx hb hd (ih _ _ _ _ _ _ _ _ hch h H ls locs hR hL hS)
  | lxor =>
    have hd := of_decide_eq_true (zand_e hk).1
    replace hk := (zand_e hk).2
    simp only [zrun] at h
    obtain ⟨x, y, r, rfl, h⟩ := zJ2_e h
    exact fun H ls locs hR hL hS => lv_lxor hx hb hd (ih _ _ _ _ _ _ _ _ hch h H ls locs hR hL hS)
  | ldiv =>
    have hd := of_decide_eq_true (zand_e hk).1
    replace hk := (zand_e hk).2
    simp only [zrun] at h
    obtain ⟨x, y, r, rfl, h⟩ := zJ2_e h
    exact fun H ls locs hR hL hS => lv_ldiv hx hb hd h.1 (ih _ _ _ _ _ _ _ _ hch h.2 H ls locs hR hL hS)
  | lrem =>
    have hd := of_decide_eq_true (zand_e hk).1
    replace hk := (zand_e hk).2
    simp only [zrun] at h
    obtain ⟨x, y, r, rfl, h⟩ := zJ2_e h
    exact fun H ls locs hR hL hS => lv_lrem hx hb hd h.1 (ih _ _ _ _ _ _ _ _ hch h.2 H ls locs hR hL hS)
  | lneg =>
    have hd := of_decide_eq_true (zand_e hk).1
    replace hk := (zand_e hk).2
    simp only [zrun] at h
    obtain ⟨x, r, rfl, h⟩ := zJ1_e h
    exact fun H ls locs hR hL hS => lv_lneg hx hb hd (ih _ _ _ _ _ _ _ _ hch h H ls locs hR hL hS)
  | lshl =>
    have hd := of_decide_eq_true (zand_e hk).1
    replace hk := (zand_e hk).2
    simp only [zrun] at h
    obtain ⟨x, y, r, rfl, h⟩ := zJI_e h
    exact fun H ls locs hR hL hS => lv_lshl hx hb hd rfl (ih _ _ _ _ _ _ _ _ hch h H ls locs hR hL hS)
  | lshr =>
    have hd := of_decide_eq_true (zand_e hk).1
    replace hk := (zand_e hk).2
    simp only [zrun] at h
    obtain ⟨x, y, r, rfl, h⟩ := zJI_e h
    exact fun H ls locs hR hL hS => lv_lshr hx hb hd rfl (ih _ _ _ _ _ _ _ _ hch h H ls locs hR hL hS)
  | lushr =>
    have hd := of_decide_eq_true (zand_e hk).1
    replace hk := (zand_e hk).2
    simp only [zrun] at h
    obtain ⟨x, y, r, rfl, h⟩ := zJI_e h
    exact fun H ls locs hR hL hS => lv_lushr hx hb hd rfl (ih _ _ _ _ _ _ _ _ hch h H ls locs hR hL hS)
  | i2l =>
    have hd := of_decide_eq_true (zand_e hk).1
    replace hk := (zand_e hk).2
    simp only [zrun] at h
    obtain ⟨x, r, rfl, h⟩ := zI1_e h
    exact fun H ls locs hR hL hS => lv_i2l hx hb hd rfl (ih _ _ _ _ _ _ _ _ hch h H ls locs hR hL hS)
  | l2i =>
    have hd := of_decide_eq_true (zand_e hk).1
    replace hk := (zand_e hk).2
    simp only [zrun] at h
    obtain ⟨x, r, rfl, h⟩ := zJ1_e h
    exact fun H ls locs hR hL hS => lv_l2i hx hb hd rfl (ih _ _ _ _ _ _ _ _ hch h H ls locs hR hL hS)
  | lcmp =>
    have hd := of_decide_eq_true (zand_e hk).1
    replace hk := (zand_e hk).2
    simp only [zrun] at h
    obtain ⟨x, y, r, rfl, h⟩ := zJ2_e h
    exact fun H ls locs hR hL hS => W.lcmp hx hb hd (ih _ _ _ _ _ _ _ _ hch h H ls locs hR hL hS)
  | dcmp op =>
    have hd := of_decide_eq_true (zand_e hk).1
    replace hk := (zand_e hk).2
    simp only [zrun] at h
    obtain ⟨x, y, r, rfl, h⟩ := zD2_e h
    exact fun H ls locs hR hL hS => lv_dcmp hx hb hd (ih _ _ _ _ _ _ _ _ hch h H ls locs hR hL hS)
  | dadd =>
    have hd := of_decide_eq_true (zand_e hk).1
    replace hk := (zand_e hk).2
    simp only [zrun] at h
    obtain ⟨x, y, r, rfl, h⟩ := zD2_e h
    exact fun H ls locs hR hL hS => lv_dadd hx hb hd h.1 (ih _ _ _ _ _ _ _ _ hch h.2 H ls locs hR hL hS)
  | dsub =>
    have hd := of_decide_eq_true (zand_e hk).1
    replace hk := (zand_e hk).2
    simp only [zrun] at h
    obtain ⟨x, y, r, rfl, h⟩ := zD2_e h
    exact fun H ls locs hR hL hS => lv_dsub hx hb hd h.1 (ih _ _ _ _ _ _ _ _ hch h.2 H ls locs hR hL hS)
  | dmul =>
    have hd := of_decide_eq_true (zand_e hk).1
    replace hk := (zand_e hk).2
    simp only [zrun] at h
    obtain ⟨x, y, r, rfl, h⟩ := zD2_e h
    exact fun H ls locs hR hL hS => lv_dmul hx hb hd h.1 (ih _ _ _ _ _ _ _ _ hch h.2 H ls locs hR hL hS)
  | ddiv =>
    have hd := of_decide_eq_true (zand_e hk).1
    replace hk := (zand_e hk).2
    simp only [zrun] at h
    obtain ⟨x, y, r, rfl, h⟩ := zD2_e h
    exact fun H ls locs hR hL hS => lv_ddiv hx hb hd h.1 (ih _ _ _ _ _ _ _ _ hch h.2 H ls locs hR hL hS)
  | dneg =>
    have hd := of_decide_eq_true (zand_e hk).1
    replace hk := (zand_e hk).2
    simp only [zrun] at h
    obtain ⟨x, r, rfl, h⟩ := zD1_e h
    exact fun H ls locs hR hL hS => lv_dneg hx hb hd (ih _ _ _ _ _ _ _ _ hch h H ls locs hR hL hS)
  | dup =>
    have hd := of_decide_eq_true (zand_e hk).1
    replace hk := (zand_e hk).2
    simp only [zrun] at h
    obtain ⟨x, r, rfl, h⟩ := zV1_e h
    exact fun H ls locs hR hL hS => lv_dup hx hb hd h.1 (ih _ _ _ _ _ _ _ _ hch h.2 H ls locs hR hL hS)
  | pop =>
    have hd := of_decide_eq_true (zand_e hk).1
    replace hk := (zand_e hk).2
    simp only [zrun] at h
    obtain ⟨x, r, rfl, h⟩ := zV1_e h
    exact fun H ls locs hR hL hS => lv_pop hx hb hd h.1 (ih _ _ _ _ _ _ _ _ hch h.2 H ls locs hR hL hS)
  | pop2 =>
    have hd := of_decide_eq_true (zand_e hk).1
    replace hk := (zand_e hk).2
    simp only [zrun] at h
    obtain ⟨x, r, rfl, h⟩ := zV1_e h
    exact fun H ls locs hR hL hS => lv_pop2_2 hx hb hd h.1 (ih _ _ _ _ _ _ _ _ hch h.2 H ls locs hR hL hS)
  | dup2 =>
    have hd := of_decide_eq_true (zand_e hk).1
    replace hk := (zand_e hk).2
    simp only [zrun] at h
    split at h
    · exact fun H ls locs hR hL hS => lv_dup2_2 hx hb hd rfl (ih _ _ _ _ _ _ _ _ hch h H ls locs hR hL hS)
    · exact fun H ls locs hR hL hS => lv_dup2_2 hx hb hd rfl (ih _ _ _ _ _ _ _ _ hch h H ls locs hR hL hS)
    · exact fun H ls locs hR hL hS => lv_dup2_11 hx hb hd h.1 h.2.1 (ih _ _ _ _ _ _ _ _ hch h.2.2 H ls locs hR hL hS)
    · exact h.elim
  | aconst_null =>
    have hd := of_decide_eq_true (zand_e hk).1
    replace hk := (zand_e hk).2
    simp only [zrun] at h
    exact fun H ls locs hR hL hS => lv_null hx hb hd (ih _ _ _ _ _ _ _ _ hch h H ls locs hR hL hS)
  | iconst i =>
    have hd := of_decide_eq_true (zand_e hk).1
    replace hk := (zand_e hk).2
    simp only [zrun] at h
    have hk := of_decide_eq_true hk
    exact fun H ls locs hR hL hS => lv_iconst hx hb hd hk.symm (ih _ _ _ _ _ _ _ _ hch h H ls locs hR hL hS)
  | bipush i =>
    have hd := of_decide_eq_true (zand_e hk).1
    replace hk := (zand_e hk).2
    simp only [zrun] at h
    have hk := of_decide_eq_true hk
    exact fun H ls locs hR hL hS => lv_bipush hx hb hd hk.symm (ih _ _ _ _ _ _ _ _ hch h H ls locs hR hL hS)
  | sipush i =>
    have hd := of_decide_eq_true (zand_e hk).1
    replace hk := (zand_e hk).2
    simp only [zrun] at h
    have hk := of_decide_eq_true hk
    exact fun H ls locs hR hL hS => lv_sipush hx hb hd hk.symm (ih _ _ _ _ _ _ _ _ hch h H ls locs hR hL hS)
  | lconst i =>
    have hd := of_decide_eq_true (zand_e hk).1
    replace hk := (zand_e hk).2
    simp only [zrun] at h
    have hk := of_decide_eq_true hk
    exact fun H ls locs hR hL hS => lv_lconst hx hb hd hk.symm (ih _ _ _ _ _ _ _ _ hch h H ls locs hR hL hS)
  | dconst i =>
    have hd := of_decide_eq_true (zand_e hk).1
    replace hk := (zand_e hk).2
    simp only [zrun] at h
    have hk := of_decide_eq_true hk
    rw [hk] at h
    exact zr_dconst hx hb hd (ih _ _ _ _ _ _ _ _ hch h)
  | ldc i =>
    have hd := of_decide_eq_true (zand_e hk).1
    replace hk := (zand_e hk).2
    simp only [zrun] at h
    exact fun H ls locs hR hL hS => lv_ldc hx hb hown (hts _ (zw_in hk)) hd (ih _ _ _ _ _ _ _ _ hch h H ls locs hR hL hS)
  | ldc_w i =>
    have hd := of_decide_eq_true (zand_e hk).1
    replace hk := (zand_e hk).2
    simp only [zrun] at h
    exact fun H ls locs hR hL hS => lv_ldcw hx hb hown (hts _ (zw_in hk)) hd (ih _ _ _ _ _ _ _ _ hch h H ls locs hR hL hS)
  | ldc2_w i =>
    have hd := of_decide_eq_true (zand_e hk).1
    replace hk := (zand_e hk).2
    simp only [zrun] at h
    split at h
    · exact fun H ls locs hR hL hS => lv_ldc2 hx hb hown (hts _ (zw_in hk)) hd (ih _ _ _ _ _ _ _ _ hch h H ls locs hR hL hS)
    · exact fun H ls locs hR hL hS => lv_ldc2d hx hb hown (hts _ (zw_in hk)) hd (ih _ _ _ _ _ _ _ _ hch h H ls locs hR hL hS)
    · exact h.elim
  | iload i =>
    have hd := of_decide_eq_true (zand_e hk).1
    replace hk := (zand_e hk).2
    simp only [zrun] at h
    obtain ⟨x, hv, h⟩ := zoI_e h
    exact fun H ls locs hR hL hS => lv_iload hx hb hd (hL.2.2.2 _ _ (znth_eq _ _ _ hv)) (ih _ _ _ _ _ _ _ _ hch h H ls locs hR hL hS)
  | iload_n i =>
    have hd := of_decide_eq_true (zand_e hk).1
    replace hk := (zand_e hk).2
    simp only [zrun] at h
    obtain ⟨x, hv, h⟩ := zoI_e h
    exact fun H ls locs hR hL hS => lv_iload_n hx hb hd rfl (hL.2.2.2 _ _ (znth_eq _ _ _ hv)) (ih _ _ _ _ _ _ _ _ hch h H ls locs hR hL hS)
  | lload i =>
    have hd := of_decide_eq_true (zand_e hk).1
    replace hk := (zand_e hk).2
    simp only [zrun] at h
    obtain ⟨x, hv, h⟩ := zoJ_e h
    exact fun H ls locs hR hL hS => lv_lload hx hb hd (hL.2.2.2 _ _ (znth_eq _ _ _ hv)) (ih _ _ _ _ _ _ _ _ hch h H ls locs hR hL hS)
  | lload_n i =>
    have hd := of_decide_eq_true (zand_e hk).1
    replace hk := (zand_e hk).2
    simp only [zrun] at h
    obtain ⟨x, hv, h⟩ := zoJ_e h
    exact fun H ls locs hR hL hS => lv_lload_n hx hb hd rfl (hL.2.2.2 _ _ (znth_eq _ _ _ hv)) (ih _ _ _ _ _ _ _ _ hch h H ls locs hR hL hS)
  | dload i =>
    have hd := of_decide_eq_true (zand_e hk).1
    replace hk := (zand_e hk).2
    simp only [zrun] at h
    obtain ⟨x, hv, h⟩ := zoD_e h
    exact fun H ls locs hR hL hS => lv_dload hx hb hd (hL.2.2.2 _ _ (znth_eq _ _ _ hv)) (ih _ _ _ _ _ _ _ _ hch h H ls locs hR hL hS)
  | dload_n i =>
    have hd := of_decide_eq_true (zand_e hk).1
    replace hk := (zand_e hk).2
    simp only [zrun] at h
    obtain ⟨x, hv, h⟩ := zoD_e h
    exact fun H ls locs hR hL hS => lv_dload_n hx hb hd rfl (hL.2.2.2 _ _ (znth_eq _ _ _ hv)) (ih _ _ _ _ _ _ _ _ hch h H ls locs hR hL hS)
  | aload i =>
    have hd := of_decide_eq_true (zand_e hk).1
    replace hk := (zand_e hk).2
    simp only [zrun] at h
    obtain ⟨x, hv, hr, h⟩ := zoA_e h
    rcases zref_e hr with rfl | ⟨a, rfl⟩
    · exact fun H ls locs hR hL hS => lv_aloadN hx hb hd (hL.2.2.2 _ _ (znth_eq _ _ _ hv)) (ih _ _ _ _ _ _ _ _ hch h H ls locs hR hL hS)
    · exact fun H ls locs hR hL hS => lv_aload hx hb hd (hL.2.2.2 _ _ (znth_eq _ _ _ hv)) (ih _ _ _ _ _ _ _ _ hch h H ls locs hR hL hS)
  | aload_n i =>
    have hd := of_decide_eq_true (zand_e hk).1
    replace hk := (zand_e hk).2
    simp only [zrun] at h
    obtain ⟨x, hv, hr, h⟩ := zoA_e h
    rcases zref_e hr with rfl | ⟨a, rfl⟩
    · exact fun H ls locs hR hL hS => lv_aload_nN hx hb hd rfl (hL.2.2.2 _ _ (znth_eq _ _ _ hv)) (ih _ _ _ _ _ _ _ _ hch h H ls locs hR hL hS)
    · exact fun H ls locs hR hL hS => lv_aload_n hx hb hd rfl (hL.2.2.2 _ _ (znth_eq _ _ _ hv)) (ih _ _ _ _ _ _ _ _ hch h H ls locs hR hL hS)
  | istore i =>
    have hd := of_decide_eq_true (zand_e hk).1
    replace hk := (zand_e hk).2
    simp only [zrun] at h
    obtain ⟨x, r, rfl, h⟩ := zI1_e h
    have hk := of_decide_eq_true hk
    exact fun H ls locs hR hL hS => lv_istore hx hb hd hL.has hk rfl (fun ls' hl' => ih _ _ _ _ _ _ _ _ hch h H ls' locs hR (hL.st1 hk hl') hS)
  | istore_n i =>
    have hd := of_decide_eq_true (zand_e hk).1
    replace hk := (zand_e hk).2
    simp only [zrun] at h
    obtain ⟨x, r, rfl, h⟩ := zI1_e h
    have hk := of_decide_eq_true hk
    exact fun H ls locs hR hL hS => lv_istore_n hx hb hd rfl hL.has hk rfl (fun ls' hl' => ih _ _ _ _ _ _ _ _ hch h H ls' locs hR (hL.st1 hk hl') hS)
  | lstore i =>
    have hd := of_decide_eq_true (zand_e hk).1
    replace hk := (zand_e hk).2
    simp only [zrun] at h
    obtain ⟨x, r, rfl, h⟩ := zJ1_e h
    have hk := of_decide_eq_true hk
    exact fun H ls locs hR hL hS => lv_lstore hx hb hd hL.has hk rfl (fun ls' hl' => ih _ _ _ _ _ _ _ _ hch h H ls' locs hR (hL.st2 hk hl') hS)
  | lstore_n i =>
    have hd := of_decide_eq_true (zand_e hk).1
    replace hk := (zand_e hk).2
    simp only [zrun] at h
    obtain ⟨x, r, rfl, h⟩ := zJ1_e h
    have hk := of_decide_eq_true hk
    exact fun H ls locs hR hL hS => lv_lstore_n hx hb hd rfl hL.has hk rfl (fun ls' hl' => ih _ _ _ _ _ _ _ _ hch h H ls' locs hR (hL.st2 hk hl') hS)
  | dstore i =>
    have hd := of_decide_eq_true (zand_e hk).1
    replace hk := (zand_e hk).2
    simp only [zrun] at h
    obtain ⟨x, r, rfl, h⟩ := zD1_e h
    have hk := of_decide_eq_true hk
    exact fun H ls locs hR hL hS => lv_dstore hx hb hd hL.has hk rfl (fun ls' hl' => ih _ _ _ _ _ _ _ _ hch h H ls' locs hR (hL.st2 hk hl') hS)
  | dstore_n i =>
    have hd := of_decide_eq_true (zand_e hk).1
    replace hk := (zand_e hk).2
    simp only [zrun] at h
    obtain ⟨x, r, rfl, h⟩ := zD1_e h
    have hk := of_decide_eq_true hk
    exact fun H ls locs hR hL hS => lv_dstore_n hx hb hd rfl hL.has hk rfl (fun ls' hl' => ih _ _ _ _ _ _ _ _ hch h H ls' locs hR (hL.st2 hk hl') hS)
  | astore i =>
    have hd := of_decide_eq_true (zand_e hk).1
    replace hk := (zand_e hk).2
    simp only [zrun] at h
    obtain ⟨x, r, rfl, hr, h⟩ := zV1_e h
    have hk := of_decide_eq_true hk
    rcases zref_e hr with rfl | ⟨a, rfl⟩
    · exact fun H ls locs hR hL hS => lv_astoreN hx hb hd hL.has hk rfl (fun ls' hl' => ih _ _ _ _ _ _ _ _ hch h H ls' locs hR (hL.st1 hk hl') hS)
    · exact fun H ls locs hR hL hS => lv_astore hx hb hd hL.has hk rfl (fun ls' hl' => ih _ _ _ _ _ _ _ _ hch h H ls' locs hR (hL.st1 hk hl') hS)
  | astore_n i =>
    have hd := of_decide_eq_true (zand_e hk).1
    replace hk := (zand_e hk).2
    simp only [zrun] at h
    obtain ⟨x, r, rfl, hr, h⟩ := zV1_e h
    have hk := of_decide_eq_true hk
    rcases zref_e hr with rfl | ⟨a, rfl⟩
    · exact fun H ls locs hR hL hS => lv_astore_nN hx hb hd rfl hL.has hk rfl (fun ls' hl' => ih _ _ _ _ _ _ _ _ hch h H ls' locs hR (hL.st1 hk hl') hS)
    · exact fun H ls locs hR hL hS => lv_astore_n hx hb hd rfl hL.has hk rfl (fun ls' hl' => ih _ _ _ _ _ _ _ _ hch h H ls' locs hR (hL.st1 hk hl') hS)
  | iinc i k =>
    have hd := of_decide_eq_true (zand_e hk).1
    replace hk := (zand_e hk).2
    simp only [zrun] at h
    obtain ⟨x, hv, h⟩ := zoI_e h
    simp only [Bool.and_eq_true, decide_eq_true_eq] at hk
    refine fun H ls locs hR hL hS => ?_
    have hv' := znth_eq _ _ _ hv
    have hh : lv_has ls nL ((i, .int x) :: zal L) := ⟨hL.1, hL.2.1, fun q hq => by
      rcases List.mem_cons.mp hq with rfl | hq
      · exact hL.2.2.2 _ _ hv'
      · exact hL.has.2.2 q hq⟩
    refine lv_iinc (k := 0) (v := x + nI (inf.headD 0)) hx hb hd hh rfl (by rw [hk.2]) hk.1 rfl (fun ls' hl' => ih _ _ _ _ _ _ _ _ hch h H ls' locs hR (hL.st1 hk.1 ⟨hl'.1, hl'.2.1, fun q hq => hl'.2.2 q ?_⟩) hS)
    rcases List.mem_cons.mp hq with rfl | hq
    · exact List.mem_cons_self
    · obtain ⟨g1, g2⟩ := List.mem_filter.mp hq
      exact List.mem_cons_of_mem _ (List.mem_filter.mpr ⟨List.mem_cons_of_mem _ g1, g2⟩)
  | goto off =>
    have hd := of_decide_eq_true (zand_e hk).1
    replace hk := (zand_e hk).2
    simp only [zrun] at h
    have hk := of_decide_eq_true hk
    split at h
    · obtain ⟨ps', hb'⟩ := hblk _
      exact fun H ls locs hR hL hS => lv_goto hx hb hd hk (ih _ _ _ _ _ _ _ _ hb' h H ls locs hR hL hS)
    · exact fun H ls locs hR hL hS => lv_goto hx hb hd hk (h H ls locs hR hL hS)
    · exact h.elim
  | ifCond cnd off =>
    have hd := of_decide_eq_true (zand_e hk).1
    replace hk := (zand_e hk).2
    simp only [zrun] at h
    have hk := of_decide_eq_true hk
    rw [nI_0] at h
    split at h
    · obtain ⟨ps', hb'⟩ := hblk _
      obtain ⟨x, r, rfl, h1, h2⟩ := zI1_e h
      exact zr_if hx hb hd hk (fun g => ih _ _ _ _ _ _ _ _ hb' (h1 g)) (fun g => ih _ _ _ _ _ _ _ _ hch (h2 g))
    · obtain ⟨x, r, rfl, h1, h2⟩ := zI1_e h
      exact zr_if hx hb hd hk h1 (fun g => ih _ _ _ _ _ _ _ _ hch (h2 g))
    · exact h.elim
  | if_icmp cnd off =>
    have hd := of_decide_eq_true (zand_e hk).1
    replace hk := (zand_e hk).2
    simp only [zrun] at h
    have hk := of_decide_eq_true hk
    split at h
    · obtain ⟨ps', hb'⟩ := hblk _
      obtain ⟨x, y, r, rfl, h1, h2⟩ := zI2_e h
      exact zr_icmp hx hb hd hk (fun g => ih _ _ _ _ _ _ _ _ hb' (h1 g)) (fun g => ih _ _ _ _ _ _ _ _ hch (h2 g))
    · obtain ⟨x, y, r, rfl, h1, h2⟩ := zI2_e h
      exact zr_icmp hx hb hd hk h1 (fun g => ih _ _ _ _ _ _ _ _ hch (h2 g))
    · exact h.elim
  | ifnull off =>
    have hd := of_decide_eq_true (zand_e hk).1
    replace hk := (zand_e hk).2
    simp only [zrun] at h
    have hk := of_decide_eq_true hk
    split at h
    · obtain ⟨ps', hb'⟩ := hblk _
      exact fun H ls locs hR hL hS => lv_ifnullN hx hb hd hk (ih _ _ _ _ _ _ _ _ hb' h H ls locs hR hL hS)
    · exact fun H ls locs hR hL hS => lv_ifnullN hx hb hd hk (h H ls locs hR hL hS)
    · exact fun H ls locs hR hL hS => lv_ifnull hx hb hd (ih _ _ _ _ _ _ _ _ hch h H ls locs hR hL hS)
    · exact h.elim
  | ifnonnull off =>
    have hd := of_decide_eq_true (zand_e hk).1
    replace hk := (zand_e hk).2
    simp only [zrun] at h
    have hk := of_decide_eq_true hk
    split at h
    · obtain ⟨ps', hb'⟩ := hblk _
      exact fun H ls locs hR hL hS => lv_ifnonnull hx hb hd hk (ih _ _ _ _ _ _ _ _ hb' h H ls locs hR hL hS)
    · exact fun H ls locs hR hL hS => lv_ifnonnull hx hb hd hk (h H ls locs hR hL hS)
    · exact fun H ls locs hR hL hS => lv_ifnonnullN hx hb hd (ih _ _ _ _ _ _ _ _ hch h H ls locs hR hL hS)
    · exact h.elim
  | getfield idx =>
    have hd := of_decide_eq_true (zand_e hk).1
    replace hk := (zand_e hk).2
    simp only [zrun] at h
    obtain ⟨a, r, rfl, h⟩ := zA1_e h
    split at h
    · simp only [Bool.and_eq_true, decide_eq_true_eq] at hk
      obtain ⟨⟨⟨k1, k2⟩, k3⟩, k4⟩ := hk
      exact zr_get F k1 k2 k3 h.1 (zw_in k4) hd (ih _ _ _ _ _ _ _ _ hch h.2)
    · exact h.elim
  | putfield idx =>
    have hd := of_decide_eq_true (zand_e hk).1
    replace hk := (zand_e hk).2
    simp only [zrun] at h
    obtain ⟨v, a, r, rfl, h⟩ := zVA_e h
    split at h
    · simp only [Bool.and_eq_true, decide_eq_true_eq, Bool.or_eq_true, beq_iff_eq] at hk
      obtain ⟨⟨⟨⟨k1, k2⟩, k3⟩, k4⟩, k5⟩ := hk
      obtain ⟨h1, h2⟩ := h
      obtain ⟨h2, h3⟩ := zput_iff h2
      refine zr_put F k1 k2 k3 h1 (zw_in k4) (fun hf => ?_) hd h2 (ih _ _ _ _ _ _ _ _ hch h3)
      rcases k5 with k5 | k5
      · rw [hf] at k5; cases k5
      · exact k5
    · exact h.elim
  | arraylength =>
    have hd := of_decide_eq_true (zand_e hk).1
    replace hk := (zand_e hk).2
    simp only [zrun] at h
    obtain ⟨a, r, rfl, h⟩ := zA1_e h
    exact zr_alen F h.1 hd (ih _ _ _ _ _ _ _ _ hch h.2)
  | iaload =>
    have hd := of_decide_eq_true (zand_e hk).1
    replace hk := (zand_e hk).2
    simp only [zrun] at h
    obtain ⟨i, a, r, rfl, h⟩ := zXA_e h
    exact zr_iald F h.1 hd (ih _ _ _ _ _ _ _ _ hch h.2)
  | baload =>
    have hd := of_decide_eq_true (zand_e hk).1
    replace hk := (zand_e hk).2
    simp only [zrun] at h
    obtain ⟨i, a, r, rfl, h⟩ := zXA_e h
    exact zr_zald F h.1 hd (ih _ _ _ _ _ _ _ _ hch h.2)
  | laload =>
    have hd := of_decide_eq_true (zand_e hk).1
    replace hk := (zand_e hk).2
    simp only [zrun] at h
    obtain ⟨i, a, r, rfl, h⟩ := zXA_e h
    exact zr_lald F h.1 hd (ih _ _ _ _ _ _ _ _ hch h.2)
  | daload =>
    have hd := of_decide_eq_true (zand_e hk).1
    replace hk := (zand_e hk).2
    simp only [zrun] at h
    obtain ⟨i, a, r, rfl, h⟩ := zXA_e h
    exact zr_dald F h.1 hd (ih _ _ _ _ _ _ _ _ hch h.2)
  | aaload =>
    have hd := of_decide_eq_true (zand_e hk).1
    replace hk := (zand_e hk).2
    simp only [zrun] at h
    obtain ⟨i, a, r, rfl, h⟩ := zXA_e h
    exact zr_aald F h.1 hd (ih _ _ _ _ _ _ _ _ hch h.2)
  | iastore =>
    have hd := of_decide_eq_true (zand_e hk).1
    replace hk := (zand_e hk).2
    simp only [zrun] at h
    obtain ⟨v, i, a, r, hst, h9⟩ := zVXA_e h
    clear h
    subst hst
    have h := h9
    clear h9
    split at h
    · exact zr_iast F h.1 hd (ih _ _ _ _ _ _ _ _ hch h.2)
    · exact h.elim
  | bastore =>
    have hd := of_decide_eq_true (zand_e hk).1
    replace hk := (zand_e hk).2
    simp only [zrun] at h
    obtain ⟨v, i, a, r, hst, h9⟩ := zVXA_e h
    clear h
    subst hst
    have h := h9
    clear h9
    split at h
    · exact zr_zast F h.1 h.2.1 hd (ih _ _ _ _ _ _ _ _ hch h.2.2)
    · exact h.elim
  | lastore =>
    have hd := of_decide_eq_true (zand_e hk).1
    replace hk := (zand_e hk).2
    simp only [zrun] at h
    obtain ⟨v, i, a, r, hst, h9⟩ := zVXA_e h
    clear h
    subst hst
    have h := h9
    clear h9
    split at h
    · exact zr_last F h.1 hd (ih _ _ _ _ _ _ _ _ hch h.2)
    · exact h.elim
  | dastore =>
    have hd := of_decide_eq_true (zand_e hk).1
    replace hk := (zand_e hk).2
    simp only [zrun] at h
    obtain ⟨v, i, a, r, hst, h9⟩ := zVXA_e h
    clear h
    subst hst
    have h := h9
    clear h9
    split at h
    · exact zr_dast F h.1 hd (ih _ _ _ _ _ _ _ _ hch h.2)
    · exact h.elim
  | aastore =>
    have hd := of_decide_eq_true (zand_e hk).1
    replace hk := (zand_e hk).2
    simp only [zrun] at h
    obtain ⟨v, i, a, r, rfl, h⟩ := zVXA_e h
    obtain ⟨h1, h2⟩ := h
    unfold zrefs at h2
    split at h2
    · exact zr_aast F h1 h2.1 hd (ih _ _ _ _ _ _ _ _ hch h2.2)
    · exact h2.elim
  | new idx =>
    have hd := of_decide_eq_true (zand_e hk).1
    replace hk := (zand_e hk).2
    simp only [zrun] at h
    dsimp only at hk
    generalize ps.headD [] = pp at hk
    split at hk
    · simp only [Bool.and_eq_true, decide_eq_true_eq] at hk
      obtain ⟨⟨⟨⟨k1, k2⟩, k3⟩, k4⟩, k5⟩ := hk
      exact zr_new F k1 k2 (zw_in k3) (zw_in k4) (zw_in k5) hd h.1 h.2.1 (ih _ _ _ _ _ _ _ _ hch h.2.2)
    · cases hk
  | newarray t =>
    have hd := of_decide_eq_true (zand_e hk).1
    replace hk := (zand_e hk).2
    simp only [zrun] at h
    obtain ⟨x, r, rfl, h1, h2, h3, h4, h5⟩ := zI1_e h
    dsimp only at hk
    split at hk
    · simp only [Bool.and_eq_true, decide_eq_true_eq] at hk
      obtain ⟨⟨⟨k1, k2⟩, k3⟩, k4⟩ := hk
      exact zr_newa F k1 k2 k3 (zw_in k4) hd h1 h2 h3 h4 (ih _ _ _ _ _ _ _ _ hch h5)
    · cases hk
  | anewarray idx =>
    have hd := of_decide_eq_true (zand_e hk).1
    replace hk := (zand_e hk).2
    simp only [zrun] at h
    obtain ⟨x, r, rfl, h1, h2, h3, h4, h5⟩ := zI1_e h
    dsimp only at hk
    split at hk
    · simp only [Bool.and_eq_true, decide_eq_true_eq] at hk
      obtain ⟨⟨k1, k2⟩, k3⟩ := hk
      exact zr_anew F k1 k2 (zw_in k3) hd h1 h2 h3 h4 (ih _ _ _ _ _ _ _ _ hch h5)
    · cases hk
  | tableswitch d lo hi offs =>
    simp only [zrun] at h
    dsimp only at hk
    split at hk
    · rename_i t0 ts
      replace hk := zand_e hk
      obtain ⟨hk, k3⟩ := hk
      obtain ⟨hk, k2⟩ := zand_e hk
      obtain ⟨k0, k1⟩ := zand_e hk
      replace k1 := of_decide_eq_true k1
      replace k2 := of_decide_eq_true k2
      replace k3 := of_decide_eq_true k3
      obtain ⟨x, r, rfl, h1, h2⟩ := zI1_e h
      refine zr_table hx hb k0 k1 k2 k3 (fun i t hi he => ?_) (fun g => ?_)
      · obtain ⟨ps', hb'⟩ := hblk t
        exact ih _ _ _ _ _ _ _ _ hb' (zsw_e _ _ h1 i t hi he)
      · obtain ⟨ps', hb'⟩ := hblk t0
        exact ih _ _ _ _ _ _ _ _ hb' (h2 g)
    · cases hk
  | invokestatic idx =>
    have hd := of_decide_eq_true (zand_e hk).1
    replace hk := (zand_e hk).2
    simp only [zrun] at h
    dsimp only at hk
    generalize ps.headD [] = pp at hk
    split at hk
    ·
      simp only [Bool.and_eq_true, decide_eq_true_eq] at hk
      obtain ⟨⟨⟨⟨⟨k1, k2⟩, k3⟩, k4⟩, k5⟩, k6⟩ := hk
      obtain ⟨x, r, rfl, h1, h2⟩ := zD1_e h
      exact fun H ls locs hR hL hS => vn_d2l hx hb (by rw [hml]; exact hL.1.symm) hown (hts _ (zw_in k3)) (hts _ (zw_in k4)) (hts _ (zw_in k5)) (hts _ (zw_in k6)) k1 (by have : (r.map fun v => v.category).sum ≤ 8 := h1; omega) hd (ih _ _ _ _ _ _ _ _ hch h2 H ls locs hR hL hS)
    ·
      simp only [Bool.and_eq_true, decide_eq_true_eq] at hk
      obtain ⟨⟨⟨⟨⟨k1, k2⟩, k3⟩, k4⟩, k5⟩, k6⟩ := hk
      obtain ⟨x, r, rfl, h1, h0, h2⟩ := zJ1_e h
      exact fun H ls locs hR hL hS => vn_l2d hx hb (by rw [hml]; exact hL.1.symm) hown (hts _ (zw_in k3)) (hts _ (zw_in k4)) (hts _ (zw_in k5)) (hts _ (zw_in k6)) h0 k1 (by have : (r.map fun v => v.category).sum ≤ 8 := h1; omega) hd (ih _ _ _ _ _ _ _ _ hch h2 H ls locs hR hL hS)
    ·
      simp only [Bool.and_eq_true, decide_eq_true_eq] at hk
      obtain ⟨⟨⟨⟨⟨k1, k2⟩, k3⟩, k4⟩, k5⟩, k6⟩ := hk
      obtain ⟨x, y, r, rfl, h1, h8, h9, h2⟩ := zI2_e h
      exact fun H ls locs hR hL hS => va_mmax hx hb (by rw [hml]; exact hL.1.symm) hown (hts _ (zw_in k3)) (hts _ (zw_in k4)) (hts _ (zw_in k5)) (hts _ (zw_in k6)) k1 (by have : (r.map fun v => v.category).sum ≤ 8 := h1; omega) h8 h9 hd (ih _ _ _ _ _ _ _ _ hch h2 H ls locs hR hL hS)
    ·
      simp only [Bool.and_eq_true, decide_eq_true_eq] at hk
      obtain ⟨⟨⟨⟨⟨k1, k2⟩, k3⟩, k4⟩, k5⟩, k6⟩ := hk
      obtain ⟨x, y, r, rfl, h1, h8, h9, h2⟩ := zI2_e h
      exact fun H ls locs hR hL hS => va_mmin hx hb (by rw [hml]; exact hL.1.symm) hown (hts _ (zw_in k3)) (hts _ (zw_in k4)) (hts _ (zw_in k5)) (hts _ (zw_in k6)) k1 (by have : (r.map fun v => v.category).sum ≤ 8 := h1; omega) h8 h9 hd (ih _ _ _ _ _ _ _ _ hch h2 H ls locs hR hL hS)
    ·
      simp only [Bool.and_eq_true, decide_eq_true_eq] at hk
      obtain ⟨⟨⟨⟨⟨k1, k2⟩, k3⟩, k4⟩, k5⟩, k6⟩ := hk
      obtain ⟨x, r, rfl, h1, h8, h9, h2⟩ := zI1_e h
      exact fun H ls locs hR hL hS => va_mabs hx hb (by rw [hml]; exact hL.1.symm) hown (hts _ (zw_in k3)) (hts _ (zw_in k4)) (hts _ (zw_in k5)) (hts _ (zw_in k6)) k1 (by have : (r.map fun v => v.category).sum ≤ 8 := h1; omega) h8 h9 hd (ih _ _ _ _ _ _ _ _ hch h2 H ls locs hR hL hS)
    ·
      simp only [Bool.and_eq_true, decide_eq_true_eq] at hk
      obtain ⟨⟨⟨⟨⟨k1, k2⟩, k3⟩, k4⟩, k5⟩, k6⟩ := hk
      obtain ⟨x, y, r, rfl, h1, h8, h9, h2⟩ := zJ2_e h
      exact fun H ls locs hR hL hS => va_mmax_long hx hb (by rw [hml]; exact hL.1.symm) hown (hts _ (zw_in k3)) (hts _ (zw_in k4)) (hts _ (zw_in k5)) (hts _ (zw_in k6)) k1 (by have : (r.map fun v => v.category).sum ≤ 8 := h1; omega) h8 h9 hd (ih _ _ _ _ _ _ _ _ hch h2 H ls locs hR hL hS)
    · split at h
      · rename_i e9
        cases e9
      · rename_i e9
        cases e9
      · rename_i e9
        cases e9
      · rename_i e9
        cases e9
      · rename_i e9
        cases e9
      · rename_i e9
        cases e9
      · rename_i e9
        cases e9
        obtain ⟨q, hq, hk⟩ := zcl_e hk
        obtain ⟨As, r, rfl, hn, h1, h2⟩ := zpop_e _ _ _ _ h
        obtain ⟨ct, hct, h3, h4, h5⟩ := zoc_e h2
        simp only [Bool.and_eq_true, decide_eq_true_eq] at hk
        obtain ⟨⟨k1, k2⟩, k3⟩ := hk
        obtain ⟨hM, hcs⟩ := hΓ _ _ _ hq hct
        obtain ⟨hz, hm⟩ := zcal_e k1 hcs
        rw [List.append_nil] at h5
        exact zr_callS F hM hz (zw_in k2) k3 hd rfl (hn.trans hm) h1 h3 h4 h5 (fun v S' hh => ih _ _ _ _ _ _ _ _ hch hh)
      · exact h.elim
    · cases hk
  | invokevirtual idx =>
    have hd := of_decide_eq_true (zand_e hk).1
    replace hk := (zand_e hk).2
    simp only [zrun] at h
    dsimp only at hk
    generalize ps.headD [] = pp at hk
    split at hk
    ·
      obtain ⟨q, hq, hk⟩ := zcl_e hk
      obtain ⟨As, r, rfl, hn, h⟩ := zpop_e _ _ _ _ h
      obtain ⟨a, r2, rfl, h0, h1, h2⟩ := zA1_e h
      obtain ⟨ct, hct, h3, h4, h5⟩ := zoc_e h2
      simp only [Bool.and_eq_true, decide_eq_true_eq] at hk
      obtain ⟨⟨⟨⟨⟨k1, k2⟩, k3⟩, k4⟩, k5⟩, k6⟩ := hk
      obtain ⟨hM, hcs⟩ := hΓ _ _ _ hq hct
      obtain ⟨hz, hm⟩ := zcal_e k1 hcs
      rw [List.append_nil] at h5
      exact zr_callV F hM hz k2 k3 k4 h0 (zw_in k5) k6 hd rfl (hn.trans hm) h1 h3 h4 h5 (fun v S' hh => ih _ _ _ _ _ _ _ _ hch hh)
    · cases hk
  | invokespecial idx =>
    have hd := of_decide_eq_true (zand_e hk).1
    replace hk := (zand_e hk).2
    simp only [zrun] at h
    dsimp only at hk
    generalize ps.headD [] = pp at hk
    split at hk
    ·
      simp only [Bool.and_eq_true, decide_eq_true_eq] at hk
      obtain ⟨⟨⟨⟨k1, k2⟩, k3⟩, k4⟩, k5⟩ := hk
      obtain ⟨a, r, rfl, h1, h2⟩ := zA1_e h
      exact fun H ls locs hR hL hS => W.objInit (g := F0 m pc' ls (.ref a :: r)) hx hb hown (hts _ (zw_in k3)) (hts _ (zw_in k4)) (hts _ (zw_in k5)) rfl (by rw [hml]; exact hL.1) rfl hd k1 (by have : (r.map fun v => v.category).sum ≤ 8 := h1; show 2 * 0 + _ + 12 ≤ _; omega) (ih _ _ _ _ _ _ _ _ hch h2 H ls locs hR hL hS)
    ·
      obtain ⟨q, hq, hk⟩ := zcl_e hk
      obtain ⟨As, r, rfl, hn, h⟩ := zpop_e _ _ _ _ h
      obtain ⟨a, r2, rfl, h1, h2⟩ := zA1_e h
      obtain ⟨ct, hct, h3, h4, h5⟩ := zoc_e h2
      simp only [Bool.and_eq_true, decide_eq_true_eq] at hk
      obtain ⟨⟨⟨⟨k1, k2⟩, k3⟩, k4⟩, k7⟩ := hk
      obtain ⟨hM, hcs⟩ := hΓ _ _ _ hq hct
      obtain ⟨hz, hm⟩ := zcal_e k1 hcs
      rw [List.append_nil] at h5
      exact zr_callI F hM hz k2 k3 (Or.inr (znst_e k7)) k4 hd rfl (hn.trans hm) h1 h3 h4 h5 (fun v S' hh => ih _ _ _ _ _ _ _ _ hch hh)
    ·
      obtain ⟨q, hq, hk⟩ := zcl_e hk
      obtain ⟨As, r, rfl, hn, h⟩ := zpop_e _ _ _ _ h
      obtain ⟨a, r2, rfl, h1, h2⟩ := zA1_e h
      obtain ⟨ct, hct, h3, h4, h5⟩ := zoc_e h2
      simp only [Bool.and_eq_true, decide_eq_true_eq] at hk
      obtain ⟨⟨⟨⟨k1, k2⟩, k3⟩, k4⟩, k7⟩ := hk
      obtain ⟨hM, hcs⟩ := hΓ _ _ _ hq hct
      obtain ⟨hz, hm⟩ := zcal_e k1 hcs
      rw [List.append_nil] at h5
      exact zr_callI F hM hz k2 k3 (Or.inl (zw_in k7)) k4 hd rfl (hn.trans hm) h1 h3 h4 h5 (fun v S' hh => ih _ _ _ _ _ _ _ _ hch hh)
    · cases hk
  | ireturn =>
    have hd := of_decide_eq_true (zand_e hk).1
    replace hk := (zand_e hk).2
    simp only [zrun] at h
    match st, h with
    | [.int x], h => exact HR _ _ (some (.int x)) _ _ _ _ hd (show rt = some .int ∨ rt = some .boolean by simpa using hk) h
  | lreturn =>
    have hd := of_decide_eq_true (zand_e hk).1
    replace hk := (zand_e hk).2
    simp only [zrun] at h
    match st, h with
    | [.long x], h => exact HR _ _ (some (.long x)) _ _ _ _ hd (show rt = some .long from of_decide_eq_true hk) h
  | dreturn =>
    have hd := of_decide_eq_true (zand_e hk).1
    replace hk := (zand_e hk).2
    simp only [zrun] at h
    match st, h with
    | [.double x], h => exact HR _ _ (some (.double x)) _ _ _ _ hd (show rt = some .double from of_decide_eq_true hk) h
  | areturn =>
    have hd := of_decide_eq_true (zand_e hk).1
    replace hk := (zand_e hk).2
    simp only [zrun] at h
    match st, h with
    | [v], h =>
      refine HR _ _ (some v) _ _ _ _ hd ⟨h.1, ?_⟩ h.2
      match rt, hk with
      | some (.object n), _ => exact Or.inl ⟨n, rfl⟩
      | some (.array t), _ => exact Or.inr ⟨t, rfl⟩
  | return_ =>
    have hd := of_decide_eq_true (zand_e hk).1
    replace hk := (zand_e hk).2
    simp only [zrun] at h
    match st, h with
    | [], h => exact HR _ _ none _ _ _ _ hd (show rt = none from of_decide_eq_true hk) h
  | nop =>
    simp only [zrun] at h
    split at h
    · exact h
    · obtain ⟨ps', hb'⟩ := hblk pc'
      exact ih _ _ _ _ _ _ _ _ hb' h
  | _ =>
    simp only [zrun] at h
end ZSOUND2
