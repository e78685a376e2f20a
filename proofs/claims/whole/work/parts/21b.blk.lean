/-! writing the first places of an array at once -/
section ZBLK
def zsIf (S : zS) (a n : Nat) (g : Nat → Int32) : zS := (S.1, S.2.1, fun b k => if b = a ∧ k < n then g k else zI S b k, S.2.2.2.1, S.2.2.2.2.1, S.2.2.2.2.2)
theorem zsIf_0 {S : zS} {a : Nat} {g : Nat → Int32} : zsIf S a 0 g = S := by
  obtain ⟨s1, s2, s3, s4, s5, s6⟩ := S
  unfold zsIf zI
  congr
  funext b k; simp
theorem zsIf_s {S : zS} {a n : Nat} {g : Nat → Int32} : zsI (zsIf S a n g) a n (g n) = zsIf S a (n + 1) g := by
  unfold zsI zsIf zup
  have e : (fun b j => if b = a ∧ j = n then g n else (if b = a ∧ j < n then g j else zI S b j)) = fun b k => if b = a ∧ k < n + 1 then g k else zI S b k := by
    funext b k
    by_cases h1 : b = a
    · by_cases h2 : k = n
      · subst h2; simp [h1]
      · by_cases h3 : k < n
        · simp [h1, h2, h3, show k < n + 1 by omega]
        · simp [h1, h2, h3, show ¬ k < n + 1 by omega]
    · simp [h1]
  rw [← e]
theorem zI_sIf {S : zS} {a n : Nat} {g : Nat → Int32} {b k : Nat} : zI (zsIf S a n g) b k = if b = a ∧ k < n then g k else zI S b k := rfl
theorem zSh_sIf {S : zS} {a n : Nat} {g : Nat → Int32} : zSh (zsIf S a n g) = zSh S := rfl
theorem zNx_sIf {S : zS} {a n : Nat} {g : Nat → Int32} : zNx (zsIf S a n g) = zNx S := rfl
theorem zJ_sIf {S : zS} {a n : Nat} {g : Nat → Int32} : zJ (zsIf S a n g) = zJ S := rfl
theorem zD_sIf {S : zS} {a n : Nat} {g : Nat → Int32} : zD (zsIf S a n g) = zD S := rfl
theorem zR_sIf {S : zS} {a n : Nat} {g : Nat → Int32} : zR (zsIf S a n g) = zR S := rfl
theorem zFr.sIf {F : Nat → Prop} {S S : zS} {a n : Nat} {g : Nat → Int32} (h : zFr F S S) (ha : F a) : zFr F S (zsIf S a n g) := by
  refine ⟨h.1, h.2.1, fun b hb => ?_⟩
  have hne : b ≠ a := by intro e; subst e; exact hb ha
  obtain ⟨q1, q2, q3, q4⟩ := h.2.2 b hb
  exact ⟨by rw [← q1]; funext k; rw [zI_sIf, if_neg (fun e => hne e.1)], q2, q3, q4⟩
def zsJf (S : zS) (a n : Nat) (g : Nat → Int64) : zS := (S.1, S.2.1, S.2.2.1, fun b k => if b = a ∧ k < n then g k else zJ S b k, S.2.2.2.2.1, S.2.2.2.2.2)
theorem zsJf_0 {S : zS} {a : Nat} {g : Nat → Int64} : zsJf S a 0 g = S := by
  obtain ⟨s1, s2, s3, s4, s5, s6⟩ := S
  unfold zsJf zJ
  congr
  funext b k; simp
theorem zsJf_s {S : zS} {a n : Nat} {g : Nat → Int64} : zsJ (zsJf S a n g) a n (g n) = zsJf S a (n + 1) g := by
  unfold zsJ zsJf zup
  have e : (fun b j => if b = a ∧ j = n then g n else (if b = a ∧ j < n then g j else zJ S b j)) = fun b k => if b = a ∧ k < n + 1 then g k else zJ S b k := by
    funext b k
    by_cases h1 : b = a
    · by_cases h2 : k = n
      · subst h2; simp [h1]
      · by_cases h3 : k < n
        · simp [h1, h2, h3, show k < n + 1 by omega]
        · simp [h1, h2, h3, show ¬ k < n + 1 by omega]
    · simp [h1]
  rw [← e]
theorem zJ_sJf {S : zS} {a n : Nat} {g : Nat → Int64} {b k : Nat} : zJ (zsJf S a n g) b k = if b = a ∧ k < n then g k else zJ S b k := rfl
theorem zSh_sJf {S : zS} {a n : Nat} {g : Nat → Int64} : zSh (zsJf S a n g) = zSh S := rfl
theorem zNx_sJf {S : zS} {a n : Nat} {g : Nat → Int64} : zNx (zsJf S a n g) = zNx S := rfl
theorem zI_sJf {S : zS} {a n : Nat} {g : Nat → Int64} : zI (zsJf S a n g) = zI S := rfl
theorem zD_sJf {S : zS} {a n : Nat} {g : Nat → Int64} : zD (zsJf S a n g) = zD S := rfl
theorem zR_sJf {S : zS} {a n : Nat} {g : Nat → Int64} : zR (zsJf S a n g) = zR S := rfl
theorem zFr.sJf {F : Nat → Prop} {S S : zS} {a n : Nat} {g : Nat → Int64} (h : zFr F S S) (ha : F a) : zFr F S (zsJf S a n g) := by
  refine ⟨h.1, h.2.1, fun b hb => ?_⟩
  have hne : b ≠ a := by intro e; subst e; exact hb ha
  obtain ⟨q1, q2, q3, q4⟩ := h.2.2 b hb
  exact ⟨q1, by rw [← q2]; funext k; rw [zJ_sJf, if_neg (fun e => hne e.1)], q3, q4⟩
def zsDf (S : zS) (a n : Nat) (g : Nat → UInt64) : zS := (S.1, S.2.1, S.2.2.1, S.2.2.2.1, fun b k => if b = a ∧ k < n then g k else zD S b k, S.2.2.2.2.2)
theorem zsDf_0 {S : zS} {a : Nat} {g : Nat → UInt64} : zsDf S a 0 g = S := by
  obtain ⟨s1, s2, s3, s4, s5, s6⟩ := S
  unfold zsDf zD
  congr
  funext b k; simp
theorem zsDf_s {S : zS} {a n : Nat} {g : Nat → UInt64} : zsD (zsDf S a n g) a n (g n) = zsDf S a (n + 1) g := by
  unfold zsD zsDf zup
  have e : (fun b j => if b = a ∧ j = n then g n else (if b = a ∧ j < n then g j else zD S b j)) = fun b k => if b = a ∧ k < n + 1 then g k else zD S b k := by
    funext b k
    by_cases h1 : b = a
    · by_cases h2 : k = n
      · subst h2; simp [h1]
      · by_cases h3 : k < n
        · simp [h1, h2, h3, show k < n + 1 by omega]
        · simp [h1, h2, h3, show ¬ k < n + 1 by omega]
    · simp [h1]
  rw [← e]
theorem zD_sDf {S : zS} {a n : Nat} {g : Nat → UInt64} {b k : Nat} : zD (zsDf S a n g) b k = if b = a ∧ k < n then g k else zD S b k := rfl
theorem zSh_sDf {S : zS} {a n : Nat} {g : Nat → UInt64} : zSh (zsDf S a n g) = zSh S := rfl
theorem zNx_sDf {S : zS} {a n : Nat} {g : Nat → UInt64} : zNx (zsDf S a n g) = zNx S := rfl
theorem zI_sDf {S : zS} {a n : Nat} {g : Nat → UInt64} : zI (zsDf S a n g) = zI S := rfl
theorem zJ_sDf {S : zS} {a n : Nat} {g : Nat → UInt64} : zJ (zsDf S a n g) = zJ S := rfl
theorem zR_sDf {S : zS} {a n : Nat} {g : Nat → UInt64} : zR (zsDf S a n g) = zR S := rfl
theorem zFr.sDf {F : Nat → Prop} {S S : zS} {a n : Nat} {g : Nat → UInt64} (h : zFr F S S) (ha : F a) : zFr F S (zsDf S a n g) := by
  refine ⟨h.1, h.2.1, fun b hb => ?_⟩
  have hne : b ≠ a := by intro e; subst e; exact hb ha
  obtain ⟨q1, q2, q3, q4⟩ := h.2.2 b hb
  exact ⟨q1, q2, by rw [← q3]; funext k; rw [zD_sDf, if_neg (fun e => hne e.1)], q4⟩
end ZBLK
