/-! shapes of the objects of fixed layout (written by gen/shp.py) -/
section ZSHP
/-- nothing but the cells of F has changed, and no reference -/
def zGr (F : Nat → Prop) (S T : zS) : Prop := zSh T = zSh S ∧ zNx T = zNx S ∧ zR T = zR S ∧ ∀ b, ¬ F b → zI T b = zI S b ∧ zJ T b = zJ S b ∧ zD T b = zD S b
def zPt1 : List (Nat × Nat × Nat × Nat) := [(0, 1, 27, 128), (1, 2, 9, 0), (2, 4, 9, 0), (3, 6, 9, 0), (4, 8, 9, 0), (5, 10, 20, 8), (6, 11, 21, 8)]
def zP1 (S : zS) (o : Nat) : Prop := (zSh S o).1 = 1 ∧ ∀ t, t ∈ zPt1 → zR S o t.1 = some (o + t.2.1) ∧ zSh S (o + t.2.1) = t.2.2
theorem zP1_k {S : zS} {o : Nat} (h : zP1 S o) : (zSh S o).1 = 1 := h.1
theorem zP1_r0 {S : zS} {o : Nat} (h : zP1 S o) : zR S o 0 = some (o + 1) := (h.2 (0, 1, 27, 128) (by decide)).1
theorem zP1_s0 {S : zS} {o : Nat} (h : zP1 S o) : zSh S (o + 1) = (27, 128) := (h.2 (0, 1, 27, 128) (by decide)).2
theorem zP1_r1 {S : zS} {o : Nat} (h : zP1 S o) : zR S o 1 = some (o + 2) := (h.2 (1, 2, 9, 0) (by decide)).1
theorem zP1_s1 {S : zS} {o : Nat} (h : zP1 S o) : zSh S (o + 2) = (9, 0) := (h.2 (1, 2, 9, 0) (by decide)).2
theorem zP1_r2 {S : zS} {o : Nat} (h : zP1 S o) : zR S o 2 = some (o + 4) := (h.2 (2, 4, 9, 0) (by decide)).1
theorem zP1_s2 {S : zS} {o : Nat} (h : zP1 S o) : zSh S (o + 4) = (9, 0) := (h.2 (2, 4, 9, 0) (by decide)).2
theorem zP1_r3 {S : zS} {o : Nat} (h : zP1 S o) : zR S o 3 = some (o + 6) := (h.2 (3, 6, 9, 0) (by decide)).1
theorem zP1_s3 {S : zS} {o : Nat} (h : zP1 S o) : zSh S (o + 6) = (9, 0) := (h.2 (3, 6, 9, 0) (by decide)).2
theorem zP1_r4 {S : zS} {o : Nat} (h : zP1 S o) : zR S o 4 = some (o + 8) := (h.2 (4, 8, 9, 0) (by decide)).1
theorem zP1_s4 {S : zS} {o : Nat} (h : zP1 S o) : zSh S (o + 8) = (9, 0) := (h.2 (4, 8, 9, 0) (by decide)).2
theorem zP1_r5 {S : zS} {o : Nat} (h : zP1 S o) : zR S o 5 = some (o + 10) := (h.2 (5, 10, 20, 8) (by decide)).1
theorem zP1_s5 {S : zS} {o : Nat} (h : zP1 S o) : zSh S (o + 10) = (20, 8) := (h.2 (5, 10, 20, 8) (by decide)).2
theorem zP1_r6 {S : zS} {o : Nat} (h : zP1 S o) : zR S o 6 = some (o + 11) := (h.2 (6, 11, 21, 8) (by decide)).1
theorem zP1_s6 {S : zS} {o : Nat} (h : zP1 S o) : zSh S (o + 11) = (21, 8) := (h.2 (6, 11, 21, 8) (by decide)).2
theorem zP1_gr {F : Nat → Prop} {S T : zS} {o : Nat} (h : zGr F S T) (hs : zP1 S o) : zP1 T o := by unfold zP1; rw [h.1, h.2.2.1]; exact hs
theorem zP1_fr {F : Nat → Prop} {S T : zS} {o : Nat} (h : zFr F S T) (ho : ¬ F o) (hs : zP1 S o) : zP1 T o := by unfold zP1; rw [h.1, (h.2.2 o ho).2.2.2]; exact hs
theorem zP1_eq {S T : zS} {o : Nat} (h1 : zSh T = zSh S) (h2 : zR T = zR S) (hs : zP1 S o) : zP1 T o := by unfold zP1; rw [h1, h2]; exact hs
def zPt2 : List (Nat × Nat × Nat × Nat) := [(6, 1, 22, 64), (7, 2, 20, 8), (8, 3, 20, 8), (9, 4, 22, 8), (10, 5, 22, 8)]
def zP2 (S : zS) (o : Nat) : Prop := (zSh S o).1 = 2 ∧ ∀ t, t ∈ zPt2 → zR S o t.1 = some (o + t.2.1) ∧ zSh S (o + t.2.1) = t.2.2
theorem zP2_k {S : zS} {o : Nat} (h : zP2 S o) : (zSh S o).1 = 2 := h.1
theorem zP2_r6 {S : zS} {o : Nat} (h : zP2 S o) : zR S o 6 = some (o + 1) := (h.2 (6, 1, 22, 64) (by decide)).1
theorem zP2_s6 {S : zS} {o : Nat} (h : zP2 S o) : zSh S (o + 1) = (22, 64) := (h.2 (6, 1, 22, 64) (by decide)).2
theorem zP2_r7 {S : zS} {o : Nat} (h : zP2 S o) : zR S o 7 = some (o + 2) := (h.2 (7, 2, 20, 8) (by decide)).1
theorem zP2_s7 {S : zS} {o : Nat} (h : zP2 S o) : zSh S (o + 2) = (20, 8) := (h.2 (7, 2, 20, 8) (by decide)).2
theorem zP2_r8 {S : zS} {o : Nat} (h : zP2 S o) : zR S o 8 = some (o + 3) := (h.2 (8, 3, 20, 8) (by decide)).1
theorem zP2_s8 {S : zS} {o : Nat} (h : zP2 S o) : zSh S (o + 3) = (20, 8) := (h.2 (8, 3, 20, 8) (by decide)).2
theorem zP2_r9 {S : zS} {o : Nat} (h : zP2 S o) : zR S o 9 = some (o + 4) := (h.2 (9, 4, 22, 8) (by decide)).1
theorem zP2_s9 {S : zS} {o : Nat} (h : zP2 S o) : zSh S (o + 4) = (22, 8) := (h.2 (9, 4, 22, 8) (by decide)).2
theorem zP2_r10 {S : zS} {o : Nat} (h : zP2 S o) : zR S o 10 = some (o + 5) := (h.2 (10, 5, 22, 8) (by decide)).1
theorem zP2_s10 {S : zS} {o : Nat} (h : zP2 S o) : zSh S (o + 5) = (22, 8) := (h.2 (10, 5, 22, 8) (by decide)).2
theorem zP2_gr {F : Nat → Prop} {S T : zS} {o : Nat} (h : zGr F S T) (hs : zP2 S o) : zP2 T o := by unfold zP2; rw [h.1, h.2.2.1]; exact hs
theorem zP2_fr {F : Nat → Prop} {S T : zS} {o : Nat} (h : zFr F S T) (ho : ¬ F o) (hs : zP2 S o) : zP2 T o := by unfold zP2; rw [h.1, (h.2.2 o ho).2.2.2]; exact hs
theorem zP2_eq {S T : zS} {o : Nat} (h1 : zSh T = zSh S) (h2 : zR T = zR S) (hs : zP2 S o) : zP2 T o := by unfold zP2; rw [h1, h2]; exact hs
def zPt4 : List (Nat × Nat × Nat × Nat) := [(0, 1, 20, 8), (1, 2, 20, 8), (2, 3, 20, 8), (3, 4, 21, 8)]
def zP4 (S : zS) (o : Nat) : Prop := (zSh S o).1 = 4 ∧ ∀ t, t ∈ zPt4 → zR S o t.1 = some (o + t.2.1) ∧ zSh S (o + t.2.1) = t.2.2
theorem zP4_k {S : zS} {o : Nat} (h : zP4 S o) : (zSh S o).1 = 4 := h.1
theorem zP4_r0 {S : zS} {o : Nat} (h : zP4 S o) : zR S o 0 = some (o + 1) := (h.2 (0, 1, 20, 8) (by decide)).1
theorem zP4_s0 {S : zS} {o : Nat} (h : zP4 S o) : zSh S (o + 1) = (20, 8) := (h.2 (0, 1, 20, 8) (by decide)).2
theorem zP4_r1 {S : zS} {o : Nat} (h : zP4 S o) : zR S o 1 = some (o + 2) := (h.2 (1, 2, 20, 8) (by decide)).1
theorem zP4_s1 {S : zS} {o : Nat} (h : zP4 S o) : zSh S (o + 2) = (20, 8) := (h.2 (1, 2, 20, 8) (by decide)).2
theorem zP4_r2 {S : zS} {o : Nat} (h : zP4 S o) : zR S o 2 = some (o + 3) := (h.2 (2, 3, 20, 8) (by decide)).1
theorem zP4_s2 {S : zS} {o : Nat} (h : zP4 S o) : zSh S (o + 3) = (20, 8) := (h.2 (2, 3, 20, 8) (by decide)).2
theorem zP4_r3 {S : zS} {o : Nat} (h : zP4 S o) : zR S o 3 = some (o + 4) := (h.2 (3, 4, 21, 8) (by decide)).1
theorem zP4_s3 {S : zS} {o : Nat} (h : zP4 S o) : zSh S (o + 4) = (21, 8) := (h.2 (3, 4, 21, 8) (by decide)).2
theorem zP4_gr {F : Nat → Prop} {S T : zS} {o : Nat} (h : zGr F S T) (hs : zP4 S o) : zP4 T o := by unfold zP4; rw [h.1, h.2.2.1]; exact hs
theorem zP4_fr {F : Nat → Prop} {S T : zS} {o : Nat} (h : zFr F S T) (ho : ¬ F o) (hs : zP4 S o) : zP4 T o := by unfold zP4; rw [h.1, (h.2.2 o ho).2.2.2]; exact hs
theorem zP4_eq {S T : zS} {o : Nat} (h1 : zSh T = zSh S) (h2 : zR T = zR S) (hs : zP4 S o) : zP4 T o := by unfold zP4; rw [h1, h2]; exact hs
def zPt5 : List (Nat × Nat × Nat × Nat) := [(0, 1, 7, 0), (1, 3, 7, 0), (2, 5, 7, 0), (3, 7, 7, 0), (4, 9, 22, 8), (5, 10, 22, 8), (6, 11, 22, 8), (7, 12, 22, 8), (8, 13, 22, 8)]
def zP5 (S : zS) (o : Nat) : Prop := (zSh S o).1 = 5 ∧ ∀ t, t ∈ zPt5 → zR S o t.1 = some (o + t.2.1) ∧ zSh S (o + t.2.1) = t.2.2
theorem zP5_k {S : zS} {o : Nat} (h : zP5 S o) : (zSh S o).1 = 5 := h.1
theorem zP5_r0 {S : zS} {o : Nat} (h : zP5 S o) : zR S o 0 = some (o + 1) := (h.2 (0, 1, 7, 0) (by decide)).1
theorem zP5_s0 {S : zS} {o : Nat} (h : zP5 S o) : zSh S (o + 1) = (7, 0) := (h.2 (0, 1, 7, 0) (by decide)).2
theorem zP5_r1 {S : zS} {o : Nat} (h : zP5 S o) : zR S o 1 = some (o + 3) := (h.2 (1, 3, 7, 0) (by decide)).1
theorem zP5_s1 {S : zS} {o : Nat} (h : zP5 S o) : zSh S (o + 3) = (7, 0) := (h.2 (1, 3, 7, 0) (by decide)).2
theorem zP5_r2 {S : zS} {o : Nat} (h : zP5 S o) : zR S o 2 = some (o + 5) := (h.2 (2, 5, 7, 0) (by decide)).1
theorem zP5_s2 {S : zS} {o : Nat} (h : zP5 S o) : zSh S (o + 5) = (7, 0) := (h.2 (2, 5, 7, 0) (by decide)).2
theorem zP5_r3 {S : zS} {o : Nat} (h : zP5 S o) : zR S o 3 = some (o + 7) := (h.2 (3, 7, 7, 0) (by decide)).1
theorem zP5_s3 {S : zS} {o : Nat} (h : zP5 S o) : zSh S (o + 7) = (7, 0) := (h.2 (3, 7, 7, 0) (by decide)).2
theorem zP5_r4 {S : zS} {o : Nat} (h : zP5 S o) : zR S o 4 = some (o + 9) := (h.2 (4, 9, 22, 8) (by decide)).1
theorem zP5_s4 {S : zS} {o : Nat} (h : zP5 S o) : zSh S (o + 9) = (22, 8) := (h.2 (4, 9, 22, 8) (by decide)).2
theorem zP5_r5 {S : zS} {o : Nat} (h : zP5 S o) : zR S o 5 = some (o + 10) := (h.2 (5, 10, 22, 8) (by decide)).1
theorem zP5_s5 {S : zS} {o : Nat} (h : zP5 S o) : zSh S (o + 10) = (22, 8) := (h.2 (5, 10, 22, 8) (by decide)).2
theorem zP5_r6 {S : zS} {o : Nat} (h : zP5 S o) : zR S o 6 = some (o + 11) := (h.2 (6, 11, 22, 8) (by decide)).1
theorem zP5_s6 {S : zS} {o : Nat} (h : zP5 S o) : zSh S (o + 11) = (22, 8) := (h.2 (6, 11, 22, 8) (by decide)).2
theorem zP5_r7 {S : zS} {o : Nat} (h : zP5 S o) : zR S o 7 = some (o + 12) := (h.2 (7, 12, 22, 8) (by decide)).1
theorem zP5_s7 {S : zS} {o : Nat} (h : zP5 S o) : zSh S (o + 12) = (22, 8) := (h.2 (7, 12, 22, 8) (by decide)).2
theorem zP5_r8 {S : zS} {o : Nat} (h : zP5 S o) : zR S o 8 = some (o + 13) := (h.2 (8, 13, 22, 8) (by decide)).1
theorem zP5_s8 {S : zS} {o : Nat} (h : zP5 S o) : zSh S (o + 13) = (22, 8) := (h.2 (8, 13, 22, 8) (by decide)).2
theorem zP5_gr {F : Nat → Prop} {S T : zS} {o : Nat} (h : zGr F S T) (hs : zP5 S o) : zP5 T o := by unfold zP5; rw [h.1, h.2.2.1]; exact hs
theorem zP5_fr {F : Nat → Prop} {S T : zS} {o : Nat} (h : zFr F S T) (ho : ¬ F o) (hs : zP5 S o) : zP5 T o := by unfold zP5; rw [h.1, (h.2.2 o ho).2.2.2]; exact hs
theorem zP5_eq {S T : zS} {o : Nat} (h1 : zSh T = zSh S) (h2 : zR T = zR S) (hs : zP5 S o) : zP5 T o := by unfold zP5; rw [h1, h2]; exact hs
def zPt6 : List (Nat × Nat × Nat × Nat) := [(3, 1, 20, 600), (4, 2, 20, 600)]
def zP6 (S : zS) (o : Nat) : Prop := (zSh S o).1 = 6 ∧ ∀ t, t ∈ zPt6 → zR S o t.1 = some (o + t.2.1) ∧ zSh S (o + t.2.1) = t.2.2
theorem zP6_k {S : zS} {o : Nat} (h : zP6 S o) : (zSh S o).1 = 6 := h.1
theorem zP6_r3 {S : zS} {o : Nat} (h : zP6 S o) : zR S o 3 = some (o + 1) := (h.2 (3, 1, 20, 600) (by decide)).1
theorem zP6_s3 {S : zS} {o : Nat} (h : zP6 S o) : zSh S (o + 1) = (20, 600) := (h.2 (3, 1, 20, 600) (by decide)).2
theorem zP6_r4 {S : zS} {o : Nat} (h : zP6 S o) : zR S o 4 = some (o + 2) := (h.2 (4, 2, 20, 600) (by decide)).1
theorem zP6_s4 {S : zS} {o : Nat} (h : zP6 S o) : zSh S (o + 2) = (20, 600) := (h.2 (4, 2, 20, 600) (by decide)).2
theorem zP6_gr {F : Nat → Prop} {S T : zS} {o : Nat} (h : zGr F S T) (hs : zP6 S o) : zP6 T o := by unfold zP6; rw [h.1, h.2.2.1]; exact hs
theorem zP6_fr {F : Nat → Prop} {S T : zS} {o : Nat} (h : zFr F S T) (ho : ¬ F o) (hs : zP6 S o) : zP6 T o := by unfold zP6; rw [h.1, (h.2.2 o ho).2.2.2]; exact hs
theorem zP6_eq {S T : zS} {o : Nat} (h1 : zSh T = zSh S) (h2 : zR T = zR S) (hs : zP6 S o) : zP6 T o := by unfold zP6; rw [h1, h2]; exact hs
def zPt7 : List (Nat × Nat × Nat × Nat) := [(0, 1, 22, 136)]
def zP7 (S : zS) (o : Nat) : Prop := (zSh S o).1 = 7 ∧ ∀ t, t ∈ zPt7 → zR S o t.1 = some (o + t.2.1) ∧ zSh S (o + t.2.1) = t.2.2
theorem zP7_k {S : zS} {o : Nat} (h : zP7 S o) : (zSh S o).1 = 7 := h.1
theorem zP7_r0 {S : zS} {o : Nat} (h : zP7 S o) : zR S o 0 = some (o + 1) := (h.2 (0, 1, 22, 136) (by decide)).1
theorem zP7_s0 {S : zS} {o : Nat} (h : zP7 S o) : zSh S (o + 1) = (22, 136) := (h.2 (0, 1, 22, 136) (by decide)).2
theorem zP7_gr {F : Nat → Prop} {S T : zS} {o : Nat} (h : zGr F S T) (hs : zP7 S o) : zP7 T o := by unfold zP7; rw [h.1, h.2.2.1]; exact hs
theorem zP7_fr {F : Nat → Prop} {S T : zS} {o : Nat} (h : zFr F S T) (ho : ¬ F o) (hs : zP7 S o) : zP7 T o := by unfold zP7; rw [h.1, (h.2.2 o ho).2.2.2]; exact hs
theorem zP7_eq {S T : zS} {o : Nat} (h1 : zSh T = zSh S) (h2 : zR T = zR S) (hs : zP7 S o) : zP7 T o := by unfold zP7; rw [h1, h2]; exact hs
def zPt8 : List (Nat × Nat × Nat × Nat) := [(2, 1, 22, 8)]
def zP8 (S : zS) (o : Nat) : Prop := (zSh S o).1 = 8 ∧ ∀ t, t ∈ zPt8 → zR S o t.1 = some (o + t.2.1) ∧ zSh S (o + t.2.1) = t.2.2
theorem zP8_k {S : zS} {o : Nat} (h : zP8 S o) : (zSh S o).1 = 8 := h.1
theorem zP8_r2 {S : zS} {o : Nat} (h : zP8 S o) : zR S o 2 = some (o + 1) := (h.2 (2, 1, 22, 8) (by decide)).1
theorem zP8_s2 {S : zS} {o : Nat} (h : zP8 S o) : zSh S (o + 1) = (22, 8) := (h.2 (2, 1, 22, 8) (by decide)).2
theorem zP8_gr {F : Nat → Prop} {S T : zS} {o : Nat} (h : zGr F S T) (hs : zP8 S o) : zP8 T o := by unfold zP8; rw [h.1, h.2.2.1]; exact hs
theorem zP8_fr {F : Nat → Prop} {S T : zS} {o : Nat} (h : zFr F S T) (ho : ¬ F o) (hs : zP8 S o) : zP8 T o := by unfold zP8; rw [h.1, (h.2.2 o ho).2.2.2]; exact hs
theorem zP8_eq {S T : zS} {o : Nat} (h1 : zSh T = zSh S) (h2 : zR T = zR S) (hs : zP8 S o) : zP8 T o := by unfold zP8; rw [h1, h2]; exact hs
def zPt10 : List (Nat × Nat × Nat × Nat) := [(0, 1, 25, 24), (1, 2, 24, 12), (2, 3, 26, 24), (3, 4, 5, 0), (4, 18, 1, 0), (5, 286, 4, 0), (6, 291, 6, 0), (7, 294, 22, 8), (8, 295, 22, 8)]
def zP10 (S : zS) (o : Nat) : Prop := (zSh S o).1 = 10 ∧ ∀ t, t ∈ zPt10 → zR S o t.1 = some (o + t.2.1) ∧ zSh S (o + t.2.1) = t.2.2
theorem zP10_k {S : zS} {o : Nat} (h : zP10 S o) : (zSh S o).1 = 10 := h.1
theorem zP10_r0 {S : zS} {o : Nat} (h : zP10 S o) : zR S o 0 = some (o + 1) := (h.2 (0, 1, 25, 24) (by decide)).1
theorem zP10_s0 {S : zS} {o : Nat} (h : zP10 S o) : zSh S (o + 1) = (25, 24) := (h.2 (0, 1, 25, 24) (by decide)).2
theorem zP10_r1 {S : zS} {o : Nat} (h : zP10 S o) : zR S o 1 = some (o + 2) := (h.2 (1, 2, 24, 12) (by decide)).1
theorem zP10_s1 {S : zS} {o : Nat} (h : zP10 S o) : zSh S (o + 2) = (24, 12) := (h.2 (1, 2, 24, 12) (by decide)).2
theorem zP10_r2 {S : zS} {o : Nat} (h : zP10 S o) : zR S o 2 = some (o + 3) := (h.2 (2, 3, 26, 24) (by decide)).1
theorem zP10_s2 {S : zS} {o : Nat} (h : zP10 S o) : zSh S (o + 3) = (26, 24) := (h.2 (2, 3, 26, 24) (by decide)).2
theorem zP10_r3 {S : zS} {o : Nat} (h : zP10 S o) : zR S o 3 = some (o + 4) := (h.2 (3, 4, 5, 0) (by decide)).1
theorem zP10_s3 {S : zS} {o : Nat} (h : zP10 S o) : zSh S (o + 4) = (5, 0) := (h.2 (3, 4, 5, 0) (by decide)).2
theorem zP10_r4 {S : zS} {o : Nat} (h : zP10 S o) : zR S o 4 = some (o + 18) := (h.2 (4, 18, 1, 0) (by decide)).1
theorem zP10_s4 {S : zS} {o : Nat} (h : zP10 S o) : zSh S (o + 18) = (1, 0) := (h.2 (4, 18, 1, 0) (by decide)).2
theorem zP10_r5 {S : zS} {o : Nat} (h : zP10 S o) : zR S o 5 = some (o + 286) := (h.2 (5, 286, 4, 0) (by decide)).1
theorem zP10_s5 {S : zS} {o : Nat} (h : zP10 S o) : zSh S (o + 286) = (4, 0) := (h.2 (5, 286, 4, 0) (by decide)).2
theorem zP10_r6 {S : zS} {o : Nat} (h : zP10 S o) : zR S o 6 = some (o + 291) := (h.2 (6, 291, 6, 0) (by decide)).1
theorem zP10_s6 {S : zS} {o : Nat} (h : zP10 S o) : zSh S (o + 291) = (6, 0) := (h.2 (6, 291, 6, 0) (by decide)).2
theorem zP10_r7 {S : zS} {o : Nat} (h : zP10 S o) : zR S o 7 = some (o + 294) := (h.2 (7, 294, 22, 8) (by decide)).1
theorem zP10_s7 {S : zS} {o : Nat} (h : zP10 S o) : zSh S (o + 294) = (22, 8) := (h.2 (7, 294, 22, 8) (by decide)).2
theorem zP10_r8 {S : zS} {o : Nat} (h : zP10 S o) : zR S o 8 = some (o + 295) := (h.2 (8, 295, 22, 8) (by decide)).1
theorem zP10_s8 {S : zS} {o : Nat} (h : zP10 S o) : zSh S (o + 295) = (22, 8) := (h.2 (8, 295, 22, 8) (by decide)).2
theorem zP10_gr {F : Nat → Prop} {S T : zS} {o : Nat} (h : zGr F S T) (hs : zP10 S o) : zP10 T o := by unfold zP10; rw [h.1, h.2.2.1]; exact hs
theorem zP10_fr {F : Nat → Prop} {S T : zS} {o : Nat} (h : zFr F S T) (ho : ¬ F o) (hs : zP10 S o) : zP10 T o := by unfold zP10; rw [h.1, (h.2.2 o ho).2.2.2]; exact hs
theorem zP10_eq {S T : zS} {o : Nat} (h1 : zSh T = zSh S) (h2 : zR T = zR S) (hs : zP10 S o) : zP10 T o := by unfold zP10; rw [h1, h2]; exact hs
def zPt11 : List (Nat × Nat × Nat × Nat) := [(0, 1, 22, 146), (1, 2, 22, 146), (2, 3, 22, 146), (4, 4, 23, 1536), (5, 5, 21, 24), (6, 6, 20, 24), (7, 7, 20, 24), (8, 8, 20, 24), (9, 9, 20, 24), (10, 10, 20, 24), (11, 11, 23, 64), (12, 12, 23, 768), (13, 13, 21, 12), (14, 14, 20, 12), (15, 15, 21, 12), (16, 16, 20, 12), (17, 17, 20, 96), (18, 18, 20, 96), (19, 19, 20, 12), (20, 20, 23, 12), (23, 21, 23, 192), (24, 22, 20, 24), (25, 23, 23, 8), (26, 24, 23, 8), (27, 25, 23, 8), (28, 26, 23, 8), (29, 27, 22, 146), (30, 28, 22, 146), (31, 29, 23, 8), (32, 30, 22, 4352), (33, 31, 20, 136), (34, 32, 22, 72), (35, 33, 22, 72), (36, 34, 22, 32), (41, 35, 20, 17), (43, 36, 22, 72), (44, 37, 22, 72), (45, 38, 22, 72), (46, 39, 22, 72), (48, 40, 20, 8), (49, 41, 20, 8), (51, 42, 21, 8), (52, 43, 21, 64), (53, 44, 20, 600), (55, 45, 20, 600)]
def zP11 (S : zS) (o : Nat) : Prop := (zSh S o).1 = 11 ∧ ∀ t, t ∈ zPt11 → zR S o t.1 = some (o + t.2.1) ∧ zSh S (o + t.2.1) = t.2.2
theorem zP11_k {S : zS} {o : Nat} (h : zP11 S o) : (zSh S o).1 = 11 := h.1
theorem zP11_r0 {S : zS} {o : Nat} (h : zP11 S o) : zR S o 0 = some (o + 1) := (h.2 (0, 1, 22, 146) (by decide)).1
theorem zP11_s0 {S : zS} {o : Nat} (h : zP11 S o) : zSh S (o + 1) = (22, 146) := (h.2 (0, 1, 22, 146) (by decide)).2
theorem zP11_r1 {S : zS} {o : Nat} (h : zP11 S o) : zR S o 1 = some (o + 2) := (h.2 (1, 2, 22, 146) (by decide)).1
theorem zP11_s1 {S : zS} {o : Nat} (h : zP11 S o) : zSh S (o + 2) = (22, 146) := (h.2 (1, 2, 22, 146) (by decide)).2
theorem zP11_r2 {S : zS} {o : Nat} (h : zP11 S o) : zR S o 2 = some (o + 3) := (h.2 (2, 3, 22, 146) (by decide)).1
theorem zP11_s2 {S : zS} {o : Nat} (h : zP11 S o) : zSh S (o + 3) = (22, 146) := (h.2 (2, 3, 22, 146) (by decide)).2
theorem zP11_r4 {S : zS} {o : Nat} (h : zP11 S o) : zR S o 4 = some (o + 4) := (h.2 (4, 4, 23, 1536) (by decide)).1
theorem zP11_s4 {S : zS} {o : Nat} (h : zP11 S o) : zSh S (o + 4) = (23, 1536) := (h.2 (4, 4, 23, 1536) (by decide)).2
theorem zP11_r5 {S : zS} {o : Nat} (h : zP11 S o) : zR S o 5 = some (o + 5) := (h.2 (5, 5, 21, 24) (by decide)).1
theorem zP11_s5 {S : zS} {o : Nat} (h : zP11 S o) : zSh S (o + 5) = (21, 24) := (h.2 (5, 5, 21, 24) (by decide)).2
theorem zP11_r6 {S : zS} {o : Nat} (h : zP11 S o) : zR S o 6 = some (o + 6) := (h.2 (6, 6, 20, 24) (by decide)).1
theorem zP11_s6 {S : zS} {o : Nat} (h : zP11 S o) : zSh S (o + 6) = (20, 24) := (h.2 (6, 6, 20, 24) (by decide)).2
theorem zP11_r7 {S : zS} {o : Nat} (h : zP11 S o) : zR S o 7 = some (o + 7) := (h.2 (7, 7, 20, 24) (by decide)).1
theorem zP11_s7 {S : zS} {o : Nat} (h : zP11 S o) : zSh S (o + 7) = (20, 24) := (h.2 (7, 7, 20, 24) (by decide)).2
theorem zP11_r8 {S : zS} {o : Nat} (h : zP11 S o) : zR S o 8 = some (o + 8) := (h.2 (8, 8, 20, 24) (by decide)).1
theorem zP11_s8 {S : zS} {o : Nat} (h : zP11 S o) : zSh S (o + 8) = (20, 24) := (h.2 (8, 8, 20, 24) (by decide)).2
theorem zP11_r9 {S : zS} {o : Nat} (h : zP11 S o) : zR S o 9 = some (o + 9) := (h.2 (9, 9, 20, 24) (by decide)).1
theorem zP11_s9 {S : zS} {o : Nat} (h : zP11 S o) : zSh S (o + 9) = (20, 24) := (h.2 (9, 9, 20, 24) (by decide)).2
theorem zP11_r10 {S : zS} {o : Nat} (h : zP11 S o) : zR S o 10 = some (o + 10) := (h.2 (10, 10, 20, 24) (by decide)).1
theorem zP11_s10 {S : zS} {o : Nat} (h : zP11 S o) : zSh S (o + 10) = (20, 24) := (h.2 (10, 10, 20, 24) (by decide)).2
theorem zP11_r11 {S : zS} {o : Nat} (h : zP11 S o) : zR S o 11 = some (o + 11) := (h.2 (11, 11, 23, 64) (by decide)).1
theorem zP11_s11 {S : zS} {o : Nat} (h : zP11 S o) : zSh S (o + 11) = (23, 64) := (h.2 (11, 11, 23, 64) (by decide)).2
theorem zP11_r12 {S : zS} {o : Nat} (h : zP11 S o) : zR S o 12 = some (o + 12) := (h.2 (12, 12, 23, 768) (by decide)).1
theorem zP11_s12 {S : zS} {o : Nat} (h : zP11 S o) : zSh S (o + 12) = (23, 768) := (h.2 (12, 12, 23, 768) (by decide)).2
theorem zP11_r13 {S : zS} {o : Nat} (h : zP11 S o) : zR S o 13 = some (o + 13) := (h.2 (13, 13, 21, 12) (by decide)).1
theorem zP11_s13 {S : zS} {o : Nat} (h : zP11 S o) : zSh S (o + 13) = (21, 12) := (h.2 (13, 13, 21, 12) (by decide)).2
theorem zP11_r14 {S : zS} {o : Nat} (h : zP11 S o) : zR S o 14 = some (o + 14) := (h.2 (14, 14, 20, 12) (by decide)).1
theorem zP11_s14 {S : zS} {o : Nat} (h : zP11 S o) : zSh S (o + 14) = (20, 12) := (h.2 (14, 14, 20, 12) (by decide)).2
theorem zP11_r15 {S : zS} {o : Nat} (h : zP11 S o) : zR S o 15 = some (o + 15) := (h.2 (15, 15, 21, 12) (by decide)).1
theorem zP11_s15 {S : zS} {o : Nat} (h : zP11 S o) : zSh S (o + 15) = (21, 12) := (h.2 (15, 15, 21, 12) (by decide)).2
theorem zP11_r16 {S : zS} {o : Nat} (h : zP11 S o) : zR S o 16 = some (o + 16) := (h.2 (16, 16, 20, 12) (by decide)).1
theorem zP11_s16 {S : zS} {o : Nat} (h : zP11 S o) : zSh S (o + 16) = (20, 12) := (h.2 (16, 16, 20, 12) (by decide)).2
theorem zP11_r17 {S : zS} {o : Nat} (h : zP11 S o) : zR S o 17 = some (o + 17) := (h.2 (17, 17, 20, 96) (by decide)).1
theorem zP11_s17 {S : zS} {o : Nat} (h : zP11 S o) : zSh S (o + 17) = (20, 96) := (h.2 (17, 17, 20, 96) (by decide)).2
theorem zP11_r18 {S : zS} {o : Nat} (h : zP11 S o) : zR S o 18 = some (o + 18) := (h.2 (18, 18, 20, 96) (by decide)).1
theorem zP11_s18 {S : zS} {o : Nat} (h : zP11 S o) : zSh S (o + 18) = (20, 96) := (h.2 (18, 18, 20, 96) (by decide)).2
theorem zP11_r19 {S : zS} {o : Nat} (h : zP11 S o) : zR S o 19 = some (o + 19) := (h.2 (19, 19, 20, 12) (by decide)).1
theorem zP11_s19 {S : zS} {o : Nat} (h : zP11 S o) : zSh S (o + 19) = (20, 12) := (h.2 (19, 19, 20, 12) (by decide)).2
theorem zP11_r20 {S : zS} {o : Nat} (h : zP11 S o) : zR S o 20 = some (o + 20) := (h.2 (20, 20, 23, 12) (by decide)).1
theorem zP11_s20 {S : zS} {o : Nat} (h : zP11 S o) : zSh S (o + 20) = (23, 12) := (h.2 (20, 20, 23, 12) (by decide)).2
theorem zP11_r23 {S : zS} {o : Nat} (h : zP11 S o) : zR S o 23 = some (o + 21) := (h.2 (23, 21, 23, 192) (by decide)).1
theorem zP11_s23 {S : zS} {o : Nat} (h : zP11 S o) : zSh S (o + 21) = (23, 192) := (h.2 (23, 21, 23, 192) (by decide)).2
theorem zP11_r24 {S : zS} {o : Nat} (h : zP11 S o) : zR S o 24 = some (o + 22) := (h.2 (24, 22, 20, 24) (by decide)).1
theorem zP11_s24 {S : zS} {o : Nat} (h : zP11 S o) : zSh S (o + 22) = (20, 24) := (h.2 (24, 22, 20, 24) (by decide)).2
theorem zP11_r25 {S : zS} {o : Nat} (h : zP11 S o) : zR S o 25 = some (o + 23) := (h.2 (25, 23, 23, 8) (by decide)).1
theorem zP11_s25 {S : zS} {o : Nat} (h : zP11 S o) : zSh S (o + 23) = (23, 8) := (h.2 (25, 23, 23, 8) (by decide)).2
theorem zP11_r26 {S : zS} {o : Nat} (h : zP11 S o) : zR S o 26 = some (o + 24) := (h.2 (26, 24, 23, 8) (by decide)).1
theorem zP11_s26 {S : zS} {o : Nat} (h : zP11 S o) : zSh S (o + 24) = (23, 8) := (h.2 (26, 24, 23, 8) (by decide)).2
theorem zP11_r27 {S : zS} {o : Nat} (h : zP11 S o) : zR S o 27 = some (o + 25) := (h.2 (27, 25, 23, 8) (by decide)).1
theorem zP11_s27 {S : zS} {o : Nat} (h : zP11 S o) : zSh S (o + 25) = (23, 8) := (h.2 (27, 25, 23, 8) (by decide)).2
theorem zP11_r28 {S : zS} {o : Nat} (h : zP11 S o) : zR S o 28 = some (o + 26) := (h.2 (28, 26, 23, 8) (by decide)).1
theorem zP11_s28 {S : zS} {o : Nat} (h : zP11 S o) : zSh S (o + 26) = (23, 8) := (h.2 (28, 26, 23, 8) (by decide)).2
theorem zP11_r29 {S : zS} {o : Nat} (h : zP11 S o) : zR S o 29 = some (o + 27) := (h.2 (29, 27, 22, 146) (by decide)).1
theorem zP11_s29 {S : zS} {o : Nat} (h : zP11 S o) : zSh S (o + 27) = (22, 146) := (h.2 (29, 27, 22, 146) (by decide)).2
theorem zP11_r30 {S : zS} {o : Nat} (h : zP11 S o) : zR S o 30 = some (o + 28) := (h.2 (30, 28, 22, 146) (by decide)).1
theorem zP11_s30 {S : zS} {o : Nat} (h : zP11 S o) : zSh S (o + 28) = (22, 146) := (h.2 (30, 28, 22, 146) (by decide)).2
theorem zP11_r31 {S : zS} {o : Nat} (h : zP11 S o) : zR S o 31 = some (o + 29) := (h.2 (31, 29, 23, 8) (by decide)).1
theorem zP11_s31 {S : zS} {o : Nat} (h : zP11 S o) : zSh S (o + 29) = (23, 8) := (h.2 (31, 29, 23, 8) (by decide)).2
theorem zP11_r32 {S : zS} {o : Nat} (h : zP11 S o) : zR S o 32 = some (o + 30) := (h.2 (32, 30, 22, 4352) (by decide)).1
theorem zP11_s32 {S : zS} {o : Nat} (h : zP11 S o) : zSh S (o + 30) = (22, 4352) := (h.2 (32, 30, 22, 4352) (by decide)).2
theorem zP11_r33 {S : zS} {o : Nat} (h : zP11 S o) : zR S o 33 = some (o + 31) := (h.2 (33, 31, 20, 136) (by decide)).1
theorem zP11_s33 {S : zS} {o : Nat} (h : zP11 S o) : zSh S (o + 31) = (20, 136) := (h.2 (33, 31, 20, 136) (by decide)).2
theorem zP11_r34 {S : zS} {o : Nat} (h : zP11 S o) : zR S o 34 = some (o + 32) := (h.2 (34, 32, 22, 72) (by decide)).1
theorem zP11_s34 {S : zS} {o : Nat} (h : zP11 S o) : zSh S (o + 32) = (22, 72) := (h.2 (34, 32, 22, 72) (by decide)).2
theorem zP11_r35 {S : zS} {o : Nat} (h : zP11 S o) : zR S o 35 = some (o + 33) := (h.2 (35, 33, 22, 72) (by decide)).1
theorem zP11_s35 {S : zS} {o : Nat} (h : zP11 S o) : zSh S (o + 33) = (22, 72) := (h.2 (35, 33, 22, 72) (by decide)).2
theorem zP11_r36 {S : zS} {o : Nat} (h : zP11 S o) : zR S o 36 = some (o + 34) := (h.2 (36, 34, 22, 32) (by decide)).1
theorem zP11_s36 {S : zS} {o : Nat} (h : zP11 S o) : zSh S (o + 34) = (22, 32) := (h.2 (36, 34, 22, 32) (by decide)).2
theorem zP11_r41 {S : zS} {o : Nat} (h : zP11 S o) : zR S o 41 = some (o + 35) := (h.2 (41, 35, 20, 17) (by decide)).1
theorem zP11_s41 {S : zS} {o : Nat} (h : zP11 S o) : zSh S (o + 35) = (20, 17) := (h.2 (41, 35, 20, 17) (by decide)).2
theorem zP11_r43 {S : zS} {o : Nat} (h : zP11 S o) : zR S o 43 = some (o + 36) := (h.2 (43, 36, 22, 72) (by decide)).1
theorem zP11_s43 {S : zS} {o : Nat} (h : zP11 S o) : zSh S (o + 36) = (22, 72) := (h.2 (43, 36, 22, 72) (by decide)).2
theorem zP11_r44 {S : zS} {o : Nat} (h : zP11 S o) : zR S o 44 = some (o + 37) := (h.2 (44, 37, 22, 72) (by decide)).1
theorem zP11_s44 {S : zS} {o : Nat} (h : zP11 S o) : zSh S (o + 37) = (22, 72) := (h.2 (44, 37, 22, 72) (by decide)).2
theorem zP11_r45 {S : zS} {o : Nat} (h : zP11 S o) : zR S o 45 = some (o + 38) := (h.2 (45, 38, 22, 72) (by decide)).1
theorem zP11_s45 {S : zS} {o : Nat} (h : zP11 S o) : zSh S (o + 38) = (22, 72) := (h.2 (45, 38, 22, 72) (by decide)).2
theorem zP11_r46 {S : zS} {o : Nat} (h : zP11 S o) : zR S o 46 = some (o + 39) := (h.2 (46, 39, 22, 72) (by decide)).1
theorem zP11_s46 {S : zS} {o : Nat} (h : zP11 S o) : zSh S (o + 39) = (22, 72) := (h.2 (46, 39, 22, 72) (by decide)).2
theorem zP11_r48 {S : zS} {o : Nat} (h : zP11 S o) : zR S o 48 = some (o + 40) := (h.2 (48, 40, 20, 8) (by decide)).1
theorem zP11_s48 {S : zS} {o : Nat} (h : zP11 S o) : zSh S (o + 40) = (20, 8) := (h.2 (48, 40, 20, 8) (by decide)).2
theorem zP11_r49 {S : zS} {o : Nat} (h : zP11 S o) : zR S o 49 = some (o + 41) := (h.2 (49, 41, 20, 8) (by decide)).1
theorem zP11_s49 {S : zS} {o : Nat} (h : zP11 S o) : zSh S (o + 41) = (20, 8) := (h.2 (49, 41, 20, 8) (by decide)).2
theorem zP11_r51 {S : zS} {o : Nat} (h : zP11 S o) : zR S o 51 = some (o + 42) := (h.2 (51, 42, 21, 8) (by decide)).1
theorem zP11_s51 {S : zS} {o : Nat} (h : zP11 S o) : zSh S (o + 42) = (21, 8) := (h.2 (51, 42, 21, 8) (by decide)).2
theorem zP11_r52 {S : zS} {o : Nat} (h : zP11 S o) : zR S o 52 = some (o + 43) := (h.2 (52, 43, 21, 64) (by decide)).1
theorem zP11_s52 {S : zS} {o : Nat} (h : zP11 S o) : zSh S (o + 43) = (21, 64) := (h.2 (52, 43, 21, 64) (by decide)).2
theorem zP11_r53 {S : zS} {o : Nat} (h : zP11 S o) : zR S o 53 = some (o + 44) := (h.2 (53, 44, 20, 600) (by decide)).1
theorem zP11_s53 {S : zS} {o : Nat} (h : zP11 S o) : zSh S (o + 44) = (20, 600) := (h.2 (53, 44, 20, 600) (by decide)).2
theorem zP11_r55 {S : zS} {o : Nat} (h : zP11 S o) : zR S o 55 = some (o + 45) := (h.2 (55, 45, 20, 600) (by decide)).1
theorem zP11_s55 {S : zS} {o : Nat} (h : zP11 S o) : zSh S (o + 45) = (20, 600) := (h.2 (55, 45, 20, 600) (by decide)).2
theorem zP11_gr {F : Nat → Prop} {S T : zS} {o : Nat} (h : zGr F S T) (hs : zP11 S o) : zP11 T o := by unfold zP11; rw [h.1, h.2.2.1]; exact hs
theorem zP11_fr {F : Nat → Prop} {S T : zS} {o : Nat} (h : zFr F S T) (ho : ¬ F o) (hs : zP11 S o) : zP11 T o := by unfold zP11; rw [h.1, (h.2.2 o ho).2.2.2]; exact hs
theorem zP11_eq {S T : zS} {o : Nat} (h1 : zSh T = zSh S) (h2 : zR T = zR S) (hs : zP11 S o) : zP11 T o := by unfold zP11; rw [h1, h2]; exact hs
end ZSHP
