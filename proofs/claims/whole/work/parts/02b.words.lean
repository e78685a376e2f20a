/-! generated: words of the classes' fields among the tables, by their places -/
set_option maxRecDepth 20000 in
theorem zwsX1 : ∀ w ∈ u_ws RX1 TX1 15, w ∈ zTT := zws_of _ [(1, 124), (1, 126), (1, 128), (1, 130), (1, 132), (1, 134), (1, 136), (1, 138), (1, 140), (1, 142), (1, 144), (1, 146), (1, 148), (1, 150), (1, 152)] (by decide +kernel) (by decide +kernel)
set_option maxRecDepth 20000 in
theorem zwsX2 : ∀ w ∈ u_ws RX2 TX2 11, w ∈ zTT := zws_of _ [(2, 27), (2, 29), (2, 31), (2, 33), (2, 35), (2, 37), (2, 39), (2, 41), (2, 43), (2, 45), (2, 47)] (by decide +kernel) (by decide +kernel)
set_option maxRecDepth 20000 in
theorem zwsX3 : ∀ w ∈ u_ws RX3 TX3 7, w ∈ zTT := zws_of _ [(1, 233), (1, 235), (1, 237), (1, 239), (2, 1), (2, 3), (2, 5)] (by decide +kernel) (by decide +kernel)
set_option maxRecDepth 20000 in
theorem zwsX4 : ∀ w ∈ u_ws RX4 TX4 6, w ∈ zTT := zws_of _ [(1, 168), (1, 170), (1, 172), (1, 174), (1, 176), (1, 178)] (by decide +kernel) (by decide +kernel)
set_option maxRecDepth 20000 in
theorem zwsX5 : ∀ w ∈ u_ws RX5 TX5 9, w ∈ zTT := zws_of _ [(1, 64), (1, 66), (1, 68), (1, 70), (1, 72), (1, 74), (1, 76), (1, 78), (1, 80)] (by decide +kernel) (by decide +kernel)
set_option maxRecDepth 20000 in
theorem zwsX6 : ∀ w ∈ u_ws RX6 TX6 5, w ∈ zTT := zws_of _ [(1, 193), (1, 195), (1, 197), (1, 199), (1, 201)] (by decide +kernel) (by decide +kernel)
set_option maxRecDepth 20000 in
theorem zwsX7 : ∀ w ∈ u_ws RX7 TX7 4, w ∈ zTT := zws_of _ [(1, 45), (1, 47), (1, 49), (1, 51)] (by decide +kernel) (by decide +kernel)
set_option maxRecDepth 20000 in
theorem zwsX8 : ∀ w ∈ u_ws RX8 TX8 3, w ∈ zTT := zws_of _ [(2, 61), (2, 63), (2, 65)] (by decide +kernel) (by decide +kernel)
set_option maxRecDepth 20000 in
theorem zwsX9 : ∀ w ∈ u_ws RX9 TX9 3, w ∈ zTT := zws_of _ [(1, 101), (1, 103), (1, 105)] (by decide +kernel) (by decide +kernel)
set_option maxRecDepth 20000 in
theorem zwsX10 : ∀ w ∈ u_ws RX10 TX10 9, w ∈ zTT := zws_of _ [(2, 77), (2, 79), (2, 81), (2, 83), (2, 85), (2, 87), (2, 89), (2, 91), (2, 93)] (by decide +kernel) (by decide +kernel)
set_option maxRecDepth 20000 in
theorem zwsX11 : ∀ w ∈ u_ws RX11 TX11 58, w ∈ zTT := zws_of _ [(6, 49), (6, 51), (6, 53), (6, 55), (6, 57), (6, 59), (6, 61), (6, 63), (6, 65), (6, 67), (6, 69), (6, 71), (6, 73), (6, 75), (6, 77), (6, 79), (6, 81), (6, 83), (6, 85), (6, 87), (6, 89), (6, 91), (6, 93), (6, 95), (6, 97), (6, 99), (6, 101), (6, 103), (6, 105), (6, 107), (6, 109), (6, 111), (6, 113), (6, 115), (6, 117), (6, 119), (6, 121), (6, 123), (6, 125), (6, 127), (6, 129), (6, 131), (6, 133), (6, 135), (6, 137), (6, 139), (6, 141), (6, 143), (6, 145), (6, 147), (6, 149), (6, 151), (6, 153), (6, 155), (6, 157), (6, 159), (6, 161), (6, 163)] (by decide +kernel) (by decide +kernel)
theorem zwsin : ∀ i : Nat, 1 ≤ i → i ≤ 11 → ∀ w ∈ u_ws (zRX i) (zTX i) (zNX i), w ∈ zTT := by
  intro i h1 h2
  match i, h1, h2 with
  | 1, _, _ => exact zwsX1
  | 2, _, _ => exact zwsX2
  | 3, _, _ => exact zwsX3
  | 4, _, _ => exact zwsX4
  | 5, _, _ => exact zwsX5
  | 6, _, _ => exact zwsX6
  | 7, _, _ => exact zwsX7
  | 8, _, _ => exact zwsX8
  | 9, _, _ => exact zwsX9
  | 10, _, _ => exact zwsX10
  | 11, _, _ => exact zwsX11
  | n + 12, _, h => exact absurd h (by omega)
/-- calls of private constructors of nest mates -/
def zNst : List Cond := [Cond.methodLinkNest RX10 29 yX5_init RX10, Cond.methodLinkNest RX5 11 yX7_init RX10, Cond.methodLinkNest RX10 43 yX4_init RX10, Cond.methodLinkNest RX10 50 yX6_init RX10, Cond.methodLinkNest RX10 62 yX3_init RX10, Cond.methodLinkNest RX10 63 yX2_init RX10, Cond.methodLinkNest RX10 64 yX8_init RX10]
def zNsp : List (Nat × Nat) := [(1, 31), (1, 37), (1, 158), (1, 183), (1, 205), (2, 9), (2, 51)]
theorem zNst_tbl : ∀ w ∈ zNst, w ∈ lw_tbl := by
  have h : (zNst.zip zNsp).all (fun q => decide ((zch q.2.1)[q.2.2]? = some q.1)) = true := by decide +kernel
  intro w hw
  obtain ⟨i, hi⟩ := List.getElem?_of_mem hw
  have hil : i < zNst.length := (List.getElem?_eq_some_iff.mp hi).1
  have hl : zNst.length = zNsp.length := rfl
  have hz : (zNst.zip zNsp)[i]? = some (w, zNsp[i]'(by omega)) := by
    rw [List.getElem?_zip_eq_some]
    exact ⟨hi, List.getElem?_eq_getElem (by omega)⟩
  have h2 := List.all_eq_true.mp h _ (List.mem_of_getElem? hz)
  exact zch_in _ _ (List.mem_of_getElem? (of_decide_eq_true h2))
