set_option maxRecDepth 100000 in
theorem zok_311_0 : ((List.range 6).map (fun j => 0 + j)).all (fun b => zChk 311 (zbp 311 b) (zbl 311 b)) = true := by decide +kernel
set_option maxRecDepth 100000 in
theorem zok_311_1 : ((List.range 6).map (fun j => 6 + j)).all (fun b => zChk 311 (zbp 311 b) (zbl 311 b)) = true := by decide +kernel
set_option maxRecDepth 100000 in
theorem zok_311_2 : ((List.range 6).map (fun j => 12 + j)).all (fun b => zChk 311 (zbp 311 b) (zbl 311 b)) = true := by decide +kernel
set_option maxRecDepth 100000 in
theorem zok_311_3 : ((List.range 6).map (fun j => 18 + j)).all (fun b => zChk 311 (zbp 311 b) (zbl 311 b)) = true := by decide +kernel
set_option maxRecDepth 100000 in
theorem zok_311_4 : ((List.range 6).map (fun j => 24 + j)).all (fun b => zChk 311 (zbp 311 b) (zbl 311 b)) = true := by decide +kernel
set_option maxRecDepth 100000 in
theorem zok_311_5 : ((List.range 6).map (fun j => 30 + j)).all (fun b => zChk 311 (zbp 311 b) (zbl 311 b)) = true := by decide +kernel
set_option maxRecDepth 100000 in
theorem zok_311_6 : ((List.range 6).map (fun j => 36 + j)).all (fun b => zChk 311 (zbp 311 b) (zbl 311 b)) = true := by decide +kernel
set_option maxRecDepth 100000 in
theorem zok_311_7 : ((List.range 6).map (fun j => 42 + j)).all (fun b => zChk 311 (zbp 311 b) (zbl 311 b)) = true := by decide +kernel
set_option maxRecDepth 100000 in
theorem zok_311_8 : ((List.range 6).map (fun j => 48 + j)).all (fun b => zChk 311 (zbp 311 b) (zbl 311 b)) = true := by decide +kernel
set_option maxRecDepth 100000 in
theorem zok_311_9 : ((List.range 6).map (fun j => 54 + j)).all (fun b => zChk 311 (zbp 311 b) (zbl 311 b)) = true := by decide +kernel
set_option maxRecDepth 100000 in
theorem zok_311_10 : ((List.range 6).map (fun j => 60 + j)).all (fun b => zChk 311 (zbp 311 b) (zbl 311 b)) = true := by decide +kernel
set_option maxRecDepth 100000 in
theorem zok_311_11 : ((List.range 6).map (fun j => 66 + j)).all (fun b => zChk 311 (zbp 311 b) (zbl 311 b)) = true := by decide +kernel
set_option maxRecDepth 100000 in
theorem zok_311_12 : ((List.range 6).map (fun j => 72 + j)).all (fun b => zChk 311 (zbp 311 b) (zbl 311 b)) = true := by decide +kernel
set_option maxRecDepth 100000 in
theorem zok_311_13 : ((List.range 6).map (fun j => 78 + j)).all (fun b => zChk 311 (zbp 311 b) (zbl 311 b)) = true := by decide +kernel
set_option maxRecDepth 100000 in
theorem zok_311_14 : ((List.range 6).map (fun j => 84 + j)).all (fun b => zChk 311 (zbp 311 b) (zbl 311 b)) = true := by decide +kernel
set_option maxRecDepth 100000 in
theorem zok_311_15 : ((List.range 6).map (fun j => 90 + j)).all (fun b => zChk 311 (zbp 311 b) (zbl 311 b)) = true := by decide +kernel
set_option maxRecDepth 100000 in
theorem zok_311_16 : ((List.range 6).map (fun j => 96 + j)).all (fun b => zChk 311 (zbp 311 b) (zbl 311 b)) = true := by decide +kernel
set_option maxRecDepth 100000 in
theorem zok_311_17 : ((List.range 6).map (fun j => 102 + j)).all (fun b => zChk 311 (zbp 311 b) (zbl 311 b)) = true := by decide +kernel
set_option maxRecDepth 100000 in
theorem zok_311_18 : ((List.range 6).map (fun j => 108 + j)).all (fun b => zChk 311 (zbp 311 b) (zbl 311 b)) = true := by decide +kernel
set_option maxRecDepth 100000 in
theorem zok_311_19 : ((List.range 6).map (fun j => 114 + j)).all (fun b => zChk 311 (zbp 311 b) (zbl 311 b)) = true := by decide +kernel
set_option maxRecDepth 100000 in
theorem zok_311_20 : ((List.range 6).map (fun j => 120 + j)).all (fun b => zChk 311 (zbp 311 b) (zbl 311 b)) = true := by decide +kernel
set_option maxRecDepth 100000 in
theorem zok_311_21 : ((List.range 6).map (fun j => 126 + j)).all (fun b => zChk 311 (zbp 311 b) (zbl 311 b)) = true := by decide +kernel
set_option maxRecDepth 100000 in
theorem zok_311_22 : ((List.range 2).map (fun j => 132 + j)).all (fun b => zChk 311 (zbp 311 b) (zbl 311 b)) = true := by decide +kernel
theorem zok_law : ∀ b, zChk 311 (zbp 311 b) (zbl 311 b) = true := by
  intro b
  by_cases q : b < 134
  · have e : ∀ n i, b < i + n → ¬ b < i → ((List.range n).map (fun j => i + j)).all (fun b => zChk 311 (zbp 311 b) (zbl 311 b)) = true → zChk 311 (zbp 311 b) (zbl 311 b) = true := fun n i h1 h2 h => List.all_eq_true.mp h b (List.mem_map.mpr ⟨b - i, List.mem_range.mpr (by omega), by omega⟩)
    by_cases h0 : b < 6
    · exact e 6 0 (by omega) (by omega) zok_311_0
    by_cases h1 : b < 12
    · exact e 6 6 (by omega) (by omega) zok_311_1
    by_cases h2 : b < 18
    · exact e 6 12 (by omega) (by omega) zok_311_2
    by_cases h3 : b < 24
    · exact e 6 18 (by omega) (by omega) zok_311_3
    by_cases h4 : b < 30
    · exact e 6 24 (by omega) (by omega) zok_311_4
    by_cases h5 : b < 36
    · exact e 6 30 (by omega) (by omega) zok_311_5
    by_cases h6 : b < 42
    · exact e 6 36 (by omega) (by omega) zok_311_6
    by_cases h7 : b < 48
    · exact e 6 42 (by omega) (by omega) zok_311_7
    by_cases h8 : b < 54
    · exact e 6 48 (by omega) (by omega) zok_311_8
    by_cases h9 : b < 60
    · exact e 6 54 (by omega) (by omega) zok_311_9
    by_cases h10 : b < 66
    · exact e 6 60 (by omega) (by omega) zok_311_10
    by_cases h11 : b < 72
    · exact e 6 66 (by omega) (by omega) zok_311_11
    by_cases h12 : b < 78
    · exact e 6 72 (by omega) (by omega) zok_311_12
    by_cases h13 : b < 84
    · exact e 6 78 (by omega) (by omega) zok_311_13
    by_cases h14 : b < 90
    · exact e 6 84 (by omega) (by omega) zok_311_14
    by_cases h15 : b < 96
    · exact e 6 90 (by omega) (by omega) zok_311_15
    by_cases h16 : b < 102
    · exact e 6 96 (by omega) (by omega) zok_311_16
    by_cases h17 : b < 108
    · exact e 6 102 (by omega) (by omega) zok_311_17
    by_cases h18 : b < 114
    · exact e 6 108 (by omega) (by omega) zok_311_18
    by_cases h19 : b < 120
    · exact e 6 114 (by omega) (by omega) zok_311_19
    by_cases h20 : b < 126
    · exact e 6 120 (by omega) (by omega) zok_311_20
    by_cases h21 : b < 132
    · exact e 6 126 (by omega) (by omega) zok_311_21
    by_cases h22 : b < 134
    · exact e 2 132 (by omega) (by omega) zok_311_22
    omega
  · have : zbl 311 b = [] := by
      unfold zbl
      rw [show zBL.getD 311 [] = zB311 from rfl, List.getD_eq_getElem?_getD, List.getElem?_eq_none (by show 134 ≤ b; omega)]
      rfl
    rw [this]; rfl
