/-! ===== shires copied ===== -/
/-- the first n fields of o are put into c -/
def gcpo (m : zMm) (c o n : Int) : zMm := fun c' i' => if c' = c ∧ 0 ≤ i' ∧ i' < n then m o i' else m c' i'
theorem ga30 {d : Nat} {m : zMm} {c o : Int} (hc : zkd c = 104) (ho : zkd o = 104) : zEx (d + 1) 30 [.inr (.inr c), .inr (.inr o)] m none (gcpo m c o 4) := by
  refine zC_eq.mp (ze30 ?_)
  simp +contextual (disch := omega) only [zw30_0, zr_3, zr_10, zr_13, zr_72, zlg_0, zlg_s, zkd_a106, zkd_a22, zkd_a4, zkd_a68, zkd_a87, Int.cast_ofNat_Int, Int.reduceAdd, zmu_same, zmu_c, zmu_i, false_and, and_false, true_and, and_true, true_or, or_true, false_or, or_false, Option.toList, List.nil_append, List.cons_append, zif0, zif1, zif01, zem1, zem2, Int.reduceEq, Int.reduceLT, Int.reduceLE, Int.reduceNeg, Int.reduceSub, Int.reduceMul, if_true, if_false, not_false_eq_true, not_true_eq_false, true_implies, false_implies, Classical.not_not, Nat.reduceAdd, Nat.reduceLeDiff, hc, ho]
  funext c' i'
  simp only [zmu, gcpo, true_and, false_and, and_true, and_false, if_true, if_false, Int.reduceEq]
  by_cases h : c' = c
  · subst h
    by_cases h0 : i' = 0
    · subst h0; simp
    by_cases h1 : i' = 1
    · subst h1; simp
    by_cases h2 : i' = 2
    · subst h2; simp
    by_cases h3 : i' = 3
    · subst h3; simp
    simp only [h0, h1, h2, h3, and_false, if_false, true_and]
    rw [if_neg (by omega)]
  · simp only [h, false_and, if_false]
theorem ga25 {d : Nat} {m : zMm} {c o : Int} (hc : zkd c = 101) (ho : zkd o = 101) : zEx (d + 1) 25 [.inr (.inr c), .inr (.inr o)] m none (gcpo m c o 5) := by
  refine zC_eq.mp (ze25 ?_)
  simp +contextual (disch := omega) only [zw25_0, zr_3, zr_10, zr_13, zr_72, zlg_0, zlg_s, zkd_a107, zkd_a23, zkd_a5, zkd_a69, zkd_a88, Int.cast_ofNat_Int, Int.reduceAdd, zmu_same, zmu_c, zmu_i, false_and, and_false, true_and, and_true, true_or, or_true, false_or, or_false, Option.toList, List.nil_append, List.cons_append, zif0, zif1, zif01, zem1, zem2, Int.reduceEq, Int.reduceLT, Int.reduceLE, Int.reduceNeg, Int.reduceSub, Int.reduceMul, if_true, if_false, not_false_eq_true, not_true_eq_false, true_implies, false_implies, Classical.not_not, Nat.reduceAdd, Nat.reduceLeDiff, hc, ho]
  funext c' i'
  simp only [zmu, gcpo, true_and, false_and, and_true, and_false, if_true, if_false, Int.reduceEq]
  by_cases h : c' = c
  · subst h
    by_cases h0 : i' = 0
    · subst h0; simp
    by_cases h1 : i' = 1
    · subst h1; simp
    by_cases h2 : i' = 2
    · subst h2; simp
    by_cases h3 : i' = 3
    · subst h3; simp
    by_cases h4 : i' = 4
    · subst h4; simp
    simp only [h0, h1, h2, h3, h4, and_false, if_false, true_and]
    rw [if_neg (by omega)]
  · simp only [h, false_and, if_false]
theorem zq30 {d : Nat} {m : zMm} {c o : Int} {rest : List zV} {k : List zV → zMm → Prop} (hc : zkd c = 104) (ho : zkd o = 104) : zcl (zEx (d + 1)) 30 2 (.inr (.inr o) :: .inr (.inr c) :: rest) m k = (zcat rest ≤ 8 ∧ k rest (gcpo m c o 4)) := zcl_eq (as := [.inr (.inr c), .inr (.inr o)]) (r := none) (ga30 hc ho) rfl rfl
theorem zq25 {d : Nat} {m : zMm} {c o : Int} {rest : List zV} {k : List zV → zMm → Prop} (hc : zkd c = 101) (ho : zkd o = 101) : zcl (zEx (d + 1)) 25 2 (.inr (.inr o) :: .inr (.inr c) :: rest) m k = (zcat rest ≤ 8 ∧ k rest (gcpo m c o 5)) := zcl_eq (as := [.inr (.inr c), .inr (.inr o)]) (r := none) (ga25 hc ho) rfl rfl
/-- the cells of a shire -/
def gS (S : Int) : Prop := S = 3 ∨ S = 21 ∨ S = 67 ∨ S = 86 ∨ S = 105
theorem gS_k {S : Int} (h : gS S) : zkd S = 105 ∧ zrf S 10 = S + 1 ∧ zrf S 11 = S + 2 ∧ zkd (S + 1) = 5 ∧ zln (S + 1) = 8 ∧ zkd (S + 2) = 6 ∧ zln (S + 2) = 6 := by
  rcases h with rfl | rfl | rfl | rfl | rfl <;> exact ⟨rfl, rfl, rfl, rfl, rfl, rfl, rfl⟩
theorem gS_r {S r : Int} (h : gS S) (h1 : 0 ≤ r) (h2 : r < 8) : zrf (S + 1) r = S + 3 + r := by
  rcases h with rfl | rfl | rfl | rfl | rfl
  · exact zrf_a4 h1 h2
  · exact zrf_a22 h1 h2
  · exact zrf_a68 h1 h2
  · exact zrf_a87 h1 h2
  · exact zrf_a106 h1 h2
theorem gS_f {S r : Int} (h : gS S) (h1 : 0 ≤ r) (h2 : r < 6) : zrf (S + 2) r = S + 11 + r := by
  rcases h with rfl | rfl | rfl | rfl | rfl
  · exact zrf_a5 h1 h2
  · exact zrf_a23 h1 h2
  · exact zrf_a69 h1 h2
  · exact zrf_a88 h1 h2
  · exact zrf_a107 h1 h2
theorem gS_rk {S r : Int} (h : gS S) (h1 : 0 ≤ r) (h2 : r < 8) : zkd (S + 3 + r) = 104 := by
  rcases h with rfl | rfl | rfl | rfl | rfl
  · exact zkd_a4 h1 h2
  · exact zkd_a22 h1 h2
  · exact zkd_a68 h1 h2
  · exact zkd_a87 h1 h2
  · exact zkd_a106 h1 h2
theorem gS_fk {S r : Int} (h : gS S) (h1 : 0 ≤ r) (h2 : r < 6) : zkd (S + 11 + r) = 101 := by
  rcases h with rfl | rfl | rfl | rfl | rfl
  · exact zkd_a5 h1 h2
  · exact zkd_a23 h1 h2
  · exact zkd_a69 h1 h2
  · exact zkd_a88 h1 h2
  · exact zkd_a107 h1 h2
