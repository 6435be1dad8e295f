/-! ===== shires copied ===== -/
/-- the first n fields of o are put into c -/
def gcpo (m : zMm) (c o n : Int) : zMm := fun c' i' => if c' = c ∧ 0 ≤ i' ∧ i' < n then m o i' else m c' i'
theorem ga30 {d : Nat} {m : zMm} {c o : Int} (hc : zkd c = 104) (ho : zkd o = 104) : zEx (d + 1) 30 [.inr (.inr c), .inr (.inr o)] m none (gcpo m c o 4) := by
  refine zC_eq.mp (ze30 ?_)
  simp +contextual (disch := omega) only [zw30_0, zr_3, zr_10, zr_13, zr_72, zlg_0, zlg_s, zkd_a106, zkd_a22, zkd_a4, zkd_a68, zkd_a87, Int.cast_ofNat_Int, Int.reduceAdd, zmu_same, zmu_c, zmu_i, false_and, and_false, true_and, and_true, true_or, or_true, false_or, or_false, Option.toList, List.nil_append, List.cons_append, zif0, zif1, zif01, zem1, zem2, Int.reduceEq, Int.reduceLT, Int.reduceLE, Int.reduceNeg, Int.reduceSub, Int.reduceMul, if_true, if_false, not_false_eq_true, not_true_eq_false, true_implies, false_implies, Classical.not_not, Nat.reduceAdd, Nat.reduceLeDiff, hc, ho]
  funext c' i'
  simp only [zmu, gcpo, true_and, false_and, and_true, and_false, if_true, if_false, Int.reduceEq]
  by_cases h : c' = c
  · subst h
    by_cases h0 : i' = 0
    · subst h0; simp
    by_cases h1 : i' = 1
    · subst h1; simp
    by_cases h2 : i' = 2
    · subst h2; simp
    by_cases h3 : i' = 3
    · subst h3; simp
    simp only [h0, h1, h2, h3, and_false, if_false, true_and]
    rw [if_neg (by omega)]
  · simp only [h, false_and, if_false]
theorem ga25 {d : Nat} {m : zMm} {c o : Int} (hc : zkd c = 101) (ho : zkd o = 101) : zEx (d + 1) 25 [.inr (.inr c), .inr (.inr o)] m none (gcpo m c o 5) := by
  refine zC_eq.mp (ze25 ?_)
  simp +contextual (disch := omega) only [zw25_0, zr_3, zr_10, zr_13, zr_72, zlg_0, zlg_s, zkd_a107, zkd_a23, zkd_a5, zkd_a69, zkd_a88, Int.cast_ofNat_Int, Int.reduceAdd, zmu_same, zmu_c, zmu_i, false_and, and_false, true_and, and_true, true_or, or_true, false_or, or_false, Option.toList, List.nil_append, List.cons_append, zif0, zif1, zif01, zem1, zem2, Int.reduceEq, Int.reduceLT, Int.reduceLE, Int.reduceNeg, Int.reduceSub, Int.reduceMul, if_true, if_false, not_false_eq_true, not_true_eq_false, true_implies, false_implies, Classical.not_not, Nat.reduceAdd, Nat.reduceLeDiff, hc, ho]
  funext c' i'
  simp only [zmu, gcpo, true_and, false_and, and_true, and_false, if_true, if_false, Int.reduceEq]
  by_cases h : c' = c
  · subst h
    by_cases h0 : i' = 0
    · subst h0; simp
    by_cases h1 : i' = 1
    · subst h1; simp
    by_cases h2 : i' = 2
    · subst h2; simp
    by_cases h3 : i' = 3
    · subst h3; simp
    by_cases h4 : i' = 4
    · subst h4; simp
    simp only [h0, h1, h2, h3, h4, and_false, if_false, true_and]
    rw [if_neg (by omega)]
  · simp only [h, false_and, if_false]
theorem zq30 {d : Nat} {m : zMm} {c o : Int} {rest : List zV} {k : List zV → zMm → Prop} (hc : zkd c = 104) (ho : zkd o = 104) : zcl (zEx (d + 1)) 30 2 (.inr (.inr o) :: .inr (.inr c) :: rest) m k = (zcat rest ≤ 8 ∧ k rest (gcpo m c o 4)) := zcl_eq (as := [.inr (.inr c), .inr (.inr o)]) (r := none) (ga30 hc ho) rfl rfl
theorem zq25 {d : Nat} {m : zMm} {c o : Int} {rest : List zV} {k : List zV → zMm → Prop} (hc : zkd c = 101) (ho : zkd o = 101) : zcl (zEx (d + 1)) 25 2 (.inr (.inr o) :: .inr (.inr c) :: rest) m k = (zcat rest ≤ 8 ∧ k rest (gcpo m c o 5)) := zcl_eq (as := [.inr (.inr c), .inr (.inr o)]) (r := none) (ga25 hc ho) rfl rfl
/-- the cells of a shire -/
def gS (S : Int) : Prop := S = 3 ∨ S = 21 ∨ S = 67 ∨ S = 86 ∨ S = 105
theorem gS_k {S : Int} (h : gS S) : zkd S = 105 ∧ zrf S 10 = S + 1 ∧ zrf S 11 = S + 2 ∧ zkd (S + 1) = 5 ∧ zln (S + 1) = 8 ∧ zkd (S + 2) = 6 ∧ zln (S + 2) = 6 := by
  rcases h with rfl | rfl | rfl | rfl | rfl <;> exact ⟨rfl, rfl, rfl, rfl, rfl, rfl, rfl⟩
theorem gS_r {S r : Int} (h : gS S) (h1 : 0 ≤ r) (h2 : r < 8) : zrf (S + 1) r = S + 3 + r := by
  rcases h with rfl | rfl | rfl | rfl | rfl
  · exact zrf_a4 h1 h2
  · exact zrf_a22 h1 h2
  · exact zrf_a68 h1 h2
  · exact zrf_a87 h1 h2
  · exact zrf_a106 h1 h2
theorem gS_f {S r : Int} (h : gS S) (h1 : 0 ≤ r) (h2 : r < 6) : zrf (S + 2) r = S + 11 + r := by
  rcases h with rfl | rfl | rfl | rfl | rfl
  · exact zrf_a5 h1 h2
  · exact zrf_a23 h1 h2
  · exact zrf_a69 h1 h2
  · exact zrf_a88 h1 h2
  · exact zrf_a107 h1 h2
theorem gS_rk {S r : Int} (h : gS S) (h1 : 0 ≤ r) (h2 : r < 8) : zkd (S + 3 + r) = 104 := by
  rcases h with rfl | rfl | rfl | rfl | rfl
  · exact zkd_a4 h1 h2
  · exact zkd_a22 h1 h2
  · exact zkd_a68 h1 h2
  · exact zkd_a87 h1 h2
  · exact zkd_a106 h1 h2
theorem gS_fk {S r : Int} (h : gS S) (h1 : 0 ≤ r) (h2 : r < 6) : zkd (S + 11 + r) = 101 := by
  rcases h with rfl | rfl | rfl | rfl | rfl
  · exact zkd_a5 h1 h2
  · exact zkd_a23 h1 h2
  · exact zkd_a69 h1 h2
  · exact zkd_a88 h1 h2
  · exact zkd_a107 h1 h2
theorem gS_ne {S O : Int} (h1 : gS S) (h2 : gS O) (h : S ≠ O) : S + 17 ≤ O ∨ O + 17 ≤ S := by
  unfold gS at h1 h2; omega
/-- shire O put into shire S: the head, a roads, b farmers -/
def gcps (m : zMm) (S O a b : Int) : zMm := fun c' i' => if c' = S ∧ 0 ≤ i' ∧ i' < 10 then m O i' else if S + 3 ≤ c' ∧ c' < S + 3 + a ∧ 0 ≤ i' ∧ i' < 4 then m (c' - S + O) i' else if S + 11 ≤ c' ∧ c' < S + 11 + b ∧ 0 ≤ i' ∧ i' < 5 then m (c' - S + O) i' else m c' i'
theorem ga34 {d : Nat} {m : zMm} {S O : Int} (hS : gS S) (hO : gS O) (hne : S ≠ O) (h1 : 0 ≤ m O 8 ∧ m O 8 ≤ 8) (h2 : 0 ≤ m O 9 ∧ m O 9 ≤ 6) : zEx (d + 2) 34 [.inr (.inr S), .inr (.inr O)] m none (gcps m S O (m O 8) (m O 9)) := by
  obtain ⟨s1, s2, s3, s4, s5, s6, s7⟩ := gS_k hS
  obtain ⟨o1, o2, o3, o4, o5, o6, o7⟩ := gS_k hO
  have hd := gS_ne hS hO hne
  refine zC_eq.mp (ze34 ?_)
  simp +contextual (disch := omega) only [↓zbrT, ↓zbrF, zw34_0, zw34_2, zw34_3, zw34_5, zw34_6, zr_1, zr_3, zr_4, zr_7, zr_10, zr_12, zr_13, zr_20, zr_53, zr_54, zr_58, zr_68, zr_72, zr_73, zlg_0, zlg_s, zls_0, zls_1, zls_s, zkl_i, zkl_r, zkl_l, zkl_n, zrc_1, zrc_s, zcat_n, zcat_i, zcat_l, zcat_r, zkd_105, zkd_106, zkd_107, zkd_21, zkd_22, zkd_23, zkd_3, zkd_4, zkd_5, zkd_67, zkd_68, zkd_69, zkd_86, zkd_87, zkd_88, zkd_a106, zkd_a107, zkd_a22, zkd_a23, zkd_a4, zkd_a5, zkd_a68, zkd_a69, zkd_a87, zkd_a88, zln_106, zln_107, zln_22, zln_23, zln_4, zln_5, zln_68, zln_69, zln_87, zln_88, zrf_105_10, zrf_105_11, zrf_21_10, zrf_21_11, zrf_3_10, zrf_3_11, zrf_67_10, zrf_67_11, zrf_86_10, zrf_86_11, zrf_a106, zrf_a107, zrf_a22, zrf_a23, zrf_a4, zrf_a5, zrf_a68, zrf_a69, zrf_a87, zrf_a88, Int.cast_ofNat_Int, Int.reduceAdd, zbd, zw_id, zmu_same, zmu_c, zmu_i, false_and, and_false, true_and, and_true, true_or, or_true, false_or, or_false, Option.toList, List.nil_append, List.cons_append, zif0, zif1, zif01, zem1, zem2, Int.reduceEq, Int.reduceLT, Int.reduceLE, Int.reduceNeg, Int.reduceSub, Int.reduceMul, if_true, if_false, not_false_eq_true, not_true_eq_false, true_implies, false_implies, Classical.not_not, Nat.reduceAdd, Nat.reduceLeDiff, s1, o1]
  refine zfor (m O 8) (fun r lc m' => 0 ≤ r ∧ lc = [some (.inr (.inr S)), some (.inr (.inr O)), some (.inl r)] ∧ m' = gcps m S O r 0) ?_ ?_ (i := 0) h1.1 ?_
  · rintro r lc m' hr ⟨h0, rfl, rfl⟩ k
    have e0 : gcps m S O r 0 S 8 = m O 8 := by unfold gcps; rw [if_pos (by omega)]
    have r1 := gS_r hS h0 (by omega)
    have r2 := gS_r hO h0 (by omega)
    have r3 := gS_rk hS h0 (by omega)
    have r4 := gS_rk hO h0 (by omega)
    rw [zw34_1]
    simp +contextual (disch := omega) only [↓zbrT, ↓zbrF, zw34_0, zw34_2, zw34_3, zw34_5, zw34_6, zr_1, zr_3, zr_4, zr_7, zr_10, zr_12, zr_13, zr_20, zr_53, zr_54, zr_58, zr_68, zr_72, zr_73, zlg_0, zlg_s, zls_0, zls_1, zls_s, zkl_i, zkl_r, zkl_l, zkl_n, zrc_1, zrc_s, zcat_n, zcat_i, zcat_l, zcat_r, zkd_105, zkd_106, zkd_107, zkd_21, zkd_22, zkd_23, zkd_3, zkd_4, zkd_5, zkd_67, zkd_68, zkd_69, zkd_86, zkd_87, zkd_88, zkd_a106, zkd_a107, zkd_a22, zkd_a23, zkd_a4, zkd_a5, zkd_a68, zkd_a69, zkd_a87, zkd_a88, zln_106, zln_107, zln_22, zln_23, zln_4, zln_5, zln_68, zln_69, zln_87, zln_88, zrf_105_10, zrf_105_11, zrf_21_10, zrf_21_11, zrf_3_10, zrf_3_11, zrf_67_10, zrf_67_11, zrf_86_10, zrf_86_11, zrf_a106, zrf_a107, zrf_a22, zrf_a23, zrf_a4, zrf_a5, zrf_a68, zrf_a69, zrf_a87, zrf_a88, Int.cast_ofNat_Int, Int.reduceAdd, zbd, zw_id, zmu_same, zmu_c, zmu_i, false_and, and_false, true_and, and_true, true_or, or_true, false_or, or_false, Option.toList, List.nil_append, List.cons_append, zif0, zif1, zif01, zem1, zem2, Int.reduceEq, Int.reduceLT, Int.reduceLE, Int.reduceNeg, Int.reduceSub, Int.reduceMul, if_true, if_false, not_false_eq_true, not_true_eq_false, true_implies, false_implies, Classical.not_not, Nat.reduceAdd, Nat.reduceLeDiff, s1, o1, s2, o2, s4, o4, s5, o5, r1, r2, r3, r4, e0, zq30]
    refine k _ _ ⟨by omega, rfl, ?_⟩
    funext c' i'
    simp only [gcpo, gcps]
    (repeat' split) <;> (first | rfl | omega | (exfalso; omega) | (congr 1; omega))
  · rintro lc m' ⟨h0, rfl, rfl⟩
    have e0 : gcps m S O (m O 8) 0 S 8 = m O 8 := by unfold gcps; rw [if_pos (by omega)]
    rw [zw34_1]
    simp +contextual (disch := omega) only [↓zbrT, ↓zbrF, zw34_0, zw34_2, zw34_3, zw34_5, zw34_6, zr_1, zr_3, zr_4, zr_7, zr_10, zr_12, zr_13, zr_20, zr_53, zr_54, zr_58, zr_68, zr_72, zr_73, zlg_0, zlg_s, zls_0, zls_1, zls_s, zkl_i, zkl_r, zkl_l, zkl_n, zrc_1, zrc_s, zcat_n, zcat_i, zcat_l, zcat_r, zkd_105, zkd_106, zkd_107, zkd_21, zkd_22, zkd_23, zkd_3, zkd_4, zkd_5, zkd_67, zkd_68, zkd_69, zkd_86, zkd_87, zkd_88, zkd_a106, zkd_a107, zkd_a22, zkd_a23, zkd_a4, zkd_a5, zkd_a68, zkd_a69, zkd_a87, zkd_a88, zln_106, zln_107, zln_22, zln_23, zln_4, zln_5, zln_68, zln_69, zln_87, zln_88, zrf_105_10, zrf_105_11, zrf_21_10, zrf_21_11, zrf_3_10, zrf_3_11, zrf_67_10, zrf_67_11, zrf_86_10, zrf_86_11, zrf_a106, zrf_a107, zrf_a22, zrf_a23, zrf_a4, zrf_a5, zrf_a68, zrf_a69, zrf_a87, zrf_a88, Int.cast_ofNat_Int, Int.reduceAdd, zbd, zw_id, zmu_same, zmu_c, zmu_i, false_and, and_false, true_and, and_true, true_or, or_true, false_or, or_false, Option.toList, List.nil_append, List.cons_append, zif0, zif1, zif01, zem1, zem2, Int.reduceEq, Int.reduceLT, Int.reduceLE, Int.reduceNeg, Int.reduceSub, Int.reduceMul, if_true, if_false, not_false_eq_true, not_true_eq_false, true_implies, false_implies, Classical.not_not, Nat.reduceAdd, Nat.reduceLeDiff, s1, o1, s2, o2, s4, o4, s5, o5, e0]
    refine zfor (m O 9) (fun r lc m' => 0 ≤ r ∧ lc = [some (.inr (.inr S)), some (.inr (.inr O)), some (.inl r)] ∧ m' = gcps m S O (m O 8) r) ?_ ?_ (i := 0) h2.1 ?_
    · rintro r lc m' hr ⟨h0, rfl, rfl⟩ k
      have e0 : gcps m S O (m O 8) r S 9 = m O 9 := by unfold gcps; rw [if_pos (by omega)]
      have r1 := gS_f hS h0 (by omega)
      have r2 := gS_f hO h0 (by omega)
      have r3 := gS_fk hS h0 (by omega)
      have r4 := gS_fk hO h0 (by omega)
      rw [zw34_4]
      simp +contextual (disch := omega) only [↓zbrT, ↓zbrF, zw34_0, zw34_2, zw34_3, zw34_5, zw34_6, zr_1, zr_3, zr_4, zr_7, zr_10, zr_12, zr_13, zr_20, zr_53, zr_54, zr_58, zr_68, zr_72, zr_73, zlg_0, zlg_s, zls_0, zls_1, zls_s, zkl_i, zkl_r, zkl_l, zkl_n, zrc_1, zrc_s, zcat_n, zcat_i, zcat_l, zcat_r, zkd_105, zkd_106, zkd_107, zkd_21, zkd_22, zkd_23, zkd_3, zkd_4, zkd_5, zkd_67, zkd_68, zkd_69, zkd_86, zkd_87, zkd_88, zkd_a106, zkd_a107, zkd_a22, zkd_a23, zkd_a4, zkd_a5, zkd_a68, zkd_a69, zkd_a87, zkd_a88, zln_106, zln_107, zln_22, zln_23, zln_4, zln_5, zln_68, zln_69, zln_87, zln_88, zrf_105_10, zrf_105_11, zrf_21_10, zrf_21_11, zrf_3_10, zrf_3_11, zrf_67_10, zrf_67_11, zrf_86_10, zrf_86_11, zrf_a106, zrf_a107, zrf_a22, zrf_a23, zrf_a4, zrf_a5, zrf_a68, zrf_a69, zrf_a87, zrf_a88, Int.cast_ofNat_Int, Int.reduceAdd, zbd, zw_id, zmu_same, zmu_c, zmu_i, false_and, and_false, true_and, and_true, true_or, or_true, false_or, or_false, Option.toList, List.nil_append, List.cons_append, zif0, zif1, zif01, zem1, zem2, Int.reduceEq, Int.reduceLT, Int.reduceLE, Int.reduceNeg, Int.reduceSub, Int.reduceMul, if_true, if_false, not_false_eq_true, not_true_eq_false, true_implies, false_implies, Classical.not_not, Nat.reduceAdd, Nat.reduceLeDiff, s1, o1, s3, o3, s6, o6, s7, o7, r1, r2, r3, r4, e0, zq25]
      refine k _ _ ⟨by omega, rfl, ?_⟩
      funext c' i'
      simp only [gcpo, gcps]
      (repeat' split) <;> (first | rfl | omega | (exfalso; omega) | (congr 1; omega))
    · rintro lc m' ⟨h0, rfl, rfl⟩
      have e0 : gcps m S O (m O 8) (m O 9) S 9 = m O 9 := by unfold gcps; rw [if_pos (by omega)]
      rw [zw34_4]
      simp +contextual (disch := omega) only [↓zbrT, ↓zbrF, zw34_0, zw34_2, zw34_3, zw34_5, zw34_6, zr_1, zr_3, zr_4, zr_7, zr_10, zr_12, zr_13, zr_20, zr_53, zr_54, zr_58, zr_68, zr_72, zr_73, zlg_0, zlg_s, zls_0, zls_1, zls_s, zkl_i, zkl_r, zkl_l, zkl_n, zrc_1, zrc_s, zcat_n, zcat_i, zcat_l, zcat_r, zkd_105, zkd_106, zkd_107, zkd_21, zkd_22, zkd_23, zkd_3, zkd_4, zkd_5, zkd_67, zkd_68, zkd_69, zkd_86, zkd_87, zkd_88, zkd_a106, zkd_a107, zkd_a22, zkd_a23, zkd_a4, zkd_a5, zkd_a68, zkd_a69, zkd_a87, zkd_a88, zln_106, zln_107, zln_22, zln_23, zln_4, zln_5, zln_68, zln_69, zln_87, zln_88, zrf_105_10, zrf_105_11, zrf_21_10, zrf_21_11, zrf_3_10, zrf_3_11, zrf_67_10, zrf_67_11, zrf_86_10, zrf_86_11, zrf_a106, zrf_a107, zrf_a22, zrf_a23, zrf_a4, zrf_a5, zrf_a68, zrf_a69, zrf_a87, zrf_a88, Int.cast_ofNat_Int, Int.reduceAdd, zbd, zw_id, zmu_same, zmu_c, zmu_i, false_and, and_false, true_and, and_true, true_or, or_true, false_or, or_false, Option.toList, List.nil_append, List.cons_append, zif0, zif1, zif01, zem1, zem2, Int.reduceEq, Int.reduceLT, Int.reduceLE, Int.reduceNeg, Int.reduceSub, Int.reduceMul, if_true, if_false, not_false_eq_true, not_true_eq_false, true_implies, false_implies, Classical.not_not, Nat.reduceAdd, Nat.reduceLeDiff, s1, o1, s3, o3, s6, o6, s7, o7, e0]
    · exact ⟨by decide, rfl, rfl⟩
  · refine ⟨by decide, rfl, ?_⟩
    funext c' i'
    simp only [zmu, gcps, true_and, false_and, and_true, and_false, if_true, if_false, Int.reduceEq]
    by_cases h : c' = S
    · subst h
      rcases (show i' = 0 ∨ i' = 1 ∨ i' = 2 ∨ i' = 3 ∨ i' = 4 ∨ i' = 5 ∨ i' = 6 ∨ i' = 7 ∨ i' = 8 ∨ i' = 9 ∨ ¬ (0 ≤ i' ∧ i' < 10) by omega) with rfl | rfl | rfl | rfl | rfl | rfl | rfl | rfl | rfl | rfl | hh
      all_goals first
        | (simp only [true_and, false_and, and_true, and_false, if_true, if_false, Int.reduceEq, Int.reduceLE, Int.reduceLT, and_self]; done)
        | (simp only [true_and, hh, if_false]
           rw [if_neg (by omega), if_neg (by omega), if_neg (by omega), if_neg (by omega), if_neg (by omega), if_neg (by omega), if_neg (by omega), if_neg (by omega), if_neg (by omega), if_neg (by omega), if_neg (by omega), if_neg (by omega)])
    · simp only [h, false_and, if_false]
      rw [if_neg (by omega), if_neg (by omega)]
