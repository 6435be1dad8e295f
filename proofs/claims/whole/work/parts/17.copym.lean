/-! ===== the model's copies ===== -/
/-- section a of a row put into section b -/
def gcpm (m : zMm) (c n a b x : Int) : zMm := fun c' i' => if c' = c ∧ n * b ≤ i' ∧ i' < n * b + x then m c (n * a + (i' - n * b)) else m c' i'
theorem ga200_137 {d : Nat} {m : zMm} {a b : Int} (ha : 0 ≤ a ∧ a ≤ 4) (hb : 0 ≤ b ∧ b ≤ 4) (hab : a ≠ b) : zEx (d + 1) 200 [.inr (.inr 137), .inl 1, .inl a, .inl b] m none (gcpm m 137 1 a b 1) := by
  refine zC_eq.mp (ze200 ?_)
  simp +contextual (disch := omega) only [↓zbrT, ↓zbrF, zw200_0, zw200_2, zw200_3, zr_1, zr_3, zr_4, zr_7, zr_16, zr_21, zr_26, zr_28, zr_53, zr_54, zr_58, zr_72, zr_73, zlg_0, zlg_s, zls_0, zls_1, zls_s, zkl_i, zkl_r, zkl_l, zkl_n, Int.cast_ofNat_Int, zbd, zw_id, zmu_same, zmu_c, zmu_i, false_and, and_false, true_and, and_true, true_or, or_true, false_or, or_false, Option.toList, List.nil_append, List.cons_append, zif0, zif1, zif01, zem1, zem2, Int.reduceEq, Int.reduceLT, Int.reduceLE, Int.reduceNeg, Int.reduceSub, Int.reduceMul, Int.reduceAdd, if_true, if_false, not_false_eq_true, not_true_eq_false, true_implies, false_implies, Classical.not_not, Nat.reduceAdd, Nat.reduceLeDiff]
  refine zfor 1 (fun x lc m' => 0 ≤ x ∧ lc = [some (.inr (.inr 137)), some (.inl 1), some (.inl a), some (.inl b), some (.inl x)] ∧ m' = gcpm m 137 1 a b x) ?_ ?_ (i := 0) (by decide) ?_
  · rintro x lc m' hx ⟨h0, rfl, rfl⟩ k
    rw [zw200_1]
    simp +contextual (disch := omega) only [↓zbrT, ↓zbrF, zw200_0, zw200_2, zw200_3, zr_1, zr_3, zr_4, zr_7, zr_16, zr_21, zr_26, zr_28, zr_53, zr_54, zr_58, zr_72, zr_73, zlg_0, zlg_s, zls_0, zls_1, zls_s, zkl_i, zkl_r, zkl_l, zkl_n, Int.cast_ofNat_Int, zbd, zw_id, zmu_same, zmu_c, zmu_i, false_and, and_false, true_and, and_true, true_or, or_true, false_or, or_false, Option.toList, List.nil_append, List.cons_append, zif0, zif1, zif01, zem1, zem2, Int.reduceEq, Int.reduceLT, Int.reduceLE, Int.reduceNeg, Int.reduceSub, Int.reduceMul, Int.reduceAdd, if_true, if_false, not_false_eq_true, not_true_eq_false, true_implies, false_implies, Classical.not_not, Nat.reduceAdd, Nat.reduceLeDiff, zkd_137, zln_137]
    refine k _ _ ⟨by omega, rfl, ?_⟩
    funext c' i'
    simp only [zmu, gcpm, true_and, false_and, and_true, and_false, if_true, if_false, Int.reduceEq]
    (repeat' split) <;> (first | rfl | omega | (exfalso; omega) | (congr 1; omega))
  · rintro lc m' ⟨h0, rfl, rfl⟩
    rw [zw200_1]
    simp +contextual (disch := omega) only [↓zbrT, ↓zbrF, zw200_0, zw200_2, zw200_3, zr_1, zr_3, zr_4, zr_7, zr_16, zr_21, zr_26, zr_28, zr_53, zr_54, zr_58, zr_72, zr_73, zlg_0, zlg_s, zls_0, zls_1, zls_s, zkl_i, zkl_r, zkl_l, zkl_n, Int.cast_ofNat_Int, zbd, zw_id, zmu_same, zmu_c, zmu_i, false_and, and_false, true_and, and_true, true_or, or_true, false_or, or_false, Option.toList, List.nil_append, List.cons_append, zif0, zif1, zif01, zem1, zem2, Int.reduceEq, Int.reduceLT, Int.reduceLE, Int.reduceNeg, Int.reduceSub, Int.reduceMul, Int.reduceAdd, if_true, if_false, not_false_eq_true, not_true_eq_false, true_implies, false_implies, Classical.not_not, Nat.reduceAdd, Nat.reduceLeDiff]
  · refine ⟨by decide, rfl, ?_⟩
    funext c' i'
    simp only [gcpm]
    rw [if_neg (by omega)]
theorem zq200_137 {d : Nat} {m : zMm} {a b : Int} {rest : List zV} {k : List zV → zMm → Prop} (ha : 0 ≤ a ∧ a ≤ 4) (hb : 0 ≤ b ∧ b ≤ 4) (hab : a ≠ b) : zcl (zEx (d + 1)) 200 4 (.inl b :: .inl a :: .inl 1 :: .inr (.inr 137) :: rest) m k = (zcat rest ≤ 8 ∧ k rest (gcpm m 137 1 a b 1)) := zcl_eq (as := [.inr (.inr 137), .inl 1, .inl a, .inl b]) (r := none) (ga200_137 ha hb hab) rfl rfl
theorem ga200_138 {d : Nat} {m : zMm} {a b : Int} (ha : 0 ≤ a ∧ a ≤ 4) (hb : 0 ≤ b ∧ b ≤ 4) (hab : a ≠ b) : zEx (d + 1) 200 [.inr (.inr 138), .inl 10, .inl a, .inl b] m none (gcpm m 138 10 a b 10) := by
  refine zC_eq.mp (ze200 ?_)
  simp +contextual (disch := omega) only [↓zbrT, ↓zbrF, zw200_0, zw200_2, zw200_3, zr_1, zr_3, zr_4, zr_7, zr_16, zr_21, zr_26, zr_28, zr_53, zr_54, zr_58, zr_72, zr_73, zlg_0, zlg_s, zls_0, zls_1, zls_s, zkl_i, zkl_r, zkl_l, zkl_n, Int.cast_ofNat_Int, zbd, zw_id, zmu_same, zmu_c, zmu_i, false_and, and_false, true_and, and_true, true_or, or_true, false_or, or_false, Option.toList, List.nil_append, List.cons_append, zif0, zif1, zif01, zem1, zem2, Int.reduceEq, Int.reduceLT, Int.reduceLE, Int.reduceNeg, Int.reduceSub, Int.reduceMul, Int.reduceAdd, if_true, if_false, not_false_eq_true, not_true_eq_false, true_implies, false_implies, Classical.not_not, Nat.reduceAdd, Nat.reduceLeDiff]
  refine zfor 10 (fun x lc m' => 0 ≤ x ∧ lc = [some (.inr (.inr 138)), some (.inl 10), some (.inl a), some (.inl b), some (.inl x)] ∧ m' = gcpm m 138 10 a b x) ?_ ?_ (i := 0) (by decide) ?_
  · rintro x lc m' hx ⟨h0, rfl, rfl⟩ k
    rw [zw200_1]
    simp +contextual (disch := omega) only [↓zbrT, ↓zbrF, zw200_0, zw200_2, zw200_3, zr_1, zr_3, zr_4, zr_7, zr_16, zr_21, zr_26, zr_28, zr_53, zr_54, zr_58, zr_72, zr_73, zlg_0, zlg_s, zls_0, zls_1, zls_s, zkl_i, zkl_r, zkl_l, zkl_n, Int.cast_ofNat_Int, zbd, zw_id, zmu_same, zmu_c, zmu_i, false_and, and_false, true_and, and_true, true_or, or_true, false_or, or_false, Option.toList, List.nil_append, List.cons_append, zif0, zif1, zif01, zem1, zem2, Int.reduceEq, Int.reduceLT, Int.reduceLE, Int.reduceNeg, Int.reduceSub, Int.reduceMul, Int.reduceAdd, if_true, if_false, not_false_eq_true, not_true_eq_false, true_implies, false_implies, Classical.not_not, Nat.reduceAdd, Nat.reduceLeDiff, zkd_138, zln_138]
    refine k _ _ ⟨by omega, rfl, ?_⟩
    funext c' i'
    simp only [zmu, gcpm, true_and, false_and, and_true, and_false, if_true, if_false, Int.reduceEq]
    (repeat' split) <;> (first | rfl | omega | (exfalso; omega) | (congr 1; omega))
  · rintro lc m' ⟨h0, rfl, rfl⟩
    rw [zw200_1]
    simp +contextual (disch := omega) only [↓zbrT, ↓zbrF, zw200_0, zw200_2, zw200_3, zr_1, zr_3, zr_4, zr_7, zr_16, zr_21, zr_26, zr_28, zr_53, zr_54, zr_58, zr_72, zr_73, zlg_0, zlg_s, zls_0, zls_1, zls_s, zkl_i, zkl_r, zkl_l, zkl_n, Int.cast_ofNat_Int, zbd, zw_id, zmu_same, zmu_c, zmu_i, false_and, and_false, true_and, and_true, true_or, or_true, false_or, or_false, Option.toList, List.nil_append, List.cons_append, zif0, zif1, zif01, zem1, zem2, Int.reduceEq, Int.reduceLT, Int.reduceLE, Int.reduceNeg, Int.reduceSub, Int.reduceMul, Int.reduceAdd, if_true, if_false, not_false_eq_true, not_true_eq_false, true_implies, false_implies, Classical.not_not, Nat.reduceAdd, Nat.reduceLeDiff]
  · refine ⟨by decide, rfl, ?_⟩
    funext c' i'
    simp only [gcpm]
    rw [if_neg (by omega)]
theorem zq200_138 {d : Nat} {m : zMm} {a b : Int} {rest : List zV} {k : List zV → zMm → Prop} (ha : 0 ≤ a ∧ a ≤ 4) (hb : 0 ≤ b ∧ b ≤ 4) (hab : a ≠ b) : zcl (zEx (d + 1)) 200 4 (.inl b :: .inl a :: .inl 10 :: .inr (.inr 138) :: rest) m k = (zcat rest ≤ 8 ∧ k rest (gcpm m 138 10 a b 10)) := zcl_eq (as := [.inr (.inr 138), .inl 10, .inl a, .inl b]) (r := none) (ga200_138 ha hb hab) rfl rfl
theorem ga200_139 {d : Nat} {m : zMm} {a b : Int} (ha : 0 ≤ a ∧ a ≤ 4) (hb : 0 ≤ b ∧ b ≤ 4) (hab : a ≠ b) : zEx (d + 1) 200 [.inr (.inr 139), .inl 32, .inl a, .inl b] m none (gcpm m 139 32 a b 32) := by
  refine zC_eq.mp (ze200 ?_)
  simp +contextual (disch := omega) only [↓zbrT, ↓zbrF, zw200_0, zw200_2, zw200_3, zr_1, zr_3, zr_4, zr_7, zr_16, zr_21, zr_26, zr_28, zr_53, zr_54, zr_58, zr_72, zr_73, zlg_0, zlg_s, zls_0, zls_1, zls_s, zkl_i, zkl_r, zkl_l, zkl_n, Int.cast_ofNat_Int, zbd, zw_id, zmu_same, zmu_c, zmu_i, false_and, and_false, true_and, and_true, true_or, or_true, false_or, or_false, Option.toList, List.nil_append, List.cons_append, zif0, zif1, zif01, zem1, zem2, Int.reduceEq, Int.reduceLT, Int.reduceLE, Int.reduceNeg, Int.reduceSub, Int.reduceMul, Int.reduceAdd, if_true, if_false, not_false_eq_true, not_true_eq_false, true_implies, false_implies, Classical.not_not, Nat.reduceAdd, Nat.reduceLeDiff]
  refine zfor 32 (fun x lc m' => 0 ≤ x ∧ lc = [some (.inr (.inr 139)), some (.inl 32), some (.inl a), some (.inl b), some (.inl x)] ∧ m' = gcpm m 139 32 a b x) ?_ ?_ (i := 0) (by decide) ?_
  · rintro x lc m' hx ⟨h0, rfl, rfl⟩ k
    rw [zw200_1]
    simp +contextual (disch := omega) only [↓zbrT, ↓zbrF, zw200_0, zw200_2, zw200_3, zr_1, zr_3, zr_4, zr_7, zr_16, zr_21, zr_26, zr_28, zr_53, zr_54, zr_58, zr_72, zr_73, zlg_0, zlg_s, zls_0, zls_1, zls_s, zkl_i, zkl_r, zkl_l, zkl_n, Int.cast_ofNat_Int, zbd, zw_id, zmu_same, zmu_c, zmu_i, false_and, and_false, true_and, and_true, true_or, or_true, false_or, or_false, Option.toList, List.nil_append, List.cons_append, zif0, zif1, zif01, zem1, zem2, Int.reduceEq, Int.reduceLT, Int.reduceLE, Int.reduceNeg, Int.reduceSub, Int.reduceMul, Int.reduceAdd, if_true, if_false, not_false_eq_true, not_true_eq_false, true_implies, false_implies, Classical.not_not, Nat.reduceAdd, Nat.reduceLeDiff, zkd_139, zln_139]
    refine k _ _ ⟨by omega, rfl, ?_⟩
    funext c' i'
    simp only [zmu, gcpm, true_and, false_and, and_true, and_false, if_true, if_false, Int.reduceEq]
    (repeat' split) <;> (first | rfl | omega | (exfalso; omega) | (congr 1; omega))
  · rintro lc m' ⟨h0, rfl, rfl⟩
    rw [zw200_1]
    simp +contextual (disch := omega) only [↓zbrT, ↓zbrF, zw200_0, zw200_2, zw200_3, zr_1, zr_3, zr_4, zr_7, zr_16, zr_21, zr_26, zr_28, zr_53, zr_54, zr_58, zr_72, zr_73, zlg_0, zlg_s, zls_0, zls_1, zls_s, zkl_i, zkl_r, zkl_l, zkl_n, Int.cast_ofNat_Int, zbd, zw_id, zmu_same, zmu_c, zmu_i, false_and, and_false, true_and, and_true, true_or, or_true, false_or, or_false, Option.toList, List.nil_append, List.cons_append, zif0, zif1, zif01, zem1, zem2, Int.reduceEq, Int.reduceLT, Int.reduceLE, Int.reduceNeg, Int.reduceSub, Int.reduceMul, Int.reduceAdd, if_true, if_false, not_false_eq_true, not_true_eq_false, true_implies, false_implies, Classical.not_not, Nat.reduceAdd, Nat.reduceLeDiff]
  · refine ⟨by decide, rfl, ?_⟩
    funext c' i'
    simp only [gcpm]
    rw [if_neg (by omega)]
theorem zq200_139 {d : Nat} {m : zMm} {a b : Int} {rest : List zV} {k : List zV → zMm → Prop} (ha : 0 ≤ a ∧ a ≤ 4) (hb : 0 ≤ b ∧ b ≤ 4) (hab : a ≠ b) : zcl (zEx (d + 1)) 200 4 (.inl b :: .inl a :: .inl 32 :: .inr (.inr 139) :: rest) m k = (zcat rest ≤ 8 ∧ k rest (gcpm m 139 32 a b 32)) := zcl_eq (as := [.inr (.inr 139), .inl 32, .inl a, .inl b]) (r := none) (ga200_139 ha hb hab) rfl rfl
theorem ga200_140 {d : Nat} {m : zMm} {a b : Int} (ha : 0 ≤ a ∧ a ≤ 4) (hb : 0 ≤ b ∧ b ≤ 4) (hab : a ≠ b) : zEx (d + 1) 200 [.inr (.inr 140), .inl 30, .inl a, .inl b] m none (gcpm m 140 30 a b 30) := by
  refine zC_eq.mp (ze200 ?_)
  simp +contextual (disch := omega) only [↓zbrT, ↓zbrF, zw200_0, zw200_2, zw200_3, zr_1, zr_3, zr_4, zr_7, zr_16, zr_21, zr_26, zr_28, zr_53, zr_54, zr_58, zr_72, zr_73, zlg_0, zlg_s, zls_0, zls_1, zls_s, zkl_i, zkl_r, zkl_l, zkl_n, Int.cast_ofNat_Int, zbd, zw_id, zmu_same, zmu_c, zmu_i, false_and, and_false, true_and, and_true, true_or, or_true, false_or, or_false, Option.toList, List.nil_append, List.cons_append, zif0, zif1, zif01, zem1, zem2, Int.reduceEq, Int.reduceLT, Int.reduceLE, Int.reduceNeg, Int.reduceSub, Int.reduceMul, Int.reduceAdd, if_true, if_false, not_false_eq_true, not_true_eq_false, true_implies, false_implies, Classical.not_not, Nat.reduceAdd, Nat.reduceLeDiff]
  refine zfor 30 (fun x lc m' => 0 ≤ x ∧ lc = [some (.inr (.inr 140)), some (.inl 30), some (.inl a), some (.inl b), some (.inl x)] ∧ m' = gcpm m 140 30 a b x) ?_ ?_ (i := 0) (by decide) ?_
  · rintro x lc m' hx ⟨h0, rfl, rfl⟩ k
    rw [zw200_1]
    simp +contextual (disch := omega) only [↓zbrT, ↓zbrF, zw200_0, zw200_2, zw200_3, zr_1, zr_3, zr_4, zr_7, zr_16, zr_21, zr_26, zr_28, zr_53, zr_54, zr_58, zr_72, zr_73, zlg_0, zlg_s, zls_0, zls_1, zls_s, zkl_i, zkl_r, zkl_l, zkl_n, Int.cast_ofNat_Int, zbd, zw_id, zmu_same, zmu_c, zmu_i, false_and, and_false, true_and, and_true, true_or, or_true, false_or, or_false, Option.toList, List.nil_append, List.cons_append, zif0, zif1, zif01, zem1, zem2, Int.reduceEq, Int.reduceLT, Int.reduceLE, Int.reduceNeg, Int.reduceSub, Int.reduceMul, Int.reduceAdd, if_true, if_false, not_false_eq_true, not_true_eq_false, true_implies, false_implies, Classical.not_not, Nat.reduceAdd, Nat.reduceLeDiff, zkd_140, zln_140]
    refine k _ _ ⟨by omega, rfl, ?_⟩
    funext c' i'
    simp only [zmu, gcpm, true_and, false_and, and_true, and_false, if_true, if_false, Int.reduceEq]
    (repeat' split) <;> (first | rfl | omega | (exfalso; omega) | (congr 1; omega))
  · rintro lc m' ⟨h0, rfl, rfl⟩
    rw [zw200_1]
    simp +contextual (disch := omega) only [↓zbrT, ↓zbrF, zw200_0, zw200_2, zw200_3, zr_1, zr_3, zr_4, zr_7, zr_16, zr_21, zr_26, zr_28, zr_53, zr_54, zr_58, zr_72, zr_73, zlg_0, zlg_s, zls_0, zls_1, zls_s, zkl_i, zkl_r, zkl_l, zkl_n, Int.cast_ofNat_Int, zbd, zw_id, zmu_same, zmu_c, zmu_i, false_and, and_false, true_and, and_true, true_or, or_true, false_or, or_false, Option.toList, List.nil_append, List.cons_append, zif0, zif1, zif01, zem1, zem2, Int.reduceEq, Int.reduceLT, Int.reduceLE, Int.reduceNeg, Int.reduceSub, Int.reduceMul, Int.reduceAdd, if_true, if_false, not_false_eq_true, not_true_eq_false, true_implies, false_implies, Classical.not_not, Nat.reduceAdd, Nat.reduceLeDiff]
  · refine ⟨by decide, rfl, ?_⟩
    funext c' i'
    simp only [gcpm]
    rw [if_neg (by omega)]
theorem zq200_140 {d : Nat} {m : zMm} {a b : Int} {rest : List zV} {k : List zV → zMm → Prop} (ha : 0 ≤ a ∧ a ≤ 4) (hb : 0 ≤ b ∧ b ≤ 4) (hab : a ≠ b) : zcl (zEx (d + 1)) 200 4 (.inl b :: .inl a :: .inl 30 :: .inr (.inr 140) :: rest) m k = (zcat rest ≤ 8 ∧ k rest (gcpm m 140 30 a b 30)) := zcl_eq (as := [.inr (.inr 140), .inl 30, .inl a, .inl b]) (r := none) (ga200_140 ha hb hab) rfl rfl
theorem ga200_141 {d : Nat} {m : zMm} {a b : Int} (ha : 0 ≤ a ∧ a ≤ 4) (hb : 0 ≤ b ∧ b ≤ 4) (hab : a ≠ b) : zEx (d + 1) 200 [.inr (.inr 141), .inl 40, .inl a, .inl b] m none (gcpm m 141 40 a b 40) := by
  refine zC_eq.mp (ze200 ?_)
  simp +contextual (disch := omega) only [↓zbrT, ↓zbrF, zw200_0, zw200_2, zw200_3, zr_1, zr_3, zr_4, zr_7, zr_16, zr_21, zr_26, zr_28, zr_53, zr_54, zr_58, zr_72, zr_73, zlg_0, zlg_s, zls_0, zls_1, zls_s, zkl_i, zkl_r, zkl_l, zkl_n, Int.cast_ofNat_Int, zbd, zw_id, zmu_same, zmu_c, zmu_i, false_and, and_false, true_and, and_true, true_or, or_true, false_or, or_false, Option.toList, List.nil_append, List.cons_append, zif0, zif1, zif01, zem1, zem2, Int.reduceEq, Int.reduceLT, Int.reduceLE, Int.reduceNeg, Int.reduceSub, Int.reduceMul, Int.reduceAdd, if_true, if_false, not_false_eq_true, not_true_eq_false, true_implies, false_implies, Classical.not_not, Nat.reduceAdd, Nat.reduceLeDiff]
  refine zfor 40 (fun x lc m' => 0 ≤ x ∧ lc = [some (.inr (.inr 141)), some (.inl 40), some (.inl a), some (.inl b), some (.inl x)] ∧ m' = gcpm m 141 40 a b x) ?_ ?_ (i := 0) (by decide) ?_
  · rintro x lc m' hx ⟨h0, rfl, rfl⟩ k
    rw [zw200_1]
    simp +contextual (disch := omega) only [↓zbrT, ↓zbrF, zw200_0, zw200_2, zw200_3, zr_1, zr_3, zr_4, zr_7, zr_16, zr_21, zr_26, zr_28, zr_53, zr_54, zr_58, zr_72, zr_73, zlg_0, zlg_s, zls_0, zls_1, zls_s, zkl_i, zkl_r, zkl_l, zkl_n, Int.cast_ofNat_Int, zbd, zw_id, zmu_same, zmu_c, zmu_i, false_and, and_false, true_and, and_true, true_or, or_true, false_or, or_false, Option.toList, List.nil_append, List.cons_append, zif0, zif1, zif01, zem1, zem2, Int.reduceEq, Int.reduceLT, Int.reduceLE, Int.reduceNeg, Int.reduceSub, Int.reduceMul, Int.reduceAdd, if_true, if_false, not_false_eq_true, not_true_eq_false, true_implies, false_implies, Classical.not_not, Nat.reduceAdd, Nat.reduceLeDiff, zkd_141, zln_141]
    refine k _ _ ⟨by omega, rfl, ?_⟩
    funext c' i'
    simp only [zmu, gcpm, true_and, false_and, and_true, and_false, if_true, if_false, Int.reduceEq]
    (repeat' split) <;> (first | rfl | omega | (exfalso; omega) | (congr 1; omega))
  · rintro lc m' ⟨h0, rfl, rfl⟩
    rw [zw200_1]
    simp +contextual (disch := omega) only [↓zbrT, ↓zbrF, zw200_0, zw200_2, zw200_3, zr_1, zr_3, zr_4, zr_7, zr_16, zr_21, zr_26, zr_28, zr_53, zr_54, zr_58, zr_72, zr_73, zlg_0, zlg_s, zls_0, zls_1, zls_s, zkl_i, zkl_r, zkl_l, zkl_n, Int.cast_ofNat_Int, zbd, zw_id, zmu_same, zmu_c, zmu_i, false_and, and_false, true_and, and_true, true_or, or_true, false_or, or_false, Option.toList, List.nil_append, List.cons_append, zif0, zif1, zif01, zem1, zem2, Int.reduceEq, Int.reduceLT, Int.reduceLE, Int.reduceNeg, Int.reduceSub, Int.reduceMul, Int.reduceAdd, if_true, if_false, not_false_eq_true, not_true_eq_false, true_implies, false_implies, Classical.not_not, Nat.reduceAdd, Nat.reduceLeDiff]
  · refine ⟨by decide, rfl, ?_⟩
    funext c' i'
    simp only [gcpm]
    rw [if_neg (by omega)]
theorem zq200_141 {d : Nat} {m : zMm} {a b : Int} {rest : List zV} {k : List zV → zMm → Prop} (ha : 0 ≤ a ∧ a ≤ 4) (hb : 0 ≤ b ∧ b ≤ 4) (hab : a ≠ b) : zcl (zEx (d + 1)) 200 4 (.inl b :: .inl a :: .inl 40 :: .inr (.inr 141) :: rest) m k = (zcat rest ≤ 8 ∧ k rest (gcpm m 141 40 a b 40)) := zcl_eq (as := [.inr (.inr 141), .inl 40, .inl a, .inl b]) (r := none) (ga200_141 ha hb hab) rfl rfl
def gcsm (m : zMm) (a b : Int) : zMm := gcpm (gcpm (gcpm (gcpm (gcpm m 137 1 a b 1) 138 10 a b 10) 139 32 a b 32) 140 30 a b 30) 141 40 a b 40
theorem ga201 {d : Nat} {m : zMm} {a b : Int} (ha : 0 ≤ a ∧ a ≤ 4) (hb : 0 ≤ b ∧ b ≤ 4) (hab : a ≠ b) : zEx (d + 2) 201 [.inr (.inr 131), .inl a, .inl b] m none (gcsm m a b) := by
  refine zC_eq.mp (ze201 ?_)
  simp +contextual (disch := omega) only [zw201_0, zr_1, zr_3, zr_7, zr_12, zr_69, zr_72, zlg_0, zlg_s, zcat_n, zcat_i, zcat_l, zcat_r, zkd_131, zkd_137, zkd_138, zkd_139, zkd_140, zkd_141, zln_137, zln_138, zln_139, zln_140, zln_141, zrf_131_16, zrf_131_17, zrf_131_18, zrf_131_19, zrf_131_20, Int.cast_ofNat_Int, Int.reduceAdd, false_and, and_false, true_and, and_true, true_or, or_true, false_or, or_false, Option.toList, List.nil_append, List.cons_append, zif0, zif1, zif01, zem1, zem2, Int.reduceEq, Int.reduceLT, Int.reduceLE, Int.reduceNeg, Int.reduceSub, Int.reduceMul, if_true, if_false, not_false_eq_true, not_true_eq_false, true_implies, false_implies, Classical.not_not, Nat.reduceAdd, Nat.reduceLeDiff, zq200_137, zq200_138, zq200_139, zq200_140, zq200_141]
  rfl
theorem zq201 {d : Nat} {m : zMm} {a b : Int} {rest : List zV} {k : List zV → zMm → Prop} (ha : 0 ≤ a ∧ a ≤ 4) (hb : 0 ≤ b ∧ b ≤ 4) (hab : a ≠ b) : zcl (zEx (d + 2)) 201 3 (.inl b :: .inl a :: .inr (.inr 131) :: rest) m k = (zcat rest ≤ 8 ∧ k rest (gcsm m a b)) := zcl_eq (as := [.inr (.inr 131), .inl a, .inl b]) (r := none) (ga201 ha hb hab) rfl rfl
