/-! ===== slots: row, write, paste ===== -/
/-- Arrays.fill of a row of longs -/
theorem ga3 {d : Nat} {m : zMm} {c x : Int} (hc : zkd c = 2) (hl : zln c = 60) : zEx (d + 1) 3 [.inr (.inr c), .inr (.inl x)] m none (fun c' i' => if c' = c ∧ 0 ≤ i' ∧ i' < 60 then x else m c' i') := by
  refine zC_eq.mp (ze3 ?_)
  simp +contextual (disch := omega) only [↓zbrT, ↓zbrF, zw3_0, zw3_2, zw3_3, zr_1, zr_2, zr_3, zr_4, zr_7, zr_24, zr_25, zr_53, zr_54, zr_58, zr_72, zr_73, zlg_0, zlg_s, zls_0, zls_1, zls_s, zkl_i, zkl_r, zkl_l, zkl_n, Int.cast_ofNat_Int, zbd, zw_id, zmu_same, zmu_c, zmu_i, false_and, and_false, true_and, and_true, true_or, or_true, false_or, or_false, Option.toList, List.nil_append, List.cons_append, zif0, zif1, zif01, zem1, zem2, Int.reduceEq, Int.reduceLT, Int.reduceLE, Int.reduceNeg, Int.reduceSub, Int.reduceMul, Int.reduceAdd, not_false_eq_true, not_true_eq_false, true_implies, false_implies, Classical.not_not, Nat.reduceAdd, Nat.reduceLeDiff, hc, hl]
  refine zfor 60 (fun i lc m' => 0 ≤ i ∧ lc = [some (.inr (.inr c)), some (.inr (.inl x)), none, some (.inl i), some (.inl 60)] ∧ m' = fun c' i' => if c' = c ∧ 0 ≤ i' ∧ i' < i then x else m c' i') ?_ ?_ (i := 0) (by decide) ?_
  · rintro i lc m' hi ⟨h0, rfl, rfl⟩ k
    rw [zw3_1]
    simp +contextual (disch := omega) only [↓zbrT, ↓zbrF, zw3_0, zw3_2, zw3_3, zr_1, zr_2, zr_3, zr_4, zr_7, zr_24, zr_25, zr_53, zr_54, zr_58, zr_72, zr_73, zlg_0, zlg_s, zls_0, zls_1, zls_s, zkl_i, zkl_r, zkl_l, zkl_n, Int.cast_ofNat_Int, zbd, zw_id, zmu_same, zmu_c, zmu_i, false_and, and_false, true_and, and_true, true_or, or_true, false_or, or_false, Option.toList, List.nil_append, List.cons_append, zif0, zif1, zif01, zem1, zem2, Int.reduceEq, Int.reduceLT, Int.reduceLE, Int.reduceNeg, Int.reduceSub, Int.reduceMul, Int.reduceAdd, not_false_eq_true, not_true_eq_false, true_implies, false_implies, Classical.not_not, Nat.reduceAdd, Nat.reduceLeDiff, hc, hl]
    refine k _ _ ⟨by omega, rfl, ?_⟩
    funext c' i'
    simp only [zmu]
    by_cases h1 : c' = c
    · subst h1
      by_cases h2 : i' = i
      · simp only [h2, and_self, if_true, true_and]
        rw [if_pos (by omega)]
      · simp only [h2, and_false, if_false, true_and]
        by_cases h3 : 0 ≤ i' ∧ i' < i
        · rw [if_pos h3, if_pos (by omega)]
        · rw [if_neg h3, if_neg (by omega)]
    · simp only [h1, false_and, if_false]
  · rintro lc m' ⟨h0, rfl, rfl⟩
    rw [zw3_1]
    simp +contextual (disch := omega) only [↓zbrT, ↓zbrF, zw3_0, zw3_2, zw3_3, zr_1, zr_2, zr_3, zr_4, zr_7, zr_24, zr_25, zr_53, zr_54, zr_58, zr_72, zr_73, zlg_0, zlg_s, zls_0, zls_1, zls_s, zkl_i, zkl_r, zkl_l, zkl_n, Int.cast_ofNat_Int, zbd, zw_id, zmu_same, zmu_c, zmu_i, false_and, and_false, true_and, and_true, true_or, or_true, false_or, or_false, Option.toList, List.nil_append, List.cons_append, zif0, zif1, zif01, zem1, zem2, Int.reduceEq, Int.reduceLT, Int.reduceLE, Int.reduceNeg, Int.reduceSub, Int.reduceMul, Int.reduceAdd, not_false_eq_true, not_true_eq_false, true_implies, false_implies, Classical.not_not, Nat.reduceAdd, Nat.reduceLeDiff, hc, hl]
  · refine ⟨by decide, rfl, ?_⟩
    funext c' i'
    rw [if_neg (by omega)]
