/-! ===== miles, tolls, way, pays, trip, income, gates, dragoons ===== -/
def sp86 (V : zMm) (p q : Int) : Int := if (0 ≤ p ∧ p < V 0 0) ∧ (0 ≤ q ∧ q < V 0 0) then (if 268435456 ≤ gD V p q then -1 else gD V p q) else -2
theorem gz86 {d : Nat} {m : zMm} {p : Int} {q : Int} {V : zMm} (hI : gI V m) : zC (d + 3) 86 [.inr (.inr 0), .inl p, .inl q] m (fun r' m' => r' = some (.inl (sp86 V p q)) ∧ gI V m' ∧ gX m m') := by
  refine ze86 ?_
  have hb := gA_b hI.1
  unfold sp86
  by_cases c1 : 0 ≤ p ∧ p < V 0 0
  · by_cases c2 : 0 ≤ q ∧ q < V 0 0
    · rw [if_pos ⟨c1, c2⟩]
      by_cases c3 : 268435456 ≤ gD V p q
      · rw [if_pos c3]
        simp +contextual (disch := (first | omega | assumption | decide)) only [↓zbrT, ↓zbrF, zw86_0, zw86_1, zw86_2, zw86_3, zw86_4, zw86_5, zw86_6, zr_1, zr_3, zr_4, zr_7, zr_12, zr_54, zr_57, zr_61, zr_62, zr_68, zr_70, zr_73, zlg_0, zlg_s, zls_0, zls_1, zls_s, zkl_i, zkl_r, zkl_l, zkl_n, zrc_1, zrc_s, zcat_n, zcat_i, zcat_l, zcat_r, zkd_0, zkd_20, zrf_0_2, Int.cast_ofNat_Int, Int.reduceAdd, false_and, and_false, true_and, and_true, true_or, or_true, false_or, or_false, Option.toList, List.nil_append, List.cons_append, zif0, zif1, zif01, zem1, zem2, Int.reduceEq, Int.reduceLT, Int.reduceLE, Int.reduceNeg, Int.reduceSub, Int.reduceMul, if_true, if_false, not_false_eq_true, not_true_eq_false, true_implies, false_implies, Classical.not_not, Nat.reduceAdd, Nat.reduceLeDiff, zq75, zq11, gA_0 hI.1.2.1, gA_1 hI.1.2.1, gA_2 hI.1.2.1, gA_3 hI.1.2.1, gA_4 hI.1.2.1, gA_5 hI.1.2.1, gA_6 hI.1.2.1, gA_7 hI.1.2.1, gA_8 hI.1.2.1, gA_9 hI.1.2.1, gA_r0 hI.1.2.1, gA_r1 hI.1.2.1, gA_r2 hI.1.2.1, gA_r3 hI.1.2.1, gA_f0 hI.1.2.1, gA_f1 hI.1.2.1, gA_f2 hI.1.2.1, gA_f3 hI.1.2.1, gA_f4 hI.1.2.1, gA_d hI.1, gI_s0 hI, gI_s1 hI, gI_s2 hI, gI_s3 hI, gI_s4 hI, gI_s5 hI, gI_n hI]
        (first | exact ⟨hI, gX_refl⟩ | exact ⟨rfl, hI, gX_refl⟩)
      · rw [if_neg c3]
        simp +contextual (disch := (first | omega | assumption | decide)) only [↓zbrT, ↓zbrF, zw86_0, zw86_1, zw86_2, zw86_3, zw86_4, zw86_5, zw86_6, zr_1, zr_3, zr_4, zr_7, zr_12, zr_54, zr_57, zr_61, zr_62, zr_68, zr_70, zr_73, zlg_0, zlg_s, zls_0, zls_1, zls_s, zkl_i, zkl_r, zkl_l, zkl_n, zrc_1, zrc_s, zcat_n, zcat_i, zcat_l, zcat_r, zkd_0, zkd_20, zrf_0_2, Int.cast_ofNat_Int, Int.reduceAdd, false_and, and_false, true_and, and_true, true_or, or_true, false_or, or_false, Option.toList, List.nil_append, List.cons_append, zif0, zif1, zif01, zem1, zem2, Int.reduceEq, Int.reduceLT, Int.reduceLE, Int.reduceNeg, Int.reduceSub, Int.reduceMul, if_true, if_false, not_false_eq_true, not_true_eq_false, true_implies, false_implies, Classical.not_not, Nat.reduceAdd, Nat.reduceLeDiff, zq75, zq11, gA_0 hI.1.2.1, gA_1 hI.1.2.1, gA_2 hI.1.2.1, gA_3 hI.1.2.1, gA_4 hI.1.2.1, gA_5 hI.1.2.1, gA_6 hI.1.2.1, gA_7 hI.1.2.1, gA_8 hI.1.2.1, gA_9 hI.1.2.1, gA_r0 hI.1.2.1, gA_r1 hI.1.2.1, gA_r2 hI.1.2.1, gA_r3 hI.1.2.1, gA_f0 hI.1.2.1, gA_f1 hI.1.2.1, gA_f2 hI.1.2.1, gA_f3 hI.1.2.1, gA_f4 hI.1.2.1, gA_d hI.1, gI_s0 hI, gI_s1 hI, gI_s2 hI, gI_s3 hI, gI_s4 hI, gI_s5 hI, gI_n hI]
        (first | exact ⟨hI, gX_refl⟩ | exact ⟨rfl, hI, gX_refl⟩)
    · rw [if_neg (fun z => c2 z.2)]
      simp +contextual (disch := (first | omega | assumption | decide)) only [↓zbrT, ↓zbrF, zw86_0, zw86_1, zw86_2, zw86_3, zw86_4, zw86_5, zw86_6, zr_1, zr_3, zr_4, zr_7, zr_12, zr_54, zr_57, zr_61, zr_62, zr_68, zr_70, zr_73, zlg_0, zlg_s, zls_0, zls_1, zls_s, zkl_i, zkl_r, zkl_l, zkl_n, zrc_1, zrc_s, zcat_n, zcat_i, zcat_l, zcat_r, zkd_0, zkd_20, zrf_0_2, Int.cast_ofNat_Int, Int.reduceAdd, false_and, and_false, true_and, and_true, true_or, or_true, false_or, or_false, Option.toList, List.nil_append, List.cons_append, zif0, zif1, zif01, zem1, zem2, Int.reduceEq, Int.reduceLT, Int.reduceLE, Int.reduceNeg, Int.reduceSub, Int.reduceMul, if_true, if_false, not_false_eq_true, not_true_eq_false, true_implies, false_implies, Classical.not_not, Nat.reduceAdd, Nat.reduceLeDiff, zq75, gA_0 hI.1.2.1, gA_1 hI.1.2.1, gA_2 hI.1.2.1, gA_3 hI.1.2.1, gA_4 hI.1.2.1, gA_5 hI.1.2.1, gA_6 hI.1.2.1, gA_7 hI.1.2.1, gA_8 hI.1.2.1, gA_9 hI.1.2.1, gA_r0 hI.1.2.1, gA_r1 hI.1.2.1, gA_r2 hI.1.2.1, gA_r3 hI.1.2.1, gA_f0 hI.1.2.1, gA_f1 hI.1.2.1, gA_f2 hI.1.2.1, gA_f3 hI.1.2.1, gA_f4 hI.1.2.1, gA_d hI.1, gI_s0 hI, gI_s1 hI, gI_s2 hI, gI_s3 hI, gI_s4 hI, gI_s5 hI, gI_n hI]
      (first | exact ⟨hI, gX_refl⟩ | exact ⟨rfl, hI, gX_refl⟩)
  · rw [if_neg (fun z => c1 z.1)]
    simp +contextual (disch := (first | omega | assumption | decide)) only [↓zbrT, ↓zbrF, zw86_0, zw86_1, zw86_2, zw86_3, zw86_4, zw86_5, zw86_6, zr_1, zr_3, zr_4, zr_7, zr_12, zr_54, zr_57, zr_61, zr_62, zr_68, zr_70, zr_73, zlg_0, zlg_s, zls_0, zls_1, zls_s, zkl_i, zkl_r, zkl_l, zkl_n, zrc_1, zrc_s, zcat_n, zcat_i, zcat_l, zcat_r, zkd_0, zkd_20, zrf_0_2, Int.cast_ofNat_Int, Int.reduceAdd, false_and, and_false, true_and, and_true, true_or, or_true, false_or, or_false, Option.toList, List.nil_append, List.cons_append, zif0, zif1, zif01, zem1, zem2, Int.reduceEq, Int.reduceLT, Int.reduceLE, Int.reduceNeg, Int.reduceSub, Int.reduceMul, if_true, if_false, not_false_eq_true, not_true_eq_false, true_implies, false_implies, Classical.not_not, Nat.reduceAdd, Nat.reduceLeDiff, zq75, gA_0 hI.1.2.1, gA_1 hI.1.2.1, gA_2 hI.1.2.1, gA_3 hI.1.2.1, gA_4 hI.1.2.1, gA_5 hI.1.2.1, gA_6 hI.1.2.1, gA_7 hI.1.2.1, gA_8 hI.1.2.1, gA_9 hI.1.2.1, gA_r0 hI.1.2.1, gA_r1 hI.1.2.1, gA_r2 hI.1.2.1, gA_r3 hI.1.2.1, gA_f0 hI.1.2.1, gA_f1 hI.1.2.1, gA_f2 hI.1.2.1, gA_f3 hI.1.2.1, gA_f4 hI.1.2.1, gA_d hI.1, gI_s0 hI, gI_s1 hI, gI_s2 hI, gI_s3 hI, gI_s4 hI, gI_s5 hI, gI_n hI]
    (first | exact ⟨hI, gX_refl⟩ | exact ⟨rfl, hI, gX_refl⟩)
theorem gz224 {d : Nat} {m : zMm} {p : Int} {q : Int} {V : zMm} (hQ : gQ V m) : zC (d + 3) 224 [.inr (.inr 131), .inl p, .inl q] m (fun r' m' => r' = some (.inl (sp86 V p q)) ∧ gY m m') := by
  refine ze224 ?_
  have hb := hQ.1.1
  have hY0 : gY m (zmu m 131 0 0) := gY_u (by decide)
  have hQ0 := gQ_y hQ hY0
  have h5 : 0 ≤ zmu m 131 0 0 138 5 ∧ zmu m 131 0 0 138 5 ≤ 8 := by rw [gM_5 hQ0.2.2.1]; omega
  have h6 : 0 ≤ zmu m 131 0 0 138 6 ∧ zmu m 131 0 0 138 6 ≤ 6 := by rw [gM_6 hQ0.2.2.1]; omega
  have h0 : 0 ≤ zmu m 131 0 0 138 0 ∧ zmu m 131 0 0 138 0 ≤ 6 := by rw [gM_0 hQ0.2.2.1]; omega
  unfold sp86
  by_cases c1 : 0 ≤ p ∧ p < V 0 0
  · have c1' : 0 ≤ p ∧ p ≤ V 0 0 - 1 := by omega
    by_cases c2 : 0 ≤ q ∧ q < V 0 0
    · have c2' : 0 ≤ q ∧ q ≤ V 0 0 - 1 := by omega
      rw [if_pos ⟨c1, c2⟩]
      have fin : gY m (gTab (zmu m 131 0 0) 145 (gDm V)) := gY_tr hY0 (fun c i hc => gTab_o (by omega))
      have e := gTab_at6 (m0 := zmu m 131 0 0) (c := 145) (T := gDm V) (p := p) (q := q) ⟨c1.1, by omega⟩ ⟨c2.1, by omega⟩
      have de := gDm_eq hQ.1 p q
      have dd := gD_bd hQ.1 (p := p) (q := q)
      by_cases c3 : 268435456 ≤ gD V p q
      · rw [if_pos c3]
        simp +contextual (disch := (first | omega | assumption | decide)) only [↓zbrT, ↓zbrF, zw224_0, zw224_1, zw224_2, zw224_3, zw224_4, zw224_5, zw224_6, zr_1, zr_3, zr_7, zr_12, zr_13, zr_16, zr_26, zr_28, zr_54, zr_57, zr_61, zr_62, zr_68, zr_70, zr_73, zlg_0, zlg_s, zrc_1, zrc_s, zcat_n, zcat_i, zcat_l, zcat_r, zkd_131, zkd_145, zln_145, zrf_131_27, Int.cast_ofNat_Int, Int.reduceAdd, zbd, zw_id, zmu_same, zmu_c, zmu_i, false_and, and_false, true_and, and_true, true_or, or_true, false_or, or_false, Option.toList, List.nil_append, List.cons_append, zif0, zif1, zif01, zem1, zem2, Int.reduceEq, Int.reduceLT, Int.reduceLE, Int.reduceNeg, Int.reduceSub, Int.reduceMul, if_true, if_false, not_false_eq_true, not_true_eq_false, true_implies, false_implies, Classical.not_not, Nat.reduceAdd, Nat.reduceLeDiff, zq206 h0, gM_0 hQ.2.2.1, gM_1 hQ.2.2.1, gM_2 hQ.2.2.1, gM_3 hQ.2.2.1, gM_4 hQ.2.2.1, gM_5 hQ.2.2.1, gM_6 hQ.2.2.1, gM_7 hQ.2.2.1, gM_8 hQ.2.2.1, gM_9 hQ.2.2.1, gM_10 hQ.2.2.1, gM_r0 hQ.2.2.1, gM_r1 hQ.2.2.1, gM_r2 hQ.2.2.1, gM_r3 hQ.2.2.1, gM_f0 hQ.2.2.1, gM_f1 hQ.2.2.1, gM_f2 hQ.2.2.1, gM_f3 hQ.2.2.1, gM_f4 hQ.2.2.1, zq215 hQ.1 hQ0.2.2.1, e]
        (first | exact fin | exact ⟨rfl, fin⟩)
      · rw [if_neg c3]
        have e3 : gDm V p q = gD V p q := by omega
        simp +contextual (disch := (first | omega | assumption | decide)) only [↓zbrT, ↓zbrF, zw224_0, zw224_1, zw224_2, zw224_3, zw224_4, zw224_5, zw224_6, zr_1, zr_3, zr_7, zr_12, zr_13, zr_16, zr_26, zr_28, zr_54, zr_57, zr_61, zr_62, zr_68, zr_70, zr_73, zlg_0, zlg_s, zrc_1, zrc_s, zcat_n, zcat_i, zcat_l, zcat_r, zkd_131, zkd_145, zln_145, zrf_131_27, Int.cast_ofNat_Int, Int.reduceAdd, zbd, zw_id, zmu_same, zmu_c, zmu_i, false_and, and_false, true_and, and_true, true_or, or_true, false_or, or_false, Option.toList, List.nil_append, List.cons_append, zif0, zif1, zif01, zem1, zem2, Int.reduceEq, Int.reduceLT, Int.reduceLE, Int.reduceNeg, Int.reduceSub, Int.reduceMul, if_true, if_false, not_false_eq_true, not_true_eq_false, true_implies, false_implies, Classical.not_not, Nat.reduceAdd, Nat.reduceLeDiff, zq206 h0, gM_0 hQ.2.2.1, gM_1 hQ.2.2.1, gM_2 hQ.2.2.1, gM_3 hQ.2.2.1, gM_4 hQ.2.2.1, gM_5 hQ.2.2.1, gM_6 hQ.2.2.1, gM_7 hQ.2.2.1, gM_8 hQ.2.2.1, gM_9 hQ.2.2.1, gM_10 hQ.2.2.1, gM_r0 hQ.2.2.1, gM_r1 hQ.2.2.1, gM_r2 hQ.2.2.1, gM_r3 hQ.2.2.1, gM_f0 hQ.2.2.1, gM_f1 hQ.2.2.1, gM_f2 hQ.2.2.1, gM_f3 hQ.2.2.1, gM_f4 hQ.2.2.1, zq215 hQ.1 hQ0.2.2.1, e, e3]
        (first | exact fin | exact ⟨rfl, fin⟩)
    · rw [if_neg (fun z => c2 z.2)]
      simp +contextual (disch := (first | omega | assumption | decide)) only [↓zbrT, ↓zbrF, zw224_0, zw224_1, zw224_2, zw224_3, zw224_4, zw224_5, zw224_6, zr_1, zr_3, zr_7, zr_12, zr_13, zr_16, zr_26, zr_28, zr_54, zr_57, zr_61, zr_62, zr_68, zr_70, zr_73, zlg_0, zlg_s, zrc_1, zrc_s, zcat_n, zcat_i, zcat_l, zcat_r, zkd_131, zkd_145, zln_145, zrf_131_27, Int.cast_ofNat_Int, Int.reduceAdd, zbd, zw_id, zmu_same, zmu_c, zmu_i, false_and, and_false, true_and, and_true, true_or, or_true, false_or, or_false, Option.toList, List.nil_append, List.cons_append, zif0, zif1, zif01, zem1, zem2, Int.reduceEq, Int.reduceLT, Int.reduceLE, Int.reduceNeg, Int.reduceSub, Int.reduceMul, if_true, if_false, not_false_eq_true, not_true_eq_false, true_implies, false_implies, Classical.not_not, Nat.reduceAdd, Nat.reduceLeDiff, zq206 h0, gM_0 hQ.2.2.1, gM_1 hQ.2.2.1, gM_2 hQ.2.2.1, gM_3 hQ.2.2.1, gM_4 hQ.2.2.1, gM_5 hQ.2.2.1, gM_6 hQ.2.2.1, gM_7 hQ.2.2.1, gM_8 hQ.2.2.1, gM_9 hQ.2.2.1, gM_10 hQ.2.2.1, gM_r0 hQ.2.2.1, gM_r1 hQ.2.2.1, gM_r2 hQ.2.2.1, gM_r3 hQ.2.2.1, gM_f0 hQ.2.2.1, gM_f1 hQ.2.2.1, gM_f2 hQ.2.2.1, gM_f3 hQ.2.2.1, gM_f4 hQ.2.2.1]
      (first | exact hY0 | exact ⟨rfl, hY0⟩)
  · rw [if_neg (fun z => c1 z.1)]
    simp +contextual (disch := (first | omega | assumption | decide)) only [↓zbrT, ↓zbrF, zw224_0, zw224_1, zw224_2, zw224_3, zw224_4, zw224_5, zw224_6, zr_1, zr_3, zr_7, zr_12, zr_13, zr_16, zr_26, zr_28, zr_54, zr_57, zr_61, zr_62, zr_68, zr_70, zr_73, zlg_0, zlg_s, zrc_1, zrc_s, zcat_n, zcat_i, zcat_l, zcat_r, zkd_131, zkd_145, zln_145, zrf_131_27, Int.cast_ofNat_Int, Int.reduceAdd, zbd, zw_id, zmu_same, zmu_c, zmu_i, false_and, and_false, true_and, and_true, true_or, or_true, false_or, or_false, Option.toList, List.nil_append, List.cons_append, zif0, zif1, zif01, zem1, zem2, Int.reduceEq, Int.reduceLT, Int.reduceLE, Int.reduceNeg, Int.reduceSub, Int.reduceMul, if_true, if_false, not_false_eq_true, not_true_eq_false, true_implies, false_implies, Classical.not_not, Nat.reduceAdd, Nat.reduceLeDiff, zq206 h0, gM_0 hQ.2.2.1, gM_1 hQ.2.2.1, gM_2 hQ.2.2.1, gM_3 hQ.2.2.1, gM_4 hQ.2.2.1, gM_5 hQ.2.2.1, gM_6 hQ.2.2.1, gM_7 hQ.2.2.1, gM_8 hQ.2.2.1, gM_9 hQ.2.2.1, gM_10 hQ.2.2.1, gM_r0 hQ.2.2.1, gM_r1 hQ.2.2.1, gM_r2 hQ.2.2.1, gM_r3 hQ.2.2.1, gM_f0 hQ.2.2.1, gM_f1 hQ.2.2.1, gM_f2 hQ.2.2.1, gM_f3 hQ.2.2.1, gM_f4 hQ.2.2.1]
    (first | exact hY0 | exact ⟨rfl, hY0⟩)
def sp87 (V : zMm) (p q : Int) : Int := if (0 ≤ p ∧ p < V 0 0) ∧ (0 ≤ q ∧ q < V 0 0) then (if 268435456 ≤ gC V (gSn V 4) (-1) p q then -1 else gC V (gSn V 4) (-1) p q / 1024) else -2
theorem gz87 {d : Nat} {m : zMm} {p : Int} {q : Int} {V : zMm} (hI : gI V m) : zC (d + 4) 87 [.inr (.inr 0), .inl p, .inl q] m (fun r' m' => r' = some (.inl (sp87 V p q)) ∧ gI V m' ∧ gX m m') := by
  refine ze87 ?_
  have hb := gA_b hI.1
  have b4 := (gI_k hI).1.2.2.2.2.1
  unfold sp87
  by_cases c1 : 0 ≤ p ∧ p < V 0 0
  · by_cases c2 : 0 ≤ q ∧ q < V 0 0
    · rw [if_pos ⟨c1, c2⟩]
      simp +contextual (disch := (first | omega | assumption | decide)) only [↓zbrT, ↓zbrF, zw87_0, zw87_1, zw87_2, zw87_3, zr_1, zr_3, zr_7, zr_10, zr_12, zr_61, zr_62, zr_68, zr_70, zlg_0, zlg_s, zrc_1, zrc_s, zcat_n, zcat_i, zcat_l, zcat_r, zkd_0, zkd_20, zkd_43, zkd_45, zkd_51, zkd_53, zkd_55, zkd_57, zkd_59, zkd_a50, zrf_0_2, zrf_0_6, Int.cast_ofNat_Int, Int.reduceAdd, false_and, and_false, true_and, and_true, true_or, or_true, false_or, or_false, Option.toList, List.nil_append, List.cons_append, zif0, zif1, zif01, zem1, zem2, Int.reduceEq, Int.reduceLT, Int.reduceLE, Int.reduceNeg, Int.reduceSub, Int.reduceMul, if_true, if_false, not_false_eq_true, not_true_eq_false, true_implies, false_implies, Classical.not_not, Nat.reduceAdd, Nat.reduceLeDiff, zq75, gA_0 hI.1.2.1, gA_1 hI.1.2.1, gA_2 hI.1.2.1, gA_3 hI.1.2.1, gA_4 hI.1.2.1, gA_5 hI.1.2.1, gA_6 hI.1.2.1, gA_7 hI.1.2.1, gA_8 hI.1.2.1, gA_9 hI.1.2.1, gA_r0 hI.1.2.1, gA_r1 hI.1.2.1, gA_r2 hI.1.2.1, gA_r3 hI.1.2.1, gA_f0 hI.1.2.1, gA_f1 hI.1.2.1, gA_f2 hI.1.2.1, gA_f3 hI.1.2.1, gA_f4 hI.1.2.1, gA_d hI.1, gI_s0 hI, gI_s1 hI, gI_s2 hI, gI_s3 hI, gI_s4 hI, gI_s5 hI, gI_n hI]
      refine gK (gz13 hI.1 b4 ⟨by decide, by decide⟩) rfl rfl (Nat.le_of_ble_eq_true rfl) ?_
      rintro _ m1 ⟨rfl, hA1, hE1, hC1⟩
      have e := hC1 p q c1.1 c1.2 c2.1 c2.2
      have bd := gC_bd hI.1.1 (s := gSn V 4) (x := -1) (p := p) (q := q)
      have h39 : 0 ≤ m1 39 (p * 6 + q) ∧ m1 39 (p * 6 + q) < 1000000000 := by rw [e]; omega
      simp +contextual (disch := (first | omega | assumption | decide)) only [↓zbrT, ↓zbrF, zw87_0, zw87_1, zw87_2, zw87_3, zr_1, zr_3, zr_7, zr_10, zr_12, zr_61, zr_62, zr_68, zr_70, zlg_0, zlg_s, zrc_1, zrc_s, zcat_n, zcat_i, zcat_l, zcat_r, zkd_0, zkd_20, zkd_43, zkd_45, zkd_51, zkd_53, zkd_55, zkd_57, zkd_59, zkd_a50, zrf_0_2, zrf_0_6, Int.cast_ofNat_Int, Int.reduceAdd, false_and, and_false, true_and, and_true, true_or, or_true, false_or, or_false, Option.toList, List.nil_append, List.cons_append, zif0, zif1, zif01, zem1, zem2, Int.reduceEq, Int.reduceLT, Int.reduceLE, Int.reduceNeg, Int.reduceSub, Int.reduceMul, if_true, if_false, not_false_eq_true, not_true_eq_false, true_implies, false_implies, Classical.not_not, Nat.reduceAdd, Nat.reduceLeDiff, zq16 (p := p) (q := q) ⟨c1.1, by omega⟩ ⟨c2.1, by omega⟩ h39, e]
      (first | exact gI_e hI hA1 hE1 | exact ⟨rfl, gI_e hI hA1 hE1⟩)
    · rw [if_neg (fun z => c2 z.2)]
      simp +contextual (disch := (first | omega | assumption | decide)) only [↓zbrT, ↓zbrF, zw87_0, zw87_1, zw87_2, zw87_3, zr_1, zr_3, zr_7, zr_10, zr_12, zr_61, zr_62, zr_68, zr_70, zlg_0, zlg_s, zrc_1, zrc_s, zcat_n, zcat_i, zcat_l, zcat_r, zkd_0, zkd_20, zkd_43, zkd_45, zkd_51, zkd_53, zkd_55, zkd_57, zkd_59, zkd_a50, zrf_0_2, zrf_0_6, Int.cast_ofNat_Int, Int.reduceAdd, false_and, and_false, true_and, and_true, true_or, or_true, false_or, or_false, Option.toList, List.nil_append, List.cons_append, zif0, zif1, zif01, zem1, zem2, Int.reduceEq, Int.reduceLT, Int.reduceLE, Int.reduceNeg, Int.reduceSub, Int.reduceMul, if_true, if_false, not_false_eq_true, not_true_eq_false, true_implies, false_implies, Classical.not_not, Nat.reduceAdd, Nat.reduceLeDiff, zq75, gA_0 hI.1.2.1, gA_1 hI.1.2.1, gA_2 hI.1.2.1, gA_3 hI.1.2.1, gA_4 hI.1.2.1, gA_5 hI.1.2.1, gA_6 hI.1.2.1, gA_7 hI.1.2.1, gA_8 hI.1.2.1, gA_9 hI.1.2.1, gA_r0 hI.1.2.1, gA_r1 hI.1.2.1, gA_r2 hI.1.2.1, gA_r3 hI.1.2.1, gA_f0 hI.1.2.1, gA_f1 hI.1.2.1, gA_f2 hI.1.2.1, gA_f3 hI.1.2.1, gA_f4 hI.1.2.1, gA_d hI.1, gI_s0 hI, gI_s1 hI, gI_s2 hI, gI_s3 hI, gI_s4 hI, gI_s5 hI, gI_n hI]
      (first | exact ⟨hI, gX_refl⟩ | exact ⟨rfl, hI, gX_refl⟩)
  · rw [if_neg (fun z => c1 z.1)]
    simp +contextual (disch := (first | omega | assumption | decide)) only [↓zbrT, ↓zbrF, zw87_0, zw87_1, zw87_2, zw87_3, zr_1, zr_3, zr_7, zr_10, zr_12, zr_61, zr_62, zr_68, zr_70, zlg_0, zlg_s, zrc_1, zrc_s, zcat_n, zcat_i, zcat_l, zcat_r, zkd_0, zkd_20, zkd_43, zkd_45, zkd_51, zkd_53, zkd_55, zkd_57, zkd_59, zkd_a50, zrf_0_2, zrf_0_6, Int.cast_ofNat_Int, Int.reduceAdd, false_and, and_false, true_and, and_true, true_or, or_true, false_or, or_false, Option.toList, List.nil_append, List.cons_append, zif0, zif1, zif01, zem1, zem2, Int.reduceEq, Int.reduceLT, Int.reduceLE, Int.reduceNeg, Int.reduceSub, Int.reduceMul, if_true, if_false, not_false_eq_true, not_true_eq_false, true_implies, false_implies, Classical.not_not, Nat.reduceAdd, Nat.reduceLeDiff, zq75, gA_0 hI.1.2.1, gA_1 hI.1.2.1, gA_2 hI.1.2.1, gA_3 hI.1.2.1, gA_4 hI.1.2.1, gA_5 hI.1.2.1, gA_6 hI.1.2.1, gA_7 hI.1.2.1, gA_8 hI.1.2.1, gA_9 hI.1.2.1, gA_r0 hI.1.2.1, gA_r1 hI.1.2.1, gA_r2 hI.1.2.1, gA_r3 hI.1.2.1, gA_f0 hI.1.2.1, gA_f1 hI.1.2.1, gA_f2 hI.1.2.1, gA_f3 hI.1.2.1, gA_f4 hI.1.2.1, gA_d hI.1, gI_s0 hI, gI_s1 hI, gI_s2 hI, gI_s3 hI, gI_s4 hI, gI_s5 hI, gI_n hI]
    (first | exact ⟨hI, gX_refl⟩ | exact ⟨rfl, hI, gX_refl⟩)
theorem gz225 {d : Nat} {m : zMm} {p : Int} {q : Int} {V : zMm} (hQ : gQ V m) : zC (d + 14) 225 [.inr (.inr 131), .inl p, .inl q] m (fun r' m' => r' = some (.inl (sp87 V p q)) ∧ gY m m') := by
  refine ze225 ?_
  have hb := hQ.1.1
  have hY0 : gY m (zmu m 131 0 0) := gY_u (by decide)
  have hQ0 := gQ_y hQ hY0
  have h5 : 0 ≤ zmu m 131 0 0 138 5 ∧ zmu m 131 0 0 138 5 ≤ 8 := by rw [gM_5 hQ0.2.2.1]; omega
  have h6 : 0 ≤ zmu m 131 0 0 138 6 ∧ zmu m 131 0 0 138 6 ≤ 6 := by rw [gM_6 hQ0.2.2.1]; omega
  have h0 : 0 ≤ zmu m 131 0 0 138 0 ∧ zmu m 131 0 0 138 0 ≤ 6 := by rw [gM_0 hQ0.2.2.1]; omega
  have b4 := (gSk hQ).2.2.2.2.1
  unfold sp87
  by_cases c1 : 0 ≤ p ∧ p < V 0 0
  · by_cases c2 : 0 ≤ q ∧ q < V 0 0
    · rw [if_pos ⟨c1, c2⟩]
      simp +contextual (disch := (first | omega | assumption | decide)) only [↓zbrT, ↓zbrF, zw225_0, zw225_1, zw225_2, zw225_3, zw225_4, zw225_5, zw225_6, zr_1, zr_3, zr_7, zr_10, zr_13, zr_54, zr_56, zr_61, zr_62, zr_68, zr_70, zr_73, zlg_0, zlg_s, zrc_1, zrc_s, zcat_n, zcat_i, zcat_l, zcat_r, zkd_131, Int.cast_ofNat_Int, Int.reduceAdd, zmu_same, zmu_c, zmu_i, false_and, and_false, true_and, and_true, true_or, or_true, false_or, or_false, Option.toList, List.nil_append, List.cons_append, zif0, zif1, zif01, zem1, zem2, Int.reduceEq, Int.reduceLT, Int.reduceLE, Int.reduceNeg, Int.reduceSub, Int.reduceMul, if_true, if_false, not_false_eq_true, not_true_eq_false, true_implies, false_implies, Classical.not_not, Nat.reduceAdd, Nat.reduceLeDiff, zq206 h0, gM_0 hQ.2.2.1, gM_1 hQ.2.2.1, gM_2 hQ.2.2.1, gM_3 hQ.2.2.1, gM_4 hQ.2.2.1, gM_5 hQ.2.2.1, gM_6 hQ.2.2.1, gM_7 hQ.2.2.1, gM_8 hQ.2.2.1, gM_9 hQ.2.2.1, gM_10 hQ.2.2.1, gM_r0 hQ.2.2.1, gM_r1 hQ.2.2.1, gM_r2 hQ.2.2.1, gM_r3 hQ.2.2.1, gM_f0 hQ.2.2.1, gM_f1 hQ.2.2.1, gM_f2 hQ.2.2.1, gM_f3 hQ.2.2.1, gM_f4 hQ.2.2.1]
      refine gK (gzL hQ0) rfl rfl (Nat.le_of_ble_eq_true rfl) ?_
      rintro _ m1 ⟨rfl, hL, hY⟩
      have hQ1 := gQ_y hQ0 hY
      have fin : gY m m1 := gY_tr hY0 hY
      simp +contextual (disch := (first | omega | assumption | decide)) only [↓zbrT, ↓zbrF, zw225_0, zw225_1, zw225_2, zw225_3, zw225_4, zw225_5, zw225_6, zr_1, zr_3, zr_7, zr_10, zr_13, zr_54, zr_56, zr_61, zr_62, zr_68, zr_70, zr_73, zlg_0, zlg_s, zrc_1, zrc_s, zcat_n, zcat_i, zcat_l, zcat_r, zkd_131, Int.cast_ofNat_Int, Int.reduceAdd, zmu_same, zmu_c, zmu_i, false_and, and_false, true_and, and_true, true_or, or_true, false_or, or_false, Option.toList, List.nil_append, List.cons_append, zif0, zif1, zif01, zem1, zem2, Int.reduceEq, Int.reduceLT, Int.reduceLE, Int.reduceNeg, Int.reduceSub, Int.reduceMul, if_true, if_false, not_false_eq_true, not_true_eq_false, true_implies, false_implies, Classical.not_not, Nat.reduceAdd, Nat.reduceLeDiff, gL_4 hL]
      refine gK (gz211 hQ.1 hQ1.2.2.1 c1 c2 b4) rfl rfl (Nat.le_of_ble_eq_true rfl) ?_
      rintro _ m2 ⟨rfl, hW, hF⟩
      have fin2 : gY m m2 := gY_tr fin (gY_w hW)
      rcases hF with ⟨f1, f2⟩ | ⟨f1, f2, f3, f4, f5, f6⟩
      · rw [if_pos (by omega)]
        simp +contextual (disch := (first | omega | assumption | decide)) only [↓zbrT, ↓zbrF, zw225_0, zw225_1, zw225_2, zw225_3, zw225_4, zw225_5, zw225_6, zr_1, zr_3, zr_7, zr_10, zr_13, zr_54, zr_56, zr_61, zr_62, zr_68, zr_70, zr_73, zlg_0, zlg_s, zrc_1, zrc_s, zcat_n, zcat_i, zcat_l, zcat_r, zkd_131, Int.cast_ofNat_Int, Int.reduceAdd, zmu_same, zmu_c, zmu_i, false_and, and_false, true_and, and_true, true_or, or_true, false_or, or_false, Option.toList, List.nil_append, List.cons_append, zif0, zif1, zif01, zem1, zem2, Int.reduceEq, Int.reduceLT, Int.reduceLE, Int.reduceNeg, Int.reduceSub, Int.reduceMul, if_true, if_false, not_false_eq_true, not_true_eq_false, true_implies, false_implies, Classical.not_not, Nat.reduceAdd, Nat.reduceLeDiff, f2]
        exact fin2
      · rw [if_neg (by omega)]
        have nl : ¬ ((gTV V (gSn V 4) q 6 p).length : Int) = -1 := by omega
        simp +contextual (disch := (first | omega | assumption | decide)) only [↓zbrT, ↓zbrF, zw225_0, zw225_1, zw225_2, zw225_3, zw225_4, zw225_5, zw225_6, zr_1, zr_3, zr_7, zr_10, zr_13, zr_54, zr_56, zr_61, zr_62, zr_68, zr_70, zr_73, zlg_0, zlg_s, zrc_1, zrc_s, zcat_n, zcat_i, zcat_l, zcat_r, zkd_131, Int.cast_ofNat_Int, Int.reduceAdd, zmu_same, zmu_c, zmu_i, false_and, and_false, true_and, and_true, true_or, or_true, false_or, or_false, Option.toList, List.nil_append, List.cons_append, zif0, zif1, zif01, zem1, zem2, Int.reduceEq, Int.reduceLT, Int.reduceLE, Int.reduceNeg, Int.reduceSub, Int.reduceMul, if_true, if_false, not_false_eq_true, not_true_eq_false, true_implies, false_implies, Classical.not_not, Nat.reduceAdd, Nat.reduceLeDiff, f2, f3, nl]
        exact fin2
    · rw [if_neg (fun z => c2 z.2)]
      simp +contextual (disch := (first | omega | assumption | decide)) only [↓zbrT, ↓zbrF, zw225_0, zw225_1, zw225_2, zw225_3, zw225_4, zw225_5, zw225_6, zr_1, zr_3, zr_7, zr_10, zr_13, zr_54, zr_56, zr_61, zr_62, zr_68, zr_70, zr_73, zlg_0, zlg_s, zrc_1, zrc_s, zcat_n, zcat_i, zcat_l, zcat_r, zkd_131, Int.cast_ofNat_Int, Int.reduceAdd, zmu_same, zmu_c, zmu_i, false_and, and_false, true_and, and_true, true_or, or_true, false_or, or_false, Option.toList, List.nil_append, List.cons_append, zif0, zif1, zif01, zem1, zem2, Int.reduceEq, Int.reduceLT, Int.reduceLE, Int.reduceNeg, Int.reduceSub, Int.reduceMul, if_true, if_false, not_false_eq_true, not_true_eq_false, true_implies, false_implies, Classical.not_not, Nat.reduceAdd, Nat.reduceLeDiff, zq206 h0, gM_0 hQ.2.2.1, gM_1 hQ.2.2.1, gM_2 hQ.2.2.1, gM_3 hQ.2.2.1, gM_4 hQ.2.2.1, gM_5 hQ.2.2.1, gM_6 hQ.2.2.1, gM_7 hQ.2.2.1, gM_8 hQ.2.2.1, gM_9 hQ.2.2.1, gM_10 hQ.2.2.1, gM_r0 hQ.2.2.1, gM_r1 hQ.2.2.1, gM_r2 hQ.2.2.1, gM_r3 hQ.2.2.1, gM_f0 hQ.2.2.1, gM_f1 hQ.2.2.1, gM_f2 hQ.2.2.1, gM_f3 hQ.2.2.1, gM_f4 hQ.2.2.1]
      (first | exact hY0 | exact ⟨rfl, hY0⟩)
  · rw [if_neg (fun z => c1 z.1)]
    simp +contextual (disch := (first | omega | assumption | decide)) only [↓zbrT, ↓zbrF, zw225_0, zw225_1, zw225_2, zw225_3, zw225_4, zw225_5, zw225_6, zr_1, zr_3, zr_7, zr_10, zr_13, zr_54, zr_56, zr_61, zr_62, zr_68, zr_70, zr_73, zlg_0, zlg_s, zrc_1, zrc_s, zcat_n, zcat_i, zcat_l, zcat_r, zkd_131, Int.cast_ofNat_Int, Int.reduceAdd, zmu_same, zmu_c, zmu_i, false_and, and_false, true_and, and_true, true_or, or_true, false_or, or_false, Option.toList, List.nil_append, List.cons_append, zif0, zif1, zif01, zem1, zem2, Int.reduceEq, Int.reduceLT, Int.reduceLE, Int.reduceNeg, Int.reduceSub, Int.reduceMul, if_true, if_false, not_false_eq_true, not_true_eq_false, true_implies, false_implies, Classical.not_not, Nat.reduceAdd, Nat.reduceLeDiff, zq206 h0, gM_0 hQ.2.2.1, gM_1 hQ.2.2.1, gM_2 hQ.2.2.1, gM_3 hQ.2.2.1, gM_4 hQ.2.2.1, gM_5 hQ.2.2.1, gM_6 hQ.2.2.1, gM_7 hQ.2.2.1, gM_8 hQ.2.2.1, gM_9 hQ.2.2.1, gM_10 hQ.2.2.1, gM_r0 hQ.2.2.1, gM_r1 hQ.2.2.1, gM_r2 hQ.2.2.1, gM_r3 hQ.2.2.1, gM_f0 hQ.2.2.1, gM_f1 hQ.2.2.1, gM_f2 hQ.2.2.1, gM_f3 hQ.2.2.1, gM_f4 hQ.2.2.1]
    (first | exact hY0 | exact ⟨rfl, hY0⟩)
def sp88 (V : zMm) (f i : Int) : Int := if 0 ≤ f ∧ f < V 0 6 then (if 0 ≤ i ∧ i < (gWy V (gSn V 4) f).length then (gWy V (gSn V 4) f).getD i.toNat 0 else -1) else -2
theorem gTV_len {V : zMm} {s v : Int} : ∀ (k : Nat) (u : Int), (gTV V s v k u).length ≤ k
  | 0, u => by rw [gTV_0]; exact Nat.le_refl _
  | k + 1, u => by
    rw [gTV_s]
    split
    · exact Nat.zero_le _
    · split
      · exact Nat.zero_le _
      · rw [List.length_cons]
        have := gTV_len (V := V) (s := s) (v := v) k (gBy (vA V) (vB V) (gNx V s v u (V 0 5).toNat) u)
        omega
theorem gz88 {d : Nat} {m : zMm} {f : Int} {i : Int} {V : zMm} (hI : gI V m) : zC (d + 5) 88 [.inr (.inr 0), .inl f, .inl i] m (fun r' m' => r' = some (.inl (sp88 V f i)) ∧ gI V m' ∧ gX m m') := by
  refine ze88 ?_
  have hb := gA_b hI.1
  have b4 := (gI_k hI).1.2.2.2.2.1
  unfold sp88
  by_cases c1 : 0 ≤ f ∧ f < V 0 6
  · rw [if_pos c1]
    simp +contextual (disch := (first | omega | assumption | decide)) only [↓zbrT, ↓zbrF, zw88_0, zw88_1, zw88_2, zw88_3, zw88_4, zw88_5, zw88_6, zr_1, zr_3, zr_4, zr_7, zr_10, zr_12, zr_16, zr_54, zr_58, zr_62, zr_63, zr_68, zr_70, zr_73, zlg_0, zlg_s, zls_0, zls_1, zls_s, zkl_i, zkl_r, zkl_l, zkl_n, zrc_1, zrc_s, zcat_n, zcat_i, zcat_l, zcat_r, zkd_0, zkd_20, zkd_41, zkd_43, zkd_45, zkd_51, zkd_53, zkd_55, zkd_57, zkd_59, zkd_a50, zln_41, zrf_0_2, zrf_0_6, zrf_20_4, Int.cast_ofNat_Int, Int.reduceAdd, zbd, false_and, and_false, true_and, and_true, true_or, or_true, false_or, or_false, Option.toList, List.nil_append, List.cons_append, zif0, zif1, zif01, zem1, zem2, Int.reduceEq, Int.reduceLT, Int.reduceLE, Int.reduceNeg, Int.reduceSub, Int.reduceMul, if_true, if_false, not_false_eq_true, not_true_eq_false, true_implies, false_implies, Classical.not_not, Nat.reduceAdd, Nat.reduceLeDiff, zq79, gA_0 hI.1.2.1, gA_1 hI.1.2.1, gA_2 hI.1.2.1, gA_3 hI.1.2.1, gA_4 hI.1.2.1, gA_5 hI.1.2.1, gA_6 hI.1.2.1, gA_7 hI.1.2.1, gA_8 hI.1.2.1, gA_9 hI.1.2.1, gA_r0 hI.1.2.1, gA_r1 hI.1.2.1, gA_r2 hI.1.2.1, gA_r3 hI.1.2.1, gA_f0 hI.1.2.1, gA_f1 hI.1.2.1, gA_f2 hI.1.2.1, gA_f3 hI.1.2.1, gA_f4 hI.1.2.1, gA_d hI.1, gI_s0 hI, gI_s1 hI, gI_s2 hI, gI_s3 hI, gI_s4 hI, gI_s5 hI, gI_n hI]
    refine gK (gz23 hI.1 c1 b4) rfl rfl (Nat.le_of_ble_eq_true rfl) ?_
    rintro _ m1 ⟨rfl, hA1, hE1, hT1⟩
    have hl : (gWy V (gSn V 4) f).length ≤ 6 := gTV_len 6 _
    by_cases c2 : 0 ≤ i ∧ i < (gWy V (gSn V 4) f).length
    · rw [if_pos c2]
      have e := hT1 i.toNat (by omega)
      rw [show ((i.toNat : Nat) : Int) = i by omega] at e
      simp +contextual (disch := (first | omega | assumption | decide)) only [↓zbrT, ↓zbrF, zw88_0, zw88_1, zw88_2, zw88_3, zw88_4, zw88_5, zw88_6, zr_1, zr_3, zr_4, zr_7, zr_10, zr_12, zr_16, zr_54, zr_58, zr_62, zr_63, zr_68, zr_70, zr_73, zlg_0, zlg_s, zls_0, zls_1, zls_s, zkl_i, zkl_r, zkl_l, zkl_n, zrc_1, zrc_s, zcat_n, zcat_i, zcat_l, zcat_r, zkd_0, zkd_20, zkd_41, zkd_43, zkd_45, zkd_51, zkd_53, zkd_55, zkd_57, zkd_59, zkd_a50, zln_41, zrf_0_2, zrf_0_6, zrf_20_4, Int.cast_ofNat_Int, Int.reduceAdd, zbd, false_and, and_false, true_and, and_true, true_or, or_true, false_or, or_false, Option.toList, List.nil_append, List.cons_append, zif0, zif1, zif01, zem1, zem2, Int.reduceEq, Int.reduceLT, Int.reduceLE, Int.reduceNeg, Int.reduceSub, Int.reduceMul, if_true, if_false, not_false_eq_true, not_true_eq_false, true_implies, false_implies, Classical.not_not, Nat.reduceAdd, Nat.reduceLeDiff, e]
      (first | exact gI_e hI hA1 hE1 | exact ⟨rfl, gI_e hI hA1 hE1⟩)
    · rw [if_neg c2]
      by_cases c3 : i < 0
      · simp +contextual (disch := (first | omega | assumption | decide)) only [↓zbrT, ↓zbrF, zw88_0, zw88_1, zw88_2, zw88_3, zw88_4, zw88_5, zw88_6, zr_1, zr_3, zr_4, zr_7, zr_10, zr_12, zr_16, zr_54, zr_58, zr_62, zr_63, zr_68, zr_70, zr_73, zlg_0, zlg_s, zls_0, zls_1, zls_s, zkl_i, zkl_r, zkl_l, zkl_n, zrc_1, zrc_s, zcat_n, zcat_i, zcat_l, zcat_r, zkd_0, zkd_20, zkd_41, zkd_43, zkd_45, zkd_51, zkd_53, zkd_55, zkd_57, zkd_59, zkd_a50, zln_41, zrf_0_2, zrf_0_6, zrf_20_4, Int.cast_ofNat_Int, Int.reduceAdd, zbd, false_and, and_false, true_and, and_true, true_or, or_true, false_or, or_false, Option.toList, List.nil_append, List.cons_append, zif0, zif1, zif01, zem1, zem2, Int.reduceEq, Int.reduceLT, Int.reduceLE, Int.reduceNeg, Int.reduceSub, Int.reduceMul, if_true, if_false, not_false_eq_true, not_true_eq_false, true_implies, false_implies, Classical.not_not, Nat.reduceAdd, Nat.reduceLeDiff]
        (first | exact gI_e hI hA1 hE1 | exact ⟨rfl, gI_e hI hA1 hE1⟩)
      · simp +contextual (disch := (first | omega | assumption | decide)) only [↓zbrT, ↓zbrF, zw88_0, zw88_1, zw88_2, zw88_3, zw88_4, zw88_5, zw88_6, zr_1, zr_3, zr_4, zr_7, zr_10, zr_12, zr_16, zr_54, zr_58, zr_62, zr_63, zr_68, zr_70, zr_73, zlg_0, zlg_s, zls_0, zls_1, zls_s, zkl_i, zkl_r, zkl_l, zkl_n, zrc_1, zrc_s, zcat_n, zcat_i, zcat_l, zcat_r, zkd_0, zkd_20, zkd_41, zkd_43, zkd_45, zkd_51, zkd_53, zkd_55, zkd_57, zkd_59, zkd_a50, zln_41, zrf_0_2, zrf_0_6, zrf_20_4, Int.cast_ofNat_Int, Int.reduceAdd, zbd, false_and, and_false, true_and, and_true, true_or, or_true, false_or, or_false, Option.toList, List.nil_append, List.cons_append, zif0, zif1, zif01, zem1, zem2, Int.reduceEq, Int.reduceLT, Int.reduceLE, Int.reduceNeg, Int.reduceSub, Int.reduceMul, if_true, if_false, not_false_eq_true, not_true_eq_false, true_implies, false_implies, Classical.not_not, Nat.reduceAdd, Nat.reduceLeDiff]
        (first | exact gI_e hI hA1 hE1 | exact ⟨rfl, gI_e hI hA1 hE1⟩)
  · rw [if_neg c1]
    simp +contextual (disch := (first | omega | assumption | decide)) only [↓zbrT, ↓zbrF, zw88_0, zw88_1, zw88_2, zw88_3, zw88_4, zw88_5, zw88_6, zr_1, zr_3, zr_4, zr_7, zr_10, zr_12, zr_16, zr_54, zr_58, zr_62, zr_63, zr_68, zr_70, zr_73, zlg_0, zlg_s, zls_0, zls_1, zls_s, zkl_i, zkl_r, zkl_l, zkl_n, zrc_1, zrc_s, zcat_n, zcat_i, zcat_l, zcat_r, zkd_0, zkd_20, zkd_41, zkd_43, zkd_45, zkd_51, zkd_53, zkd_55, zkd_57, zkd_59, zkd_a50, zln_41, zrf_0_2, zrf_0_6, zrf_20_4, Int.cast_ofNat_Int, Int.reduceAdd, zbd, false_and, and_false, true_and, and_true, true_or, or_true, false_or, or_false, Option.toList, List.nil_append, List.cons_append, zif0, zif1, zif01, zem1, zem2, Int.reduceEq, Int.reduceLT, Int.reduceLE, Int.reduceNeg, Int.reduceSub, Int.reduceMul, if_true, if_false, not_false_eq_true, not_true_eq_false, true_implies, false_implies, Classical.not_not, Nat.reduceAdd, Nat.reduceLeDiff, zq79, gA_0 hI.1.2.1, gA_1 hI.1.2.1, gA_2 hI.1.2.1, gA_3 hI.1.2.1, gA_4 hI.1.2.1, gA_5 hI.1.2.1, gA_6 hI.1.2.1, gA_7 hI.1.2.1, gA_8 hI.1.2.1, gA_9 hI.1.2.1, gA_r0 hI.1.2.1, gA_r1 hI.1.2.1, gA_r2 hI.1.2.1, gA_r3 hI.1.2.1, gA_f0 hI.1.2.1, gA_f1 hI.1.2.1, gA_f2 hI.1.2.1, gA_f3 hI.1.2.1, gA_f4 hI.1.2.1, gA_d hI.1, gI_s0 hI, gI_s1 hI, gI_s2 hI, gI_s3 hI, gI_s4 hI, gI_s5 hI, gI_n hI]
    (first | exact ⟨hI, gX_refl⟩ | exact ⟨rfl, hI, gX_refl⟩)
theorem gz226 {d : Nat} {m : zMm} {f : Int} {i : Int} {V : zMm} (hQ : gQ V m) : zC (d + 14) 226 [.inr (.inr 131), .inl f, .inl i] m (fun r' m' => r' = some (.inl (sp88 V f i)) ∧ gY m m') := by
  refine ze226 ?_
  have hb := hQ.1.1
  have hY0 : gY m (zmu m 131 0 0) := gY_u (by decide)
  have hQ0 := gQ_y hQ hY0
  have h5 : 0 ≤ zmu m 131 0 0 138 5 ∧ zmu m 131 0 0 138 5 ≤ 8 := by rw [gM_5 hQ0.2.2.1]; omega
  have h6 : 0 ≤ zmu m 131 0 0 138 6 ∧ zmu m 131 0 0 138 6 ≤ 6 := by rw [gM_6 hQ0.2.2.1]; omega
  have h0 : 0 ≤ zmu m 131 0 0 138 0 ∧ zmu m 131 0 0 138 0 ≤ 6 := by rw [gM_0 hQ0.2.2.1]; omega
  have b4 := (gSk hQ).2.2.2.2.1
  unfold sp88
  by_cases c1 : 0 ≤ f ∧ f < V 0 6
  · rw [if_pos c1]
    simp +contextual (disch := (first | omega | assumption | decide)) only [↓zbrT, ↓zbrF, zw226_0, zw226_1, zw226_2, zw226_3, zw226_4, zw226_5, zw226_6, zr_1, zr_3, zr_7, zr_8, zr_10, zr_12, zr_13, zr_16, zr_27, zr_46, zr_54, zr_61, zr_62, zr_68, zr_69, zr_70, zr_73, zlg_0, zlg_s, zrc_1, zrc_s, zcat_n, zcat_i, zcat_l, zcat_r, zkd_131, zkd_144, zln_144, zrf_131_23, Int.cast_ofNat_Int, Int.reduceAdd, zbd, zw_id, zmu_same, zmu_c, zmu_i, false_and, and_false, true_and, and_true, true_or, or_true, false_or, or_false, Option.toList, List.nil_append, List.cons_append, zif0, zif1, zif01, zem1, zem2, Int.reduceEq, Int.reduceLT, Int.reduceLE, Int.reduceNeg, Int.reduceSub, Int.reduceMul, if_true, if_false, not_false_eq_true, not_true_eq_false, true_implies, false_implies, Classical.not_not, Nat.reduceAdd, Nat.reduceLeDiff, zq205 h6, gM_0 hQ.2.2.1, gM_1 hQ.2.2.1, gM_2 hQ.2.2.1, gM_3 hQ.2.2.1, gM_4 hQ.2.2.1, gM_5 hQ.2.2.1, gM_6 hQ.2.2.1, gM_7 hQ.2.2.1, gM_8 hQ.2.2.1, gM_9 hQ.2.2.1, gM_10 hQ.2.2.1, gM_r0 hQ.2.2.1, gM_r1 hQ.2.2.1, gM_r2 hQ.2.2.1, gM_r3 hQ.2.2.1, gM_f0 hQ.2.2.1, gM_f1 hQ.2.2.1, gM_f2 hQ.2.2.1, gM_f3 hQ.2.2.1, gM_f4 hQ.2.2.1]
    refine gK (gzL hQ0) rfl rfl (Nat.le_of_ble_eq_true rfl) ?_
    rintro _ m1 ⟨rfl, hL, hY⟩
    have hQ1 := gQ_y hQ0 hY
    have fin : gY m m1 := gY_tr hY0 hY
    simp +contextual (disch := (first | omega | assumption | decide)) only [↓zbrT, ↓zbrF, zw226_0, zw226_1, zw226_2, zw226_3, zw226_4, zw226_5, zw226_6, zr_1, zr_3, zr_7, zr_8, zr_10, zr_12, zr_13, zr_16, zr_27, zr_46, zr_54, zr_61, zr_62, zr_68, zr_69, zr_70, zr_73, zlg_0, zlg_s, zrc_1, zrc_s, zcat_n, zcat_i, zcat_l, zcat_r, zkd_131, zkd_144, zln_144, zrf_131_23, Int.cast_ofNat_Int, Int.reduceAdd, zbd, zw_id, zmu_same, zmu_c, zmu_i, false_and, and_false, true_and, and_true, true_or, or_true, false_or, or_false, Option.toList, List.nil_append, List.cons_append, zif0, zif1, zif01, zem1, zem2, Int.reduceEq, Int.reduceLT, Int.reduceLE, Int.reduceNeg, Int.reduceSub, Int.reduceMul, if_true, if_false, not_false_eq_true, not_true_eq_false, true_implies, false_implies, Classical.not_not, Nat.reduceAdd, Nat.reduceLeDiff, gL_4 hL]
    refine gK (gz212 hQ.1 hQ1.2.2.1 c1 b4) rfl rfl (Nat.le_of_ble_eq_true rfl) ?_
    rintro _ m2 ⟨rfl, hW, hF⟩
    have fin2 : gY m m2 := gY_tr fin (gY_w hW)
    have bf := hQ.1.2.2 f c1.1 c1.2
    rcases hF with ⟨f1, f2⟩ | ⟨f1, f2, f3, f4, f5, f6⟩
    · have e : gWy V (gSn V 4) f = [] := by
        unfold gWy
        rw [gTV_s, if_neg bf.2.2.1, if_pos (gNx_far hQ.1 f1 _ (by omega))]
      have e2 : (if 0 ≤ i ∧ i < ((gWy V (gSn V 4) f).length : Int) then (gWy V (gSn V 4) f).getD i.toNat 0 else -1) = -1 := by rw [e]; exact if_neg (by show ¬ (0 ≤ i ∧ i < ((0 : Nat) : Int)); omega)
      rw [e2]
      simp +contextual (disch := (first | omega | assumption | decide)) only [↓zbrT, ↓zbrF, zw226_0, zw226_1, zw226_2, zw226_3, zw226_4, zw226_5, zw226_6, zr_1, zr_3, zr_7, zr_8, zr_10, zr_12, zr_13, zr_16, zr_27, zr_46, zr_54, zr_61, zr_62, zr_68, zr_69, zr_70, zr_73, zlg_0, zlg_s, zrc_1, zrc_s, zcat_n, zcat_i, zcat_l, zcat_r, zkd_131, zkd_144, zln_144, zrf_131_23, Int.cast_ofNat_Int, Int.reduceAdd, zbd, zw_id, zmu_same, zmu_c, zmu_i, false_and, and_false, true_and, and_true, true_or, or_true, false_or, or_false, Option.toList, List.nil_append, List.cons_append, zif0, zif1, zif01, zem1, zem2, Int.reduceEq, Int.reduceLT, Int.reduceLE, Int.reduceNeg, Int.reduceSub, Int.reduceMul, if_true, if_false, not_false_eq_true, not_true_eq_false, true_implies, false_implies, Classical.not_not, Nat.reduceAdd, Nat.reduceLeDiff, if_pos f1]
      exact fin2
    · have nf : ¬ gC V (gSn V 4) (-1) (vF V f 0) (vF V f 1) = 268435456 := by omega
      have ew : gTV V (gSn V 4) (vF V f 1) 6 (vF V f 0) = gWy V (gSn V 4) f := rfl
      rw [ew] at f2 f5 f6
      by_cases c2 : 0 ≤ i ∧ i < (gWy V (gSn V 4) f).length
      · rw [if_pos c2]
        have e := f6 i.toNat (by omega)
        rw [show ((i.toNat : Nat) : Int) = i by omega] at e
        simp +contextual (disch := (first | omega | assumption | decide)) only [↓zbrT, ↓zbrF, zw226_0, zw226_1, zw226_2, zw226_3, zw226_4, zw226_5, zw226_6, zr_1, zr_3, zr_7, zr_8, zr_10, zr_12, zr_13, zr_16, zr_27, zr_46, zr_54, zr_61, zr_62, zr_68, zr_69, zr_70, zr_73, zlg_0, zlg_s, zrc_1, zrc_s, zcat_n, zcat_i, zcat_l, zcat_r, zkd_131, zkd_144, zln_144, zrf_131_23, Int.cast_ofNat_Int, Int.reduceAdd, zbd, zw_id, zmu_same, zmu_c, zmu_i, false_and, and_false, true_and, and_true, true_or, or_true, false_or, or_false, Option.toList, List.nil_append, List.cons_append, zif0, zif1, zif01, zem1, zem2, Int.reduceEq, Int.reduceLT, Int.reduceLE, Int.reduceNeg, Int.reduceSub, Int.reduceMul, if_true, if_false, not_false_eq_true, not_true_eq_false, true_implies, false_implies, Classical.not_not, Nat.reduceAdd, Nat.reduceLeDiff, if_neg nf, f2, zq170, e]
        exact fin2
      · rw [if_neg c2]
        simp +contextual (disch := (first | omega | assumption | decide)) only [↓zbrT, ↓zbrF, zw226_0, zw226_1, zw226_2, zw226_3, zw226_4, zw226_5, zw226_6, zr_1, zr_3, zr_7, zr_8, zr_10, zr_12, zr_13, zr_16, zr_27, zr_46, zr_54, zr_61, zr_62, zr_68, zr_69, zr_70, zr_73, zlg_0, zlg_s, zrc_1, zrc_s, zcat_n, zcat_i, zcat_l, zcat_r, zkd_131, zkd_144, zln_144, zrf_131_23, Int.cast_ofNat_Int, Int.reduceAdd, zbd, zw_id, zmu_same, zmu_c, zmu_i, false_and, and_false, true_and, and_true, true_or, or_true, false_or, or_false, Option.toList, List.nil_append, List.cons_append, zif0, zif1, zif01, zem1, zem2, Int.reduceEq, Int.reduceLT, Int.reduceLE, Int.reduceNeg, Int.reduceSub, Int.reduceMul, if_true, if_false, not_false_eq_true, not_true_eq_false, true_implies, false_implies, Classical.not_not, Nat.reduceAdd, Nat.reduceLeDiff, if_neg nf, f2, zq170]
        exact fin2
  · rw [if_neg c1]
    simp +contextual (disch := (first | omega | assumption | decide)) only [↓zbrT, ↓zbrF, zw226_0, zw226_1, zw226_2, zw226_3, zw226_4, zw226_5, zw226_6, zr_1, zr_3, zr_7, zr_8, zr_10, zr_12, zr_13, zr_16, zr_27, zr_46, zr_54, zr_61, zr_62, zr_68, zr_69, zr_70, zr_73, zlg_0, zlg_s, zrc_1, zrc_s, zcat_n, zcat_i, zcat_l, zcat_r, zkd_131, zkd_144, zln_144, zrf_131_23, Int.cast_ofNat_Int, Int.reduceAdd, zbd, zw_id, zmu_same, zmu_c, zmu_i, false_and, and_false, true_and, and_true, true_or, or_true, false_or, or_false, Option.toList, List.nil_append, List.cons_append, zif0, zif1, zif01, zem1, zem2, Int.reduceEq, Int.reduceLT, Int.reduceLE, Int.reduceNeg, Int.reduceSub, Int.reduceMul, if_true, if_false, not_false_eq_true, not_true_eq_false, true_implies, false_implies, Classical.not_not, Nat.reduceAdd, Nat.reduceLeDiff, zq205 h6, gM_0 hQ.2.2.1, gM_1 hQ.2.2.1, gM_2 hQ.2.2.1, gM_3 hQ.2.2.1, gM_4 hQ.2.2.1, gM_5 hQ.2.2.1, gM_6 hQ.2.2.1, gM_7 hQ.2.2.1, gM_8 hQ.2.2.1, gM_9 hQ.2.2.1, gM_10 hQ.2.2.1, gM_r0 hQ.2.2.1, gM_r1 hQ.2.2.1, gM_r2 hQ.2.2.1, gM_r3 hQ.2.2.1, gM_f0 hQ.2.2.1, gM_f1 hQ.2.2.1, gM_f2 hQ.2.2.1, gM_f3 hQ.2.2.1, gM_f4 hQ.2.2.1]
    (first | exact hY0 | exact ⟨rfl, hY0⟩)
def sp89 (V : zMm) (f : Int) : Int := if 0 ≤ f ∧ f < V 0 6 then gFa V (gSn V 4) f else -2
theorem gz89 {d : Nat} {m : zMm} {f : Int} {V : zMm} (hI : gI V m) : zC (d + 4) 89 [.inr (.inr 0), .inl f] m (fun r' m' => r' = some (.inl (sp89 V f)) ∧ gI V m' ∧ gX m m') := by
  refine ze89 ?_
  have hb := gA_b hI.1
  have b4 := (gI_k hI).1.2.2.2.2.1
  unfold sp89
  by_cases c1 : 0 ≤ f ∧ f < V 0 6
  · rw [if_pos c1]
    simp +contextual (disch := (first | omega | assumption | decide)) only [↓zbrT, ↓zbrF, zw89_0, zw89_1, zw89_2, zr_1, zr_3, zr_7, zr_10, zr_12, zr_62, zr_68, zr_70, zlg_0, zlg_s, zrc_1, zrc_s, zcat_n, zcat_i, zcat_l, zcat_r, zkd_0, zkd_20, zkd_43, zkd_45, zkd_51, zkd_53, zkd_55, zkd_57, zkd_59, zkd_a50, zrf_0_2, zrf_0_6, Int.cast_ofNat_Int, Int.reduceAdd, false_and, and_false, true_and, and_true, true_or, or_true, false_or, or_false, Option.toList, List.nil_append, List.cons_append, zif0, zif1, zif01, zem1, zem2, Int.reduceEq, Int.reduceLT, Int.reduceLE, Int.reduceNeg, Int.reduceSub, Int.reduceMul, if_true, if_false, not_false_eq_true, not_true_eq_false, true_implies, false_implies, Classical.not_not, Nat.reduceAdd, Nat.reduceLeDiff, zq79, gA_0 hI.1.2.1, gA_1 hI.1.2.1, gA_2 hI.1.2.1, gA_3 hI.1.2.1, gA_4 hI.1.2.1, gA_5 hI.1.2.1, gA_6 hI.1.2.1, gA_7 hI.1.2.1, gA_8 hI.1.2.1, gA_9 hI.1.2.1, gA_r0 hI.1.2.1, gA_r1 hI.1.2.1, gA_r2 hI.1.2.1, gA_r3 hI.1.2.1, gA_f0 hI.1.2.1, gA_f1 hI.1.2.1, gA_f2 hI.1.2.1, gA_f3 hI.1.2.1, gA_f4 hI.1.2.1, gA_d hI.1, gI_s0 hI, gI_s1 hI, gI_s2 hI, gI_s3 hI, gI_s4 hI, gI_s5 hI, gI_n hI]
    refine gK (gz13 hI.1 b4 ⟨by decide, by decide⟩) rfl rfl (Nat.le_of_ble_eq_true rfl) ?_
    rintro _ m1 ⟨rfl, hA1, hE1, hC1⟩
    simp +contextual (disch := (first | omega | assumption | decide)) only [↓zbrT, ↓zbrF, zw89_0, zw89_1, zw89_2, zr_1, zr_3, zr_7, zr_10, zr_12, zr_62, zr_68, zr_70, zlg_0, zlg_s, zrc_1, zrc_s, zcat_n, zcat_i, zcat_l, zcat_r, zkd_0, zkd_20, zkd_43, zkd_45, zkd_51, zkd_53, zkd_55, zkd_57, zkd_59, zkd_a50, zrf_0_2, zrf_0_6, Int.cast_ofNat_Int, Int.reduceAdd, false_and, and_false, true_and, and_true, true_or, or_true, false_or, or_false, Option.toList, List.nil_append, List.cons_append, zif0, zif1, zif01, zem1, zem2, Int.reduceEq, Int.reduceLT, Int.reduceLE, Int.reduceNeg, Int.reduceSub, Int.reduceMul, if_true, if_false, not_false_eq_true, not_true_eq_false, true_implies, false_implies, Classical.not_not, Nat.reduceAdd, Nat.reduceLeDiff, zq17 hA1 hC1 c1]
    (first | exact gI_e hI hA1 hE1 | exact ⟨rfl, gI_e hI hA1 hE1⟩)
  · rw [if_neg c1]
    simp +contextual (disch := (first | omega | assumption | decide)) only [↓zbrT, ↓zbrF, zw89_0, zw89_1, zw89_2, zr_1, zr_3, zr_7, zr_10, zr_12, zr_62, zr_68, zr_70, zlg_0, zlg_s, zrc_1, zrc_s, zcat_n, zcat_i, zcat_l, zcat_r, zkd_0, zkd_20, zkd_43, zkd_45, zkd_51, zkd_53, zkd_55, zkd_57, zkd_59, zkd_a50, zrf_0_2, zrf_0_6, Int.cast_ofNat_Int, Int.reduceAdd, false_and, and_false, true_and, and_true, true_or, or_true, false_or, or_false, Option.toList, List.nil_append, List.cons_append, zif0, zif1, zif01, zem1, zem2, Int.reduceEq, Int.reduceLT, Int.reduceLE, Int.reduceNeg, Int.reduceSub, Int.reduceMul, if_true, if_false, not_false_eq_true, not_true_eq_false, true_implies, false_implies, Classical.not_not, Nat.reduceAdd, Nat.reduceLeDiff, zq79, gA_0 hI.1.2.1, gA_1 hI.1.2.1, gA_2 hI.1.2.1, gA_3 hI.1.2.1, gA_4 hI.1.2.1, gA_5 hI.1.2.1, gA_6 hI.1.2.1, gA_7 hI.1.2.1, gA_8 hI.1.2.1, gA_9 hI.1.2.1, gA_r0 hI.1.2.1, gA_r1 hI.1.2.1, gA_r2 hI.1.2.1, gA_r3 hI.1.2.1, gA_f0 hI.1.2.1, gA_f1 hI.1.2.1, gA_f2 hI.1.2.1, gA_f3 hI.1.2.1, gA_f4 hI.1.2.1, gA_d hI.1, gI_s0 hI, gI_s1 hI, gI_s2 hI, gI_s3 hI, gI_s4 hI, gI_s5 hI, gI_n hI]
    (first | exact ⟨hI, gX_refl⟩ | exact ⟨rfl, hI, gX_refl⟩)
theorem gz227 {d : Nat} {m : zMm} {f : Int} {V : zMm} (hQ : gQ V m) : zC (d + 14) 227 [.inr (.inr 131), .inl f] m (fun r' m' => r' = some (.inl (sp89 V f)) ∧ gY m m') := by
  refine ze227 ?_
  have hb := hQ.1.1
  have hY0 : gY m (zmu m 131 0 0) := gY_u (by decide)
  have hQ0 := gQ_y hQ hY0
  have h5 : 0 ≤ zmu m 131 0 0 138 5 ∧ zmu m 131 0 0 138 5 ≤ 8 := by rw [gM_5 hQ0.2.2.1]; omega
  have h6 : 0 ≤ zmu m 131 0 0 138 6 ∧ zmu m 131 0 0 138 6 ≤ 6 := by rw [gM_6 hQ0.2.2.1]; omega
  have h0 : 0 ≤ zmu m 131 0 0 138 0 ∧ zmu m 131 0 0 138 0 ≤ 6 := by rw [gM_0 hQ0.2.2.1]; omega
  have b4 := (gSk hQ).2.2.2.2.1
  unfold sp89
  by_cases c1 : 0 ≤ f ∧ f < V 0 6
  · rw [if_pos c1]
    simp +contextual (disch := (first | omega | assumption | decide)) only [↓zbrT, ↓zbrF, zw227_0, zw227_1, zw227_2, zr_1, zr_3, zr_7, zr_10, zr_13, zr_62, zr_68, zr_70, zlg_0, zlg_s, zrc_1, zrc_s, zcat_n, zcat_i, zcat_l, zcat_r, zkd_131, Int.cast_ofNat_Int, Int.reduceAdd, zmu_same, zmu_c, zmu_i, false_and, and_false, true_and, and_true, true_or, or_true, false_or, or_false, Option.toList, List.nil_append, List.cons_append, zif0, zif1, zif01, zem1, zem2, Int.reduceEq, Int.reduceLT, Int.reduceLE, Int.reduceNeg, Int.reduceSub, Int.reduceMul, if_true, if_false, not_false_eq_true, not_true_eq_false, true_implies, false_implies, Classical.not_not, Nat.reduceAdd, Nat.reduceLeDiff, zq205 h6, gM_0 hQ.2.2.1, gM_1 hQ.2.2.1, gM_2 hQ.2.2.1, gM_3 hQ.2.2.1, gM_4 hQ.2.2.1, gM_5 hQ.2.2.1, gM_6 hQ.2.2.1, gM_7 hQ.2.2.1, gM_8 hQ.2.2.1, gM_9 hQ.2.2.1, gM_10 hQ.2.2.1, gM_r0 hQ.2.2.1, gM_r1 hQ.2.2.1, gM_r2 hQ.2.2.1, gM_r3 hQ.2.2.1, gM_f0 hQ.2.2.1, gM_f1 hQ.2.2.1, gM_f2 hQ.2.2.1, gM_f3 hQ.2.2.1, gM_f4 hQ.2.2.1]
    refine gK (gzL hQ0) rfl rfl (Nat.le_of_ble_eq_true rfl) ?_
    rintro _ m1 ⟨rfl, hL, hY⟩
    have hQ1 := gQ_y hQ0 hY
    have fin : gY m m1 := gY_tr hY0 hY
    simp +contextual (disch := (first | omega | assumption | decide)) only [↓zbrT, ↓zbrF, zw227_0, zw227_1, zw227_2, zr_1, zr_3, zr_7, zr_10, zr_13, zr_62, zr_68, zr_70, zlg_0, zlg_s, zrc_1, zrc_s, zcat_n, zcat_i, zcat_l, zcat_r, zkd_131, Int.cast_ofNat_Int, Int.reduceAdd, zmu_same, zmu_c, zmu_i, false_and, and_false, true_and, and_true, true_or, or_true, false_or, or_false, Option.toList, List.nil_append, List.cons_append, zif0, zif1, zif01, zem1, zem2, Int.reduceEq, Int.reduceLT, Int.reduceLE, Int.reduceNeg, Int.reduceSub, Int.reduceMul, if_true, if_false, not_false_eq_true, not_true_eq_false, true_implies, false_implies, Classical.not_not, Nat.reduceAdd, Nat.reduceLeDiff, gL_4 hL]
    refine gK (gz213 hQ.1 hQ1.2.2.1 c1 b4) rfl rfl (Nat.le_of_ble_eq_true rfl) ?_
    rintro _ m2 ⟨rfl, hW⟩
    (try simp +contextual (disch := (first | omega | assumption | decide)) only [↓zbrT, ↓zbrF, zw227_0, zw227_1, zw227_2, zr_1, zr_3, zr_7, zr_10, zr_13, zr_62, zr_68, zr_70, zlg_0, zlg_s, zrc_1, zrc_s, zcat_n, zcat_i, zcat_l, zcat_r, zkd_131, Int.cast_ofNat_Int, Int.reduceAdd, zmu_same, zmu_c, zmu_i, false_and, and_false, true_and, and_true, true_or, or_true, false_or, or_false, Option.toList, List.nil_append, List.cons_append, zif0, zif1, zif01, zem1, zem2, Int.reduceEq, Int.reduceLT, Int.reduceLE, Int.reduceNeg, Int.reduceSub, Int.reduceMul, if_true, if_false, not_false_eq_true, not_true_eq_false, true_implies, false_implies, Classical.not_not, Nat.reduceAdd, Nat.reduceLeDiff])
    (first | exact gY_tr fin (gY_w hW) | exact ⟨rfl, gY_tr fin (gY_w hW)⟩)
  · rw [if_neg c1]
    simp +contextual (disch := (first | omega | assumption | decide)) only [↓zbrT, ↓zbrF, zw227_0, zw227_1, zw227_2, zr_1, zr_3, zr_7, zr_10, zr_13, zr_62, zr_68, zr_70, zlg_0, zlg_s, zrc_1, zrc_s, zcat_n, zcat_i, zcat_l, zcat_r, zkd_131, Int.cast_ofNat_Int, Int.reduceAdd, zmu_same, zmu_c, zmu_i, false_and, and_false, true_and, and_true, true_or, or_true, false_or, or_false, Option.toList, List.nil_append, List.cons_append, zif0, zif1, zif01, zem1, zem2, Int.reduceEq, Int.reduceLT, Int.reduceLE, Int.reduceNeg, Int.reduceSub, Int.reduceMul, if_true, if_false, not_false_eq_true, not_true_eq_false, true_implies, false_implies, Classical.not_not, Nat.reduceAdd, Nat.reduceLeDiff, zq205 h6, gM_0 hQ.2.2.1, gM_1 hQ.2.2.1, gM_2 hQ.2.2.1, gM_3 hQ.2.2.1, gM_4 hQ.2.2.1, gM_5 hQ.2.2.1, gM_6 hQ.2.2.1, gM_7 hQ.2.2.1, gM_8 hQ.2.2.1, gM_9 hQ.2.2.1, gM_10 hQ.2.2.1, gM_r0 hQ.2.2.1, gM_r1 hQ.2.2.1, gM_r2 hQ.2.2.1, gM_r3 hQ.2.2.1, gM_f0 hQ.2.2.1, gM_f1 hQ.2.2.1, gM_f2 hQ.2.2.1, gM_f3 hQ.2.2.1, gM_f4 hQ.2.2.1]
    (first | exact hY0 | exact ⟨rfl, hY0⟩)
def sp92 (V : zMm) (f : Int) : Int := if 0 ≤ f ∧ f < V 0 6 then (if 268435456 ≤ gC V (gSn V 4) (-1) (vF V f 0) (vF V f 1) then -1 else gC V (gSn V 4) (-1) (vF V f 0) (vF V f 1) % 1024) else -2
theorem gz92 {d : Nat} {m : zMm} {f : Int} {V : zMm} (hI : gI V m) : zC (d + 4) 92 [.inr (.inr 0), .inl f] m (fun r' m' => r' = some (.inl (sp92 V f)) ∧ gI V m' ∧ gX m m') := by
  refine ze92 ?_
  have hb := gA_b hI.1
  have b4 := (gI_k hI).1.2.2.2.2.1
  unfold sp92
  by_cases c1 : 0 ≤ f ∧ f < V 0 6
  · rw [if_pos c1]
    simp +contextual (disch := (first | omega | assumption | decide)) only [↓zbrT, ↓zbrF, zw92_0, zw92_1, zw92_2, zr_1, zr_3, zr_7, zr_10, zr_12, zr_62, zr_68, zr_70, zlg_0, zlg_s, zrc_1, zrc_s, zcat_n, zcat_i, zcat_l, zcat_r, zkd_0, zkd_20, zkd_43, zkd_45, zkd_51, zkd_53, zkd_55, zkd_57, zkd_59, zkd_a50, zrf_0_2, zrf_0_6, Int.cast_ofNat_Int, Int.reduceAdd, false_and, and_false, true_and, and_true, true_or, or_true, false_or, or_false, Option.toList, List.nil_append, List.cons_append, zif0, zif1, zif01, zem1, zem2, Int.reduceEq, Int.reduceLT, Int.reduceLE, Int.reduceNeg, Int.reduceSub, Int.reduceMul, if_true, if_false, not_false_eq_true, not_true_eq_false, true_implies, false_implies, Classical.not_not, Nat.reduceAdd, Nat.reduceLeDiff, zq79, gA_0 hI.1.2.1, gA_1 hI.1.2.1, gA_2 hI.1.2.1, gA_3 hI.1.2.1, gA_4 hI.1.2.1, gA_5 hI.1.2.1, gA_6 hI.1.2.1, gA_7 hI.1.2.1, gA_8 hI.1.2.1, gA_9 hI.1.2.1, gA_r0 hI.1.2.1, gA_r1 hI.1.2.1, gA_r2 hI.1.2.1, gA_r3 hI.1.2.1, gA_f0 hI.1.2.1, gA_f1 hI.1.2.1, gA_f2 hI.1.2.1, gA_f3 hI.1.2.1, gA_f4 hI.1.2.1, gA_d hI.1, gI_s0 hI, gI_s1 hI, gI_s2 hI, gI_s3 hI, gI_s4 hI, gI_s5 hI, gI_n hI]
    refine gK (gz13 hI.1 b4 ⟨by decide, by decide⟩) rfl rfl (Nat.le_of_ble_eq_true rfl) ?_
    rintro _ m1 ⟨rfl, hA1, hE1, hC1⟩
    simp +contextual (disch := (first | omega | assumption | decide)) only [↓zbrT, ↓zbrF, zw92_0, zw92_1, zw92_2, zr_1, zr_3, zr_7, zr_10, zr_12, zr_62, zr_68, zr_70, zlg_0, zlg_s, zrc_1, zrc_s, zcat_n, zcat_i, zcat_l, zcat_r, zkd_0, zkd_20, zkd_43, zkd_45, zkd_51, zkd_53, zkd_55, zkd_57, zkd_59, zkd_a50, zrf_0_2, zrf_0_6, Int.cast_ofNat_Int, Int.reduceAdd, false_and, and_false, true_and, and_true, true_or, or_true, false_or, or_false, Option.toList, List.nil_append, List.cons_append, zif0, zif1, zif01, zem1, zem2, Int.reduceEq, Int.reduceLT, Int.reduceLE, Int.reduceNeg, Int.reduceSub, Int.reduceMul, if_true, if_false, not_false_eq_true, not_true_eq_false, true_implies, false_implies, Classical.not_not, Nat.reduceAdd, Nat.reduceLeDiff, zq18 hA1 hC1 c1]
    (first | exact gI_e hI hA1 hE1 | exact ⟨rfl, gI_e hI hA1 hE1⟩)
  · rw [if_neg c1]
    simp +contextual (disch := (first | omega | assumption | decide)) only [↓zbrT, ↓zbrF, zw92_0, zw92_1, zw92_2, zr_1, zr_3, zr_7, zr_10, zr_12, zr_62, zr_68, zr_70, zlg_0, zlg_s, zrc_1, zrc_s, zcat_n, zcat_i, zcat_l, zcat_r, zkd_0, zkd_20, zkd_43, zkd_45, zkd_51, zkd_53, zkd_55, zkd_57, zkd_59, zkd_a50, zrf_0_2, zrf_0_6, Int.cast_ofNat_Int, Int.reduceAdd, false_and, and_false, true_and, and_true, true_or, or_true, false_or, or_false, Option.toList, List.nil_append, List.cons_append, zif0, zif1, zif01, zem1, zem2, Int.reduceEq, Int.reduceLT, Int.reduceLE, Int.reduceNeg, Int.reduceSub, Int.reduceMul, if_true, if_false, not_false_eq_true, not_true_eq_false, true_implies, false_implies, Classical.not_not, Nat.reduceAdd, Nat.reduceLeDiff, zq79, gA_0 hI.1.2.1, gA_1 hI.1.2.1, gA_2 hI.1.2.1, gA_3 hI.1.2.1, gA_4 hI.1.2.1, gA_5 hI.1.2.1, gA_6 hI.1.2.1, gA_7 hI.1.2.1, gA_8 hI.1.2.1, gA_9 hI.1.2.1, gA_r0 hI.1.2.1, gA_r1 hI.1.2.1, gA_r2 hI.1.2.1, gA_r3 hI.1.2.1, gA_f0 hI.1.2.1, gA_f1 hI.1.2.1, gA_f2 hI.1.2.1, gA_f3 hI.1.2.1, gA_f4 hI.1.2.1, gA_d hI.1, gI_s0 hI, gI_s1 hI, gI_s2 hI, gI_s3 hI, gI_s4 hI, gI_s5 hI, gI_n hI]
    (first | exact ⟨hI, gX_refl⟩ | exact ⟨rfl, hI, gX_refl⟩)
theorem gz248 {d : Nat} {m : zMm} {f : Int} {V : zMm} (hQ : gQ V m) : zC (d + 14) 248 [.inr (.inr 131), .inl f] m (fun r' m' => r' = some (.inl (sp92 V f)) ∧ gY m m') := by
  refine ze248 ?_
  have hb := hQ.1.1
  have hY0 : gY m (zmu m 131 0 0) := gY_u (by decide)
  have hQ0 := gQ_y hQ hY0
  have h5 : 0 ≤ zmu m 131 0 0 138 5 ∧ zmu m 131 0 0 138 5 ≤ 8 := by rw [gM_5 hQ0.2.2.1]; omega
  have h6 : 0 ≤ zmu m 131 0 0 138 6 ∧ zmu m 131 0 0 138 6 ≤ 6 := by rw [gM_6 hQ0.2.2.1]; omega
  have h0 : 0 ≤ zmu m 131 0 0 138 0 ∧ zmu m 131 0 0 138 0 ≤ 6 := by rw [gM_0 hQ0.2.2.1]; omega
  have b4 := (gSk hQ).2.2.2.2.1
  unfold sp92
  by_cases c1 : 0 ≤ f ∧ f < V 0 6
  · rw [if_pos c1]
    simp +contextual (disch := (first | omega | assumption | decide)) only [↓zbrT, ↓zbrF, zw248_0, zw248_1, zw248_2, zw248_3, zw248_4, zw248_5, zr_1, zr_3, zr_7, zr_10, zr_13, zr_54, zr_61, zr_62, zr_68, zr_70, zr_73, zlg_0, zlg_s, zrc_1, zrc_s, zcat_n, zcat_i, zcat_l, zcat_r, zkd_131, Int.cast_ofNat_Int, Int.reduceAdd, zmu_same, zmu_c, zmu_i, false_and, and_false, true_and, and_true, true_or, or_true, false_or, or_false, Option.toList, List.nil_append, List.cons_append, zif0, zif1, zif01, zem1, zem2, Int.reduceEq, Int.reduceLT, Int.reduceLE, Int.reduceNeg, Int.reduceSub, Int.reduceMul, if_true, if_false, not_false_eq_true, not_true_eq_false, true_implies, false_implies, Classical.not_not, Nat.reduceAdd, Nat.reduceLeDiff, zq205 h6, gM_0 hQ.2.2.1, gM_1 hQ.2.2.1, gM_2 hQ.2.2.1, gM_3 hQ.2.2.1, gM_4 hQ.2.2.1, gM_5 hQ.2.2.1, gM_6 hQ.2.2.1, gM_7 hQ.2.2.1, gM_8 hQ.2.2.1, gM_9 hQ.2.2.1, gM_10 hQ.2.2.1, gM_r0 hQ.2.2.1, gM_r1 hQ.2.2.1, gM_r2 hQ.2.2.1, gM_r3 hQ.2.2.1, gM_f0 hQ.2.2.1, gM_f1 hQ.2.2.1, gM_f2 hQ.2.2.1, gM_f3 hQ.2.2.1, gM_f4 hQ.2.2.1]
    refine gK (gzL hQ0) rfl rfl (Nat.le_of_ble_eq_true rfl) ?_
    rintro _ m1 ⟨rfl, hL, hY⟩
    have hQ1 := gQ_y hQ0 hY
    have fin : gY m m1 := gY_tr hY0 hY
    simp +contextual (disch := (first | omega | assumption | decide)) only [↓zbrT, ↓zbrF, zw248_0, zw248_1, zw248_2, zw248_3, zw248_4, zw248_5, zr_1, zr_3, zr_7, zr_10, zr_13, zr_54, zr_61, zr_62, zr_68, zr_70, zr_73, zlg_0, zlg_s, zrc_1, zrc_s, zcat_n, zcat_i, zcat_l, zcat_r, zkd_131, Int.cast_ofNat_Int, Int.reduceAdd, zmu_same, zmu_c, zmu_i, false_and, and_false, true_and, and_true, true_or, or_true, false_or, or_false, Option.toList, List.nil_append, List.cons_append, zif0, zif1, zif01, zem1, zem2, Int.reduceEq, Int.reduceLT, Int.reduceLE, Int.reduceNeg, Int.reduceSub, Int.reduceMul, if_true, if_false, not_false_eq_true, not_true_eq_false, true_implies, false_implies, Classical.not_not, Nat.reduceAdd, Nat.reduceLeDiff, gL_4 hL]
    refine gK (gz212 hQ.1 hQ1.2.2.1 c1 b4) rfl rfl (Nat.le_of_ble_eq_true rfl) ?_
    rintro _ m2 ⟨rfl, hW, hF⟩
    have fin2 : gY m m2 := gY_tr fin (gY_w hW)
    rcases hF with ⟨f1, f2⟩ | ⟨f1, f2, f3, f4, f5, f6⟩
    · rw [if_pos (show 268435456 ≤ gC V (gSn V 4) (-1) (vF V f 0) (vF V f 1) by omega)]
      simp +contextual (disch := (first | omega | assumption | decide)) only [↓zbrT, ↓zbrF, zw248_0, zw248_1, zw248_2, zw248_3, zw248_4, zw248_5, zr_1, zr_3, zr_7, zr_10, zr_13, zr_54, zr_61, zr_62, zr_68, zr_70, zr_73, zlg_0, zlg_s, zrc_1, zrc_s, zcat_n, zcat_i, zcat_l, zcat_r, zkd_131, Int.cast_ofNat_Int, Int.reduceAdd, zmu_same, zmu_c, zmu_i, false_and, and_false, true_and, and_true, true_or, or_true, false_or, or_false, Option.toList, List.nil_append, List.cons_append, zif0, zif1, zif01, zem1, zem2, Int.reduceEq, Int.reduceLT, Int.reduceLE, Int.reduceNeg, Int.reduceSub, Int.reduceMul, if_true, if_false, not_false_eq_true, not_true_eq_false, true_implies, false_implies, Classical.not_not, Nat.reduceAdd, Nat.reduceLeDiff, if_pos f1]
      exact fin2
    · have nf : ¬ gC V (gSn V 4) (-1) (vF V f 0) (vF V f 1) = 268435456 := by omega
      rw [if_neg (show ¬ 268435456 ≤ gC V (gSn V 4) (-1) (vF V f 0) (vF V f 1) by omega)]
      simp +contextual (disch := (first | omega | assumption | decide)) only [↓zbrT, ↓zbrF, zw248_0, zw248_1, zw248_2, zw248_3, zw248_4, zw248_5, zr_1, zr_3, zr_7, zr_10, zr_13, zr_54, zr_61, zr_62, zr_68, zr_70, zr_73, zlg_0, zlg_s, zrc_1, zrc_s, zcat_n, zcat_i, zcat_l, zcat_r, zkd_131, Int.cast_ofNat_Int, Int.reduceAdd, zmu_same, zmu_c, zmu_i, false_and, and_false, true_and, and_true, true_or, or_true, false_or, or_false, Option.toList, List.nil_append, List.cons_append, zif0, zif1, zif01, zem1, zem2, Int.reduceEq, Int.reduceLT, Int.reduceLE, Int.reduceNeg, Int.reduceSub, Int.reduceMul, if_true, if_false, not_false_eq_true, not_true_eq_false, true_implies, false_implies, Classical.not_not, Nat.reduceAdd, Nat.reduceLeDiff, if_neg nf, f4]
      exact fin2
  · rw [if_neg c1]
    simp +contextual (disch := (first | omega | assumption | decide)) only [↓zbrT, ↓zbrF, zw248_0, zw248_1, zw248_2, zw248_3, zw248_4, zw248_5, zr_1, zr_3, zr_7, zr_10, zr_13, zr_54, zr_61, zr_62, zr_68, zr_70, zr_73, zlg_0, zlg_s, zrc_1, zrc_s, zcat_n, zcat_i, zcat_l, zcat_r, zkd_131, Int.cast_ofNat_Int, Int.reduceAdd, zmu_same, zmu_c, zmu_i, false_and, and_false, true_and, and_true, true_or, or_true, false_or, or_false, Option.toList, List.nil_append, List.cons_append, zif0, zif1, zif01, zem1, zem2, Int.reduceEq, Int.reduceLT, Int.reduceLE, Int.reduceNeg, Int.reduceSub, Int.reduceMul, if_true, if_false, not_false_eq_true, not_true_eq_false, true_implies, false_implies, Classical.not_not, Nat.reduceAdd, Nat.reduceLeDiff, zq205 h6, gM_0 hQ.2.2.1, gM_1 hQ.2.2.1, gM_2 hQ.2.2.1, gM_3 hQ.2.2.1, gM_4 hQ.2.2.1, gM_5 hQ.2.2.1, gM_6 hQ.2.2.1, gM_7 hQ.2.2.1, gM_8 hQ.2.2.1, gM_9 hQ.2.2.1, gM_10 hQ.2.2.1, gM_r0 hQ.2.2.1, gM_r1 hQ.2.2.1, gM_r2 hQ.2.2.1, gM_r3 hQ.2.2.1, gM_f0 hQ.2.2.1, gM_f1 hQ.2.2.1, gM_f2 hQ.2.2.1, gM_f3 hQ.2.2.1, gM_f4 hQ.2.2.1]
    (first | exact hY0 | exact ⟨rfl, hY0⟩)
def sp93 (V : zMm) : Int := if V 0 10 = 0 then -2 else gTk V (gSn V 4)
theorem gz93 {d : Nat} {m : zMm} {V : zMm} (hI : gI V m) : zC (d + 5) 93 [.inr (.inr 0)] m (fun r' m' => r' = some (.inl (sp93 V)) ∧ gI V m' ∧ gX m m') := by
  refine ze93 ?_
  have b4 := (gI_k hI).1.2.2.2.2.1
  unfold sp93
  by_cases c1 : V 0 10 = 0
  · rw [if_pos c1]
    simp +contextual (disch := (first | omega | assumption | decide)) only [↓zbrT, ↓zbrF, zw93_0, zw93_1, zw93_2, zw93_3, zr_3, zr_7, zr_10, zr_12, zr_54, zr_61, zr_68, zr_70, zr_73, zlg_0, zlg_s, zrc_1, zrc_s, zcat_n, zcat_i, zcat_l, zcat_r, zkd_0, zkd_20, zkd_43, zkd_45, zkd_51, zkd_53, zkd_55, zkd_57, zkd_59, zkd_a50, zrf_0_2, zrf_0_6, Int.cast_ofNat_Int, Int.reduceAdd, false_and, and_false, true_and, and_true, true_or, or_true, false_or, or_false, Option.toList, List.nil_append, List.cons_append, zif0, zif1, zif01, zem1, zem2, Int.reduceEq, Int.reduceLT, Int.reduceLE, Int.reduceNeg, Int.reduceSub, Int.reduceMul, if_true, if_false, not_false_eq_true, not_true_eq_false, true_implies, false_implies, Classical.not_not, Nat.reduceAdd, Nat.reduceLeDiff, zq74, gA_0 hI.1.2.1, gA_1 hI.1.2.1, gA_2 hI.1.2.1, gA_3 hI.1.2.1, gA_4 hI.1.2.1, gA_5 hI.1.2.1, gA_6 hI.1.2.1, gA_7 hI.1.2.1, gA_8 hI.1.2.1, gA_9 hI.1.2.1, gA_r0 hI.1.2.1, gA_r1 hI.1.2.1, gA_r2 hI.1.2.1, gA_r3 hI.1.2.1, gA_f0 hI.1.2.1, gA_f1 hI.1.2.1, gA_f2 hI.1.2.1, gA_f3 hI.1.2.1, gA_f4 hI.1.2.1, gA_d hI.1, gI_s0 hI, gI_s1 hI, gI_s2 hI, gI_s3 hI, gI_s4 hI, gI_s5 hI, gI_n hI, if_pos c1]
    (first | exact ⟨hI, gX_refl⟩ | exact ⟨rfl, hI, gX_refl⟩)
  · rw [if_neg c1]
    simp +contextual (disch := (first | omega | assumption | decide)) only [↓zbrT, ↓zbrF, zw93_0, zw93_1, zw93_2, zw93_3, zr_3, zr_7, zr_10, zr_12, zr_54, zr_61, zr_68, zr_70, zr_73, zlg_0, zlg_s, zrc_1, zrc_s, zcat_n, zcat_i, zcat_l, zcat_r, zkd_0, zkd_20, zkd_43, zkd_45, zkd_51, zkd_53, zkd_55, zkd_57, zkd_59, zkd_a50, zrf_0_2, zrf_0_6, Int.cast_ofNat_Int, Int.reduceAdd, false_and, and_false, true_and, and_true, true_or, or_true, false_or, or_false, Option.toList, List.nil_append, List.cons_append, zif0, zif1, zif01, zem1, zem2, Int.reduceEq, Int.reduceLT, Int.reduceLE, Int.reduceNeg, Int.reduceSub, Int.reduceMul, if_true, if_false, not_false_eq_true, not_true_eq_false, true_implies, false_implies, Classical.not_not, Nat.reduceAdd, Nat.reduceLeDiff, zq74, gA_0 hI.1.2.1, gA_1 hI.1.2.1, gA_2 hI.1.2.1, gA_3 hI.1.2.1, gA_4 hI.1.2.1, gA_5 hI.1.2.1, gA_6 hI.1.2.1, gA_7 hI.1.2.1, gA_8 hI.1.2.1, gA_9 hI.1.2.1, gA_r0 hI.1.2.1, gA_r1 hI.1.2.1, gA_r2 hI.1.2.1, gA_r3 hI.1.2.1, gA_f0 hI.1.2.1, gA_f1 hI.1.2.1, gA_f2 hI.1.2.1, gA_f3 hI.1.2.1, gA_f4 hI.1.2.1, gA_d hI.1, gI_s0 hI, gI_s1 hI, gI_s2 hI, gI_s3 hI, gI_s4 hI, gI_s5 hI, gI_n hI, if_neg c1]
    refine gK (gz19 hI.1 b4) rfl rfl (Nat.le_of_ble_eq_true rfl) ?_
    rintro _ m1 ⟨rfl, hA1, hE1⟩
    (try simp +contextual (disch := (first | omega | assumption | decide)) only [↓zbrT, ↓zbrF, zw93_0, zw93_1, zw93_2, zw93_3, zr_3, zr_7, zr_10, zr_12, zr_54, zr_61, zr_68, zr_70, zr_73, zlg_0, zlg_s, zrc_1, zrc_s, zcat_n, zcat_i, zcat_l, zcat_r, zkd_0, zkd_20, zkd_43, zkd_45, zkd_51, zkd_53, zkd_55, zkd_57, zkd_59, zkd_a50, zrf_0_2, zrf_0_6, Int.cast_ofNat_Int, Int.reduceAdd, false_and, and_false, true_and, and_true, true_or, or_true, false_or, or_false, Option.toList, List.nil_append, List.cons_append, zif0, zif1, zif01, zem1, zem2, Int.reduceEq, Int.reduceLT, Int.reduceLE, Int.reduceNeg, Int.reduceSub, Int.reduceMul, if_true, if_false, not_false_eq_true, not_true_eq_false, true_implies, false_implies, Classical.not_not, Nat.reduceAdd, Nat.reduceLeDiff])
    (first | exact gI_e hI hA1 hE1 | exact ⟨rfl, gI_e hI hA1 hE1⟩)
theorem gz231 {d : Nat} {m : zMm} {V : zMm} (hQ : gQ V m) : zC (d + 14) 231 [.inr (.inr 131)] m (fun r' m' => r' = some (.inl (sp93 V)) ∧ gY m m') := by
  refine ze231 ?_
  have hb := hQ.1.1
  have hY0 : gY m (zmu m 131 0 0) := gY_u (by decide)
  have hQ0 := gQ_y hQ hY0
  have h5 : 0 ≤ zmu m 131 0 0 138 5 ∧ zmu m 131 0 0 138 5 ≤ 8 := by rw [gM_5 hQ0.2.2.1]; omega
  have h6 : 0 ≤ zmu m 131 0 0 138 6 ∧ zmu m 131 0 0 138 6 ≤ 6 := by rw [gM_6 hQ0.2.2.1]; omega
  have h0 : 0 ≤ zmu m 131 0 0 138 0 ∧ zmu m 131 0 0 138 0 ≤ 6 := by rw [gM_0 hQ0.2.2.1]; omega
  have b4 := (gSk hQ).2.2.2.2.1
  unfold sp93
  by_cases c1 : V 0 10 = 0
  · rw [if_pos c1]
    simp +contextual (disch := (first | omega | assumption | decide)) only [↓zbrT, ↓zbrF, zw231_0, zw231_1, zw231_2, zr_3, zr_7, zr_10, zr_13, zr_62, zr_68, zr_70, zlg_0, zlg_s, zrc_1, zrc_s, zcat_n, zcat_i, zcat_l, zcat_r, zkd_131, Int.cast_ofNat_Int, Int.reduceAdd, zmu_same, zmu_c, zmu_i, false_and, and_false, true_and, and_true, true_or, or_true, false_or, or_false, Option.toList, List.nil_append, List.cons_append, zif0, zif1, zif01, zem1, zem2, Int.reduceEq, Int.reduceLT, Int.reduceLE, Int.reduceNeg, Int.reduceSub, Int.reduceMul, if_true, if_false, not_false_eq_true, not_true_eq_false, true_implies, false_implies, Classical.not_not, Nat.reduceAdd, Nat.reduceLeDiff, zq202, gM_0 hQ.2.2.1, gM_1 hQ.2.2.1, gM_2 hQ.2.2.1, gM_3 hQ.2.2.1, gM_4 hQ.2.2.1, gM_5 hQ.2.2.1, gM_6 hQ.2.2.1, gM_7 hQ.2.2.1, gM_8 hQ.2.2.1, gM_9 hQ.2.2.1, gM_10 hQ.2.2.1, gM_r0 hQ.2.2.1, gM_r1 hQ.2.2.1, gM_r2 hQ.2.2.1, gM_r3 hQ.2.2.1, gM_f0 hQ.2.2.1, gM_f1 hQ.2.2.1, gM_f2 hQ.2.2.1, gM_f3 hQ.2.2.1, gM_f4 hQ.2.2.1]
    (first | exact hY0 | exact ⟨rfl, hY0⟩)
  · rw [if_neg c1]
    simp +contextual (disch := (first | omega | assumption | decide)) only [↓zbrT, ↓zbrF, zw231_0, zw231_1, zw231_2, zr_3, zr_7, zr_10, zr_13, zr_62, zr_68, zr_70, zlg_0, zlg_s, zrc_1, zrc_s, zcat_n, zcat_i, zcat_l, zcat_r, zkd_131, Int.cast_ofNat_Int, Int.reduceAdd, zmu_same, zmu_c, zmu_i, false_and, and_false, true_and, and_true, true_or, or_true, false_or, or_false, Option.toList, List.nil_append, List.cons_append, zif0, zif1, zif01, zem1, zem2, Int.reduceEq, Int.reduceLT, Int.reduceLE, Int.reduceNeg, Int.reduceSub, Int.reduceMul, if_true, if_false, not_false_eq_true, not_true_eq_false, true_implies, false_implies, Classical.not_not, Nat.reduceAdd, Nat.reduceLeDiff, zq202, gM_0 hQ.2.2.1, gM_1 hQ.2.2.1, gM_2 hQ.2.2.1, gM_3 hQ.2.2.1, gM_4 hQ.2.2.1, gM_5 hQ.2.2.1, gM_6 hQ.2.2.1, gM_7 hQ.2.2.1, gM_8 hQ.2.2.1, gM_9 hQ.2.2.1, gM_10 hQ.2.2.1, gM_r0 hQ.2.2.1, gM_r1 hQ.2.2.1, gM_r2 hQ.2.2.1, gM_r3 hQ.2.2.1, gM_f0 hQ.2.2.1, gM_f1 hQ.2.2.1, gM_f2 hQ.2.2.1, gM_f3 hQ.2.2.1, gM_f4 hQ.2.2.1]
    refine gK (gzL hQ0) rfl rfl (Nat.le_of_ble_eq_true rfl) ?_
    rintro _ m1 ⟨rfl, hL, hY⟩
    have hQ1 := gQ_y hQ0 hY
    have fin : gY m m1 := gY_tr hY0 hY
    simp +contextual (disch := (first | omega | assumption | decide)) only [↓zbrT, ↓zbrF, zw231_0, zw231_1, zw231_2, zr_3, zr_7, zr_10, zr_13, zr_62, zr_68, zr_70, zlg_0, zlg_s, zrc_1, zrc_s, zcat_n, zcat_i, zcat_l, zcat_r, zkd_131, Int.cast_ofNat_Int, Int.reduceAdd, zmu_same, zmu_c, zmu_i, false_and, and_false, true_and, and_true, true_or, or_true, false_or, or_false, Option.toList, List.nil_append, List.cons_append, zif0, zif1, zif01, zem1, zem2, Int.reduceEq, Int.reduceLT, Int.reduceLE, Int.reduceNeg, Int.reduceSub, Int.reduceMul, if_true, if_false, not_false_eq_true, not_true_eq_false, true_implies, false_implies, Classical.not_not, Nat.reduceAdd, Nat.reduceLeDiff, gL_4 hL]
    refine gK (gz214 hQ.1 hQ1.2.2.1 b4) rfl rfl (Nat.le_of_ble_eq_true rfl) ?_
    rintro _ m2 ⟨rfl, hW⟩
    (try simp +contextual (disch := (first | omega | assumption | decide)) only [↓zbrT, ↓zbrF, zw231_0, zw231_1, zw231_2, zr_3, zr_7, zr_10, zr_13, zr_62, zr_68, zr_70, zlg_0, zlg_s, zrc_1, zrc_s, zcat_n, zcat_i, zcat_l, zcat_r, zkd_131, Int.cast_ofNat_Int, Int.reduceAdd, zmu_same, zmu_c, zmu_i, false_and, and_false, true_and, and_true, true_or, or_true, false_or, or_false, Option.toList, List.nil_append, List.cons_append, zif0, zif1, zif01, zem1, zem2, Int.reduceEq, Int.reduceLT, Int.reduceLE, Int.reduceNeg, Int.reduceSub, Int.reduceMul, if_true, if_false, not_false_eq_true, not_true_eq_false, true_implies, false_implies, Classical.not_not, Nat.reduceAdd, Nat.reduceLeDiff])
    (first | exact gY_tr fin (gY_w hW) | exact ⟨rfl, gY_tr fin (gY_w hW)⟩)
def sp94 (V : zMm) : Int := if V 0 10 = 0 then -2 else gSn V 4
theorem gz94 {d : Nat} {m : zMm} {V : zMm} (hI : gI V m) : zC (d + 2) 94 [.inr (.inr 0)] m (fun r' m' => r' = some (.inl (sp94 V)) ∧ gI V m' ∧ gX m m') := by
  refine ze94 ?_
  unfold sp94
  by_cases c1 : V 0 10 = 0
  · rw [if_pos c1]
    simp +contextual (disch := (first | omega | assumption | decide)) only [↓zbrT, ↓zbrF, zw94_0, zw94_1, zw94_2, zw94_3, zr_3, zr_7, zr_10, zr_12, zr_54, zr_61, zr_68, zr_70, zr_73, zlg_0, zlg_s, zrc_1, zrc_s, zcat_n, zcat_i, zcat_l, zcat_r, zkd_0, zkd_43, zkd_45, zkd_51, zkd_53, zkd_55, zkd_57, zkd_59, zkd_a50, zrf_0_6, Int.cast_ofNat_Int, Int.reduceAdd, false_and, and_false, true_and, and_true, true_or, or_true, false_or, or_false, Option.toList, List.nil_append, List.cons_append, zif0, zif1, zif01, zem1, zem2, Int.reduceEq, Int.reduceLT, Int.reduceLE, Int.reduceNeg, Int.reduceSub, Int.reduceMul, if_true, if_false, not_false_eq_true, not_true_eq_false, true_implies, false_implies, Classical.not_not, Nat.reduceAdd, Nat.reduceLeDiff, zq74, gA_0 hI.1.2.1, gA_1 hI.1.2.1, gA_2 hI.1.2.1, gA_3 hI.1.2.1, gA_4 hI.1.2.1, gA_5 hI.1.2.1, gA_6 hI.1.2.1, gA_7 hI.1.2.1, gA_8 hI.1.2.1, gA_9 hI.1.2.1, gA_r0 hI.1.2.1, gA_r1 hI.1.2.1, gA_r2 hI.1.2.1, gA_r3 hI.1.2.1, gA_f0 hI.1.2.1, gA_f1 hI.1.2.1, gA_f2 hI.1.2.1, gA_f3 hI.1.2.1, gA_f4 hI.1.2.1, gA_d hI.1, gI_s0 hI, gI_s1 hI, gI_s2 hI, gI_s3 hI, gI_s4 hI, gI_s5 hI, gI_n hI, if_pos c1]
    (first | exact ⟨hI, gX_refl⟩ | exact ⟨rfl, hI, gX_refl⟩)
  · rw [if_neg c1]
    simp +contextual (disch := (first | omega | assumption | decide)) only [↓zbrT, ↓zbrF, zw94_0, zw94_1, zw94_2, zw94_3, zr_3, zr_7, zr_10, zr_12, zr_54, zr_61, zr_68, zr_70, zr_73, zlg_0, zlg_s, zrc_1, zrc_s, zcat_n, zcat_i, zcat_l, zcat_r, zkd_0, zkd_43, zkd_45, zkd_51, zkd_53, zkd_55, zkd_57, zkd_59, zkd_a50, zrf_0_6, Int.cast_ofNat_Int, Int.reduceAdd, false_and, and_false, true_and, and_true, true_or, or_true, false_or, or_false, Option.toList, List.nil_append, List.cons_append, zif0, zif1, zif01, zem1, zem2, Int.reduceEq, Int.reduceLT, Int.reduceLE, Int.reduceNeg, Int.reduceSub, Int.reduceMul, if_true, if_false, not_false_eq_true, not_true_eq_false, true_implies, false_implies, Classical.not_not, Nat.reduceAdd, Nat.reduceLeDiff, zq74, gA_0 hI.1.2.1, gA_1 hI.1.2.1, gA_2 hI.1.2.1, gA_3 hI.1.2.1, gA_4 hI.1.2.1, gA_5 hI.1.2.1, gA_6 hI.1.2.1, gA_7 hI.1.2.1, gA_8 hI.1.2.1, gA_9 hI.1.2.1, gA_r0 hI.1.2.1, gA_r1 hI.1.2.1, gA_r2 hI.1.2.1, gA_r3 hI.1.2.1, gA_f0 hI.1.2.1, gA_f1 hI.1.2.1, gA_f2 hI.1.2.1, gA_f3 hI.1.2.1, gA_f4 hI.1.2.1, gA_d hI.1, gI_s0 hI, gI_s1 hI, gI_s2 hI, gI_s3 hI, gI_s4 hI, gI_s5 hI, gI_n hI, if_neg c1]
    (first | exact ⟨hI, gX_refl⟩ | exact ⟨rfl, hI, gX_refl⟩)
theorem gz232 {d : Nat} {m : zMm} {V : zMm} (hQ : gQ V m) : zC (d + 14) 232 [.inr (.inr 131)] m (fun r' m' => r' = some (.inl (sp94 V)) ∧ gY m m') := by
  refine ze232 ?_
  have hb := hQ.1.1
  have hY0 : gY m (zmu m 131 0 0) := gY_u (by decide)
  have hQ0 := gQ_y hQ hY0
  have h5 : 0 ≤ zmu m 131 0 0 138 5 ∧ zmu m 131 0 0 138 5 ≤ 8 := by rw [gM_5 hQ0.2.2.1]; omega
  have h6 : 0 ≤ zmu m 131 0 0 138 6 ∧ zmu m 131 0 0 138 6 ≤ 6 := by rw [gM_6 hQ0.2.2.1]; omega
  have h0 : 0 ≤ zmu m 131 0 0 138 0 ∧ zmu m 131 0 0 138 0 ≤ 6 := by rw [gM_0 hQ0.2.2.1]; omega
  unfold sp94
  by_cases c1 : V 0 10 = 0
  · rw [if_pos c1]
    simp +contextual (disch := (first | omega | assumption | decide)) only [↓zbrT, ↓zbrF, zw232_0, zw232_1, zw232_2, zr_3, zr_7, zr_10, zr_13, zr_62, zr_68, zr_70, zlg_0, zlg_s, zrc_1, zrc_s, zcat_n, zcat_i, zcat_l, zcat_r, zkd_131, Int.cast_ofNat_Int, Int.reduceAdd, zmu_same, zmu_c, zmu_i, false_and, and_false, true_and, and_true, true_or, or_true, false_or, or_false, Option.toList, List.nil_append, List.cons_append, zif0, zif1, zif01, zem1, zem2, Int.reduceEq, Int.reduceLT, Int.reduceLE, Int.reduceNeg, Int.reduceSub, Int.reduceMul, if_true, if_false, not_false_eq_true, not_true_eq_false, true_implies, false_implies, Classical.not_not, Nat.reduceAdd, Nat.reduceLeDiff, zq202, gM_0 hQ.2.2.1, gM_1 hQ.2.2.1, gM_2 hQ.2.2.1, gM_3 hQ.2.2.1, gM_4 hQ.2.2.1, gM_5 hQ.2.2.1, gM_6 hQ.2.2.1, gM_7 hQ.2.2.1, gM_8 hQ.2.2.1, gM_9 hQ.2.2.1, gM_10 hQ.2.2.1, gM_r0 hQ.2.2.1, gM_r1 hQ.2.2.1, gM_r2 hQ.2.2.1, gM_r3 hQ.2.2.1, gM_f0 hQ.2.2.1, gM_f1 hQ.2.2.1, gM_f2 hQ.2.2.1, gM_f3 hQ.2.2.1, gM_f4 hQ.2.2.1]
    (first | exact hY0 | exact ⟨rfl, hY0⟩)
  · rw [if_neg c1]
    simp +contextual (disch := (first | omega | assumption | decide)) only [↓zbrT, ↓zbrF, zw232_0, zw232_1, zw232_2, zr_3, zr_7, zr_10, zr_13, zr_62, zr_68, zr_70, zlg_0, zlg_s, zrc_1, zrc_s, zcat_n, zcat_i, zcat_l, zcat_r, zkd_131, Int.cast_ofNat_Int, Int.reduceAdd, zmu_same, zmu_c, zmu_i, false_and, and_false, true_and, and_true, true_or, or_true, false_or, or_false, Option.toList, List.nil_append, List.cons_append, zif0, zif1, zif01, zem1, zem2, Int.reduceEq, Int.reduceLT, Int.reduceLE, Int.reduceNeg, Int.reduceSub, Int.reduceMul, if_true, if_false, not_false_eq_true, not_true_eq_false, true_implies, false_implies, Classical.not_not, Nat.reduceAdd, Nat.reduceLeDiff, zq202, gM_0 hQ.2.2.1, gM_1 hQ.2.2.1, gM_2 hQ.2.2.1, gM_3 hQ.2.2.1, gM_4 hQ.2.2.1, gM_5 hQ.2.2.1, gM_6 hQ.2.2.1, gM_7 hQ.2.2.1, gM_8 hQ.2.2.1, gM_9 hQ.2.2.1, gM_10 hQ.2.2.1, gM_r0 hQ.2.2.1, gM_r1 hQ.2.2.1, gM_r2 hQ.2.2.1, gM_r3 hQ.2.2.1, gM_f0 hQ.2.2.1, gM_f1 hQ.2.2.1, gM_f2 hQ.2.2.1, gM_f3 hQ.2.2.1, gM_f4 hQ.2.2.1]
    refine gK (gzL hQ0) rfl rfl (Nat.le_of_ble_eq_true rfl) ?_
    rintro _ m1 ⟨rfl, hL, hY⟩
    have hQ1 := gQ_y hQ0 hY
    have fin : gY m m1 := gY_tr hY0 hY
    simp +contextual (disch := (first | omega | assumption | decide)) only [↓zbrT, ↓zbrF, zw232_0, zw232_1, zw232_2, zr_3, zr_7, zr_10, zr_13, zr_62, zr_68, zr_70, zlg_0, zlg_s, zrc_1, zrc_s, zcat_n, zcat_i, zcat_l, zcat_r, zkd_131, Int.cast_ofNat_Int, Int.reduceAdd, zmu_same, zmu_c, zmu_i, false_and, and_false, true_and, and_true, true_or, or_true, false_or, or_false, Option.toList, List.nil_append, List.cons_append, zif0, zif1, zif01, zem1, zem2, Int.reduceEq, Int.reduceLT, Int.reduceLE, Int.reduceNeg, Int.reduceSub, Int.reduceMul, if_true, if_false, not_false_eq_true, not_true_eq_false, true_implies, false_implies, Classical.not_not, Nat.reduceAdd, Nat.reduceLeDiff, gL_4 hL]
    (first | exact fin | exact ⟨rfl, fin⟩)
def sp116 (V : zMm) : Int := if V 0 10 = 0 then -2 else gSn V 3
theorem gz116 {d : Nat} {m : zMm} {V : zMm} (hI : gI V m) : zC (d + 2) 116 [.inr (.inr 0)] m (fun r' m' => r' = some (.inl (sp116 V)) ∧ gI V m' ∧ gX m m') := by
  refine ze116 ?_
  unfold sp116
  by_cases c1 : V 0 10 = 0
  · rw [if_pos c1]
    simp +contextual (disch := (first | omega | assumption | decide)) only [↓zbrT, ↓zbrF, zw116_0, zw116_1, zw116_2, zw116_3, zr_3, zr_7, zr_10, zr_12, zr_54, zr_61, zr_68, zr_70, zr_73, zlg_0, zlg_s, zrc_1, zrc_s, zcat_n, zcat_i, zcat_l, zcat_r, zkd_0, zkd_43, zkd_45, zkd_51, zkd_53, zkd_55, zkd_57, zkd_59, zkd_a50, zrf_0_6, Int.cast_ofNat_Int, Int.reduceAdd, false_and, and_false, true_and, and_true, true_or, or_true, false_or, or_false, Option.toList, List.nil_append, List.cons_append, zif0, zif1, zif01, zem1, zem2, Int.reduceEq, Int.reduceLT, Int.reduceLE, Int.reduceNeg, Int.reduceSub, Int.reduceMul, if_true, if_false, not_false_eq_true, not_true_eq_false, true_implies, false_implies, Classical.not_not, Nat.reduceAdd, Nat.reduceLeDiff, zq74, gA_0 hI.1.2.1, gA_1 hI.1.2.1, gA_2 hI.1.2.1, gA_3 hI.1.2.1, gA_4 hI.1.2.1, gA_5 hI.1.2.1, gA_6 hI.1.2.1, gA_7 hI.1.2.1, gA_8 hI.1.2.1, gA_9 hI.1.2.1, gA_r0 hI.1.2.1, gA_r1 hI.1.2.1, gA_r2 hI.1.2.1, gA_r3 hI.1.2.1, gA_f0 hI.1.2.1, gA_f1 hI.1.2.1, gA_f2 hI.1.2.1, gA_f3 hI.1.2.1, gA_f4 hI.1.2.1, gA_d hI.1, gI_s0 hI, gI_s1 hI, gI_s2 hI, gI_s3 hI, gI_s4 hI, gI_s5 hI, gI_n hI, if_pos c1]
    (first | exact ⟨hI, gX_refl⟩ | exact ⟨rfl, hI, gX_refl⟩)
  · rw [if_neg c1]
    simp +contextual (disch := (first | omega | assumption | decide)) only [↓zbrT, ↓zbrF, zw116_0, zw116_1, zw116_2, zw116_3, zr_3, zr_7, zr_10, zr_12, zr_54, zr_61, zr_68, zr_70, zr_73, zlg_0, zlg_s, zrc_1, zrc_s, zcat_n, zcat_i, zcat_l, zcat_r, zkd_0, zkd_43, zkd_45, zkd_51, zkd_53, zkd_55, zkd_57, zkd_59, zkd_a50, zrf_0_6, Int.cast_ofNat_Int, Int.reduceAdd, false_and, and_false, true_and, and_true, true_or, or_true, false_or, or_false, Option.toList, List.nil_append, List.cons_append, zif0, zif1, zif01, zem1, zem2, Int.reduceEq, Int.reduceLT, Int.reduceLE, Int.reduceNeg, Int.reduceSub, Int.reduceMul, if_true, if_false, not_false_eq_true, not_true_eq_false, true_implies, false_implies, Classical.not_not, Nat.reduceAdd, Nat.reduceLeDiff, zq74, gA_0 hI.1.2.1, gA_1 hI.1.2.1, gA_2 hI.1.2.1, gA_3 hI.1.2.1, gA_4 hI.1.2.1, gA_5 hI.1.2.1, gA_6 hI.1.2.1, gA_7 hI.1.2.1, gA_8 hI.1.2.1, gA_9 hI.1.2.1, gA_r0 hI.1.2.1, gA_r1 hI.1.2.1, gA_r2 hI.1.2.1, gA_r3 hI.1.2.1, gA_f0 hI.1.2.1, gA_f1 hI.1.2.1, gA_f2 hI.1.2.1, gA_f3 hI.1.2.1, gA_f4 hI.1.2.1, gA_d hI.1, gI_s0 hI, gI_s1 hI, gI_s2 hI, gI_s3 hI, gI_s4 hI, gI_s5 hI, gI_n hI, if_neg c1]
    (first | exact ⟨hI, gX_refl⟩ | exact ⟨rfl, hI, gX_refl⟩)
theorem gz259 {d : Nat} {m : zMm} {V : zMm} (hQ : gQ V m) : zC (d + 14) 259 [.inr (.inr 131)] m (fun r' m' => r' = some (.inl (sp116 V)) ∧ gY m m') := by
  refine ze259 ?_
  have hb := hQ.1.1
  have hY0 : gY m (zmu m 131 0 0) := gY_u (by decide)
  have hQ0 := gQ_y hQ hY0
  have h5 : 0 ≤ zmu m 131 0 0 138 5 ∧ zmu m 131 0 0 138 5 ≤ 8 := by rw [gM_5 hQ0.2.2.1]; omega
  have h6 : 0 ≤ zmu m 131 0 0 138 6 ∧ zmu m 131 0 0 138 6 ≤ 6 := by rw [gM_6 hQ0.2.2.1]; omega
  have h0 : 0 ≤ zmu m 131 0 0 138 0 ∧ zmu m 131 0 0 138 0 ≤ 6 := by rw [gM_0 hQ0.2.2.1]; omega
  unfold sp116
  by_cases c1 : V 0 10 = 0
  · rw [if_pos c1]
    simp +contextual (disch := (first | omega | assumption | decide)) only [↓zbrT, ↓zbrF, zw259_0, zw259_1, zw259_2, zr_3, zr_7, zr_10, zr_13, zr_62, zr_68, zr_70, zlg_0, zlg_s, zrc_1, zrc_s, zcat_n, zcat_i, zcat_l, zcat_r, zkd_131, Int.cast_ofNat_Int, Int.reduceAdd, zmu_same, zmu_c, zmu_i, false_and, and_false, true_and, and_true, true_or, or_true, false_or, or_false, Option.toList, List.nil_append, List.cons_append, zif0, zif1, zif01, zem1, zem2, Int.reduceEq, Int.reduceLT, Int.reduceLE, Int.reduceNeg, Int.reduceSub, Int.reduceMul, if_true, if_false, not_false_eq_true, not_true_eq_false, true_implies, false_implies, Classical.not_not, Nat.reduceAdd, Nat.reduceLeDiff, zq202, gM_0 hQ.2.2.1, gM_1 hQ.2.2.1, gM_2 hQ.2.2.1, gM_3 hQ.2.2.1, gM_4 hQ.2.2.1, gM_5 hQ.2.2.1, gM_6 hQ.2.2.1, gM_7 hQ.2.2.1, gM_8 hQ.2.2.1, gM_9 hQ.2.2.1, gM_10 hQ.2.2.1, gM_r0 hQ.2.2.1, gM_r1 hQ.2.2.1, gM_r2 hQ.2.2.1, gM_r3 hQ.2.2.1, gM_f0 hQ.2.2.1, gM_f1 hQ.2.2.1, gM_f2 hQ.2.2.1, gM_f3 hQ.2.2.1, gM_f4 hQ.2.2.1]
    (first | exact hY0 | exact ⟨rfl, hY0⟩)
  · rw [if_neg c1]
    simp +contextual (disch := (first | omega | assumption | decide)) only [↓zbrT, ↓zbrF, zw259_0, zw259_1, zw259_2, zr_3, zr_7, zr_10, zr_13, zr_62, zr_68, zr_70, zlg_0, zlg_s, zrc_1, zrc_s, zcat_n, zcat_i, zcat_l, zcat_r, zkd_131, Int.cast_ofNat_Int, Int.reduceAdd, zmu_same, zmu_c, zmu_i, false_and, and_false, true_and, and_true, true_or, or_true, false_or, or_false, Option.toList, List.nil_append, List.cons_append, zif0, zif1, zif01, zem1, zem2, Int.reduceEq, Int.reduceLT, Int.reduceLE, Int.reduceNeg, Int.reduceSub, Int.reduceMul, if_true, if_false, not_false_eq_true, not_true_eq_false, true_implies, false_implies, Classical.not_not, Nat.reduceAdd, Nat.reduceLeDiff, zq202, gM_0 hQ.2.2.1, gM_1 hQ.2.2.1, gM_2 hQ.2.2.1, gM_3 hQ.2.2.1, gM_4 hQ.2.2.1, gM_5 hQ.2.2.1, gM_6 hQ.2.2.1, gM_7 hQ.2.2.1, gM_8 hQ.2.2.1, gM_9 hQ.2.2.1, gM_10 hQ.2.2.1, gM_r0 hQ.2.2.1, gM_r1 hQ.2.2.1, gM_r2 hQ.2.2.1, gM_r3 hQ.2.2.1, gM_f0 hQ.2.2.1, gM_f1 hQ.2.2.1, gM_f2 hQ.2.2.1, gM_f3 hQ.2.2.1, gM_f4 hQ.2.2.1]
    refine gK (gzL hQ0) rfl rfl (Nat.le_of_ble_eq_true rfl) ?_
    rintro _ m1 ⟨rfl, hL, hY⟩
    have hQ1 := gQ_y hQ0 hY
    have fin : gY m m1 := gY_tr hY0 hY
    simp +contextual (disch := (first | omega | assumption | decide)) only [↓zbrT, ↓zbrF, zw259_0, zw259_1, zw259_2, zr_3, zr_7, zr_10, zr_13, zr_62, zr_68, zr_70, zlg_0, zlg_s, zrc_1, zrc_s, zcat_n, zcat_i, zcat_l, zcat_r, zkd_131, Int.cast_ofNat_Int, Int.reduceAdd, zmu_same, zmu_c, zmu_i, false_and, and_false, true_and, and_true, true_or, or_true, false_or, or_false, Option.toList, List.nil_append, List.cons_append, zif0, zif1, zif01, zem1, zem2, Int.reduceEq, Int.reduceLT, Int.reduceLE, Int.reduceNeg, Int.reduceSub, Int.reduceMul, if_true, if_false, not_false_eq_true, not_true_eq_false, true_implies, false_implies, Classical.not_not, Nat.reduceAdd, Nat.reduceLeDiff, gL_3 hL]
    (first | exact fin | exact ⟨rfl, fin⟩)
