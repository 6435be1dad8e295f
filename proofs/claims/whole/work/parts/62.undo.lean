/-! ===== undo, anew ===== -/
def gUv (V : zMm) (k : Int) : zMm := zmu V 0 9 k
theorem gUv_same {V : zMm} {k : Int} : gSame V (gUv V k) := ⟨fun i hi => by unfold gUv; rw [zmu_i hi], fun i => by unfold gUv; rw [zmu_c (by decide)], fun i => by unfold gUv; rw [zmu_c (by decide)]⟩
theorem gUv_9 {V : zMm} {k : Int} : gUv V k 0 9 = k := by unfold gUv; rw [zmu_same]
theorem gUv_3 {V : zMm} {k j : Int} : gUv V k 3 j = V 3 j := by unfold gUv; rw [zmu_c (by decide)]
theorem gUv_ok {V : zMm} {k : Int} (hV : gOk V) (hA : gAc V) (h : 0 ≤ k ∧ k ≤ V 0 9) : gOk (gUv V k) ∧ gAc (gUv V k) := by
  have hb := hV.1
  have s := gUv_same (V := V) (k := k)
  refine ⟨gSa_ok s hV (by rw [gUv_9]; omega) (fun z => by rw [gUv_9]; omega), fun j hj => ?_⟩
  rw [gUv_9] at hj
  rw [gSa_Mp s, gSa_Rp s j (fun i _ => gUv_3), s.1 5 (by decide), gUv_3]
  exact hA j (by omega)
def sp131 (V : zMm) : Int := if V 0 10 = 0 then -2 else if V 0 9 = 0 then -5 else V 0 9 - 1
theorem gz131 {d : Nat} {m : zMm} {V V1 : zMm} (hI : gI V m) (h1 : gV1 V (¬ V 0 10 = 0 ∧ ¬ V 0 9 = 0) (gUv V (V 0 9 - 1)) V1) : zC (d + 7) 131 [.inr (.inr 0)] m (fun r' m' => r' = some (.inl (sp131 V)) ∧ gI V1 m' ∧ gZ m m') := by
  refine ze131 ?_
  have hb := hI.1.1.1
  unfold sp131
  by_cases c1 : V 0 10 = 0
  · rw [if_pos c1, h1.2 (fun z => z.1 c1)]
    simp +contextual (disch := (first | omega | assumption | decide)) only [↓zbrT, ↓zbrF, zw131_0, zw131_1, zw131_2, zw131_3, zw131_4, zr_3, zr_7, zr_10, zr_13, zr_27, zr_50, zr_50b, zr_61, zr_62, zr_68, zr_70, zlg_0, zlg_s, zrc_1, zrc_s, zcat_n, zcat_i, zcat_l, zcat_r, zkd_0, Int.cast_ofNat_Int, Int.reduceAdd, zw_id, zmu_same, zmu_c, zmu_i, false_and, and_false, true_and, and_true, true_or, or_true, false_or, or_false, Option.toList, List.nil_append, List.cons_append, zif0, zif1, zif01, zem1, zem2, Int.reduceEq, Int.reduceLT, Int.reduceLE, Int.reduceNeg, Int.reduceSub, Int.reduceMul, if_true, if_false, not_false_eq_true, not_true_eq_false, true_implies, false_implies, Classical.not_not, Nat.reduceAdd, Nat.reduceLeDiff, zq74, gA_0 hI.1.2.1, gA_1 hI.1.2.1, gA_2 hI.1.2.1, gA_3 hI.1.2.1, gA_4 hI.1.2.1, gA_5 hI.1.2.1, gA_6 hI.1.2.1, gA_7 hI.1.2.1, gA_8 hI.1.2.1, gA_9 hI.1.2.1, gA_r0 hI.1.2.1, gA_r1 hI.1.2.1, gA_r2 hI.1.2.1, gA_r3 hI.1.2.1, gA_f0 hI.1.2.1, gA_f1 hI.1.2.1, gA_f2 hI.1.2.1, gA_f3 hI.1.2.1, gA_f4 hI.1.2.1, gA_d hI.1, gI_s0 hI, gI_s1 hI, gI_s2 hI, gI_s3 hI, gI_s4 hI, gI_s5 hI, gI_n hI, if_pos c1]
    exact ⟨hI, gZ_refl⟩
  · rw [if_neg c1]
    by_cases c2 : V 0 9 = 0
    · rw [if_pos c2, h1.2 (fun z => z.2 c2)]
      simp +contextual (disch := (first | omega | assumption | decide)) only [↓zbrT, ↓zbrF, zw131_0, zw131_1, zw131_2, zw131_3, zw131_4, zr_3, zr_7, zr_10, zr_13, zr_27, zr_50, zr_50b, zr_61, zr_62, zr_68, zr_70, zlg_0, zlg_s, zrc_1, zrc_s, zcat_n, zcat_i, zcat_l, zcat_r, zkd_0, Int.cast_ofNat_Int, Int.reduceAdd, zw_id, zmu_same, zmu_c, zmu_i, false_and, and_false, true_and, and_true, true_or, or_true, false_or, or_false, Option.toList, List.nil_append, List.cons_append, zif0, zif1, zif01, zem1, zem2, Int.reduceEq, Int.reduceLT, Int.reduceLE, Int.reduceNeg, Int.reduceSub, Int.reduceMul, if_true, if_false, not_false_eq_true, not_true_eq_false, true_implies, false_implies, Classical.not_not, Nat.reduceAdd, Nat.reduceLeDiff, zq74, gA_0 hI.1.2.1, gA_1 hI.1.2.1, gA_2 hI.1.2.1, gA_3 hI.1.2.1, gA_4 hI.1.2.1, gA_5 hI.1.2.1, gA_6 hI.1.2.1, gA_7 hI.1.2.1, gA_8 hI.1.2.1, gA_9 hI.1.2.1, gA_r0 hI.1.2.1, gA_r1 hI.1.2.1, gA_r2 hI.1.2.1, gA_r3 hI.1.2.1, gA_f0 hI.1.2.1, gA_f1 hI.1.2.1, gA_f2 hI.1.2.1, gA_f3 hI.1.2.1, gA_f4 hI.1.2.1, gA_d hI.1, gI_s0 hI, gI_s1 hI, gI_s2 hI, gI_s3 hI, gI_s4 hI, gI_s5 hI, gI_n hI, if_neg c1, c2]
      exact ⟨hI, gZ_refl⟩
    · rw [if_neg c2, h1.1 ⟨c1, c2⟩]
      have ok := gUv_ok hI.1.1 hI.2.1 (k := V 0 9 - 1) (by omega)
      simp +contextual (disch := (first | omega | assumption | decide)) only [↓zbrT, ↓zbrF, zw131_0, zw131_1, zw131_2, zw131_3, zw131_4, zr_3, zr_7, zr_10, zr_13, zr_27, zr_50, zr_50b, zr_61, zr_62, zr_68, zr_70, zlg_0, zlg_s, zrc_1, zrc_s, zcat_n, zcat_i, zcat_l, zcat_r, zkd_0, Int.cast_ofNat_Int, Int.reduceAdd, zw_id, zmu_same, zmu_c, zmu_i, false_and, and_false, true_and, and_true, true_or, or_true, false_or, or_false, Option.toList, List.nil_append, List.cons_append, zif0, zif1, zif01, zem1, zem2, Int.reduceEq, Int.reduceLT, Int.reduceLE, Int.reduceNeg, Int.reduceSub, Int.reduceMul, if_true, if_false, not_false_eq_true, not_true_eq_false, true_implies, false_implies, Classical.not_not, Nat.reduceAdd, Nat.reduceLeDiff, zq74, gA_0 hI.1.2.1, gA_1 hI.1.2.1, gA_2 hI.1.2.1, gA_3 hI.1.2.1, gA_4 hI.1.2.1, gA_5 hI.1.2.1, gA_6 hI.1.2.1, gA_7 hI.1.2.1, gA_8 hI.1.2.1, gA_9 hI.1.2.1, gA_r0 hI.1.2.1, gA_r1 hI.1.2.1, gA_r2 hI.1.2.1, gA_r3 hI.1.2.1, gA_f0 hI.1.2.1, gA_f1 hI.1.2.1, gA_f2 hI.1.2.1, gA_f3 hI.1.2.1, gA_f4 hI.1.2.1, gA_d hI.1, gI_s0 hI, gI_s1 hI, gI_s2 hI, gI_s3 hI, gI_s4 hI, gI_s5 hI, gI_n hI, if_neg c1, c2]
      have hA1 : gA (gUv V (V 0 9 - 1)) (zmu m 0 5 (V 0 9 - 1)) := gSa_gA gUv_same ok.1 (gA_of hI.1 (fun c i a b => zmu_c (by omega)))
      have hC1 : gCa (gUv V (V 0 9 - 1)) (zmu m 0 5 (V 0 9 - 1)) := ⟨by rw [zmu_same, gUv_9], fun k a b => by
        rw [gUv_9] at b
        rw [zmu_c (by decide), gUv_3]; exact hI.2.2.1.2 k a (by omega)⟩
      refine gK (gz73 hA1 ok.2 hC1) rfl rfl (Nat.le_of_ble_eq_true rfl) ?_
      rintro _ m2 ⟨rfl, hA2, hS2, h3, hE2⟩
      have e5 : m2 0 5 = V 0 9 - 1 := by rw [hE2 0 5 (by decide), zmu_same]
      simp +contextual (disch := (first | omega | assumption | decide)) only [↓zbrT, ↓zbrF, zw131_0, zw131_1, zw131_2, zw131_3, zw131_4, zr_3, zr_7, zr_10, zr_13, zr_27, zr_50, zr_50b, zr_61, zr_62, zr_68, zr_70, zlg_0, zlg_s, zrc_1, zrc_s, zcat_n, zcat_i, zcat_l, zcat_r, zkd_0, Int.cast_ofNat_Int, Int.reduceAdd, zw_id, zmu_same, zmu_c, zmu_i, false_and, and_false, true_and, and_true, true_or, or_true, false_or, or_false, Option.toList, List.nil_append, List.cons_append, zif0, zif1, zif01, zem1, zem2, Int.reduceEq, Int.reduceLT, Int.reduceLE, Int.reduceNeg, Int.reduceSub, Int.reduceMul, if_true, if_false, not_false_eq_true, not_true_eq_false, true_implies, false_implies, Classical.not_not, Nat.reduceAdd, Nat.reduceLeDiff, e5]
      refine ⟨⟨hA2, ok.2, ⟨by rw [e5, gUv_9], fun k a b => ?_⟩, hS2, Or.inl h3⟩, fun c i hc => ?_⟩
      · rw [hE2 42 k (by omega)]; exact hC1.2 k a b
      · rw [hE2 c i (by omega), zmu_c (by omega)]
theorem gUv_q {V m : zMm} {k : Int} (hQ : gQ V m) (h : 0 ≤ k ∧ k ≤ V 0 9) : gQ (gUv V k) (zmu (zmu m 131 0 0) 138 9 k) ∧ gZm m (zmu (zmu m 131 0 0) 138 9 k) := by
  have ok := gUv_ok hQ.1 hQ.2.1 h
  refine ⟨⟨ok.1, ok.2, gSa_Mo gUv_same hQ.2.2.1 (fun c i a b e => ?_) (by rw [zmu_same, gUv_9]), fun j a b => ?_⟩, fun c i hc => ?_⟩
  · unfold zmu
    rw [if_neg e, if_neg (by omega)]
  · rw [gUv_9] at b
    rw [zmu_c (by decide), zmu_c (by decide), gUv_3]; exact hQ.2.2.2 j a (by omega)
  · unfold zmu
    rw [if_neg (by omega), if_neg (by omega)]
theorem gz273 {d : Nat} {m : zMm} {V V1 : zMm} (hQ : gQ V m) (h1 : gV1 V (¬ V 0 10 = 0 ∧ ¬ V 0 9 = 0) (gUv V (V 0 9 - 1)) V1) : zC (d + 3) 273 [.inr (.inr 131)] m (fun r' m' => r' = some (.inl (sp131 V)) ∧ gQ V1 m' ∧ gZm m m') := by
  refine ze273 ?_
  have hb := hQ.1.1
  have hY0 : gY m (zmu m 131 0 0) := gY_u (by decide)
  have hQ0 := gQ_y hQ hY0
  have h5 : 0 ≤ zmu m 131 0 0 138 5 ∧ zmu m 131 0 0 138 5 ≤ 8 := by rw [gM_5 hQ0.2.2.1]; omega
  have h6 : 0 ≤ zmu m 131 0 0 138 6 ∧ zmu m 131 0 0 138 6 ≤ 6 := by rw [gM_6 hQ0.2.2.1]; omega
  have h0 : 0 ≤ zmu m 131 0 0 138 0 ∧ zmu m 131 0 0 138 0 ≤ 6 := by rw [gM_0 hQ0.2.2.1]; omega
  unfold sp131
  by_cases c1 : V 0 10 = 0
  · rw [if_pos c1, h1.2 (fun z => z.1 c1)]
    simp +contextual (disch := (first | omega | assumption | decide)) only [↓zbrT, ↓zbrF, zw273_0, zw273_1, zw273_2, zw273_3, zw273_4, zr_3, zr_7, zr_12, zr_13, zr_16, zr_21, zr_27, zr_51, zr_62, zr_68, zr_70, zlg_0, zlg_s, zrc_1, zrc_s, zcat_n, zcat_i, zcat_l, zcat_r, zkd_131, zkd_138, zln_138, zrf_131_17, Int.cast_ofNat_Int, Int.reduceAdd, zbd, zw_id, zmu_same, zmu_c, zmu_i, false_and, and_false, true_and, and_true, true_or, or_true, false_or, or_false, Option.toList, List.nil_append, List.cons_append, zif0, zif1, zif01, zem1, zem2, Int.reduceEq, Int.reduceLT, Int.reduceLE, Int.reduceNeg, Int.reduceSub, Int.reduceMul, if_true, if_false, not_false_eq_true, not_true_eq_false, true_implies, false_implies, Classical.not_not, Nat.reduceAdd, Nat.reduceLeDiff, zq202, gM_0 hQ.2.2.1, gM_1 hQ.2.2.1, gM_2 hQ.2.2.1, gM_3 hQ.2.2.1, gM_4 hQ.2.2.1, gM_5 hQ.2.2.1, gM_6 hQ.2.2.1, gM_7 hQ.2.2.1, gM_8 hQ.2.2.1, gM_9 hQ.2.2.1, gM_10 hQ.2.2.1, gM_r0 hQ.2.2.1, gM_r1 hQ.2.2.1, gM_r2 hQ.2.2.1, gM_r3 hQ.2.2.1, gM_f0 hQ.2.2.1, gM_f1 hQ.2.2.1, gM_f2 hQ.2.2.1, gM_f3 hQ.2.2.1, gM_f4 hQ.2.2.1]
    exact ⟨hQ0, gZm_y hY0⟩
  · rw [if_neg c1]
    by_cases c2 : V 0 9 = 0
    · rw [if_pos c2, h1.2 (fun z => z.2 c2)]
      simp +contextual (disch := (first | omega | assumption | decide)) only [↓zbrT, ↓zbrF, zw273_0, zw273_1, zw273_2, zw273_3, zw273_4, zr_3, zr_7, zr_12, zr_13, zr_16, zr_21, zr_27, zr_51, zr_62, zr_68, zr_70, zlg_0, zlg_s, zrc_1, zrc_s, zcat_n, zcat_i, zcat_l, zcat_r, zkd_131, zkd_138, zln_138, zrf_131_17, Int.cast_ofNat_Int, Int.reduceAdd, zbd, zw_id, zmu_same, zmu_c, zmu_i, false_and, and_false, true_and, and_true, true_or, or_true, false_or, or_false, Option.toList, List.nil_append, List.cons_append, zif0, zif1, zif01, zem1, zem2, Int.reduceEq, Int.reduceLT, Int.reduceLE, Int.reduceNeg, Int.reduceSub, Int.reduceMul, if_true, if_false, not_false_eq_true, not_true_eq_false, true_implies, false_implies, Classical.not_not, Nat.reduceAdd, Nat.reduceLeDiff, zq202, gM_0 hQ.2.2.1, gM_1 hQ.2.2.1, gM_2 hQ.2.2.1, gM_3 hQ.2.2.1, gM_4 hQ.2.2.1, gM_5 hQ.2.2.1, gM_6 hQ.2.2.1, gM_7 hQ.2.2.1, gM_8 hQ.2.2.1, gM_9 hQ.2.2.1, gM_10 hQ.2.2.1, gM_r0 hQ.2.2.1, gM_r1 hQ.2.2.1, gM_r2 hQ.2.2.1, gM_r3 hQ.2.2.1, gM_f0 hQ.2.2.1, gM_f1 hQ.2.2.1, gM_f2 hQ.2.2.1, gM_f3 hQ.2.2.1, gM_f4 hQ.2.2.1, c2]
      exact ⟨hQ0, gZm_y hY0⟩
    · rw [if_neg c2, h1.1 ⟨c1, c2⟩]
      simp +contextual (disch := (first | omega | assumption | decide)) only [↓zbrT, ↓zbrF, zw273_0, zw273_1, zw273_2, zw273_3, zw273_4, zr_3, zr_7, zr_12, zr_13, zr_16, zr_21, zr_27, zr_51, zr_62, zr_68, zr_70, zlg_0, zlg_s, zrc_1, zrc_s, zcat_n, zcat_i, zcat_l, zcat_r, zkd_131, zkd_138, zln_138, zrf_131_17, Int.cast_ofNat_Int, Int.reduceAdd, zbd, zw_id, zmu_same, zmu_c, zmu_i, false_and, and_false, true_and, and_true, true_or, or_true, false_or, or_false, Option.toList, List.nil_append, List.cons_append, zif0, zif1, zif01, zem1, zem2, Int.reduceEq, Int.reduceLT, Int.reduceLE, Int.reduceNeg, Int.reduceSub, Int.reduceMul, if_true, if_false, not_false_eq_true, not_true_eq_false, true_implies, false_implies, Classical.not_not, Nat.reduceAdd, Nat.reduceLeDiff, zq202, gM_0 hQ.2.2.1, gM_1 hQ.2.2.1, gM_2 hQ.2.2.1, gM_3 hQ.2.2.1, gM_4 hQ.2.2.1, gM_5 hQ.2.2.1, gM_6 hQ.2.2.1, gM_7 hQ.2.2.1, gM_8 hQ.2.2.1, gM_9 hQ.2.2.1, gM_10 hQ.2.2.1, gM_r0 hQ.2.2.1, gM_r1 hQ.2.2.1, gM_r2 hQ.2.2.1, gM_r3 hQ.2.2.1, gM_f0 hQ.2.2.1, gM_f1 hQ.2.2.1, gM_f2 hQ.2.2.1, gM_f3 hQ.2.2.1, gM_f4 hQ.2.2.1, c2]
      exact gUv_q hQ (by omega)
def sp132 (V : zMm) : Int := if V 0 10 = 0 then -2 else V 0 9
theorem gz132 {d : Nat} {m : zMm} {V V1 : zMm} (hI : gI V m) (h1 : gV1 V (¬ V 0 10 = 0) (gUv V 0) V1) : zC (d + 7) 132 [.inr (.inr 0)] m (fun r' m' => r' = some (.inl (sp132 V)) ∧ gI V1 m' ∧ gZ m m') := by
  refine ze132 ?_
  have hb := hI.1.1.1
  unfold sp132
  by_cases c1 : V 0 10 = 0
  · rw [if_pos c1, h1.2 (fun z => z c1)]
    simp +contextual (disch := (first | omega | assumption | decide)) only [↓zbrT, ↓zbrF, zw132_0, zw132_1, zw132_2, zr_1, zr_3, zr_4, zr_7, zr_10, zr_13, zr_61, zr_68, zr_70, zlg_0, zlg_s, zls_0, zls_1, zls_s, zkl_i, zkl_r, zkl_l, zkl_n, zrc_1, zrc_s, zcat_n, zcat_i, zcat_l, zcat_r, zkd_0, Int.cast_ofNat_Int, Int.reduceAdd, zmu_same, zmu_c, zmu_i, false_and, and_false, true_and, and_true, true_or, or_true, false_or, or_false, Option.toList, List.nil_append, List.cons_append, zif0, zif1, zif01, zem1, zem2, Int.reduceEq, Int.reduceLT, Int.reduceLE, Int.reduceNeg, Int.reduceSub, Int.reduceMul, if_true, if_false, not_false_eq_true, not_true_eq_false, true_implies, false_implies, Classical.not_not, Nat.reduceAdd, Nat.reduceLeDiff, zq74, gA_0 hI.1.2.1, gA_1 hI.1.2.1, gA_2 hI.1.2.1, gA_3 hI.1.2.1, gA_4 hI.1.2.1, gA_5 hI.1.2.1, gA_6 hI.1.2.1, gA_7 hI.1.2.1, gA_8 hI.1.2.1, gA_9 hI.1.2.1, gA_r0 hI.1.2.1, gA_r1 hI.1.2.1, gA_r2 hI.1.2.1, gA_r3 hI.1.2.1, gA_f0 hI.1.2.1, gA_f1 hI.1.2.1, gA_f2 hI.1.2.1, gA_f3 hI.1.2.1, gA_f4 hI.1.2.1, gA_d hI.1, gI_s0 hI, gI_s1 hI, gI_s2 hI, gI_s3 hI, gI_s4 hI, gI_s5 hI, gI_n hI, if_pos c1]
    exact ⟨hI, gZ_refl⟩
  · rw [if_neg c1, h1.1 c1]
    have ok := gUv_ok hI.1.1 hI.2.1 (k := 0) (by omega)
    simp +contextual (disch := (first | omega | assumption | decide)) only [↓zbrT, ↓zbrF, zw132_0, zw132_1, zw132_2, zr_1, zr_3, zr_4, zr_7, zr_10, zr_13, zr_61, zr_68, zr_70, zlg_0, zlg_s, zls_0, zls_1, zls_s, zkl_i, zkl_r, zkl_l, zkl_n, zrc_1, zrc_s, zcat_n, zcat_i, zcat_l, zcat_r, zkd_0, Int.cast_ofNat_Int, Int.reduceAdd, zmu_same, zmu_c, zmu_i, false_and, and_false, true_and, and_true, true_or, or_true, false_or, or_false, Option.toList, List.nil_append, List.cons_append, zif0, zif1, zif01, zem1, zem2, Int.reduceEq, Int.reduceLT, Int.reduceLE, Int.reduceNeg, Int.reduceSub, Int.reduceMul, if_true, if_false, not_false_eq_true, not_true_eq_false, true_implies, false_implies, Classical.not_not, Nat.reduceAdd, Nat.reduceLeDiff, zq74, gA_0 hI.1.2.1, gA_1 hI.1.2.1, gA_2 hI.1.2.1, gA_3 hI.1.2.1, gA_4 hI.1.2.1, gA_5 hI.1.2.1, gA_6 hI.1.2.1, gA_7 hI.1.2.1, gA_8 hI.1.2.1, gA_9 hI.1.2.1, gA_r0 hI.1.2.1, gA_r1 hI.1.2.1, gA_r2 hI.1.2.1, gA_r3 hI.1.2.1, gA_f0 hI.1.2.1, gA_f1 hI.1.2.1, gA_f2 hI.1.2.1, gA_f3 hI.1.2.1, gA_f4 hI.1.2.1, gA_d hI.1, gI_s0 hI, gI_s1 hI, gI_s2 hI, gI_s3 hI, gI_s4 hI, gI_s5 hI, gI_n hI, if_neg c1]
    have hA1 : gA (gUv V 0) (zmu m 0 5 0) := gSa_gA gUv_same ok.1 (gA_of hI.1 (fun c i a b => zmu_c (by omega)))
    have hC1 : gCa (gUv V 0) (zmu m 0 5 0) := ⟨by rw [zmu_same, gUv_9], fun k a b => by
      rw [gUv_9] at b
      omega⟩
    refine gK (gz73 hA1 ok.2 hC1) rfl rfl (Nat.le_of_ble_eq_true rfl) ?_
    rintro _ m2 ⟨rfl, hA2, hS2, h3, hE2⟩
    have e5 : m2 0 5 = 0 := by rw [hE2 0 5 (by decide), zmu_same]
    simp +contextual (disch := (first | omega | assumption | decide)) only [↓zbrT, ↓zbrF, zw132_0, zw132_1, zw132_2, zr_1, zr_3, zr_4, zr_7, zr_10, zr_13, zr_61, zr_68, zr_70, zlg_0, zlg_s, zls_0, zls_1, zls_s, zkl_i, zkl_r, zkl_l, zkl_n, zrc_1, zrc_s, zcat_n, zcat_i, zcat_l, zcat_r, zkd_0, Int.cast_ofNat_Int, Int.reduceAdd, zmu_same, zmu_c, zmu_i, false_and, and_false, true_and, and_true, true_or, or_true, false_or, or_false, Option.toList, List.nil_append, List.cons_append, zif0, zif1, zif01, zem1, zem2, Int.reduceEq, Int.reduceLT, Int.reduceLE, Int.reduceNeg, Int.reduceSub, Int.reduceMul, if_true, if_false, not_false_eq_true, not_true_eq_false, true_implies, false_implies, Classical.not_not, Nat.reduceAdd, Nat.reduceLeDiff, e5]
    refine ⟨⟨hA2, ok.2, ⟨by rw [e5, gUv_9], fun k a b => ?_⟩, hS2, Or.inl h3⟩, fun c i hc => ?_⟩
    · rw [hE2 42 k (by omega)]; exact hC1.2 k a b
    · rw [hE2 c i (by omega), zmu_c (by omega)]
theorem gz274 {d : Nat} {m : zMm} {V V1 : zMm} (hQ : gQ V m) (h1 : gV1 V (¬ V 0 10 = 0) (gUv V 0) V1) : zC (d + 3) 274 [.inr (.inr 131)] m (fun r' m' => r' = some (.inl (sp132 V)) ∧ gQ V1 m' ∧ gZm m m') := by
  refine ze274 ?_
  have hb := hQ.1.1
  have hY0 : gY m (zmu m 131 0 0) := gY_u (by decide)
  have hQ0 := gQ_y hQ hY0
  have h5 : 0 ≤ zmu m 131 0 0 138 5 ∧ zmu m 131 0 0 138 5 ≤ 8 := by rw [gM_5 hQ0.2.2.1]; omega
  have h6 : 0 ≤ zmu m 131 0 0 138 6 ∧ zmu m 131 0 0 138 6 ≤ 6 := by rw [gM_6 hQ0.2.2.1]; omega
  have h0 : 0 ≤ zmu m 131 0 0 138 0 ∧ zmu m 131 0 0 138 0 ≤ 6 := by rw [gM_0 hQ0.2.2.1]; omega
  unfold sp132
  by_cases c1 : V 0 10 = 0
  · rw [if_pos c1, h1.2 (fun z => z c1)]
    simp +contextual (disch := (first | omega | assumption | decide)) only [↓zbrT, ↓zbrF, zw274_0, zw274_1, zw274_2, zr_1, zr_3, zr_4, zr_7, zr_12, zr_13, zr_16, zr_21, zr_62, zr_68, zr_70, zlg_0, zlg_s, zls_0, zls_1, zls_s, zkl_i, zkl_r, zkl_l, zkl_n, zrc_1, zrc_s, zcat_n, zcat_i, zcat_l, zcat_r, zkd_131, zkd_138, zln_138, zrf_131_17, Int.cast_ofNat_Int, Int.reduceAdd, zbd, zmu_same, zmu_c, zmu_i, false_and, and_false, true_and, and_true, true_or, or_true, false_or, or_false, Option.toList, List.nil_append, List.cons_append, zif0, zif1, zif01, zem1, zem2, Int.reduceEq, Int.reduceLT, Int.reduceLE, Int.reduceNeg, Int.reduceSub, Int.reduceMul, if_true, if_false, not_false_eq_true, not_true_eq_false, true_implies, false_implies, Classical.not_not, Nat.reduceAdd, Nat.reduceLeDiff, zq202, gM_0 hQ.2.2.1, gM_1 hQ.2.2.1, gM_2 hQ.2.2.1, gM_3 hQ.2.2.1, gM_4 hQ.2.2.1, gM_5 hQ.2.2.1, gM_6 hQ.2.2.1, gM_7 hQ.2.2.1, gM_8 hQ.2.2.1, gM_9 hQ.2.2.1, gM_10 hQ.2.2.1, gM_r0 hQ.2.2.1, gM_r1 hQ.2.2.1, gM_r2 hQ.2.2.1, gM_r3 hQ.2.2.1, gM_f0 hQ.2.2.1, gM_f1 hQ.2.2.1, gM_f2 hQ.2.2.1, gM_f3 hQ.2.2.1, gM_f4 hQ.2.2.1]
    exact ⟨hQ0, gZm_y hY0⟩
  · rw [if_neg c1, h1.1 c1]
    simp +contextual (disch := (first | omega | assumption | decide)) only [↓zbrT, ↓zbrF, zw274_0, zw274_1, zw274_2, zr_1, zr_3, zr_4, zr_7, zr_12, zr_13, zr_16, zr_21, zr_62, zr_68, zr_70, zlg_0, zlg_s, zls_0, zls_1, zls_s, zkl_i, zkl_r, zkl_l, zkl_n, zrc_1, zrc_s, zcat_n, zcat_i, zcat_l, zcat_r, zkd_131, zkd_138, zln_138, zrf_131_17, Int.cast_ofNat_Int, Int.reduceAdd, zbd, zmu_same, zmu_c, zmu_i, false_and, and_false, true_and, and_true, true_or, or_true, false_or, or_false, Option.toList, List.nil_append, List.cons_append, zif0, zif1, zif01, zem1, zem2, Int.reduceEq, Int.reduceLT, Int.reduceLE, Int.reduceNeg, Int.reduceSub, Int.reduceMul, if_true, if_false, not_false_eq_true, not_true_eq_false, true_implies, false_implies, Classical.not_not, Nat.reduceAdd, Nat.reduceLeDiff, zq202, gM_0 hQ.2.2.1, gM_1 hQ.2.2.1, gM_2 hQ.2.2.1, gM_3 hQ.2.2.1, gM_4 hQ.2.2.1, gM_5 hQ.2.2.1, gM_6 hQ.2.2.1, gM_7 hQ.2.2.1, gM_8 hQ.2.2.1, gM_9 hQ.2.2.1, gM_10 hQ.2.2.1, gM_r0 hQ.2.2.1, gM_r1 hQ.2.2.1, gM_r2 hQ.2.2.1, gM_r3 hQ.2.2.1, gM_f0 hQ.2.2.1, gM_f1 hQ.2.2.1, gM_f2 hQ.2.2.1, gM_f3 hQ.2.2.1, gM_f4 hQ.2.2.1]
    exact gUv_q hQ (by omega)
/-! ===== rate, times ===== -/
theorem gBt_c {c c' : Int → Prop} [DecidablePred c] [DecidablePred c'] : ∀ N : Nat, (∀ r : Nat, r < N → (c r ↔ c' r)) → gBt c N = gBt c' N
  | 0, _ => rfl
  | k + 1, h => by
    show zor (gBt c k) (if c k then 2 ^ k else 0) = zor (gBt c' k) (if c' k then 2 ^ k else 0)
    rw [gBt_c k (fun r a => h r (by omega))]
    have := h k (by omega)
    by_cases z : c k
    · rw [if_pos z, if_pos (this.mp z)]
    · rw [if_neg z, if_neg (fun y => z (this.mpr y))]
/-- caches emptied: the atlas holds whatever shire lies there, if the miles are the same -/
theorem gA_new {V V' m m' : zMm} (h : gA V m) (hk : gOk V') (hv : gCV V' m') (hD : gD V' = gD V) (h0 : V' 0 0 = V 0 0) (h38 : ∀ i, m' 38 i = m 38 i) (h40 : ∀ s, 0 ≤ s → s < 256 → m' 40 s = -1) (h20 : m' 20 5 = -1) : gA V' m' := by
  refine ⟨hk, hv, fun p q a b c e => ?_, fun s a b => Or.inl (h40 s a b), fun s x a b c e f => ?_⟩
  · rw [h0] at b e
    rw [h38, hD]; exact h.2.2.1 p q a b c e
  · rw [h20] at f
    omega
/-- no acts: what holds between calls -/
theorem gI_new {V V' m m' : zMm} (h : gI V m) (h9 : V 0 9 = 0) (h9' : V' 0 9 = 0) (hA : gA V' m') (hB : gBe V' = gBe V) (h5 : m' 0 5 = m 0 5) (h43 : ∀ i, m' 43 i = m 43 i) (h44 : ∀ i, m' 44 i = m 44 i) (h48 : m' 48 3 = 0) : gI V' m' := by
  refine ⟨hA, fun k hk => by omega, ⟨by rw [h5, h9', h.2.2.1.1, h9], fun k a b => by omega⟩, ?_, Or.inl h48⟩
  have e : gSn V' = gSn V := by
    unfold gSn
    rw [h9, h9']; exact hB
  rw [e]
  exact gSt_of h.2.2.2.1 h43 h44
def gRk (V : zMm) (g n : Int) : Prop := (((0 ≤ g ∧ g < V 0 5) ∧ 0 < vT V g) ∧ (1 ≤ n ∧ n ≤ 99)) ∧ V 0 9 = 0
def sp108 (V : zMm) (g n : Int) : Int := if ((0 ≤ g ∧ g < V 0 5) ∧ 0 < vT V g) ∧ (1 ≤ n ∧ n ≤ 99) then (if V 0 9 = 0 then vT V g else -5) else -2
theorem gTo_D {V : zMm} {g t : Int} : gD (gTo V g t) = gD V := by
  unfold gD
  rw [gTo_A, gTo_B, gTo_M, gTo_0, gTo_0]
theorem gTo_Be {V : zMm} {g t : Int} (h1 : 0 < vT V g) (ht : 0 < t) : gBe (gTo V g t) = gBe V := by
  have e : gGb (gTo V g t) = gGb V := by
    unfold gGb
    rw [gTo_0]
    refine gBt_c _ (fun r _ => ?_)
    rw [gTo_T]
    split
    · rename_i z
      rw [z]; omega
    · exact Iff.rfl
  unfold gBe
  rw [e, gTo_0, gTo_0]
theorem gz108 {d : Nat} {m : zMm} {g : Int} {n : Int} {V V1 : zMm} (hI : gI V m) (hg : -2147483648 ≤ g ∧ g < 2147483648) (h1 : gV1 V (gRk V g n) (gTo V g n) V1) : zC (d + 4) 108 [.inr (.inr 0), .inl g, .inl n] m (fun r' m' => r' = some (.inl (sp108 V g n)) ∧ gI V1 m' ∧ gZ m m') := by
  refine ze108 ?_
  have hb := hI.1.1.1
  unfold sp108
  by_cases c1 : (0 ≤ g ∧ g < V 0 5) ∧ 0 < vT V g
  · by_cases c2 : 1 ≤ n ∧ n ≤ 99
    · rw [if_pos ⟨c1, c2⟩]
      by_cases c3 : V 0 9 = 0
      · rw [if_pos c3, h1.1 ⟨⟨c1, c2⟩, c3⟩]
        have e3 := gA_r3 hI.1.2.1 c1.1.1 c1.1.2
        simp +contextual (disch := (first | omega | assumption | decide)) only [↓zbrT, ↓zbrF, zw108_0, zw108_1, zw108_2, zw108_3, zw108_4, zw108_5, zr_1, zr_3, zr_4, zr_7, zr_10, zr_12, zr_13, zr_20, zr_46, zr_61, zr_62, zr_66, zr_68, zr_69, zr_70, zlg_0, zlg_s, zls_0, zls_1, zls_s, zkl_i, zkl_r, zkl_l, zkl_n, zrc_1, zrc_s, zcat_n, zcat_i, zcat_l, zcat_r, zkd_0, zkd_105, zkd_106, zkd_20, zkd_21, zkd_22, zkd_3, zkd_4, zkd_48, zkd_67, zkd_68, zkd_86, zkd_87, zkd_a106, zkd_a22, zkd_a4, zkd_a68, zkd_a87, zln_106, zln_22, zln_4, zln_68, zln_87, zrf_0_2, zrf_0_3, zrf_0_9, zrf_105_10, zrf_21_10, zrf_3_10, zrf_67_10, zrf_86_10, zrf_a106, zrf_a22, zrf_a4, zrf_a68, zrf_a87, Int.cast_ofNat_Int, Int.reduceAdd, zbd, zmu_same, zmu_c, zmu_i, false_and, and_false, true_and, and_true, true_or, or_true, false_or, or_false, Option.toList, List.nil_append, List.cons_append, zif0, zif1, zif01, zem1, zem2, Int.reduceEq, Int.reduceLT, Int.reduceLE, Int.reduceNeg, Int.reduceSub, Int.reduceMul, if_true, if_false, not_false_eq_true, not_true_eq_false, true_implies, false_implies, Classical.not_not, Nat.reduceAdd, Nat.reduceLeDiff, zq77L hI.1, if_pos c1, zq80, if_pos c2, gA_0 hI.1.2.1, gA_1 hI.1.2.1, gA_2 hI.1.2.1, gA_3 hI.1.2.1, gA_4 hI.1.2.1, gA_5 hI.1.2.1, gA_6 hI.1.2.1, gA_7 hI.1.2.1, gA_8 hI.1.2.1, gA_9 hI.1.2.1, gA_r0 hI.1.2.1, gA_r1 hI.1.2.1, gA_r2 hI.1.2.1, gA_r3 hI.1.2.1, gA_f0 hI.1.2.1, gA_f1 hI.1.2.1, gA_f2 hI.1.2.1, gA_f3 hI.1.2.1, gA_f4 hI.1.2.1, gA_d hI.1, gI_s0 hI, gI_s1 hI, gI_s2 hI, gI_s3 hI, gI_s4 hI, gI_s5 hI, gI_n hI, c3, zq6, zq27]
        refine ⟨gI_new hI c3 (by rw [gTo_0]; exact c3) (gA_new hI.1 (gTo_ok hI.1.1 (by omega)) ?_ gTo_D gTo_0 ?_ ?_ ?_) (gTo_Be c1.2 (by omega)) ?_ ?_ ?_ zmu_same, fun c i hc => ?_⟩
        · refine ⟨?_, fun r a b => ?_, fun f a b => ?_⟩
          · simp only [gTo_0]
            simp (disch := omega) only [zmu_c, gfor, gfil, Int.reduceEq, false_and, if_false]
            exact hI.1.2.1.1
          · rw [gTo_0] at b
            rw [gTo_A, gTo_B, gTo_M, gTo_T]
            have q := hI.1.2.1.2.1 r a b
            simp (disch := omega) only [zmu_c, gfor, gfil, if_neg]
            refine ⟨?_, ?_, ?_, ?_⟩
            · rw [zmu_i (by decide)]; exact q.1
            · rw [zmu_i (by decide)]; exact q.2.1
            · rw [zmu_i (by decide)]; exact q.2.2.1
            · unfold zmu
              by_cases e : r = g
              · rw [if_pos (by omega), if_pos e]
              · rw [if_neg (by omega), if_neg e]; exact q.2.2.2
          · rw [gTo_0] at b
            simp only [gTo_F]
            simp (disch := omega) only [zmu_c, gfor, gfil, if_neg]
            exact hI.1.2.1.2.2 f a b
        · intro i
          simp (disch := omega) only [zmu_c, gfor, gfil, Int.reduceEq, false_and, if_false]
        · intro s a b
          simp (disch := omega) only [zmu_c, gfor, gfil, true_and, if_pos]
        · simp (disch := omega) only [zmu_c, zmu_same, gfor, gfil, Int.reduceEq, false_and, if_false]
        · simp (disch := omega) only [zmu_c, gfor, gfil, Int.reduceEq, false_and, if_false]
        · intro i
          simp (disch := omega) only [zmu_c, gfor, gfil, Int.reduceEq, false_and, if_false]
        · intro i
          simp (disch := omega) only [zmu_c, gfor, gfil, Int.reduceEq, false_and, if_false]
        · simp (disch := omega) only [zmu_c, gfor, gfil, if_neg]
      · rw [if_neg c3, h1.2 (fun z => c3 z.2)]
        simp +contextual (disch := (first | omega | assumption | decide)) only [↓zbrT, ↓zbrF, zw108_0, zw108_1, zw108_2, zw108_3, zw108_4, zw108_5, zr_1, zr_3, zr_4, zr_7, zr_10, zr_12, zr_13, zr_20, zr_46, zr_61, zr_62, zr_66, zr_68, zr_69, zr_70, zlg_0, zlg_s, zls_0, zls_1, zls_s, zkl_i, zkl_r, zkl_l, zkl_n, zrc_1, zrc_s, zcat_n, zcat_i, zcat_l, zcat_r, zkd_0, zkd_105, zkd_106, zkd_20, zkd_21, zkd_22, zkd_3, zkd_4, zkd_48, zkd_67, zkd_68, zkd_86, zkd_87, zkd_a106, zkd_a22, zkd_a4, zkd_a68, zkd_a87, zln_106, zln_22, zln_4, zln_68, zln_87, zrf_0_2, zrf_0_3, zrf_0_9, zrf_105_10, zrf_21_10, zrf_3_10, zrf_67_10, zrf_86_10, zrf_a106, zrf_a22, zrf_a4, zrf_a68, zrf_a87, Int.cast_ofNat_Int, Int.reduceAdd, zbd, zmu_same, zmu_c, zmu_i, false_and, and_false, true_and, and_true, true_or, or_true, false_or, or_false, Option.toList, List.nil_append, List.cons_append, zif0, zif1, zif01, zem1, zem2, Int.reduceEq, Int.reduceLT, Int.reduceLE, Int.reduceNeg, Int.reduceSub, Int.reduceMul, if_true, if_false, not_false_eq_true, not_true_eq_false, true_implies, false_implies, Classical.not_not, Nat.reduceAdd, Nat.reduceLeDiff, zq77L hI.1, if_pos c1, zq80, if_pos c2, gA_0 hI.1.2.1, gA_1 hI.1.2.1, gA_2 hI.1.2.1, gA_3 hI.1.2.1, gA_4 hI.1.2.1, gA_5 hI.1.2.1, gA_6 hI.1.2.1, gA_7 hI.1.2.1, gA_8 hI.1.2.1, gA_9 hI.1.2.1, gA_r0 hI.1.2.1, gA_r1 hI.1.2.1, gA_r2 hI.1.2.1, gA_r3 hI.1.2.1, gA_f0 hI.1.2.1, gA_f1 hI.1.2.1, gA_f2 hI.1.2.1, gA_f3 hI.1.2.1, gA_f4 hI.1.2.1, gA_d hI.1, gI_s0 hI, gI_s1 hI, gI_s2 hI, gI_s3 hI, gI_s4 hI, gI_s5 hI, gI_n hI]
        exact ⟨hI, gZ_refl⟩
    · rw [if_neg (fun z => c2 z.2), h1.2 (fun z => c2 z.1.2)]
      simp +contextual (disch := (first | omega | assumption | decide)) only [↓zbrT, ↓zbrF, zw108_0, zw108_1, zw108_2, zw108_3, zw108_4, zw108_5, zr_1, zr_3, zr_4, zr_7, zr_10, zr_12, zr_13, zr_20, zr_46, zr_61, zr_62, zr_66, zr_68, zr_69, zr_70, zlg_0, zlg_s, zls_0, zls_1, zls_s, zkl_i, zkl_r, zkl_l, zkl_n, zrc_1, zrc_s, zcat_n, zcat_i, zcat_l, zcat_r, zkd_0, zkd_105, zkd_106, zkd_20, zkd_21, zkd_22, zkd_3, zkd_4, zkd_48, zkd_67, zkd_68, zkd_86, zkd_87, zkd_a106, zkd_a22, zkd_a4, zkd_a68, zkd_a87, zln_106, zln_22, zln_4, zln_68, zln_87, zrf_0_2, zrf_0_3, zrf_0_9, zrf_105_10, zrf_21_10, zrf_3_10, zrf_67_10, zrf_86_10, zrf_a106, zrf_a22, zrf_a4, zrf_a68, zrf_a87, Int.cast_ofNat_Int, Int.reduceAdd, zbd, zmu_same, zmu_c, zmu_i, false_and, and_false, true_and, and_true, true_or, or_true, false_or, or_false, Option.toList, List.nil_append, List.cons_append, zif0, zif1, zif01, zem1, zem2, Int.reduceEq, Int.reduceLT, Int.reduceLE, Int.reduceNeg, Int.reduceSub, Int.reduceMul, if_true, if_false, not_false_eq_true, not_true_eq_false, true_implies, false_implies, Classical.not_not, Nat.reduceAdd, Nat.reduceLeDiff, zq77L hI.1, if_pos c1, zq80, if_neg c2, gA_0 hI.1.2.1, gA_1 hI.1.2.1, gA_2 hI.1.2.1, gA_3 hI.1.2.1, gA_4 hI.1.2.1, gA_5 hI.1.2.1, gA_6 hI.1.2.1, gA_7 hI.1.2.1, gA_8 hI.1.2.1, gA_9 hI.1.2.1, gA_r0 hI.1.2.1, gA_r1 hI.1.2.1, gA_r2 hI.1.2.1, gA_r3 hI.1.2.1, gA_f0 hI.1.2.1, gA_f1 hI.1.2.1, gA_f2 hI.1.2.1, gA_f3 hI.1.2.1, gA_f4 hI.1.2.1, gA_d hI.1, gI_s0 hI, gI_s1 hI, gI_s2 hI, gI_s3 hI, gI_s4 hI, gI_s5 hI, gI_n hI]
      exact ⟨hI, gZ_refl⟩
  · rw [if_neg (fun z => c1 z.1), h1.2 (fun z => c1 z.1.1)]
    simp +contextual (disch := (first | omega | assumption | decide)) only [↓zbrT, ↓zbrF, zw108_0, zw108_1, zw108_2, zw108_3, zw108_4, zw108_5, zr_1, zr_3, zr_4, zr_7, zr_10, zr_12, zr_13, zr_20, zr_46, zr_61, zr_62, zr_66, zr_68, zr_69, zr_70, zlg_0, zlg_s, zls_0, zls_1, zls_s, zkl_i, zkl_r, zkl_l, zkl_n, zrc_1, zrc_s, zcat_n, zcat_i, zcat_l, zcat_r, zkd_0, zkd_105, zkd_106, zkd_20, zkd_21, zkd_22, zkd_3, zkd_4, zkd_48, zkd_67, zkd_68, zkd_86, zkd_87, zkd_a106, zkd_a22, zkd_a4, zkd_a68, zkd_a87, zln_106, zln_22, zln_4, zln_68, zln_87, zrf_0_2, zrf_0_3, zrf_0_9, zrf_105_10, zrf_21_10, zrf_3_10, zrf_67_10, zrf_86_10, zrf_a106, zrf_a22, zrf_a4, zrf_a68, zrf_a87, Int.cast_ofNat_Int, Int.reduceAdd, zbd, zmu_same, zmu_c, zmu_i, false_and, and_false, true_and, and_true, true_or, or_true, false_or, or_false, Option.toList, List.nil_append, List.cons_append, zif0, zif1, zif01, zem1, zem2, Int.reduceEq, Int.reduceLT, Int.reduceLE, Int.reduceNeg, Int.reduceSub, Int.reduceMul, if_true, if_false, not_false_eq_true, not_true_eq_false, true_implies, false_implies, Classical.not_not, Nat.reduceAdd, Nat.reduceLeDiff, zq77L hI.1, if_neg c1, gA_0 hI.1.2.1, gA_1 hI.1.2.1, gA_2 hI.1.2.1, gA_3 hI.1.2.1, gA_4 hI.1.2.1, gA_5 hI.1.2.1, gA_6 hI.1.2.1, gA_7 hI.1.2.1, gA_8 hI.1.2.1, gA_9 hI.1.2.1, gA_r0 hI.1.2.1, gA_r1 hI.1.2.1, gA_r2 hI.1.2.1, gA_r3 hI.1.2.1, gA_f0 hI.1.2.1, gA_f1 hI.1.2.1, gA_f2 hI.1.2.1, gA_f3 hI.1.2.1, gA_f4 hI.1.2.1, gA_d hI.1, gI_s0 hI, gI_s1 hI, gI_s2 hI, gI_s3 hI, gI_s4 hI, gI_s5 hI, gI_n hI]
    exact ⟨hI, gZ_refl⟩
theorem gz306 {d : Nat} {m : zMm} {g : Int} {n : Int} {V V1 : zMm} (hQ : gQ V m) (h1 : gV1 V (gRk V g n) (gTo V g n) V1) : zC (d + 5) 306 [.inr (.inr 131), .inl g, .inl n] m (fun r' m' => r' = some (.inl (sp108 V g n)) ∧ gQ V1 m' ∧ gZm m m') := by
  refine ze306 ?_
  have hb := hQ.1.1
  have hY0 : gY m (zmu m 131 0 0) := gY_u (by decide)
  have hQ0 := gQ_y hQ hY0
  have h5 : 0 ≤ zmu m 131 0 0 138 5 ∧ zmu m 131 0 0 138 5 ≤ 8 := by rw [gM_5 hQ0.2.2.1]; omega
  have h6 : 0 ≤ zmu m 131 0 0 138 6 ∧ zmu m 131 0 0 138 6 ≤ 6 := by rw [gM_6 hQ0.2.2.1]; omega
  have h0 : 0 ≤ zmu m 131 0 0 138 0 ∧ zmu m 131 0 0 138 0 ≤ 6 := by rw [gM_0 hQ0.2.2.1]; omega
  unfold sp108
  by_cases c1 : (0 ≤ g ∧ g < V 0 5) ∧ 0 < vT V g
  · have e3 := gM_r3 hQ.2.2.1 c1.1.1 c1.1.2
    have cc : (0 ≤ g ∧ g ≤ V 0 5 - 1) ∧ 0 < vT V g := ⟨by omega, c1.2⟩
    by_cases c2 : 1 ≤ n ∧ n ≤ 99
    · rw [if_pos ⟨c1, c2⟩]
      by_cases c3 : V 0 9 = 0
      · rw [if_pos c3, h1.1 ⟨⟨c1, c2⟩, c3⟩]
        simp +contextual (disch := (first | omega | assumption | decide)) only [↓zbrT, ↓zbrF, zw306_0, zw306_1, zw306_2, zw306_3, zw306_4, zw306_5, zr_1, zr_3, zr_4, zr_7, zr_8, zr_12, zr_13, zr_16, zr_21, zr_26, zr_28, zr_46, zr_61, zr_62, zr_66, zr_68, zr_69, zr_70, zlg_0, zlg_s, zls_0, zls_1, zls_s, zkl_i, zkl_r, zkl_l, zkl_n, zrc_1, zrc_s, zcat_n, zcat_i, zcat_l, zcat_r, zkd_131, zkd_138, zkd_139, zln_138, zln_139, zrf_131_17, zrf_131_18, Int.cast_ofNat_Int, Int.reduceAdd, zbd, zw_id, zmu_same, zmu_c, zmu_i, false_and, and_false, true_and, and_true, true_or, or_true, false_or, or_false, Option.toList, List.nil_append, List.cons_append, zif0, zif1, zif01, zem1, zem2, Int.reduceEq, Int.reduceLT, Int.reduceLE, Int.reduceNeg, Int.reduceSub, Int.reduceMul, if_true, if_false, not_false_eq_true, not_true_eq_false, true_implies, false_implies, Classical.not_not, Nat.reduceAdd, Nat.reduceLeDiff, gM_0 hQ.2.2.1, gM_1 hQ.2.2.1, gM_2 hQ.2.2.1, gM_3 hQ.2.2.1, gM_4 hQ.2.2.1, gM_5 hQ.2.2.1, gM_6 hQ.2.2.1, gM_7 hQ.2.2.1, gM_8 hQ.2.2.1, gM_9 hQ.2.2.1, gM_10 hQ.2.2.1, gM_r0 hQ.2.2.1, gM_r1 hQ.2.2.1, gM_r2 hQ.2.2.1, gM_r3 hQ.2.2.1, gM_f0 hQ.2.2.1, gM_f1 hQ.2.2.1, gM_f2 hQ.2.2.1, gM_f3 hQ.2.2.1, gM_f4 hQ.2.2.1, zq204 h5, if_pos cc, zq170, if_pos c2, c3, e3]
        refine ⟨⟨gTo_ok hQ.1 (by omega), fun k hk => by rw [gTo_0] at hk; omega, ⟨?_, fun r a b => ?_, fun f a b => ?_⟩, fun k a b => by rw [gTo_0] at b; omega⟩, fun c i hc => ?_⟩
        · simp only [gTo_0]
          simp (disch := omega) only [zmu_c]
          exact hQ.2.2.1.1
        · rw [gTo_0] at b
          rw [gTo_A, gTo_B, gTo_M, gTo_T]
          have q := hQ.2.2.1.2.1 r a b
          refine ⟨?_, ?_, ?_, ?_⟩
          · rw [zmu_i (by omega), zmu_c (by decide)]; exact q.1
          · rw [zmu_i (by omega), zmu_c (by decide)]; exact q.2.1
          · rw [zmu_i (by omega), zmu_c (by decide)]; exact q.2.2.1
          · by_cases e : r = g
            · rw [if_pos e, e, zmu_same]
            · rw [if_neg e, zmu_i (by omega), zmu_c (by decide)]; exact q.2.2.2
        · rw [gTo_0] at b
          simp only [gTo_F]
          simp (disch := omega) only [zmu_c]
          exact hQ.2.2.1.2.2 f a b
        · unfold zmu
          rw [if_neg (by omega), if_neg (by omega)]
      · rw [if_neg c3, h1.2 (fun z => c3 z.2)]
        simp +contextual (disch := (first | omega | assumption | decide)) only [↓zbrT, ↓zbrF, zw306_0, zw306_1, zw306_2, zw306_3, zw306_4, zw306_5, zr_1, zr_3, zr_4, zr_7, zr_8, zr_12, zr_13, zr_16, zr_21, zr_26, zr_28, zr_46, zr_61, zr_62, zr_66, zr_68, zr_69, zr_70, zlg_0, zlg_s, zls_0, zls_1, zls_s, zkl_i, zkl_r, zkl_l, zkl_n, zrc_1, zrc_s, zcat_n, zcat_i, zcat_l, zcat_r, zkd_131, zkd_138, zkd_139, zln_138, zln_139, zrf_131_17, zrf_131_18, Int.cast_ofNat_Int, Int.reduceAdd, zbd, zw_id, zmu_same, zmu_c, zmu_i, false_and, and_false, true_and, and_true, true_or, or_true, false_or, or_false, Option.toList, List.nil_append, List.cons_append, zif0, zif1, zif01, zem1, zem2, Int.reduceEq, Int.reduceLT, Int.reduceLE, Int.reduceNeg, Int.reduceSub, Int.reduceMul, if_true, if_false, not_false_eq_true, not_true_eq_false, true_implies, false_implies, Classical.not_not, Nat.reduceAdd, Nat.reduceLeDiff, gM_0 hQ.2.2.1, gM_1 hQ.2.2.1, gM_2 hQ.2.2.1, gM_3 hQ.2.2.1, gM_4 hQ.2.2.1, gM_5 hQ.2.2.1, gM_6 hQ.2.2.1, gM_7 hQ.2.2.1, gM_8 hQ.2.2.1, gM_9 hQ.2.2.1, gM_10 hQ.2.2.1, gM_r0 hQ.2.2.1, gM_r1 hQ.2.2.1, gM_r2 hQ.2.2.1, gM_r3 hQ.2.2.1, gM_f0 hQ.2.2.1, gM_f1 hQ.2.2.1, gM_f2 hQ.2.2.1, gM_f3 hQ.2.2.1, gM_f4 hQ.2.2.1, zq204 h5, if_pos cc, zq170, if_pos c2, e3]
        exact ⟨hQ0, gZm_y hY0⟩
    · rw [if_neg (fun z => c2 z.2), h1.2 (fun z => c2 z.1.2)]
      simp +contextual (disch := (first | omega | assumption | decide)) only [↓zbrT, ↓zbrF, zw306_0, zw306_1, zw306_2, zw306_3, zw306_4, zw306_5, zr_1, zr_3, zr_4, zr_7, zr_8, zr_12, zr_13, zr_16, zr_21, zr_26, zr_28, zr_46, zr_61, zr_62, zr_66, zr_68, zr_69, zr_70, zlg_0, zlg_s, zls_0, zls_1, zls_s, zkl_i, zkl_r, zkl_l, zkl_n, zrc_1, zrc_s, zcat_n, zcat_i, zcat_l, zcat_r, zkd_131, zkd_138, zkd_139, zln_138, zln_139, zrf_131_17, zrf_131_18, Int.cast_ofNat_Int, Int.reduceAdd, zbd, zw_id, zmu_same, zmu_c, zmu_i, false_and, and_false, true_and, and_true, true_or, or_true, false_or, or_false, Option.toList, List.nil_append, List.cons_append, zif0, zif1, zif01, zem1, zem2, Int.reduceEq, Int.reduceLT, Int.reduceLE, Int.reduceNeg, Int.reduceSub, Int.reduceMul, if_true, if_false, not_false_eq_true, not_true_eq_false, true_implies, false_implies, Classical.not_not, Nat.reduceAdd, Nat.reduceLeDiff, gM_0 hQ.2.2.1, gM_1 hQ.2.2.1, gM_2 hQ.2.2.1, gM_3 hQ.2.2.1, gM_4 hQ.2.2.1, gM_5 hQ.2.2.1, gM_6 hQ.2.2.1, gM_7 hQ.2.2.1, gM_8 hQ.2.2.1, gM_9 hQ.2.2.1, gM_10 hQ.2.2.1, gM_r0 hQ.2.2.1, gM_r1 hQ.2.2.1, gM_r2 hQ.2.2.1, gM_r3 hQ.2.2.1, gM_f0 hQ.2.2.1, gM_f1 hQ.2.2.1, gM_f2 hQ.2.2.1, gM_f3 hQ.2.2.1, gM_f4 hQ.2.2.1, zq204 h5, if_pos cc, zq170, if_neg c2, e3]
      exact ⟨hQ0, gZm_y hY0⟩
  · rw [if_neg (fun z => c1 z.1), h1.2 (fun z => c1 z.1.1)]
    have cc : ¬ ((0 ≤ g ∧ g ≤ V 0 5 - 1) ∧ 0 < m 139 (4 * g + 3)) := by
      rintro ⟨y1, y2⟩
      rw [gM_r3 hQ.2.2.1 y1.1 (by omega)] at y2
      exact c1 ⟨by omega, y2⟩
    have e5 := gM_5 hQ.2.2.1
    simp +contextual (disch := (first | omega | assumption | decide)) only [↓zbrT, ↓zbrF, zw306_0, zw306_1, zw306_2, zw306_3, zw306_4, zw306_5, zr_1, zr_3, zr_4, zr_7, zr_8, zr_12, zr_13, zr_16, zr_21, zr_26, zr_28, zr_46, zr_61, zr_62, zr_66, zr_68, zr_69, zr_70, zlg_0, zlg_s, zls_0, zls_1, zls_s, zkl_i, zkl_r, zkl_l, zkl_n, zrc_1, zrc_s, zcat_n, zcat_i, zcat_l, zcat_r, zkd_131, zkd_138, zkd_139, zln_138, zln_139, zrf_131_17, zrf_131_18, Int.cast_ofNat_Int, Int.reduceAdd, zbd, zw_id, zmu_same, zmu_c, zmu_i, false_and, and_false, true_and, and_true, true_or, or_true, false_or, or_false, Option.toList, List.nil_append, List.cons_append, zif0, zif1, zif01, zem1, zem2, Int.reduceEq, Int.reduceLT, Int.reduceLE, Int.reduceNeg, Int.reduceSub, Int.reduceMul, if_true, if_false, not_false_eq_true, not_true_eq_false, true_implies, false_implies, Classical.not_not, Nat.reduceAdd, Nat.reduceLeDiff, zq204 h5, e5, if_neg cc]
    exact ⟨hQ0, gZm_y hY0⟩
/-- times: farmer f goes n times -/
def gOv2 (V : zMm) (f n : Int) : zMm := zmu V 2 (5 * f + 2) n
theorem gOf_0 {V : zMm} {f n i : Int} : gOv2 V f n 0 i = V 0 i := zmu_c (by decide)
theorem gOf_1 {V : zMm} {f n i : Int} : gOv2 V f n 1 i = V 1 i := zmu_c (by decide)
theorem gOf_A {V : zMm} {f n : Int} : vA (gOv2 V f n) = vA V := funext fun r => gOf_1
theorem gOf_B {V : zMm} {f n : Int} : vB (gOv2 V f n) = vB V := funext fun r => gOf_1
theorem gOf_M {V : zMm} {f n : Int} : vM (gOv2 V f n) = vM V := funext fun r => gOf_1
theorem gOf_T {V : zMm} {f n : Int} : vT (gOv2 V f n) = vT V := funext fun r => gOf_1
theorem gOf_F0 {V : zMm} {f n j : Int} : vF (gOv2 V f n) j 0 = vF V j 0 := zmu_i (by omega)
theorem gOf_F1 {V : zMm} {f n j : Int} : vF (gOv2 V f n) j 1 = vF V j 1 := zmu_i (by omega)
theorem gOf_F2 {V : zMm} {f n j : Int} : vF (gOv2 V f n) j 2 = if j = f then n else vF V j 2 := by
  unfold vF gOv2
  rw [zmu_ci]
  by_cases c : j = f
  · rw [if_pos (by omega), if_pos c]
  · rw [if_neg (by omega), if_neg c]
theorem gOf_F3 {V : zMm} {f n j : Int} : vF (gOv2 V f n) j 3 = vF V j 3 := zmu_i (by omega)
theorem gOf_F4 {V : zMm} {f n j : Int} : vF (gOv2 V f n) j 4 = vF V j 4 := zmu_i (by omega)
theorem gOf_ok {V : zMm} (h : gOk V) {f n : Int} (hn : 0 ≤ n ∧ n ≤ 9) : gOk (gOv2 V f n) := by
  refine ⟨by simp only [gOf_0]; exact h.1, fun r a b => ?_, fun j a b => ?_⟩
  · rw [gOf_0] at b ⊢
    rw [gOf_A, gOf_B, gOf_M, gOf_T]; exact h.2.1 r a b
  · rw [gOf_0] at b ⊢
    rw [gOf_F0, gOf_F1, gOf_F2, gOf_F3, gOf_F4]
    have := h.2.2 j a b
    split <;> omega
theorem gOf_D {V : zMm} {f n : Int} : gD (gOv2 V f n) = gD V := by
  unfold gD
  rw [gOf_A, gOf_B, gOf_M, gOf_0, gOf_0]
theorem gOf_Be {V : zMm} {f n : Int} : gBe (gOv2 V f n) = gBe V := by
  unfold gBe gGb
  rw [gOf_T, gOf_0, gOf_0, gOf_0]
def gTk1 (V : zMm) (f n : Int) : Prop := ((0 ≤ f ∧ f < V 0 6) ∧ (0 ≤ n ∧ n ≤ 9)) ∧ V 0 9 = 0
def sp109 (V : zMm) (f n : Int) : Int := if (0 ≤ f ∧ f < V 0 6) ∧ (0 ≤ n ∧ n ≤ 9) then (if V 0 9 = 0 then vF V f 2 else -5) else -2
theorem gz109 {d : Nat} {m : zMm} {f : Int} {n : Int} {V V1 : zMm} (hI : gI V m) (h1 : gV1 V (gTk1 V f n) (gOv2 V f n) V1) : zC (d + 4) 109 [.inr (.inr 0), .inl f, .inl n] m (fun r' m' => r' = some (.inl (sp109 V f n)) ∧ gI V1 m' ∧ gZ m m') := by
  refine ze109 ?_
  have hb := hI.1.1.1
  unfold sp109
  by_cases c1 : 0 ≤ f ∧ f < V 0 6
  · by_cases c2 : 0 ≤ n ∧ n ≤ 9
    · rw [if_pos ⟨c1, c2⟩]
      by_cases c3 : V 0 9 = 0
      · rw [if_pos c3, h1.1 ⟨⟨c1, c2⟩, c3⟩]
        have e3 := gA_f2 hI.1.2.1 c1.1 c1.2
        simp +contextual (disch := (first | omega | assumption | decide)) only [↓zbrT, ↓zbrF, zw109_0, zw109_1, zw109_2, zw109_3, zw109_4, zw109_5, zr_1, zr_3, zr_4, zr_7, zr_10, zr_12, zr_13, zr_20, zr_61, zr_62, zr_66, zr_68, zr_69, zr_70, zlg_0, zlg_s, zls_0, zls_1, zls_s, zkl_i, zkl_r, zkl_l, zkl_n, zrc_1, zrc_s, zcat_n, zcat_i, zcat_l, zcat_r, zkd_0, zkd_105, zkd_107, zkd_20, zkd_21, zkd_23, zkd_3, zkd_48, zkd_5, zkd_67, zkd_69, zkd_86, zkd_88, zkd_a107, zkd_a23, zkd_a5, zkd_a69, zkd_a88, zln_107, zln_23, zln_5, zln_69, zln_88, zrf_0_2, zrf_0_3, zrf_0_9, zrf_105_11, zrf_21_11, zrf_3_11, zrf_67_11, zrf_86_11, zrf_a107, zrf_a23, zrf_a5, zrf_a69, zrf_a88, Int.cast_ofNat_Int, Int.reduceAdd, zbd, zmu_same, zmu_c, zmu_i, false_and, and_false, true_and, and_true, true_or, or_true, false_or, or_false, Option.toList, List.nil_append, List.cons_append, zif0, zif1, zif01, zem1, zem2, Int.reduceEq, Int.reduceLT, Int.reduceLE, Int.reduceNeg, Int.reduceSub, Int.reduceMul, if_true, if_false, not_false_eq_true, not_true_eq_false, true_implies, false_implies, Classical.not_not, Nat.reduceAdd, Nat.reduceLeDiff, zq79, gA_0 hI.1.2.1, gA_1 hI.1.2.1, gA_2 hI.1.2.1, gA_3 hI.1.2.1, gA_4 hI.1.2.1, gA_5 hI.1.2.1, gA_6 hI.1.2.1, gA_7 hI.1.2.1, gA_8 hI.1.2.1, gA_9 hI.1.2.1, gA_r0 hI.1.2.1, gA_r1 hI.1.2.1, gA_r2 hI.1.2.1, gA_r3 hI.1.2.1, gA_f0 hI.1.2.1, gA_f1 hI.1.2.1, gA_f2 hI.1.2.1, gA_f3 hI.1.2.1, gA_f4 hI.1.2.1, gA_d hI.1, gI_s0 hI, gI_s1 hI, gI_s2 hI, gI_s3 hI, gI_s4 hI, gI_s5 hI, gI_n hI, if_pos c1, zq80, if_pos c2, c3, zq6, zq27]
        refine ⟨gI_new hI c3 (by rw [gOf_0]; exact c3) (gA_new hI.1 (gOf_ok hI.1.1 (by omega)) ?_ gOf_D gOf_0 ?_ ?_ ?_) gOf_Be ?_ ?_ ?_ zmu_same, fun c i hc => ?_⟩
        · refine ⟨?_, fun r a b => ?_, fun j a b => ?_⟩
          · simp only [gOf_0]
            simp (disch := omega) only [zmu_c, gfor, gfil, Int.reduceEq, false_and, if_false]
            exact hI.1.2.1.1
          · rw [gOf_0] at b
            rw [gOf_A, gOf_B, gOf_M, gOf_T]
            simp (disch := omega) only [zmu_c, gfor, gfil, if_neg]
            exact hI.1.2.1.2.1 r a b
          · rw [gOf_0] at b
            rw [gOf_F0, gOf_F1, gOf_F2, gOf_F3, gOf_F4]
            have q := hI.1.2.1.2.2 j a b
            simp (disch := omega) only [zmu_c, gfor, gfil, if_neg]
            refine ⟨?_, ?_, ?_, ?_, ?_⟩
            · rw [zmu_i (by decide)]; exact q.1
            · rw [zmu_i (by decide)]; exact q.2.1
            · unfold zmu
              by_cases e : j = f
              · rw [if_pos (by omega), if_pos e]
              · rw [if_neg (by omega), if_neg e]; exact q.2.2.1
            · rw [zmu_i (by decide)]; exact q.2.2.2.1
            · rw [zmu_i (by decide)]; exact q.2.2.2.2
        · intro i
          simp (disch := omega) only [zmu_c, gfor, gfil, Int.reduceEq, false_and, if_false]
        · intro s a b
          simp (disch := omega) only [zmu_c, gfor, gfil, true_and, if_pos]
        · simp (disch := omega) only [zmu_c, zmu_same, gfor, gfil, Int.reduceEq, false_and, if_false]
        · simp (disch := omega) only [zmu_c, gfor, gfil, Int.reduceEq, false_and, if_false]
        · intro i
          simp (disch := omega) only [zmu_c, gfor, gfil, Int.reduceEq, false_and, if_false]
        · intro i
          simp (disch := omega) only [zmu_c, gfor, gfil, Int.reduceEq, false_and, if_false]
        · simp (disch := omega) only [zmu_c, gfor, gfil, if_neg]
      · rw [if_neg c3, h1.2 (fun z => c3 z.2)]
        simp +contextual (disch := (first | omega | assumption | decide)) only [↓zbrT, ↓zbrF, zw109_0, zw109_1, zw109_2, zw109_3, zw109_4, zw109_5, zr_1, zr_3, zr_4, zr_7, zr_10, zr_12, zr_13, zr_20, zr_61, zr_62, zr_66, zr_68, zr_69, zr_70, zlg_0, zlg_s, zls_0, zls_1, zls_s, zkl_i, zkl_r, zkl_l, zkl_n, zrc_1, zrc_s, zcat_n, zcat_i, zcat_l, zcat_r, zkd_0, zkd_105, zkd_107, zkd_20, zkd_21, zkd_23, zkd_3, zkd_48, zkd_5, zkd_67, zkd_69, zkd_86, zkd_88, zkd_a107, zkd_a23, zkd_a5, zkd_a69, zkd_a88, zln_107, zln_23, zln_5, zln_69, zln_88, zrf_0_2, zrf_0_3, zrf_0_9, zrf_105_11, zrf_21_11, zrf_3_11, zrf_67_11, zrf_86_11, zrf_a107, zrf_a23, zrf_a5, zrf_a69, zrf_a88, Int.cast_ofNat_Int, Int.reduceAdd, zbd, zmu_same, zmu_c, zmu_i, false_and, and_false, true_and, and_true, true_or, or_true, false_or, or_false, Option.toList, List.nil_append, List.cons_append, zif0, zif1, zif01, zem1, zem2, Int.reduceEq, Int.reduceLT, Int.reduceLE, Int.reduceNeg, Int.reduceSub, Int.reduceMul, if_true, if_false, not_false_eq_true, not_true_eq_false, true_implies, false_implies, Classical.not_not, Nat.reduceAdd, Nat.reduceLeDiff, zq79, gA_0 hI.1.2.1, gA_1 hI.1.2.1, gA_2 hI.1.2.1, gA_3 hI.1.2.1, gA_4 hI.1.2.1, gA_5 hI.1.2.1, gA_6 hI.1.2.1, gA_7 hI.1.2.1, gA_8 hI.1.2.1, gA_9 hI.1.2.1, gA_r0 hI.1.2.1, gA_r1 hI.1.2.1, gA_r2 hI.1.2.1, gA_r3 hI.1.2.1, gA_f0 hI.1.2.1, gA_f1 hI.1.2.1, gA_f2 hI.1.2.1, gA_f3 hI.1.2.1, gA_f4 hI.1.2.1, gA_d hI.1, gI_s0 hI, gI_s1 hI, gI_s2 hI, gI_s3 hI, gI_s4 hI, gI_s5 hI, gI_n hI, if_pos c1, zq80, if_pos c2]
        exact ⟨hI, gZ_refl⟩
    · rw [if_neg (fun z => c2 z.2), h1.2 (fun z => c2 z.1.2)]
      simp +contextual (disch := (first | omega | assumption | decide)) only [↓zbrT, ↓zbrF, zw109_0, zw109_1, zw109_2, zw109_3, zw109_4, zw109_5, zr_1, zr_3, zr_4, zr_7, zr_10, zr_12, zr_13, zr_20, zr_61, zr_62, zr_66, zr_68, zr_69, zr_70, zlg_0, zlg_s, zls_0, zls_1, zls_s, zkl_i, zkl_r, zkl_l, zkl_n, zrc_1, zrc_s, zcat_n, zcat_i, zcat_l, zcat_r, zkd_0, zkd_105, zkd_107, zkd_20, zkd_21, zkd_23, zkd_3, zkd_48, zkd_5, zkd_67, zkd_69, zkd_86, zkd_88, zkd_a107, zkd_a23, zkd_a5, zkd_a69, zkd_a88, zln_107, zln_23, zln_5, zln_69, zln_88, zrf_0_2, zrf_0_3, zrf_0_9, zrf_105_11, zrf_21_11, zrf_3_11, zrf_67_11, zrf_86_11, zrf_a107, zrf_a23, zrf_a5, zrf_a69, zrf_a88, Int.cast_ofNat_Int, Int.reduceAdd, zbd, zmu_same, zmu_c, zmu_i, false_and, and_false, true_and, and_true, true_or, or_true, false_or, or_false, Option.toList, List.nil_append, List.cons_append, zif0, zif1, zif01, zem1, zem2, Int.reduceEq, Int.reduceLT, Int.reduceLE, Int.reduceNeg, Int.reduceSub, Int.reduceMul, if_true, if_false, not_false_eq_true, not_true_eq_false, true_implies, false_implies, Classical.not_not, Nat.reduceAdd, Nat.reduceLeDiff, zq79, gA_0 hI.1.2.1, gA_1 hI.1.2.1, gA_2 hI.1.2.1, gA_3 hI.1.2.1, gA_4 hI.1.2.1, gA_5 hI.1.2.1, gA_6 hI.1.2.1, gA_7 hI.1.2.1, gA_8 hI.1.2.1, gA_9 hI.1.2.1, gA_r0 hI.1.2.1, gA_r1 hI.1.2.1, gA_r2 hI.1.2.1, gA_r3 hI.1.2.1, gA_f0 hI.1.2.1, gA_f1 hI.1.2.1, gA_f2 hI.1.2.1, gA_f3 hI.1.2.1, gA_f4 hI.1.2.1, gA_d hI.1, gI_s0 hI, gI_s1 hI, gI_s2 hI, gI_s3 hI, gI_s4 hI, gI_s5 hI, gI_n hI, if_pos c1, zq80, if_neg c2]
      exact ⟨hI, gZ_refl⟩
  · rw [if_neg (fun z => c1 z.1), h1.2 (fun z => c1 z.1.1)]
    simp +contextual (disch := (first | omega | assumption | decide)) only [↓zbrT, ↓zbrF, zw109_0, zw109_1, zw109_2, zw109_3, zw109_4, zw109_5, zr_1, zr_3, zr_4, zr_7, zr_10, zr_12, zr_13, zr_20, zr_61, zr_62, zr_66, zr_68, zr_69, zr_70, zlg_0, zlg_s, zls_0, zls_1, zls_s, zkl_i, zkl_r, zkl_l, zkl_n, zrc_1, zrc_s, zcat_n, zcat_i, zcat_l, zcat_r, zkd_0, zkd_105, zkd_107, zkd_20, zkd_21, zkd_23, zkd_3, zkd_48, zkd_5, zkd_67, zkd_69, zkd_86, zkd_88, zkd_a107, zkd_a23, zkd_a5, zkd_a69, zkd_a88, zln_107, zln_23, zln_5, zln_69, zln_88, zrf_0_2, zrf_0_3, zrf_0_9, zrf_105_11, zrf_21_11, zrf_3_11, zrf_67_11, zrf_86_11, zrf_a107, zrf_a23, zrf_a5, zrf_a69, zrf_a88, Int.cast_ofNat_Int, Int.reduceAdd, zbd, zmu_same, zmu_c, zmu_i, false_and, and_false, true_and, and_true, true_or, or_true, false_or, or_false, Option.toList, List.nil_append, List.cons_append, zif0, zif1, zif01, zem1, zem2, Int.reduceEq, Int.reduceLT, Int.reduceLE, Int.reduceNeg, Int.reduceSub, Int.reduceMul, if_true, if_false, not_false_eq_true, not_true_eq_false, true_implies, false_implies, Classical.not_not, Nat.reduceAdd, Nat.reduceLeDiff, zq79, gA_0 hI.1.2.1, gA_1 hI.1.2.1, gA_2 hI.1.2.1, gA_3 hI.1.2.1, gA_4 hI.1.2.1, gA_5 hI.1.2.1, gA_6 hI.1.2.1, gA_7 hI.1.2.1, gA_8 hI.1.2.1, gA_9 hI.1.2.1, gA_r0 hI.1.2.1, gA_r1 hI.1.2.1, gA_r2 hI.1.2.1, gA_r3 hI.1.2.1, gA_f0 hI.1.2.1, gA_f1 hI.1.2.1, gA_f2 hI.1.2.1, gA_f3 hI.1.2.1, gA_f4 hI.1.2.1, gA_d hI.1, gI_s0 hI, gI_s1 hI, gI_s2 hI, gI_s3 hI, gI_s4 hI, gI_s5 hI, gI_n hI, if_neg c1]
    exact ⟨hI, gZ_refl⟩
theorem gz307 {d : Nat} {m : zMm} {f : Int} {n : Int} {V V1 : zMm} (hQ : gQ V m) (h1 : gV1 V (gTk1 V f n) (gOv2 V f n) V1) : zC (d + 3) 307 [.inr (.inr 131), .inl f, .inl n] m (fun r' m' => r' = some (.inl (sp109 V f n)) ∧ gQ V1 m' ∧ gZm m m') := by
  refine ze307 ?_
  have hb := hQ.1.1
  have hY0 : gY m (zmu m 131 0 0) := gY_u (by decide)
  have hQ0 := gQ_y hQ hY0
  have h5 : 0 ≤ zmu m 131 0 0 138 5 ∧ zmu m 131 0 0 138 5 ≤ 8 := by rw [gM_5 hQ0.2.2.1]; omega
  have h6 : 0 ≤ zmu m 131 0 0 138 6 ∧ zmu m 131 0 0 138 6 ≤ 6 := by rw [gM_6 hQ0.2.2.1]; omega
  have h0 : 0 ≤ zmu m 131 0 0 138 0 ∧ zmu m 131 0 0 138 0 ≤ 6 := by rw [gM_0 hQ0.2.2.1]; omega
  unfold sp109
  by_cases c1 : 0 ≤ f ∧ f < V 0 6
  · have e3 := gM_f2 hQ.2.2.1 c1.1 c1.2
    have cc : 0 ≤ f ∧ f ≤ V 0 6 - 1 := by omega
    by_cases c2 : 0 ≤ n ∧ n ≤ 9
    · rw [if_pos ⟨c1, c2⟩]
      by_cases c3 : V 0 9 = 0
      · rw [if_pos c3, h1.1 ⟨⟨c1, c2⟩, c3⟩]
        simp +contextual (disch := (first | omega | assumption | decide)) only [↓zbrT, ↓zbrF, zw307_0, zw307_1, zw307_2, zw307_3, zw307_4, zw307_5, zr_1, zr_3, zr_4, zr_7, zr_8, zr_12, zr_13, zr_16, zr_21, zr_26, zr_28, zr_46, zr_61, zr_62, zr_66, zr_68, zr_69, zr_70, zlg_0, zlg_s, zls_0, zls_1, zls_s, zkl_i, zkl_r, zkl_l, zkl_n, zrc_1, zrc_s, zcat_n, zcat_i, zcat_l, zcat_r, zkd_131, zkd_138, zkd_140, zln_138, zln_140, zrf_131_17, zrf_131_19, Int.cast_ofNat_Int, Int.reduceAdd, zbd, zw_id, zmu_same, zmu_c, zmu_i, false_and, and_false, true_and, and_true, true_or, or_true, false_or, or_false, Option.toList, List.nil_append, List.cons_append, zif0, zif1, zif01, zem1, zem2, Int.reduceEq, Int.reduceLT, Int.reduceLE, Int.reduceNeg, Int.reduceSub, Int.reduceMul, if_true, if_false, not_false_eq_true, not_true_eq_false, true_implies, false_implies, Classical.not_not, Nat.reduceAdd, Nat.reduceLeDiff, gM_0 hQ.2.2.1, gM_1 hQ.2.2.1, gM_2 hQ.2.2.1, gM_3 hQ.2.2.1, gM_4 hQ.2.2.1, gM_5 hQ.2.2.1, gM_6 hQ.2.2.1, gM_7 hQ.2.2.1, gM_8 hQ.2.2.1, gM_9 hQ.2.2.1, gM_10 hQ.2.2.1, gM_r0 hQ.2.2.1, gM_r1 hQ.2.2.1, gM_r2 hQ.2.2.1, gM_r3 hQ.2.2.1, gM_f0 hQ.2.2.1, gM_f1 hQ.2.2.1, gM_f2 hQ.2.2.1, gM_f3 hQ.2.2.1, gM_f4 hQ.2.2.1, zq205 h6, if_pos cc, zq170, if_pos c2, c3, e3]
        refine ⟨⟨gOf_ok hQ.1 (by omega), fun k hk => by rw [gOf_0] at hk; omega, ⟨?_, fun r a b => ?_, fun j a b => ?_⟩, fun k a b => by rw [gOf_0] at b; omega⟩, fun c i hc => ?_⟩
        · simp only [gOf_0]
          simp (disch := omega) only [zmu_c]
          exact hQ.2.2.1.1
        · rw [gOf_0] at b
          rw [gOf_A, gOf_B, gOf_M, gOf_T]
          simp (disch := omega) only [zmu_c]
          exact hQ.2.2.1.2.1 r a b
        · rw [gOf_0] at b
          rw [gOf_F0, gOf_F1, gOf_F2, gOf_F3, gOf_F4]
          have q := hQ.2.2.1.2.2 j a b
          refine ⟨?_, ?_, ?_, ?_, ?_⟩
          · rw [zmu_i (by omega), zmu_c (by decide)]; exact q.1
          · rw [zmu_i (by omega), zmu_c (by decide)]; exact q.2.1
          · by_cases e : j = f
            · rw [if_pos e, e, zmu_same]
            · rw [if_neg e, zmu_i (by omega), zmu_c (by decide)]; exact q.2.2.1
          · rw [zmu_i (by omega), zmu_c (by decide)]; exact q.2.2.2.1
          · rw [zmu_i (by omega), zmu_c (by decide)]; exact q.2.2.2.2
        · unfold zmu
          rw [if_neg (by omega), if_neg (by omega)]
      · rw [if_neg c3, h1.2 (fun z => c3 z.2)]
        simp +contextual (disch := (first | omega | assumption | decide)) only [↓zbrT, ↓zbrF, zw307_0, zw307_1, zw307_2, zw307_3, zw307_4, zw307_5, zr_1, zr_3, zr_4, zr_7, zr_8, zr_12, zr_13, zr_16, zr_21, zr_26, zr_28, zr_46, zr_61, zr_62, zr_66, zr_68, zr_69, zr_70, zlg_0, zlg_s, zls_0, zls_1, zls_s, zkl_i, zkl_r, zkl_l, zkl_n, zrc_1, zrc_s, zcat_n, zcat_i, zcat_l, zcat_r, zkd_131, zkd_138, zkd_140, zln_138, zln_140, zrf_131_17, zrf_131_19, Int.cast_ofNat_Int, Int.reduceAdd, zbd, zw_id, zmu_same, zmu_c, zmu_i, false_and, and_false, true_and, and_true, true_or, or_true, false_or, or_false, Option.toList, List.nil_append, List.cons_append, zif0, zif1, zif01, zem1, zem2, Int.reduceEq, Int.reduceLT, Int.reduceLE, Int.reduceNeg, Int.reduceSub, Int.reduceMul, if_true, if_false, not_false_eq_true, not_true_eq_false, true_implies, false_implies, Classical.not_not, Nat.reduceAdd, Nat.reduceLeDiff, gM_0 hQ.2.2.1, gM_1 hQ.2.2.1, gM_2 hQ.2.2.1, gM_3 hQ.2.2.1, gM_4 hQ.2.2.1, gM_5 hQ.2.2.1, gM_6 hQ.2.2.1, gM_7 hQ.2.2.1, gM_8 hQ.2.2.1, gM_9 hQ.2.2.1, gM_10 hQ.2.2.1, gM_r0 hQ.2.2.1, gM_r1 hQ.2.2.1, gM_r2 hQ.2.2.1, gM_r3 hQ.2.2.1, gM_f0 hQ.2.2.1, gM_f1 hQ.2.2.1, gM_f2 hQ.2.2.1, gM_f3 hQ.2.2.1, gM_f4 hQ.2.2.1, zq205 h6, if_pos cc, zq170, if_pos c2, e3]
        exact ⟨hQ0, gZm_y hY0⟩
    · rw [if_neg (fun z => c2 z.2), h1.2 (fun z => c2 z.1.2)]
      simp +contextual (disch := (first | omega | assumption | decide)) only [↓zbrT, ↓zbrF, zw307_0, zw307_1, zw307_2, zw307_3, zw307_4, zw307_5, zr_1, zr_3, zr_4, zr_7, zr_8, zr_12, zr_13, zr_16, zr_21, zr_26, zr_28, zr_46, zr_61, zr_62, zr_66, zr_68, zr_69, zr_70, zlg_0, zlg_s, zls_0, zls_1, zls_s, zkl_i, zkl_r, zkl_l, zkl_n, zrc_1, zrc_s, zcat_n, zcat_i, zcat_l, zcat_r, zkd_131, zkd_138, zkd_140, zln_138, zln_140, zrf_131_17, zrf_131_19, Int.cast_ofNat_Int, Int.reduceAdd, zbd, zw_id, zmu_same, zmu_c, zmu_i, false_and, and_false, true_and, and_true, true_or, or_true, false_or, or_false, Option.toList, List.nil_append, List.cons_append, zif0, zif1, zif01, zem1, zem2, Int.reduceEq, Int.reduceLT, Int.reduceLE, Int.reduceNeg, Int.reduceSub, Int.reduceMul, if_true, if_false, not_false_eq_true, not_true_eq_false, true_implies, false_implies, Classical.not_not, Nat.reduceAdd, Nat.reduceLeDiff, gM_0 hQ.2.2.1, gM_1 hQ.2.2.1, gM_2 hQ.2.2.1, gM_3 hQ.2.2.1, gM_4 hQ.2.2.1, gM_5 hQ.2.2.1, gM_6 hQ.2.2.1, gM_7 hQ.2.2.1, gM_8 hQ.2.2.1, gM_9 hQ.2.2.1, gM_10 hQ.2.2.1, gM_r0 hQ.2.2.1, gM_r1 hQ.2.2.1, gM_r2 hQ.2.2.1, gM_r3 hQ.2.2.1, gM_f0 hQ.2.2.1, gM_f1 hQ.2.2.1, gM_f2 hQ.2.2.1, gM_f3 hQ.2.2.1, gM_f4 hQ.2.2.1, zq205 h6, if_pos cc, zq170, if_neg c2, e3]
      exact ⟨hQ0, gZm_y hY0⟩
  · rw [if_neg (fun z => c1 z.1), h1.2 (fun z => c1 z.1.1)]
    have cc : ¬ (0 ≤ f ∧ f ≤ V 0 6 - 1) := by omega
    simp +contextual (disch := (first | omega | assumption | decide)) only [↓zbrT, ↓zbrF, zw307_0, zw307_1, zw307_2, zw307_3, zw307_4, zw307_5, zr_1, zr_3, zr_4, zr_7, zr_8, zr_12, zr_13, zr_16, zr_21, zr_26, zr_28, zr_46, zr_61, zr_62, zr_66, zr_68, zr_69, zr_70, zlg_0, zlg_s, zls_0, zls_1, zls_s, zkl_i, zkl_r, zkl_l, zkl_n, zrc_1, zrc_s, zcat_n, zcat_i, zcat_l, zcat_r, zkd_131, zkd_138, zkd_140, zln_138, zln_140, zrf_131_17, zrf_131_19, Int.cast_ofNat_Int, Int.reduceAdd, zbd, zw_id, zmu_same, zmu_c, zmu_i, false_and, and_false, true_and, and_true, true_or, or_true, false_or, or_false, Option.toList, List.nil_append, List.cons_append, zif0, zif1, zif01, zem1, zem2, Int.reduceEq, Int.reduceLT, Int.reduceLE, Int.reduceNeg, Int.reduceSub, Int.reduceMul, if_true, if_false, not_false_eq_true, not_true_eq_false, true_implies, false_implies, Classical.not_not, Nat.reduceAdd, Nat.reduceLeDiff, gM_0 hQ.2.2.1, gM_1 hQ.2.2.1, gM_2 hQ.2.2.1, gM_3 hQ.2.2.1, gM_4 hQ.2.2.1, gM_5 hQ.2.2.1, gM_6 hQ.2.2.1, gM_7 hQ.2.2.1, gM_8 hQ.2.2.1, gM_9 hQ.2.2.1, gM_10 hQ.2.2.1, gM_r0 hQ.2.2.1, gM_r1 hQ.2.2.1, gM_r2 hQ.2.2.1, gM_r3 hQ.2.2.1, gM_f0 hQ.2.2.1, gM_f1 hQ.2.2.1, gM_f2 hQ.2.2.1, gM_f3 hQ.2.2.1, gM_f4 hQ.2.2.1, zq205 h6, if_neg cc]
    exact ⟨hQ0, gZm_y hY0⟩
