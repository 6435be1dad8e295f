/-! ===== the model reads farmers, lines ===== -/
theorem gFarmm {d : Nat} {m T D : zMm} {s : Int × Int × Int} {l1 l2 : Option zV} (hk : gTo1 T) (hp : gPd T (pAd T s) m) (hs : s.1 ≤ T 0 0) (c1 : pIs T (gWc 10) s = true) (hc : gS4 D m) (h0 : 0 ≤ D 0 0 ∧ D 0 0 ≤ 6) (h5 : 0 ≤ D 0 6 ∧ D 0 6 < 6) : zWP (zEx (d + 5)) 197 8 [some (.inr (.inr 131)), l1, l2] [] m (fun r' m' => r' = none ∧ gPd T (pF5 T (D 0 0) s) m' ∧ ((pF5 T (D 0 0) s).2.1 = 0 → gS4 (dF T s D) m') ∧ gFm4 m m') := by
  have e40 := hc.1.1
  have e46 := hc.1.2.2.2.2.2.2.1
  have hs1 := (pAd_1 hs).2
  have hs2 := (pTw_1 (w := gWc 11) hs1).2
  have r1e : pNu T 0 (D 0 0 - 1) (pTw T (gWc 11) (pAd T s)) = pF1 T (D 0 0) s := by
    unfold pF1 pQ pPl
    rw [pTw_t c1, pDn_m hs2]
  have rae : pVa T 0 (D 0 0 - 1) 0 (pTw T (gWc 11) (pAd T s)) = pFa T (D 0 0) s := by
    unfold pFa pR pPl
    rw [pTw_t c1, pDn_m hs2]
  have bra : 0 ≤ pFa T (D 0 0) s ∧ pFa T (D 0 0) s ≤ 5 := pVa_b (by omega)
  simp +contextual (disch := (first | omega | assumption | decide)) only [↓zbrT, ↓zbrF, zw197_0, zw197_1, zw197_2, zw197_3, zw197_4, zw197_5, zw197_6, zw197_7, zw197_8, zw197_9, zw197_10, zw197_11, zw197_12, zw197_13, zr_1, zr_3, zr_4, zr_7, zr_8, zr_10, zr_12, zr_16, zr_21, zr_26, zr_28, zr_54, zr_61, zr_62, zr_68, zr_72, zr_73, zlg_0, zlg_s, zls_0, zls_1, zls_s, zkl_i, zkl_r, zkl_l, zkl_n, zrc_1, zrc_s, zcat_n, zcat_i, zcat_l, zcat_r, zkd_131, zkd_139, zkd_140, zln_139, zln_140, zrf_131_18, zrf_131_19, Int.cast_ofNat_Int, Int.reduceAdd, zbd, zw_id, zmu_same, zmu_c, zmu_i, false_and, and_false, true_and, and_true, true_or, or_true, false_or, or_false, Option.toList, List.nil_append, List.cons_append, zif0, zif1, zif01, zem1, zem2, Int.reduceEq, Int.reduceLT, Int.reduceLE, Int.reduceNeg, Int.reduceSub, Int.reduceMul, if_true, if_false, not_false_eq_true, not_true_eq_false, true_implies, false_implies, Classical.not_not, Nat.reduceAdd, Nat.reduceLeDiff, zq192, e46]
  refine gK (gz185 (w := 47) hk hp) rfl rfl (Nat.le_of_ble_eq_true rfl) ?_
  rintro _ m0 ⟨rfl, p0, f0⟩
  rw [← gWc_11] at p0
  have b0 : m0 138 40 = D 0 0 := by rw [gFn_u f0 (by decide)]; exact e40
  simp +contextual (disch := (first | omega | assumption | decide)) only [↓zbrT, ↓zbrF, zw197_0, zw197_1, zw197_2, zw197_3, zw197_4, zw197_5, zw197_6, zw197_7, zw197_8, zw197_9, zw197_10, zw197_11, zw197_12, zw197_13, zr_1, zr_3, zr_4, zr_7, zr_8, zr_10, zr_12, zr_16, zr_21, zr_26, zr_28, zr_54, zr_61, zr_62, zr_68, zr_72, zr_73, zlg_0, zlg_s, zls_0, zls_1, zls_s, zkl_i, zkl_r, zkl_l, zkl_n, zrc_1, zrc_s, zcat_n, zcat_i, zcat_l, zcat_r, zkd_131, zkd_139, zkd_140, zln_139, zln_140, zrf_131_18, zrf_131_19, Int.cast_ofNat_Int, Int.reduceAdd, zbd, zw_id, zmu_same, zmu_c, zmu_i, false_and, and_false, true_and, and_true, true_or, or_true, false_or, or_false, Option.toList, List.nil_append, List.cons_append, zif0, zif1, zif01, zem1, zem2, Int.reduceEq, Int.reduceLT, Int.reduceLE, Int.reduceNeg, Int.reduceSub, Int.reduceMul, if_true, if_false, not_false_eq_true, not_true_eq_false, true_implies, false_implies, Classical.not_not, Nat.reduceAdd, Nat.reduceLeDiff, e46]
  refine gK (gz194 hk b0 h0 p0) rfl rfl (Nat.le_of_ble_eq_true rfl) ?_
  rintro _ m1 ⟨rfl, p1, f1⟩
  rw [r1e] at p1
  rw [rae]
  simp +contextual (disch := (first | omega | assumption | decide)) only [↓zbrT, ↓zbrF, zw197_0, zw197_1, zw197_2, zw197_3, zw197_4, zw197_5, zw197_6, zw197_7, zw197_8, zw197_9, zw197_10, zw197_11, zw197_12, zw197_13, zr_1, zr_3, zr_4, zr_7, zr_8, zr_10, zr_12, zr_16, zr_21, zr_26, zr_28, zr_54, zr_61, zr_62, zr_68, zr_72, zr_73, zlg_0, zlg_s, zls_0, zls_1, zls_s, zkl_i, zkl_r, zkl_l, zkl_n, zrc_1, zrc_s, zcat_n, zcat_i, zcat_l, zcat_r, zkd_131, zkd_139, zkd_140, zln_139, zln_140, zrf_131_18, zrf_131_19, Int.cast_ofNat_Int, Int.reduceAdd, zbd, zw_id, zmu_same, zmu_c, zmu_i, false_and, and_false, true_and, and_true, true_or, or_true, false_or, or_false, Option.toList, List.nil_append, List.cons_append, zif0, zif1, zif01, zem1, zem2, Int.reduceEq, Int.reduceLT, Int.reduceLE, Int.reduceNeg, Int.reduceSub, Int.reduceMul, if_true, if_false, not_false_eq_true, not_true_eq_false, true_implies, false_implies, Classical.not_not, Nat.reduceAdd, Nat.reduceLeDiff, e46]
  have b1 : zmu m1 140 (5 * (24 + D 0 6)) (pFa T (D 0 0) s) 138 40 = D 0 0 := by rw [zmu_c (by decide), gFn_u f1 (by decide)]; exact b0
  refine gK (gz195 (x := pFa T (D 0 0) s) hk b1 h0 ⟨bra.1, by omega⟩ (gPd_u p1 (by decide))) rfl rfl (Nat.le_of_ble_eq_true rfl) ?_
  rintro _ m2 ⟨rfl, p2, f2⟩
  rw [← gWc_7] at p2 ⊢
  replace p2 : gPd T (pF2 T (D 0 0) s) m2 := p2
  rw [show pR T (gWc 7) (D 0 0) (pFa T (D 0 0) s) (pF1 T (D 0 0) s) = pFb T (D 0 0) s from rfl]
  simp +contextual (disch := (first | omega | assumption | decide)) only [↓zbrT, ↓zbrF, zw197_0, zw197_1, zw197_2, zw197_3, zw197_4, zw197_5, zw197_6, zw197_7, zw197_8, zw197_9, zw197_10, zw197_11, zw197_12, zw197_13, zr_1, zr_3, zr_4, zr_7, zr_8, zr_10, zr_12, zr_16, zr_21, zr_26, zr_28, zr_54, zr_61, zr_62, zr_68, zr_72, zr_73, zlg_0, zlg_s, zls_0, zls_1, zls_s, zkl_i, zkl_r, zkl_l, zkl_n, zrc_1, zrc_s, zcat_n, zcat_i, zcat_l, zcat_r, zkd_131, zkd_139, zkd_140, zln_139, zln_140, zrf_131_18, zrf_131_19, Int.cast_ofNat_Int, Int.reduceAdd, zbd, zw_id, zmu_same, zmu_c, zmu_i, false_and, and_false, true_and, and_true, true_or, or_true, false_or, or_false, Option.toList, List.nil_append, List.cons_append, zif0, zif1, zif01, zem1, zem2, Int.reduceEq, Int.reduceLT, Int.reduceLE, Int.reduceNeg, Int.reduceSub, Int.reduceMul, if_true, if_false, not_false_eq_true, not_true_eq_false, true_implies, false_implies, Classical.not_not, Nat.reduceAdd, Nat.reduceLeDiff]
  refine gK (gz187 (w := 10815598) (x := 0) (y := 9) hk (by decide) (gPd_u p2 (by decide))) rfl rfl (Nat.le_of_ble_eq_true rfl) ?_
  rintro _ m3 ⟨rfl, p3, f3⟩
  rw [← gWc_12] at p3 ⊢
  replace p3 : gPd T (pF3 T (D 0 0) s) m3 := p3
  rw [show pV T (gWc 12) 0 9 0 (pF2 T (D 0 0) s) = pFo T (D 0 0) s from rfl]
  simp +contextual (disch := (first | omega | assumption | decide)) only [↓zbrT, ↓zbrF, zw197_0, zw197_1, zw197_2, zw197_3, zw197_4, zw197_5, zw197_6, zw197_7, zw197_8, zw197_9, zw197_10, zw197_11, zw197_12, zw197_13, zr_1, zr_3, zr_4, zr_7, zr_8, zr_10, zr_12, zr_16, zr_21, zr_26, zr_28, zr_54, zr_61, zr_62, zr_68, zr_72, zr_73, zlg_0, zlg_s, zls_0, zls_1, zls_s, zkl_i, zkl_r, zkl_l, zkl_n, zrc_1, zrc_s, zcat_n, zcat_i, zcat_l, zcat_r, zkd_131, zkd_139, zkd_140, zln_139, zln_140, zrf_131_18, zrf_131_19, Int.cast_ofNat_Int, Int.reduceAdd, zbd, zw_id, zmu_same, zmu_c, zmu_i, false_and, and_false, true_and, and_true, true_or, or_true, false_or, or_false, Option.toList, List.nil_append, List.cons_append, zif0, zif1, zif01, zem1, zem2, Int.reduceEq, Int.reduceLT, Int.reduceLE, Int.reduceNeg, Int.reduceSub, Int.reduceMul, if_true, if_false, not_false_eq_true, not_true_eq_false, true_implies, false_implies, Classical.not_not, Nat.reduceAdd, Nat.reduceLeDiff]
  refine gK (gz187 (w := 1389010550) (x := 0) (y := 999) hk (by decide) (gPd_u p3 (by decide))) rfl rfl (Nat.le_of_ble_eq_true rfl) ?_
  rintro _ m4 ⟨rfl, p4, f4⟩
  rw [← gWc_13] at p4 ⊢
  replace p4 : gPd T (pF4 T (D 0 0) s) m4 := p4
  rw [show pV T (gWc 13) 0 999 0 (pF3 T (D 0 0) s) = pFc T (D 0 0) s from rfl]
  simp +contextual (disch := (first | omega | assumption | decide)) only [↓zbrT, ↓zbrF, zw197_0, zw197_1, zw197_2, zw197_3, zw197_4, zw197_5, zw197_6, zw197_7, zw197_8, zw197_9, zw197_10, zw197_11, zw197_12, zw197_13, zr_1, zr_3, zr_4, zr_7, zr_8, zr_10, zr_12, zr_16, zr_21, zr_26, zr_28, zr_54, zr_61, zr_62, zr_68, zr_72, zr_73, zlg_0, zlg_s, zls_0, zls_1, zls_s, zkl_i, zkl_r, zkl_l, zkl_n, zrc_1, zrc_s, zcat_n, zcat_i, zcat_l, zcat_r, zkd_131, zkd_139, zkd_140, zln_139, zln_140, zrf_131_18, zrf_131_19, Int.cast_ofNat_Int, Int.reduceAdd, zbd, zw_id, zmu_same, zmu_c, zmu_i, false_and, and_false, true_and, and_true, true_or, or_true, false_or, or_false, Option.toList, List.nil_append, List.cons_append, zif0, zif1, zif01, zem1, zem2, Int.reduceEq, Int.reduceLT, Int.reduceLE, Int.reduceNeg, Int.reduceSub, Int.reduceMul, if_true, if_false, not_false_eq_true, not_true_eq_false, true_implies, false_implies, Classical.not_not, Nat.reduceAdd, Nat.reduceLeDiff]
  refine gK (gz187 (w := 298288) (x := 0) (y := 100) hk (by decide) (gPd_u p4 (by decide))) rfl rfl (Nat.le_of_ble_eq_true rfl) ?_
  rintro _ m5 ⟨rfl, p5, f5⟩
  rw [← gWc_14] at p5 ⊢
  replace p5 : gPd T (pF5 T (D 0 0) s) m5 := p5
  rw [show pV T (gWc 14) 0 100 0 (pF4 T (D 0 0) s) = pFd T (D 0 0) s from rfl]
  have fr : ∀ c i, c ≠ 131 → ¬ (c = 140 ∧ 5 * (24 + D 0 6) ≤ i ∧ i < 5 * (24 + D 0 6) + 5) → m5 c i = m c i := fun c i a b => by
    rw [gFn_u f5 a, zmu_o (by omega), gFn_u f4 a, zmu_o (by omega), gFn_u f3 a, zmu_o (by omega), gFn_u f2 a, zmu_o (by omega), gFn_u f1 a, gFn_u f0 a]
  have q1 : m5 138 46 = D 0 6 := by rw [fr 138 46 (by decide) (by omega), e46]
  simp +contextual (disch := (first | omega | assumption | decide)) only [↓zbrT, ↓zbrF, zw197_0, zw197_1, zw197_2, zw197_3, zw197_4, zw197_5, zw197_6, zw197_7, zw197_8, zw197_9, zw197_10, zw197_11, zw197_12, zw197_13, zr_1, zr_3, zr_4, zr_7, zr_8, zr_10, zr_12, zr_16, zr_21, zr_26, zr_28, zr_54, zr_61, zr_62, zr_68, zr_72, zr_73, zlg_0, zlg_s, zls_0, zls_1, zls_s, zkl_i, zkl_r, zkl_l, zkl_n, zrc_1, zrc_s, zcat_n, zcat_i, zcat_l, zcat_r, zkd_131, zkd_139, zkd_140, zln_139, zln_140, zrf_131_18, zrf_131_19, Int.cast_ofNat_Int, Int.reduceAdd, zbd, zw_id, zmu_same, zmu_c, zmu_i, false_and, and_false, true_and, and_true, true_or, or_true, false_or, or_false, Option.toList, List.nil_append, List.cons_append, zif0, zif1, zif01, zem1, zem2, Int.reduceEq, Int.reduceLT, Int.reduceLE, Int.reduceNeg, Int.reduceSub, Int.reduceMul, if_true, if_false, not_false_eq_true, not_true_eq_false, true_implies, false_implies, Classical.not_not, Nat.reduceAdd, Nat.reduceLeDiff, zq192, zq193, q1]
  refine ⟨gPd_u (gPd_u p5 (by decide)) (by decide), fun _ => gS4_w hc h5 ?_ ?_ ?_ ?_ ?_ zmu_same (fun c i a b e => ?_), ?_⟩
  · rw [zmu_c (by decide), zmu_i (by omega), gFn_u f5 (by decide), zmu_i (by omega), gFn_u f4 (by decide), zmu_i (by omega), gFn_u f3 (by decide), zmu_i (by omega), gFn_u f2 (by decide), zmu_same]
  · rw [zmu_c (by decide), zmu_i (by omega), gFn_u f5 (by decide), zmu_i (by omega), gFn_u f4 (by decide), zmu_i (by omega), gFn_u f3 (by decide), zmu_same]
  · rw [zmu_c (by decide), zmu_i (by omega), gFn_u f5 (by decide), zmu_i (by omega), gFn_u f4 (by decide), zmu_same]
  · rw [zmu_c (by decide), zmu_i (by omega), gFn_u f5 (by decide), zmu_same]
  · rw [zmu_c (by decide), zmu_same]
  · rw [zmu_o e, zmu_o (by omega)]; exact fr c i a b
  · exact gFm4_tr (gFm4_n (gFn_tr f0 f1)) (gFm4_tr (gFm4_u (by omega)) (gFm4_tr (gFm4_n f2) (gFm4_tr (gFm4_u (by omega)) (gFm4_tr (gFm4_n f3) (gFm4_tr (gFm4_u (by omega)) (gFm4_tr (gFm4_n f4) (gFm4_tr (gFm4_u (by omega)) (gFm4_tr (gFm4_n f5) (gFm4_tr (gFm4_u (by omega)) (gFm4_u (by omega)))))))))))
