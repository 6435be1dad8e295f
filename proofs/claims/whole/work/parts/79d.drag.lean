/-! ===== dragoons ===== -/
theorem gDragm {d : Nat} {m T D : zMm} {s : Int × Int × Int} {l1 l2 : Option zV} (hk : gTo1 T) (hp : gPd T s m) (hc : gS4 D m) (h0 : 0 ≤ D 0 0 ∧ D 0 0 ≤ 6) : zWP (zEx (d + 5)) 197 10 [some (.inr (.inr 131)), l1, l2] [] m (fun r' m' => r' = none ∧ gPd T (pG2 T (D 0 0) s) m' ∧ ((pG2 T (D 0 0) s).2.1 = 0 → gS4 (dG T s D) m') ∧ gFm4 m m') := by
  have e40 := hc.1.1
  have hs1 := (pTw_1 (w := gWc 15) hp.2.2.2.2.2).2
  have hs2 := (pTw_1 (w := gWc 11) hs1).2
  have r1e : pNu T 0 (D 0 0 - 1) (pTw T (gWc 11) (pTw T (gWc 15) s)) = pG1 T (D 0 0) s := by
    unfold pG1 pQ pPl
    rw [pDn_m hs2]
  have rae : pVa T 0 (D 0 0 - 1) 0 (pTw T (gWc 11) (pTw T (gWc 15) s)) = pGa T (D 0 0) s := by
    unfold pGa pR pPl
    rw [pDn_m hs2]
  simp +contextual (disch := (first | omega | assumption | decide)) only [↓zbrT, ↓zbrF, zw197_0, zw197_1, zw197_2, zw197_3, zw197_4, zw197_5, zw197_6, zw197_7, zw197_8, zw197_9, zw197_10, zw197_11, zw197_12, zw197_13, zr_1, zr_3, zr_4, zr_7, zr_8, zr_10, zr_12, zr_16, zr_21, zr_26, zr_28, zr_54, zr_61, zr_62, zr_68, zr_72, zr_73, zlg_0, zlg_s, zls_0, zls_1, zls_s, zkl_i, zkl_r, zkl_l, zkl_n, zrc_1, zrc_s, zcat_n, zcat_i, zcat_l, zcat_r, zkd_131, zkd_139, zkd_140, zln_139, zln_140, zrf_131_18, zrf_131_19, Int.cast_ofNat_Int, Int.reduceAdd, zbd, zw_id, zmu_same, zmu_c, zmu_i, false_and, and_false, true_and, and_true, true_or, or_true, false_or, or_false, Option.toList, List.nil_append, List.cons_append, zif0, zif1, zif01, zem1, zem2, Int.reduceEq, Int.reduceLT, Int.reduceLE, Int.reduceNeg, Int.reduceSub, Int.reduceMul, if_true, if_false, not_false_eq_true, not_true_eq_false, true_implies, false_implies, Classical.not_not, Nat.reduceAdd, Nat.reduceLeDiff]
  refine gK (gz185 (w := 48833357185) hk hp) rfl rfl (Nat.le_of_ble_eq_true rfl) ?_
  rintro _ m0 ⟨rfl, p0, f0⟩
  rw [← gWc_15] at p0
  simp +contextual (disch := (first | omega | assumption | decide)) only [↓zbrT, ↓zbrF, zw197_0, zw197_1, zw197_2, zw197_3, zw197_4, zw197_5, zw197_6, zw197_7, zw197_8, zw197_9, zw197_10, zw197_11, zw197_12, zw197_13, zr_1, zr_3, zr_4, zr_7, zr_8, zr_10, zr_12, zr_16, zr_21, zr_26, zr_28, zr_54, zr_61, zr_62, zr_68, zr_72, zr_73, zlg_0, zlg_s, zls_0, zls_1, zls_s, zkl_i, zkl_r, zkl_l, zkl_n, zrc_1, zrc_s, zcat_n, zcat_i, zcat_l, zcat_r, zkd_131, zkd_139, zkd_140, zln_139, zln_140, zrf_131_18, zrf_131_19, Int.cast_ofNat_Int, Int.reduceAdd, zbd, zw_id, zmu_same, zmu_c, zmu_i, false_and, and_false, true_and, and_true, true_or, or_true, false_or, or_false, Option.toList, List.nil_append, List.cons_append, zif0, zif1, zif01, zem1, zem2, Int.reduceEq, Int.reduceLT, Int.reduceLE, Int.reduceNeg, Int.reduceSub, Int.reduceMul, if_true, if_false, not_false_eq_true, not_true_eq_false, true_implies, false_implies, Classical.not_not, Nat.reduceAdd, Nat.reduceLeDiff]
  refine gK (gz185 (w := 47) hk p0) rfl rfl (Nat.le_of_ble_eq_true rfl) ?_
  rintro _ m1 ⟨rfl, p1, f1⟩
  rw [← gWc_11] at p1
  have b1 : m1 138 40 = D 0 0 := by rw [gFn_u f1 (by decide), gFn_u f0 (by decide)]; exact e40
  simp +contextual (disch := (first | omega | assumption | decide)) only [↓zbrT, ↓zbrF, zw197_0, zw197_1, zw197_2, zw197_3, zw197_4, zw197_5, zw197_6, zw197_7, zw197_8, zw197_9, zw197_10, zw197_11, zw197_12, zw197_13, zr_1, zr_3, zr_4, zr_7, zr_8, zr_10, zr_12, zr_16, zr_21, zr_26, zr_28, zr_54, zr_61, zr_62, zr_68, zr_72, zr_73, zlg_0, zlg_s, zls_0, zls_1, zls_s, zkl_i, zkl_r, zkl_l, zkl_n, zrc_1, zrc_s, zcat_n, zcat_i, zcat_l, zcat_r, zkd_131, zkd_139, zkd_140, zln_139, zln_140, zrf_131_18, zrf_131_19, Int.cast_ofNat_Int, Int.reduceAdd, zbd, zw_id, zmu_same, zmu_c, zmu_i, false_and, and_false, true_and, and_true, true_or, or_true, false_or, or_false, Option.toList, List.nil_append, List.cons_append, zif0, zif1, zif01, zem1, zem2, Int.reduceEq, Int.reduceLT, Int.reduceLE, Int.reduceNeg, Int.reduceSub, Int.reduceMul, if_true, if_false, not_false_eq_true, not_true_eq_false, true_implies, false_implies, Classical.not_not, Nat.reduceAdd, Nat.reduceLeDiff]
  refine gK (gz194 hk b1 h0 p1) rfl rfl (Nat.le_of_ble_eq_true rfl) ?_
  rintro _ m2 ⟨rfl, p2, f2⟩
  rw [r1e] at p2
  rw [rae]
  simp +contextual (disch := (first | omega | assumption | decide)) only [↓zbrT, ↓zbrF, zw197_0, zw197_1, zw197_2, zw197_3, zw197_4, zw197_5, zw197_6, zw197_7, zw197_8, zw197_9, zw197_10, zw197_11, zw197_12, zw197_13, zr_1, zr_3, zr_4, zr_7, zr_8, zr_10, zr_12, zr_16, zr_21, zr_26, zr_28, zr_54, zr_61, zr_62, zr_68, zr_72, zr_73, zlg_0, zlg_s, zls_0, zls_1, zls_s, zkl_i, zkl_r, zkl_l, zkl_n, zrc_1, zrc_s, zcat_n, zcat_i, zcat_l, zcat_r, zkd_131, zkd_139, zkd_140, zln_139, zln_140, zrf_131_18, zrf_131_19, Int.cast_ofNat_Int, Int.reduceAdd, zbd, zw_id, zmu_same, zmu_c, zmu_i, false_and, and_false, true_and, and_true, true_or, or_true, false_or, or_false, Option.toList, List.nil_append, List.cons_append, zif0, zif1, zif01, zem1, zem2, Int.reduceEq, Int.reduceLT, Int.reduceLE, Int.reduceNeg, Int.reduceSub, Int.reduceMul, if_true, if_false, not_false_eq_true, not_true_eq_false, true_implies, false_implies, Classical.not_not, Nat.reduceAdd, Nat.reduceLeDiff]
  refine gK (gz187 (w := 315743) (x := 0) (y := 60) hk (by decide) p2) rfl rfl (Nat.le_of_ble_eq_true rfl) ?_
  rintro _ m3 ⟨rfl, p3, f3⟩
  rw [← gWc_16] at p3 ⊢
  replace p3 : gPd T (pG2 T (D 0 0) s) m3 := p3
  rw [show pV T (gWc 16) 0 60 0 (pG1 T (D 0 0) s) = pGp T (D 0 0) s from rfl]
  have b3 := p3.2.2.1
  have fa := gFn_tr f0 (gFn_tr f1 (gFn_tr f2 f3))
  by_cases c : (pG2 T (D 0 0) s).2.1 = 0
  · have c3 : m3 131 12 = 0 := by rw [b3, c]
    simp +contextual (disch := (first | omega | assumption | decide)) only [↓zbrT, ↓zbrF, zw197_0, zw197_1, zw197_2, zw197_3, zw197_4, zw197_5, zw197_6, zw197_7, zw197_8, zw197_9, zw197_10, zw197_11, zw197_12, zw197_13, zr_1, zr_3, zr_4, zr_7, zr_8, zr_10, zr_12, zr_16, zr_21, zr_26, zr_28, zr_54, zr_61, zr_62, zr_68, zr_72, zr_73, zlg_0, zlg_s, zls_0, zls_1, zls_s, zkl_i, zkl_r, zkl_l, zkl_n, zrc_1, zrc_s, zcat_n, zcat_i, zcat_l, zcat_r, zkd_131, zkd_139, zkd_140, zln_139, zln_140, zrf_131_18, zrf_131_19, Int.cast_ofNat_Int, Int.reduceAdd, zbd, zw_id, zmu_same, zmu_c, zmu_i, false_and, and_false, true_and, and_true, true_or, or_true, false_or, or_false, Option.toList, List.nil_append, List.cons_append, zif0, zif1, zif01, zem1, zem2, Int.reduceEq, Int.reduceLT, Int.reduceLE, Int.reduceNeg, Int.reduceSub, Int.reduceMul, if_true, if_false, not_false_eq_true, not_true_eq_false, true_implies, false_implies, Classical.not_not, Nat.reduceAdd, Nat.reduceLeDiff, zq181, if_pos c3, zq193]
    exact ⟨gPd_u (gPd_u p3 (by decide)) (by decide), fun _ => gS4_u (i := 48) (j := 8) (by omega) (gS4_u (i := 47) (j := 7) (by omega) (gS4_n hc fa)), gFm4_tr (gFm4_n fa) (gFm4_tr (gFm4_u (by omega)) (gFm4_u (by omega)))⟩
  · have c3 : ¬ m3 131 12 = 0 := by rw [b3]; exact c
    simp +contextual (disch := (first | omega | assumption | decide)) only [↓zbrT, ↓zbrF, zw197_0, zw197_1, zw197_2, zw197_3, zw197_4, zw197_5, zw197_6, zw197_7, zw197_8, zw197_9, zw197_10, zw197_11, zw197_12, zw197_13, zr_1, zr_3, zr_4, zr_7, zr_8, zr_10, zr_12, zr_16, zr_21, zr_26, zr_28, zr_54, zr_61, zr_62, zr_68, zr_72, zr_73, zlg_0, zlg_s, zls_0, zls_1, zls_s, zkl_i, zkl_r, zkl_l, zkl_n, zrc_1, zrc_s, zcat_n, zcat_i, zcat_l, zcat_r, zkd_131, zkd_139, zkd_140, zln_139, zln_140, zrf_131_18, zrf_131_19, Int.cast_ofNat_Int, Int.reduceAdd, zbd, zw_id, zmu_same, zmu_c, zmu_i, false_and, and_false, true_and, and_true, true_or, or_true, false_or, or_false, Option.toList, List.nil_append, List.cons_append, zif0, zif1, zif01, zem1, zem2, Int.reduceEq, Int.reduceLT, Int.reduceLE, Int.reduceNeg, Int.reduceSub, Int.reduceMul, if_true, if_false, not_false_eq_true, not_true_eq_false, true_implies, false_implies, Classical.not_not, Nat.reduceAdd, Nat.reduceLeDiff, zq181, if_neg c3]
    exact ⟨p3, fun z => absurd z c, gFm4_n fa⟩
