/-! ===== the model reads a line ===== -/
theorem zmu_o {m : zMm} {c i v c' i' : Int} (h : ¬ (c' = c ∧ i' = i)) : zmu m c i v c' i' = m c' i' := by unfold zmu; rw [if_neg h]
theorem gRoadm {d : Nat} {m T D : zMm} {s : Int × Int × Int} {l1 l2 : Option zV} (hk : gTo1 T) (hp : gPd T (pAd T s) m) (hs : s.1 ≤ T 0 0) (c1 : pIs T (gWc 6) s = true) (hc : gS4 D m) (h0 : 0 ≤ D 0 0 ∧ D 0 0 ≤ 6) (h5 : 0 ≤ D 0 5 ∧ D 0 5 < 8) : zWP (zEx (d + 5)) 197 1 [some (.inr (.inr 131)), l1, l2] [] m (fun r' m' => r' = none ∧ gPd T (pR4 T (D 0 0) s) m' ∧ ((pR4 T (D 0 0) s).2.1 = 0 → gS4 (dR T s D) m') ∧ gFm4 m m') := by
  have e40 := hc.1.1
  have e45 := hc.1.2.2.2.2.2.1
  have r1e : pNu T 0 (D 0 0 - 1) (pAd T s) = pR1 T (D 0 0) s := by
    unfold pR1 pQ pPl
    rw [pTw_t c1, pDn_m (pAd_1 hs).2]
  have rae : pVa T 0 (D 0 0 - 1) 0 (pAd T s) = pRa T (D 0 0) s := by
    unfold pRa pR pPl
    rw [pTw_t c1, pDn_m (pAd_1 hs).2]
  have bra : 0 ≤ pRa T (D 0 0) s ∧ pRa T (D 0 0) s ≤ 5 := pVa_b (by omega)
  simp +contextual (disch := (first | omega | assumption | decide)) only [↓zbrT, ↓zbrF, zw197_0, zw197_1, zw197_2, zw197_3, zw197_4, zw197_5, zw197_6, zw197_7, zw197_8, zw197_9, zw197_10, zw197_11, zw197_12, zw197_13, zr_1, zr_3, zr_4, zr_7, zr_8, zr_10, zr_12, zr_16, zr_21, zr_26, zr_28, zr_54, zr_61, zr_62, zr_68, zr_72, zr_73, zlg_0, zlg_s, zls_0, zls_1, zls_s, zkl_i, zkl_r, zkl_l, zkl_n, zrc_1, zrc_s, zcat_n, zcat_i, zcat_l, zcat_r, zkd_131, zkd_139, zkd_140, zln_139, zln_140, zrf_131_18, zrf_131_19, Int.cast_ofNat_Int, Int.reduceAdd, zbd, zw_id, zmu_same, zmu_c, zmu_i, false_and, and_false, true_and, and_true, true_or, or_true, false_or, or_false, Option.toList, List.nil_append, List.cons_append, zif0, zif1, zif01, zem1, zem2, Int.reduceEq, Int.reduceLT, Int.reduceLE, Int.reduceNeg, Int.reduceSub, Int.reduceMul, if_true, if_false, not_false_eq_true, not_true_eq_false, true_implies, false_implies, Classical.not_not, Nat.reduceAdd, Nat.reduceLeDiff, zq192, e45]
  refine gK (gz194 hk e40 h0 hp) rfl rfl (Nat.le_of_ble_eq_true rfl) ?_
  rintro _ m1 ⟨rfl, p1, f1⟩
  rw [r1e] at p1
  rw [rae]
  simp +contextual (disch := (first | omega | assumption | decide)) only [↓zbrT, ↓zbrF, zw197_0, zw197_1, zw197_2, zw197_3, zw197_4, zw197_5, zw197_6, zw197_7, zw197_8, zw197_9, zw197_10, zw197_11, zw197_12, zw197_13, zr_1, zr_3, zr_4, zr_7, zr_8, zr_10, zr_12, zr_16, zr_21, zr_26, zr_28, zr_54, zr_61, zr_62, zr_68, zr_72, zr_73, zlg_0, zlg_s, zls_0, zls_1, zls_s, zkl_i, zkl_r, zkl_l, zkl_n, zrc_1, zrc_s, zcat_n, zcat_i, zcat_l, zcat_r, zkd_131, zkd_139, zkd_140, zln_139, zln_140, zrf_131_18, zrf_131_19, Int.cast_ofNat_Int, Int.reduceAdd, zbd, zw_id, zmu_same, zmu_c, zmu_i, false_and, and_false, true_and, and_true, true_or, or_true, false_or, or_false, Option.toList, List.nil_append, List.cons_append, zif0, zif1, zif01, zem1, zem2, Int.reduceEq, Int.reduceLT, Int.reduceLE, Int.reduceNeg, Int.reduceSub, Int.reduceMul, if_true, if_false, not_false_eq_true, not_true_eq_false, true_implies, false_implies, Classical.not_not, Nat.reduceAdd, Nat.reduceLeDiff, e45]
  have b1 : zmu m1 139 (4 * (32 + D 0 5)) (pRa T (D 0 0) s) 138 40 = D 0 0 := by rw [zmu_c (by decide), gFn_u f1 (by decide)]; exact e40
  refine gK (gz195 (x := pRa T (D 0 0) s) hk b1 h0 ⟨bra.1, by omega⟩ (gPd_u p1 (by decide))) rfl rfl (Nat.le_of_ble_eq_true rfl) ?_
  rintro _ m2 ⟨rfl, p2, f2⟩
  rw [← gWc_7] at p2 ⊢
  replace p2 : gPd T (pR2 T (D 0 0) s) m2 := p2
  rw [show pR T (gWc 7) (D 0 0) (pRa T (D 0 0) s) (pR1 T (D 0 0) s) = pRb T (D 0 0) s from rfl]
  simp +contextual (disch := (first | omega | assumption | decide)) only [↓zbrT, ↓zbrF, zw197_0, zw197_1, zw197_2, zw197_3, zw197_4, zw197_5, zw197_6, zw197_7, zw197_8, zw197_9, zw197_10, zw197_11, zw197_12, zw197_13, zr_1, zr_3, zr_4, zr_7, zr_8, zr_10, zr_12, zr_16, zr_21, zr_26, zr_28, zr_54, zr_61, zr_62, zr_68, zr_72, zr_73, zlg_0, zlg_s, zls_0, zls_1, zls_s, zkl_i, zkl_r, zkl_l, zkl_n, zrc_1, zrc_s, zcat_n, zcat_i, zcat_l, zcat_r, zkd_131, zkd_139, zkd_140, zln_139, zln_140, zrf_131_18, zrf_131_19, Int.cast_ofNat_Int, Int.reduceAdd, zbd, zw_id, zmu_same, zmu_c, zmu_i, false_and, and_false, true_and, and_true, true_or, or_true, false_or, or_false, Option.toList, List.nil_append, List.cons_append, zif0, zif1, zif01, zem1, zem2, Int.reduceEq, Int.reduceLT, Int.reduceLE, Int.reduceNeg, Int.reduceSub, Int.reduceMul, if_true, if_false, not_false_eq_true, not_true_eq_false, true_implies, false_implies, Classical.not_not, Nat.reduceAdd, Nat.reduceLeDiff]
  refine gK (gz187 (w := 7094782) (x := 1) (y := 20) hk (by decide) (gPd_u p2 (by decide))) rfl rfl (Nat.le_of_ble_eq_true rfl) ?_
  rintro _ m3 ⟨rfl, p3, f3⟩
  rw [← gWc_8] at p3 ⊢
  replace p3 : gPd T (pR3 T (D 0 0) s) m3 := p3
  have p3u : gPd T (pR3 T (D 0 0) s) (zmu m3 139 (4 * (32 + D 0 5) + 2) (pV T (gWc 8) 1 20 1 (pR2 T (D 0 0) s))) := gPd_u p3 (by decide)
  have fin : ∀ (m4 : zMm) (t : Int) (st : Int × Int × Int), gPd T st m4 → gFn (zmu m3 139 (4 * (32 + D 0 5) + 2) (pV T (gWc 8) 1 20 1 (pR2 T (D 0 0) s))) m4 → m4 138 45 = D 0 5 ∧ gPd T st (zmu (zmu m4 139 (4 * (32 + D 0 5) + 3) t) 138 45 (D 0 5 + 1)) ∧ gS4 (dRow D (pRa T (D 0 0) s) (pRb T (D 0 0) s) (pV T (gWc 8) 1 20 1 (pR2 T (D 0 0) s)) t) (zmu (zmu m4 139 (4 * (32 + D 0 5) + 3) t) 138 45 (D 0 5 + 1)) ∧ gFm4 m (zmu (zmu m4 139 (4 * (32 + D 0 5) + 3) t) 138 45 (D 0 5 + 1)) := fun m4 t st hp4 hf4 => by
    have fr : ∀ c i, c ≠ 131 → ¬ (c = 139 ∧ 4 * (32 + D 0 5) ≤ i ∧ i < 4 * (32 + D 0 5) + 4) → m4 c i = m c i := fun c i a b => by
      rw [gFn_u hf4 a, zmu_o (by omega), gFn_u f3 a, zmu_o (by omega), gFn_u f2 a, zmu_o (by omega), gFn_u f1 a]
    refine ⟨by rw [fr 138 45 (by decide) (by omega), e45], gPd_u (gPd_u hp4 (by decide)) (by decide), gS4_r hc h5 ?_ ?_ ?_ ?_ zmu_same (fun c i a b e => ?_), ?_⟩
    · rw [zmu_c (by decide), zmu_i (by omega), gFn_u hf4 (by decide), zmu_i (by omega), gFn_u f3 (by decide), zmu_i (by omega), gFn_u f2 (by decide), zmu_same]
    · rw [zmu_c (by decide), zmu_i (by omega), gFn_u hf4 (by decide), zmu_i (by omega), gFn_u f3 (by decide), zmu_same]
    · rw [zmu_c (by decide), zmu_i (by omega), gFn_u hf4 (by decide), zmu_same]
    · rw [zmu_c (by decide), zmu_same]
    · rw [zmu_o e, zmu_o (by omega)]; exact fr c i a b
    · exact gFm4_tr (gFm4_n f1) (gFm4_tr (gFm4_u (by omega)) (gFm4_tr (gFm4_n f2) (gFm4_tr (gFm4_u (by omega)) (gFm4_tr (gFm4_n f3) (gFm4_tr (gFm4_u (by omega)) (gFm4_tr (gFm4_n hf4) (gFm4_tr (gFm4_u (by omega)) (gFm4_u (by omega)))))))))
  have b3 := p3.2.2.1
  unfold dR pR4 pRt
  by_cases cb : (pR3 T (D 0 0) s).2.1 = 0
  · rw [cb] at b3
    have el : pV T (gWc 8) 1 20 1 (pR2 T (D 0 0) s) = pRl T (D 0 0) s := pV_e cb
    rw [el] at p3u fin ⊢
    by_cases cg : pIs T (gWc 9) (pR3 T (D 0 0) s) = true
    · rw [if_pos cg, if_pos cg]
      rw [gWc_9] at cg
      simp +contextual (disch := (first | omega | assumption | decide)) only [↓zbrT, ↓zbrF, zw197_0, zw197_1, zw197_2, zw197_3, zw197_4, zw197_5, zw197_6, zw197_7, zw197_8, zw197_9, zw197_10, zw197_11, zw197_12, zw197_13, zr_1, zr_3, zr_4, zr_7, zr_8, zr_10, zr_12, zr_16, zr_21, zr_26, zr_28, zr_54, zr_61, zr_62, zr_68, zr_72, zr_73, zlg_0, zlg_s, zls_0, zls_1, zls_s, zkl_i, zkl_r, zkl_l, zkl_n, zrc_1, zrc_s, zcat_n, zcat_i, zcat_l, zcat_r, zkd_131, zkd_139, zkd_140, zln_139, zln_140, zrf_131_18, zrf_131_19, Int.cast_ofNat_Int, Int.reduceAdd, zbd, zw_id, zmu_same, zmu_c, zmu_i, false_and, and_false, true_and, and_true, true_or, or_true, false_or, or_false, Option.toList, List.nil_append, List.cons_append, zif0, zif1, zif01, zem1, zem2, Int.reduceEq, Int.reduceLT, Int.reduceLE, Int.reduceNeg, Int.reduceSub, Int.reduceMul, if_true, if_false, not_false_eq_true, not_true_eq_false, true_implies, false_implies, Classical.not_not, Nat.reduceAdd, Nat.reduceLeDiff, b3, zq183T (w := 139055) p3u, if_pos cg]
      refine gK (gz187 (w := 139055) (x := 1) (y := 99) hk (by decide) p3u) rfl rfl (Nat.le_of_ble_eq_true rfl) ?_
      rintro _ m4 ⟨rfl, p4, f4⟩
      rw [← gWc_9] at p4 ⊢
      have q := fin m4 (pV T (gWc 9) 1 99 1 (pR3 T (D 0 0) s)) _ p4 f4
      have q1 := q.1
      simp +contextual (disch := (first | omega | assumption | decide)) only [↓zbrT, ↓zbrF, zw197_0, zw197_1, zw197_2, zw197_3, zw197_4, zw197_5, zw197_6, zw197_7, zw197_8, zw197_9, zw197_10, zw197_11, zw197_12, zw197_13, zr_1, zr_3, zr_4, zr_7, zr_8, zr_10, zr_12, zr_16, zr_21, zr_26, zr_28, zr_54, zr_61, zr_62, zr_68, zr_72, zr_73, zlg_0, zlg_s, zls_0, zls_1, zls_s, zkl_i, zkl_r, zkl_l, zkl_n, zrc_1, zrc_s, zcat_n, zcat_i, zcat_l, zcat_r, zkd_131, zkd_139, zkd_140, zln_139, zln_140, zrf_131_18, zrf_131_19, Int.cast_ofNat_Int, Int.reduceAdd, zbd, zw_id, zmu_same, zmu_c, zmu_i, false_and, and_false, true_and, and_true, true_or, or_true, false_or, or_false, Option.toList, List.nil_append, List.cons_append, zif0, zif1, zif01, zem1, zem2, Int.reduceEq, Int.reduceLT, Int.reduceLE, Int.reduceNeg, Int.reduceSub, Int.reduceMul, if_true, if_false, not_false_eq_true, not_true_eq_false, true_implies, false_implies, Classical.not_not, Nat.reduceAdd, Nat.reduceLeDiff, zq192, zq193, q1]
      refine ⟨q.2.1, fun z => ?_, q.2.2.2⟩
      rw [pV_e (e := 0) (e' := 1) z]; exact q.2.2.1
    · rw [if_neg cg, if_neg cg]
      rw [gWc_9] at cg
      have q := fin _ 0 _ p3u gFn_refl
      have q1 : m3 138 45 = D 0 5 := by have := q.1; rwa [zmu_c (by decide)] at this
      simp +contextual (disch := (first | omega | assumption | decide)) only [↓zbrT, ↓zbrF, zw197_0, zw197_1, zw197_2, zw197_3, zw197_4, zw197_5, zw197_6, zw197_7, zw197_8, zw197_9, zw197_10, zw197_11, zw197_12, zw197_13, zr_1, zr_3, zr_4, zr_7, zr_8, zr_10, zr_12, zr_16, zr_21, zr_26, zr_28, zr_54, zr_61, zr_62, zr_68, zr_72, zr_73, zlg_0, zlg_s, zls_0, zls_1, zls_s, zkl_i, zkl_r, zkl_l, zkl_n, zrc_1, zrc_s, zcat_n, zcat_i, zcat_l, zcat_r, zkd_131, zkd_139, zkd_140, zln_139, zln_140, zrf_131_18, zrf_131_19, Int.cast_ofNat_Int, Int.reduceAdd, zbd, zw_id, zmu_same, zmu_c, zmu_i, false_and, and_false, true_and, and_true, true_or, or_true, false_or, or_false, Option.toList, List.nil_append, List.cons_append, zif0, zif1, zif01, zem1, zem2, Int.reduceEq, Int.reduceLT, Int.reduceLE, Int.reduceNeg, Int.reduceSub, Int.reduceMul, if_true, if_false, not_false_eq_true, not_true_eq_false, true_implies, false_implies, Classical.not_not, Nat.reduceAdd, Nat.reduceLeDiff, b3, zq183T (w := 139055) p3u, if_neg cg, zq192, zq193, q1]
      exact ⟨q.2.1, fun z => q.2.2.1, q.2.2.2⟩
  · have cg : ¬ pIs T (gWc 9) (pR3 T (D 0 0) s) = true := fun z => cb (pIs_t.mp z).1
    rw [if_neg cg, if_neg cg]
    have q := fin _ 0 _ p3u gFn_refl
    have q1 : m3 138 45 = D 0 5 := by have := q.1; rwa [zmu_c (by decide)] at this
    have nb : ¬ m3 131 12 = 0 := by rw [b3]; exact cb
    simp +contextual (disch := (first | omega | assumption | decide)) only [↓zbrT, ↓zbrF, zw197_0, zw197_1, zw197_2, zw197_3, zw197_4, zw197_5, zw197_6, zw197_7, zw197_8, zw197_9, zw197_10, zw197_11, zw197_12, zw197_13, zr_1, zr_3, zr_4, zr_7, zr_8, zr_10, zr_12, zr_16, zr_21, zr_26, zr_28, zr_54, zr_61, zr_62, zr_68, zr_72, zr_73, zlg_0, zlg_s, zls_0, zls_1, zls_s, zkl_i, zkl_r, zkl_l, zkl_n, zrc_1, zrc_s, zcat_n, zcat_i, zcat_l, zcat_r, zkd_131, zkd_139, zkd_140, zln_139, zln_140, zrf_131_18, zrf_131_19, Int.cast_ofNat_Int, Int.reduceAdd, zbd, zw_id, zmu_same, zmu_c, zmu_i, false_and, and_false, true_and, and_true, true_or, or_true, false_or, or_false, Option.toList, List.nil_append, List.cons_append, zif0, zif1, zif01, zem1, zem2, Int.reduceEq, Int.reduceLT, Int.reduceLE, Int.reduceNeg, Int.reduceSub, Int.reduceMul, if_true, if_false, not_false_eq_true, not_true_eq_false, true_implies, false_implies, Classical.not_not, Nat.reduceAdd, Nat.reduceLeDiff, nb, zq192, zq193, q1]
    exact ⟨q.2.1, fun z => absurd z cb, q.2.2.2⟩
