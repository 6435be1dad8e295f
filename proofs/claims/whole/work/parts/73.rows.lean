/-! ===== the class reads roads, farmers ===== -/
theorem gCS_r {D m m' : zMm} {a b l t : Int} (h : gCS 3 D m) (h5 : 0 ≤ D 0 5 ∧ D 0 5 < 8) (e0 : m' (6 + D 0 5) 0 = a) (e1 : m' (6 + D 0 5) 1 = b) (e2 : m' (6 + D 0 5) 2 = l) (e3 : m' (6 + D 0 5) 3 = t) (e8 : m' 3 8 = D 0 5 + 1) (hf : ∀ c i, 3 ≤ c → c ≠ 6 + D 0 5 → ¬ (c = 3 ∧ i = 8) → m' c i = m c i) : gCS 3 (dRow D a b l t) m' := by
  have k5 : dRow D a b l t 0 5 = D 0 5 + 1 := by unfold dRow; rw [zmu_same]
  have k0 : ∀ i, i ≠ 5 → dRow D a b l t 0 i = D 0 i := fun i hi => by
    unfold dRow
    rw [zmu_i (by omega), zmu_c (by decide), zmu_c (by decide), zmu_c (by decide), zmu_c (by decide)]
  have k1 : ∀ i, i < 4 * D 0 5 → dRow D a b l t 1 i = D 1 i := fun i hi => by
    unfold dRow
    rw [zmu_c (by decide), zmu_i (by omega), zmu_i (by omega), zmu_i (by omega), zmu_i (by omega)]
  have k2 : ∀ i, dRow D a b l t 2 i = D 2 i := fun i => by
    unfold dRow
    rw [zmu_c (by decide), zmu_c (by decide), zmu_c (by decide), zmu_c (by decide), zmu_c (by decide)]
  have f3 : ∀ i, i ≠ 8 → m' 3 i = m 3 i := fun i hi => hf 3 i (by decide) (by omega) (by omega)
  refine ⟨?_, fun r x y => ?_, fun f x y => ?_⟩
  · obtain ⟨h0, h1, h2, h3, h4, h5, h6, h7, h8, h9⟩ := h.1
    rw [k5, k0 10 (by decide), k0 0 (by decide), k0 1 (by decide), k0 2 (by decide), k0 3 (by decide), k0 4 (by decide), k0 7 (by decide), k0 8 (by decide), k0 6 (by decide), f3 0 (by decide), f3 1 (by decide), f3 2 (by decide), f3 3 (by decide), f3 4 (by decide), f3 5 (by decide), f3 6 (by decide), f3 7 (by decide), f3 9 (by decide)]
    exact ⟨h0, h1, h2, h3, h4, h5, h6, h7, e8, h9⟩
  · rw [k5] at y
    by_cases c : r = D 0 5
    · rw [c, show 3 + 3 + D 0 5 = 6 + D 0 5 by omega, e0, e1, e2, e3]
      unfold vA vB vM vT dRow
      refine ⟨?_, ?_, ?_, ?_⟩
      · rw [zmu_c (by decide), zmu_i (by omega), zmu_i (by omega), zmu_i (by omega), zmu_same]
      · rw [zmu_c (by decide), zmu_i (by omega), zmu_i (by omega), zmu_same]
      · rw [zmu_c (by decide), zmu_i (by omega), zmu_same]
      · rw [zmu_c (by decide), zmu_same]
    · have q := h.2.1 r x (by omega)
      unfold vA vB vM vT at q ⊢
      rw [k1 _ (by omega), k1 _ (by omega), k1 _ (by omega), k1 _ (by omega), hf _ _ (by omega) (by omega) (by omega), hf _ _ (by omega) (by omega) (by omega), hf _ _ (by omega) (by omega) (by omega), hf _ _ (by omega) (by omega) (by omega)]
      exact q
  · rw [k0 6 (by decide)] at y
    have q := h.2.2 f x y
    unfold vF at q ⊢
    rw [k2, k2, k2, k2, k2, hf _ _ (by omega) (by omega) (by omega), hf _ _ (by omega) (by omega) (by omega), hf _ _ (by omega) (by omega) (by omega), hf _ _ (by omega) (by omega) (by omega), hf _ _ (by omega) (by omega) (by omega)]
    exact q
theorem gCS_w {D m m' : zMm} {a b o p e : Int} (h : gCS 3 D m) (h5 : 0 ≤ D 0 6 ∧ D 0 6 < 6) (h8 : D 0 5 ≤ 8) (e0 : m' (14 + D 0 6) 0 = a) (e1 : m' (14 + D 0 6) 1 = b) (e2 : m' (14 + D 0 6) 2 = o) (e3 : m' (14 + D 0 6) 3 = p) (e4 : m' (14 + D 0 6) 4 = e) (e8 : m' 3 9 = D 0 6 + 1) (hf : ∀ c i, 3 ≤ c → c ≠ 14 + D 0 6 → ¬ (c = 3 ∧ i = 9) → m' c i = m c i) : gCS 3 (dFow D a b o p e) m' := by
  have k5 : dFow D a b o p e 0 6 = D 0 6 + 1 := by unfold dFow; rw [zmu_same]
  have k0 : ∀ i, i ≠ 6 → dFow D a b o p e 0 i = D 0 i := fun i hi => by
    unfold dFow
    rw [zmu_i (by omega), zmu_c (by decide), zmu_c (by decide), zmu_c (by decide), zmu_c (by decide), zmu_c (by decide)]
  have k1 : ∀ i, i < 5 * D 0 6 → dFow D a b o p e 2 i = D 2 i := fun i hi => by
    unfold dFow
    rw [zmu_c (by decide), zmu_i (by omega), zmu_i (by omega), zmu_i (by omega), zmu_i (by omega), zmu_i (by omega)]
  have k2 : ∀ i, dFow D a b o p e 1 i = D 1 i := fun i => by
    unfold dFow
    rw [zmu_c (by decide), zmu_c (by decide), zmu_c (by decide), zmu_c (by decide), zmu_c (by decide), zmu_c (by decide)]
  have f3 : ∀ i, i ≠ 9 → m' 3 i = m 3 i := fun i hi => hf 3 i (by decide) (by omega) (by omega)
  refine ⟨?_, fun r x y => ?_, fun f x y => ?_⟩
  · obtain ⟨h0, h1, h2, h3, h4, h5, h6, h7, h8, h9⟩ := h.1
    rw [k5, k0 10 (by decide), k0 0 (by decide), k0 1 (by decide), k0 2 (by decide), k0 3 (by decide), k0 4 (by decide), k0 7 (by decide), k0 8 (by decide), k0 5 (by decide), f3 0 (by decide), f3 1 (by decide), f3 2 (by decide), f3 3 (by decide), f3 4 (by decide), f3 5 (by decide), f3 6 (by decide), f3 7 (by decide), f3 8 (by decide)]
    exact ⟨h0, h1, h2, h3, h4, h5, h6, h7, h8, e8⟩
  · rw [k0 5 (by decide)] at y
    have q := h.2.1 r x y
    unfold vA vB vM vT at q ⊢
    rw [k2, k2, k2, k2, hf _ _ (by omega) (by omega) (by omega), hf _ _ (by omega) (by omega) (by omega), hf _ _ (by omega) (by omega) (by omega), hf _ _ (by omega) (by omega) (by omega)]
    exact q
  · rw [k5] at y
    by_cases c : f = D 0 6
    · rw [c, show 3 + 11 + D 0 6 = 14 + D 0 6 by omega, e0, e1, e2, e3, e4]
      unfold vF dFow
      refine ⟨?_, ?_, ?_, ?_, ?_⟩
      · rw [zmu_c (by decide), zmu_i (by omega), zmu_i (by omega), zmu_i (by omega), zmu_i (by omega), Int.add_zero, zmu_same]
      · rw [zmu_c (by decide), zmu_i (by omega), zmu_i (by omega), zmu_i (by omega), zmu_same]
      · rw [zmu_c (by decide), zmu_i (by omega), zmu_i (by omega), zmu_same]
      · rw [zmu_c (by decide), zmu_i (by omega), zmu_same]
      · rw [zmu_c (by decide), zmu_same]
    · have q := h.2.2 f x (by omega)
      unfold vF at q ⊢
      rw [k1 _ (by omega), k1 _ (by omega), k1 _ (by omega), k1 _ (by omega), k1 _ (by omega), hf _ _ (by omega) (by omega) (by omega), hf _ _ (by omega) (by omega) (by omega), hf _ _ (by omega) (by omega) (by omega), hf _ _ (by omega) (by omega) (by omega), hf _ _ (by omega) (by omega) (by omega)]
      exact q
theorem gFp_u {m m' : zMm} (h : gFp m m') {c i : Int} (hc : 3 ≤ c) : m' c i = m c i := h c i (by omega)
theorem gz53 {d : Nat} {m : zMm} {T D : zMm} {s : Int × Int × Int} (hk : gTo1 T) (hp : gPc T s m) (hc : gCS 3 D m) (h0 : 0 ≤ D 0 0 ∧ D 0 0 ≤ 6) (h5 : 0 ≤ D 0 5 ∧ D 0 5 < 8) : zC (d + 6) 53 [.inr (.inr 1), .inr (.inr 3)] m (fun r' m' => r' = none ∧ gPc T (pR4 T (D 0 0) s) m' ∧ gCS 3 (dR T s D) m' ∧ gFdr m m') := by
  refine ze53 ?_
  have l := gCS_l hc
  have l1 := l.2.1
  have l8 := l.2.2.1
  have z := zkd_a4 h5.1 h5.2
  simp +contextual (disch := (first | omega | assumption | decide)) only [↓zbrT, ↓zbrF, zw53_0, zw53_1, zw53_2, zw53_3, zw53_4, zw53_5, zr_3, zr_6, zr_7, zr_9, zr_10, zr_12, zr_13, zr_20, zr_26, zr_50, zr_50b, zr_54, zr_57, zr_61, zr_68, zr_72, zr_73, zlg_0, zlg_s, zls_0, zls_1, zls_s, zkl_i, zkl_r, zkl_l, zkl_n, zrc_1, zrc_s, zcat_n, zcat_i, zcat_l, zcat_r, zkd_1, zkd_105, zkd_106, zkd_21, zkd_22, zkd_3, zkd_4, zkd_67, zkd_68, zkd_86, zkd_87, zkd_a106, zkd_a22, zkd_a4, zkd_a68, zkd_a87, zln_106, zln_22, zln_4, zln_68, zln_87, zrf_105_10, zrf_21_10, zrf_3_10, zrf_67_10, zrf_86_10, zrf_a106, zrf_a22, zrf_a4, zrf_a68, zrf_a87, Int.cast_ofNat_Int, Int.reduceAdd, zbd, zw_id, zmu_same, zmu_c, zmu_i, false_and, and_false, true_and, and_true, true_or, or_true, false_or, or_false, Option.toList, List.nil_append, List.cons_append, zif0, zif1, zif01, zem1, zem2, Int.reduceEq, Int.reduceLT, Int.reduceLE, Int.reduceNeg, Int.reduceSub, Int.reduceMul, if_true, if_false, not_false_eq_true, not_true_eq_false, true_implies, false_implies, Classical.not_not, Nat.reduceAdd, Nat.reduceLeDiff, l8, z]
  refine gK (gz55 (w := 6) hk (by decide) rfl l1 h0 hp) rfl rfl (Nat.le_of_ble_eq_true rfl) ?_
  rintro _ m1 ⟨rfl, p1, f1⟩
  simp +contextual (disch := (first | omega | assumption | decide)) only [↓zbrT, ↓zbrF, zw53_0, zw53_1, zw53_2, zw53_3, zw53_4, zw53_5, zr_3, zr_6, zr_7, zr_9, zr_10, zr_12, zr_13, zr_20, zr_26, zr_50, zr_50b, zr_54, zr_57, zr_61, zr_68, zr_72, zr_73, zlg_0, zlg_s, zls_0, zls_1, zls_s, zkl_i, zkl_r, zkl_l, zkl_n, zrc_1, zrc_s, zcat_n, zcat_i, zcat_l, zcat_r, zkd_1, zkd_105, zkd_106, zkd_21, zkd_22, zkd_3, zkd_4, zkd_67, zkd_68, zkd_86, zkd_87, zkd_a106, zkd_a22, zkd_a4, zkd_a68, zkd_a87, zln_106, zln_22, zln_4, zln_68, zln_87, zrf_105_10, zrf_21_10, zrf_3_10, zrf_67_10, zrf_86_10, zrf_a106, zrf_a22, zrf_a4, zrf_a68, zrf_a87, Int.cast_ofNat_Int, Int.reduceAdd, zbd, zw_id, zmu_same, zmu_c, zmu_i, false_and, and_false, true_and, and_true, true_or, or_true, false_or, or_false, Option.toList, List.nil_append, List.cons_append, zif0, zif1, zif01, zem1, zem2, Int.reduceEq, Int.reduceLT, Int.reduceLE, Int.reduceNeg, Int.reduceSub, Int.reduceMul, if_true, if_false, not_false_eq_true, not_true_eq_false, true_implies, false_implies, Classical.not_not, Nat.reduceAdd, Nat.reduceLeDiff]
  rw [show pVa T 0 (D 0 0 - 1) 0 (pPl T (gWc 6) (-1) s) = pRa T (D 0 0) s from rfl]
  have x6 : (3 : Int) ≠ 6 + D 0 5 := by omega
  have g6 : (3 : Int) ≤ 6 + D 0 5 := by omega
  have l1' : zmu m1 (6 + D 0 5) 0 (pRa T (D 0 0) s) 3 1 = D 0 0 := by rw [zmu_c x6, gFp_u f1 (by decide)]; exact l1
  refine gK (gz55 (w := 7) (x := pRa T (D 0 0) s) hk (by decide) rfl l1' h0 (gPc_u p1 g6)) rfl rfl (Nat.le_of_ble_eq_true rfl) ?_
  rintro _ m2 ⟨rfl, p2, f2⟩
  simp +contextual (disch := (first | omega | assumption | decide)) only [↓zbrT, ↓zbrF, zw53_0, zw53_1, zw53_2, zw53_3, zw53_4, zw53_5, zr_3, zr_6, zr_7, zr_9, zr_10, zr_12, zr_13, zr_20, zr_26, zr_50, zr_50b, zr_54, zr_57, zr_61, zr_68, zr_72, zr_73, zlg_0, zlg_s, zls_0, zls_1, zls_s, zkl_i, zkl_r, zkl_l, zkl_n, zrc_1, zrc_s, zcat_n, zcat_i, zcat_l, zcat_r, zkd_1, zkd_105, zkd_106, zkd_21, zkd_22, zkd_3, zkd_4, zkd_67, zkd_68, zkd_86, zkd_87, zkd_a106, zkd_a22, zkd_a4, zkd_a68, zkd_a87, zln_106, zln_22, zln_4, zln_68, zln_87, zrf_105_10, zrf_21_10, zrf_3_10, zrf_67_10, zrf_86_10, zrf_a106, zrf_a22, zrf_a4, zrf_a68, zrf_a87, Int.cast_ofNat_Int, Int.reduceAdd, zbd, zw_id, zmu_same, zmu_c, zmu_i, false_and, and_false, true_and, and_true, true_or, or_true, false_or, or_false, Option.toList, List.nil_append, List.cons_append, zif0, zif1, zif01, zem1, zem2, Int.reduceEq, Int.reduceLT, Int.reduceLE, Int.reduceNeg, Int.reduceSub, Int.reduceMul, if_true, if_false, not_false_eq_true, not_true_eq_false, true_implies, false_implies, Classical.not_not, Nat.reduceAdd, Nat.reduceLeDiff]
  rw [show pVa T 0 (D 0 0 - 1) 0 (pPl T (gWc 7) (pRa T (D 0 0) s) (pNu T 0 (D 0 0 - 1) (pPl T (gWc 6) (-1) s))) = pRb T (D 0 0) s from rfl]
  refine gK (gz56 (w := 8) (x := 1) (y := 20) hk (by decide) rfl (gPc_u p2 g6)) rfl rfl (Nat.le_of_ble_eq_true rfl) ?_
  rintro _ m3 ⟨rfl, p3, f3⟩
  replace p3 : gPc T (pR3 T (D 0 0) s) m3 := p3
  have p3u : gPc T (pR3 T (D 0 0) s) (zmu m3 (6 + D 0 5) 2 (pRl T (D 0 0) s)) := gPc_u p3 g6
  have fin : ∀ (m4 : zMm) (t : Int) (st : Int × Int × Int), gPc T st m4 → gFp (zmu m3 (6 + D 0 5) 2 (pRl T (D 0 0) s)) m4 → m4 3 8 = D 0 5 ∧ gPc T st (zmu (zmu m4 (6 + D 0 5) 3 t) 3 8 (D 0 5 + 1)) ∧ gCS 3 (dRow D (pRa T (D 0 0) s) (pRb T (D 0 0) s) (pRl T (D 0 0) s) t) (zmu (zmu m4 (6 + D 0 5) 3 t) 3 8 (D 0 5 + 1)) ∧ gFdr m (zmu (zmu m4 (6 + D 0 5) 3 t) 3 8 (D 0 5 + 1)) := fun m4 t st hp4 hf4 => by
    have fr : ∀ c i, 3 ≤ c → c ≠ 6 + D 0 5 → m4 c i = m c i := fun c i a b => by
      rw [gFp_u hf4 a, zmu_c b, gFp_u f3 a, zmu_c b, gFp_u f2 a, zmu_c b, gFp_u f1 a]
    refine ⟨by rw [fr 3 8 (by decide) x6, l8], gPc_u (gPc_u hp4 g6) (by decide), gCS_r hc h5 ?_ ?_ ?_ ?_ zmu_same (fun c i a b e => ?_), fun c i hc => ?_⟩
    · rw [zmu_c (by omega), zmu_i (by decide), gFp_u hf4 g6, zmu_i (by decide), gFp_u f3 g6, zmu_i (by decide), gFp_u f2 g6, zmu_same]
    · rw [zmu_c (by omega), zmu_i (by decide), gFp_u hf4 g6, zmu_i (by decide), gFp_u f3 g6, zmu_same]
    · rw [zmu_c (by omega), zmu_i (by decide), gFp_u hf4 g6, zmu_same]
    · rw [zmu_c (by omega), zmu_same]
    · unfold zmu
      rw [if_neg e, if_neg (by omega)]; exact fr c i a b
    · rw [zmu_c (by omega), zmu_c (by omega), hf4 c i (by omega), zmu_c (by omega), f3 c i (by omega), zmu_c (by omega), f2 c i (by omega), zmu_c (by omega), f1 c i (by omega)]
  unfold dR pR4 pRt
  by_cases cg : pIs T (gWc 9) (pR3 T (D 0 0) s) = true
  · rw [if_pos cg, if_pos cg]
    simp +contextual (disch := (first | omega | assumption | decide)) only [↓zbrT, ↓zbrF, zw53_0, zw53_1, zw53_2, zw53_4, zw53_5, zr_3, zr_6, zr_7, zr_9, zr_10, zr_12, zr_13, zr_20, zr_26, zr_50, zr_50b, zr_54, zr_57, zr_61, zr_68, zr_72, zr_73, zlg_0, zlg_s, zls_0, zls_1, zls_s, zkl_i, zkl_r, zkl_l, zkl_n, zrc_1, zrc_s, zcat_n, zcat_i, zcat_l, zcat_r, zkd_1, zkd_105, zkd_106, zkd_21, zkd_22, zkd_3, zkd_4, zkd_67, zkd_68, zkd_86, zkd_87, zkd_a106, zkd_a22, zkd_a4, zkd_a68, zkd_a87, zln_106, zln_22, zln_4, zln_68, zln_87, zrf_105_10, zrf_21_10, zrf_3_10, zrf_67_10, zrf_86_10, zrf_a106, zrf_a22, zrf_a4, zrf_a68, zrf_a87, Int.cast_ofNat_Int, Int.reduceAdd, zbd, zw_id, zmu_same, zmu_c, zmu_i, false_and, and_false, true_and, and_true, true_or, or_true, false_or, or_false, Option.toList, List.nil_append, List.cons_append, zif0, zif1, zif01, zem1, zem2, Int.reduceEq, Int.reduceLT, Int.reduceLE, Int.reduceNeg, Int.reduceSub, Int.reduceMul, if_true, if_false, not_false_eq_true, not_true_eq_false, true_implies, false_implies, Classical.not_not, Nat.reduceAdd, Nat.reduceLeDiff]
    rw [show pVa T 1 20 0 (pTw T (gWc 8) (pNu T 0 (D 0 0 - 1) (pPl T (gWc 7) (pRa T (D 0 0) s) (pNu T 0 (D 0 0 - 1) (pPl T (gWc 6) (-1) s))))) = pRl T (D 0 0) s from rfl]
    simp +contextual (disch := (first | omega | assumption | decide)) only [↓zbrT, ↓zbrF, zw53_0, zw53_1, zw53_2, zw53_3, zw53_4, zw53_5, zr_3, zr_6, zr_7, zr_9, zr_10, zr_12, zr_13, zr_20, zr_26, zr_50, zr_50b, zr_54, zr_57, zr_61, zr_68, zr_72, zr_73, zlg_0, zlg_s, zls_0, zls_1, zls_s, zkl_i, zkl_r, zkl_l, zkl_n, zrc_1, zrc_s, zcat_n, zcat_i, zcat_l, zcat_r, zkd_1, zkd_105, zkd_106, zkd_21, zkd_22, zkd_3, zkd_4, zkd_67, zkd_68, zkd_86, zkd_87, zkd_a106, zkd_a22, zkd_a4, zkd_a68, zkd_a87, zln_106, zln_22, zln_4, zln_68, zln_87, zrf_105_10, zrf_21_10, zrf_3_10, zrf_67_10, zrf_86_10, zrf_a106, zrf_a22, zrf_a4, zrf_a68, zrf_a87, Int.cast_ofNat_Int, Int.reduceAdd, zbd, zw_id, zmu_same, zmu_c, zmu_i, false_and, and_false, true_and, and_true, true_or, or_true, false_or, or_false, Option.toList, List.nil_append, List.cons_append, zif0, zif1, zif01, zem1, zem2, Int.reduceEq, Int.reduceLT, Int.reduceLE, Int.reduceNeg, Int.reduceSub, Int.reduceMul, if_true, if_false, not_false_eq_true, not_true_eq_false, true_implies, false_implies, Classical.not_not, Nat.reduceAdd, Nat.reduceLeDiff, zq61 (a := -19) (w := 9) hk (by decide) rfl p3u, if_pos cg]
    refine gK (gz56 (w := 9) (x := 1) (y := 99) hk (by decide) rfl p3u) rfl rfl (Nat.le_of_ble_eq_true rfl) ?_
    rintro _ m4 ⟨rfl, p4, f4⟩
    have q := fin m4 (pV T (gWc 9) 1 99 0 (pR3 T (D 0 0) s)) _ p4 f4
    have q1 := q.1
    simp +contextual (disch := (first | omega | assumption | decide)) only [↓zbrT, ↓zbrF, zw53_0, zw53_1, zw53_2, zw53_3, zw53_4, zw53_5, zr_3, zr_6, zr_7, zr_9, zr_10, zr_12, zr_13, zr_20, zr_26, zr_50, zr_50b, zr_54, zr_57, zr_61, zr_68, zr_72, zr_73, zlg_0, zlg_s, zls_0, zls_1, zls_s, zkl_i, zkl_r, zkl_l, zkl_n, zrc_1, zrc_s, zcat_n, zcat_i, zcat_l, zcat_r, zkd_1, zkd_105, zkd_106, zkd_21, zkd_22, zkd_3, zkd_4, zkd_67, zkd_68, zkd_86, zkd_87, zkd_a106, zkd_a22, zkd_a4, zkd_a68, zkd_a87, zln_106, zln_22, zln_4, zln_68, zln_87, zrf_105_10, zrf_21_10, zrf_3_10, zrf_67_10, zrf_86_10, zrf_a106, zrf_a22, zrf_a4, zrf_a68, zrf_a87, Int.cast_ofNat_Int, Int.reduceAdd, zbd, zw_id, zmu_same, zmu_c, zmu_i, false_and, and_false, true_and, and_true, true_or, or_true, false_or, or_false, Option.toList, List.nil_append, List.cons_append, zif0, zif1, zif01, zem1, zem2, Int.reduceEq, Int.reduceLT, Int.reduceLE, Int.reduceNeg, Int.reduceSub, Int.reduceMul, if_true, if_false, not_false_eq_true, not_true_eq_false, true_implies, false_implies, Classical.not_not, Nat.reduceAdd, Nat.reduceLeDiff, q1]
    exact q.2
  · rw [if_neg cg, if_neg cg]
    simp +contextual (disch := (first | omega | assumption | decide)) only [↓zbrT, ↓zbrF, zw53_0, zw53_1, zw53_2, zw53_3, zw53_5, zr_3, zr_6, zr_7, zr_9, zr_10, zr_12, zr_13, zr_20, zr_26, zr_50, zr_50b, zr_54, zr_57, zr_61, zr_68, zr_72, zr_73, zlg_0, zlg_s, zls_0, zls_1, zls_s, zkl_i, zkl_r, zkl_l, zkl_n, zrc_1, zrc_s, zcat_n, zcat_i, zcat_l, zcat_r, zkd_1, zkd_105, zkd_106, zkd_21, zkd_22, zkd_3, zkd_4, zkd_67, zkd_68, zkd_86, zkd_87, zkd_a106, zkd_a22, zkd_a4, zkd_a68, zkd_a87, zln_106, zln_22, zln_4, zln_68, zln_87, zrf_105_10, zrf_21_10, zrf_3_10, zrf_67_10, zrf_86_10, zrf_a106, zrf_a22, zrf_a4, zrf_a68, zrf_a87, Int.cast_ofNat_Int, Int.reduceAdd, zbd, zw_id, zmu_same, zmu_c, zmu_i, false_and, and_false, true_and, and_true, true_or, or_true, false_or, or_false, Option.toList, List.nil_append, List.cons_append, zif0, zif1, zif01, zem1, zem2, Int.reduceEq, Int.reduceLT, Int.reduceLE, Int.reduceNeg, Int.reduceSub, Int.reduceMul, if_true, if_false, not_false_eq_true, not_true_eq_false, true_implies, false_implies, Classical.not_not, Nat.reduceAdd, Nat.reduceLeDiff]
    rw [show pVa T 1 20 0 (pTw T (gWc 8) (pNu T 0 (D 0 0 - 1) (pPl T (gWc 7) (pRa T (D 0 0) s) (pNu T 0 (D 0 0 - 1) (pPl T (gWc 6) (-1) s))))) = pRl T (D 0 0) s from rfl]
    have q := fin _ 0 _ p3u gFp_refl
    have q1 : m3 3 8 = D 0 5 := by have := q.1; rwa [zmu_c x6] at this
    simp +contextual (disch := (first | omega | assumption | decide)) only [↓zbrT, ↓zbrF, zw53_0, zw53_1, zw53_2, zw53_3, zw53_4, zw53_5, zr_3, zr_6, zr_7, zr_9, zr_10, zr_12, zr_13, zr_20, zr_26, zr_50, zr_50b, zr_54, zr_57, zr_61, zr_68, zr_72, zr_73, zlg_0, zlg_s, zls_0, zls_1, zls_s, zkl_i, zkl_r, zkl_l, zkl_n, zrc_1, zrc_s, zcat_n, zcat_i, zcat_l, zcat_r, zkd_1, zkd_105, zkd_106, zkd_21, zkd_22, zkd_3, zkd_4, zkd_67, zkd_68, zkd_86, zkd_87, zkd_a106, zkd_a22, zkd_a4, zkd_a68, zkd_a87, zln_106, zln_22, zln_4, zln_68, zln_87, zrf_105_10, zrf_21_10, zrf_3_10, zrf_67_10, zrf_86_10, zrf_a106, zrf_a22, zrf_a4, zrf_a68, zrf_a87, Int.cast_ofNat_Int, Int.reduceAdd, zbd, zw_id, zmu_same, zmu_c, zmu_i, false_and, and_false, true_and, and_true, true_or, or_true, false_or, or_false, Option.toList, List.nil_append, List.cons_append, zif0, zif1, zif01, zem1, zem2, Int.reduceEq, Int.reduceLT, Int.reduceLE, Int.reduceNeg, Int.reduceSub, Int.reduceMul, if_true, if_false, not_false_eq_true, not_true_eq_false, true_implies, false_implies, Classical.not_not, Nat.reduceAdd, Nat.reduceLeDiff, zq61 (a := -19) (w := 9) hk (by decide) rfl p3u, if_neg cg, q1]
    exact q.2
