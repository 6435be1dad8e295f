/-! ===== a line of the model ===== -/
theorem zq196z {d : Nat} {m : zMm} {i n : Int} {rest : List zV} {k : List zV → zMm → Prop} : zcl (zEx (d + 1)) 196 4 (.inl n :: .inl i :: .inl 0 :: .inr (.inr 131) :: rest) m k = (zcat rest ≤ 8 ∧ k (.inl 0 :: rest) m) := by
  refine zcl_eq (as := [.inr (.inr 131), .inl 0, .inl i, .inl n]) (r := some (.inl 0)) ?_ rfl rfl
  obtain ⟨r, m', h, rfl, rfl⟩ := gz196z (d := d) (m := m) (i := i) (n := n)
  exact h
theorem gz197 {d : Nat} {m : zMm} {T D : zMm} {s : Int × Int × Int} (hk : gTo1 T) (hp : gPd T s m) (hg : s.2.1 = 0) (hc : gS4 D m) (h10 : D 0 10 ≠ 0) (h0 : 0 ≤ D 0 0 ∧ D 0 0 ≤ 6) (h5 : 0 ≤ D 0 5 ∧ D 0 5 ≤ 8) (h6 : 0 ≤ D 0 6 ∧ D 0 6 ≤ 6) : zC (d + 6) 197 [.inr (.inr 131)] m (fun r' m' => r' = none ∧ gPd T (pL T s D) m' ∧ ((pL T s D).2.1 = 0 → gS4 (dL T s D) m') ∧ gFm4 m m') := by
  refine ze197 ?_
  have hs := hp.2.2.2.2.2
  have b0 := hp.2.2.1
  rw [hg] at b0
  have e45 := hc.1.2.2.2.2.2.1
  have e46 := hc.1.2.2.2.2.2.2.1
  unfold pL dL
  rw [if_neg h10, if_neg h10]
  by_cases c1 : pIs T (gWc 6) s = true
  · rw [if_pos c1, if_pos c1]
    have c1' := c1
    rw [gWc_6] at c1'
    by_cases c2 : D 0 5 < 8
    · rw [if_pos c2, if_pos c2]
      have n8 : ¬ m 138 (40 + 5) = 8 := by show ¬ m 138 45 = 8; omega
      have go : zC (d + 5) 196 [.inr (.inr 131), .inl 1, .inl 5, .inl 8] m (fun r' m' => r' = some (.inl 1) ∧ gPd T (pAd T s) m' ∧ gFn m m') := zC_im (gz196 hk (by decide) hg hp) (fun r' m' ⟨a, b, c⟩ => by
        rw [if_neg n8] at a b
        exact ⟨a, b, c⟩)
      simp +contextual (disch := (first | omega | assumption | decide)) only [↓zbrT, ↓zbrF, zw197_0, zw197_2, zw197_3, zw197_4, zw197_5, zw197_6, zw197_7, zw197_8, zw197_9, zw197_10, zw197_11, zw197_12, zw197_13, zr_1, zr_3, zr_4, zr_7, zr_8, zr_10, zr_12, zr_16, zr_21, zr_26, zr_28, zr_54, zr_61, zr_62, zr_68, zr_72, zr_73, zlg_0, zlg_s, zls_0, zls_1, zls_s, zkl_i, zkl_r, zkl_l, zkl_n, zrc_1, zrc_s, zcat_n, zcat_i, zcat_l, zcat_r, zkd_131, zkd_139, zkd_140, zln_139, zln_140, zrf_131_18, zrf_131_19, Int.cast_ofNat_Int, Int.reduceAdd, zbd, zw_id, zmu_same, zmu_c, zmu_i, false_and, and_false, true_and, and_true, true_or, or_true, false_or, or_false, Option.toList, List.nil_append, List.cons_append, zif0, zif1, zif01, zem1, zem2, Int.reduceEq, Int.reduceLT, Int.reduceLE, Int.reduceNeg, Int.reduceSub, Int.reduceMul, if_true, if_false, not_false_eq_true, not_true_eq_false, true_implies, false_implies, Classical.not_not, Nat.reduceAdd, Nat.reduceLeDiff, zq183T (w := 365260) hp, if_pos c1']
      refine gK (go) rfl rfl (Nat.le_of_ble_eq_true rfl) ?_
      rintro _ m1 ⟨rfl, p1, f1⟩
      simp +contextual (disch := (first | omega | assumption | decide)) only [↓zbrT, ↓zbrF, zw197_0, zw197_2, zw197_3, zw197_4, zw197_5, zw197_6, zw197_7, zw197_8, zw197_9, zw197_10, zw197_11, zw197_12, zw197_13, zr_1, zr_3, zr_4, zr_7, zr_8, zr_10, zr_12, zr_16, zr_21, zr_26, zr_28, zr_54, zr_61, zr_62, zr_68, zr_72, zr_73, zlg_0, zlg_s, zls_0, zls_1, zls_s, zkl_i, zkl_r, zkl_l, zkl_n, zrc_1, zrc_s, zcat_n, zcat_i, zcat_l, zcat_r, zkd_131, zkd_139, zkd_140, zln_139, zln_140, zrf_131_18, zrf_131_19, Int.cast_ofNat_Int, Int.reduceAdd, zbd, zw_id, zmu_same, zmu_c, zmu_i, false_and, and_false, true_and, and_true, true_or, or_true, false_or, or_false, Option.toList, List.nil_append, List.cons_append, zif0, zif1, zif01, zem1, zem2, Int.reduceEq, Int.reduceLT, Int.reduceLE, Int.reduceNeg, Int.reduceSub, Int.reduceMul, if_true, if_false, not_false_eq_true, not_true_eq_false, true_implies, false_implies, Classical.not_not, Nat.reduceAdd, Nat.reduceLeDiff]
      refine zWP_im (gRoadm hk p1 hs c1 (gS4_n hc f1) h0 ⟨h5.1, c2⟩) (fun r' m' ⟨a, b, c, e⟩ => ⟨a, b, c, gFm4_tr (gFm4_n f1) e⟩)
    · rw [if_neg c2, if_neg c2]
      have n8 : m 138 (40 + 5) = 8 := by show m 138 45 = 8; omega
      have go : zC (d + 5) 196 [.inr (.inr 131), .inl 1, .inl 5, .inl 8] m (fun r' m' => r' = some (.inl 0) ∧ gPd T (pBl T 3 s) m' ∧ gFn m m') := zC_im (gz196 hk (by decide) hg hp) (fun r' m' ⟨a, b, c⟩ => by
        rw [if_pos n8] at a b
        exact ⟨a, b, c⟩)
      simp +contextual (disch := (first | omega | assumption | decide)) only [↓zbrT, ↓zbrF, zw197_0, zw197_2, zw197_3, zw197_4, zw197_5, zw197_6, zw197_7, zw197_8, zw197_9, zw197_10, zw197_11, zw197_12, zw197_13, zr_1, zr_3, zr_4, zr_7, zr_8, zr_10, zr_12, zr_16, zr_21, zr_26, zr_28, zr_54, zr_61, zr_62, zr_68, zr_72, zr_73, zlg_0, zlg_s, zls_0, zls_1, zls_s, zkl_i, zkl_r, zkl_l, zkl_n, zrc_1, zrc_s, zcat_n, zcat_i, zcat_l, zcat_r, zkd_131, zkd_139, zkd_140, zln_139, zln_140, zrf_131_18, zrf_131_19, Int.cast_ofNat_Int, Int.reduceAdd, zbd, zw_id, zmu_same, zmu_c, zmu_i, false_and, and_false, true_and, and_true, true_or, or_true, false_or, or_false, Option.toList, List.nil_append, List.cons_append, zif0, zif1, zif01, zem1, zem2, Int.reduceEq, Int.reduceLT, Int.reduceLE, Int.reduceNeg, Int.reduceSub, Int.reduceMul, if_true, if_false, not_false_eq_true, not_true_eq_false, true_implies, false_implies, Classical.not_not, Nat.reduceAdd, Nat.reduceLeDiff, zq183T (w := 365260) hp, if_pos c1']
      refine gK (go) rfl rfl (Nat.le_of_ble_eq_true rfl) ?_
      rintro _ m1 ⟨rfl, p1, f1⟩
      have nb : ¬ m1 131 12 = 0 := by rw [p1.2.2.1]; exact pBl_g (by decide)
      simp +contextual (disch := (first | omega | assumption | decide)) only [↓zbrT, ↓zbrF, zw197_0, zw197_2, zw197_3, zw197_4, zw197_5, zw197_6, zw197_7, zw197_8, zw197_9, zw197_10, zw197_11, zw197_12, zw197_13, zr_1, zr_3, zr_4, zr_7, zr_8, zr_10, zr_12, zr_16, zr_21, zr_26, zr_28, zr_54, zr_61, zr_62, zr_68, zr_72, zr_73, zlg_0, zlg_s, zls_0, zls_1, zls_s, zkl_i, zkl_r, zkl_l, zkl_n, zrc_1, zrc_s, zcat_n, zcat_i, zcat_l, zcat_r, zkd_131, zkd_139, zkd_140, zln_139, zln_140, zrf_131_18, zrf_131_19, Int.cast_ofNat_Int, Int.reduceAdd, zbd, zw_id, zmu_same, zmu_c, zmu_i, false_and, and_false, true_and, and_true, true_or, or_true, false_or, or_false, Option.toList, List.nil_append, List.cons_append, zif0, zif1, zif01, zem1, zem2, Int.reduceEq, Int.reduceLT, Int.reduceLE, Int.reduceNeg, Int.reduceSub, Int.reduceMul, if_true, if_false, not_false_eq_true, not_true_eq_false, true_implies, false_implies, Classical.not_not, Nat.reduceAdd, Nat.reduceLeDiff, nb]
      exact ⟨p1, fun z => absurd z (pBl_g (by decide)), gFm4_n f1⟩
  · rw [if_neg c1, if_neg c1]
    rw [gWc_6] at c1
    by_cases c2 : pIs T (gWc 10) s = true
    · rw [if_pos c2, if_pos c2]
      have c2' := c2
      rw [gWc_10] at c2'
      by_cases c3 : D 0 6 < 6
      · rw [if_pos c3, if_pos c3]
        have n8 : ¬ m 138 (40 + 6) = 6 := by show ¬ m 138 46 = 6; omega
        have go : zC (d + 5) 196 [.inr (.inr 131), .inl 1, .inl 6, .inl 6] m (fun r' m' => r' = some (.inl 1) ∧ gPd T (pAd T s) m' ∧ gFn m m') := zC_im (gz196 hk (by decide) hg hp) (fun r' m' ⟨a, b, c⟩ => by
          rw [if_neg n8] at a b
          exact ⟨a, b, c⟩)
        simp +contextual (disch := (first | omega | assumption | decide)) only [↓zbrT, ↓zbrF, zw197_0, zw197_2, zw197_3, zw197_4, zw197_5, zw197_6, zw197_7, zw197_9, zw197_10, zw197_11, zw197_12, zw197_13, zr_1, zr_3, zr_4, zr_7, zr_8, zr_10, zr_12, zr_16, zr_21, zr_26, zr_28, zr_54, zr_61, zr_62, zr_68, zr_72, zr_73, zlg_0, zlg_s, zls_0, zls_1, zls_s, zkl_i, zkl_r, zkl_l, zkl_n, zrc_1, zrc_s, zcat_n, zcat_i, zcat_l, zcat_r, zkd_131, zkd_139, zkd_140, zln_139, zln_140, zrf_131_18, zrf_131_19, Int.cast_ofNat_Int, Int.reduceAdd, zbd, zw_id, zmu_same, zmu_c, zmu_i, false_and, and_false, true_and, and_true, true_or, or_true, false_or, or_false, Option.toList, List.nil_append, List.cons_append, zif0, zif1, zif01, zem1, zem2, Int.reduceEq, Int.reduceLT, Int.reduceLE, Int.reduceNeg, Int.reduceSub, Int.reduceMul, if_true, if_false, not_false_eq_true, not_true_eq_false, true_implies, false_implies, Classical.not_not, Nat.reduceAdd, Nat.reduceLeDiff, b0, zq183T (w := 365260) hp, if_neg c1, zq196z, zq183T (w := 86988807) hp, if_pos c2']
        refine gK (go) rfl rfl (Nat.le_of_ble_eq_true rfl) ?_
        rintro _ m1 ⟨rfl, p1, f1⟩
        simp +contextual (disch := (first | omega | assumption | decide)) only [↓zbrT, ↓zbrF, zw197_0, zw197_1, zw197_2, zw197_3, zw197_4, zw197_5, zw197_6, zw197_7, zw197_9, zw197_10, zw197_11, zw197_12, zw197_13, zr_1, zr_3, zr_4, zr_7, zr_8, zr_10, zr_12, zr_16, zr_21, zr_26, zr_28, zr_54, zr_61, zr_62, zr_68, zr_72, zr_73, zlg_0, zlg_s, zls_0, zls_1, zls_s, zkl_i, zkl_r, zkl_l, zkl_n, zrc_1, zrc_s, zcat_n, zcat_i, zcat_l, zcat_r, zkd_131, zkd_139, zkd_140, zln_139, zln_140, zrf_131_18, zrf_131_19, Int.cast_ofNat_Int, Int.reduceAdd, zbd, zw_id, zmu_same, zmu_c, zmu_i, false_and, and_false, true_and, and_true, true_or, or_true, false_or, or_false, Option.toList, List.nil_append, List.cons_append, zif0, zif1, zif01, zem1, zem2, Int.reduceEq, Int.reduceLT, Int.reduceLE, Int.reduceNeg, Int.reduceSub, Int.reduceMul, if_true, if_false, not_false_eq_true, not_true_eq_false, true_implies, false_implies, Classical.not_not, Nat.reduceAdd, Nat.reduceLeDiff]
        refine zWP_im (gFarmm hk p1 hs c2 (gS4_n hc f1) h0 ⟨h6.1, c3⟩) (fun r' m' ⟨a, b, c, e⟩ => ⟨a, b, c, gFm4_tr (gFm4_n f1) e⟩)
      · rw [if_neg c3, if_neg c3]
        have n8 : m 138 (40 + 6) = 6 := by show m 138 46 = 6; omega
        have go : zC (d + 5) 196 [.inr (.inr 131), .inl 1, .inl 6, .inl 6] m (fun r' m' => r' = some (.inl 0) ∧ gPd T (pBl T 3 s) m' ∧ gFn m m') := zC_im (gz196 hk (by decide) hg hp) (fun r' m' ⟨a, b, c⟩ => by
          rw [if_pos n8] at a b
          exact ⟨a, b, c⟩)
        simp +contextual (disch := (first | omega | assumption | decide)) only [↓zbrT, ↓zbrF, zw197_0, zw197_2, zw197_3, zw197_4, zw197_5, zw197_6, zw197_7, zw197_9, zw197_10, zw197_11, zw197_12, zw197_13, zr_1, zr_3, zr_4, zr_7, zr_8, zr_10, zr_12, zr_16, zr_21, zr_26, zr_28, zr_54, zr_61, zr_62, zr_68, zr_72, zr_73, zlg_0, zlg_s, zls_0, zls_1, zls_s, zkl_i, zkl_r, zkl_l, zkl_n, zrc_1, zrc_s, zcat_n, zcat_i, zcat_l, zcat_r, zkd_131, zkd_139, zkd_140, zln_139, zln_140, zrf_131_18, zrf_131_19, Int.cast_ofNat_Int, Int.reduceAdd, zbd, zw_id, zmu_same, zmu_c, zmu_i, false_and, and_false, true_and, and_true, true_or, or_true, false_or, or_false, Option.toList, List.nil_append, List.cons_append, zif0, zif1, zif01, zem1, zem2, Int.reduceEq, Int.reduceLT, Int.reduceLE, Int.reduceNeg, Int.reduceSub, Int.reduceMul, if_true, if_false, not_false_eq_true, not_true_eq_false, true_implies, false_implies, Classical.not_not, Nat.reduceAdd, Nat.reduceLeDiff, b0, zq183T (w := 365260) hp, if_neg c1, zq196z, zq183T (w := 86988807) hp, if_pos c2']
        refine gK (go) rfl rfl (Nat.le_of_ble_eq_true rfl) ?_
        rintro _ m1 ⟨rfl, p1, f1⟩
        have nb : ¬ m1 131 12 = 0 := by rw [p1.2.2.1]; exact pBl_g (by decide)
        simp +contextual (disch := (first | omega | assumption | decide)) only [↓zbrT, ↓zbrF, zw197_0, zw197_1, zw197_2, zw197_3, zw197_4, zw197_5, zw197_6, zw197_7, zw197_9, zw197_10, zw197_11, zw197_12, zw197_13, zr_1, zr_3, zr_4, zr_7, zr_8, zr_10, zr_12, zr_16, zr_21, zr_26, zr_28, zr_54, zr_61, zr_62, zr_68, zr_72, zr_73, zlg_0, zlg_s, zls_0, zls_1, zls_s, zkl_i, zkl_r, zkl_l, zkl_n, zrc_1, zrc_s, zcat_n, zcat_i, zcat_l, zcat_r, zkd_131, zkd_139, zkd_140, zln_139, zln_140, zrf_131_18, zrf_131_19, Int.cast_ofNat_Int, Int.reduceAdd, zbd, zw_id, zmu_same, zmu_c, zmu_i, false_and, and_false, true_and, and_true, true_or, or_true, false_or, or_false, Option.toList, List.nil_append, List.cons_append, zif0, zif1, zif01, zem1, zem2, Int.reduceEq, Int.reduceLT, Int.reduceLE, Int.reduceNeg, Int.reduceSub, Int.reduceMul, if_true, if_false, not_false_eq_true, not_true_eq_false, true_implies, false_implies, Classical.not_not, Nat.reduceAdd, Nat.reduceLeDiff, nb]
        exact ⟨p1, fun z => absurd z (pBl_g (by decide)), gFm4_n f1⟩
    · rw [if_neg c2, if_neg c2]
      rw [gWc_10] at c2
      have go := gDragm (d := d) (l1 := none) (l2 := none) hk hp hc h0
      simp +contextual (disch := (first | omega | assumption | decide)) only [↓zbrT, ↓zbrF, zw197_0, zw197_2, zw197_3, zw197_4, zw197_5, zw197_6, zw197_7, zw197_9, zw197_11, zw197_12, zw197_13, zr_1, zr_3, zr_4, zr_7, zr_8, zr_10, zr_12, zr_16, zr_21, zr_26, zr_28, zr_54, zr_61, zr_62, zr_68, zr_72, zr_73, zlg_0, zlg_s, zls_0, zls_1, zls_s, zkl_i, zkl_r, zkl_l, zkl_n, zrc_1, zrc_s, zcat_n, zcat_i, zcat_l, zcat_r, zkd_131, zkd_139, zkd_140, zln_139, zln_140, zrf_131_18, zrf_131_19, Int.cast_ofNat_Int, Int.reduceAdd, zbd, zw_id, zmu_same, zmu_c, zmu_i, false_and, and_false, true_and, and_true, true_or, or_true, false_or, or_false, Option.toList, List.nil_append, List.cons_append, zif0, zif1, zif01, zem1, zem2, Int.reduceEq, Int.reduceLT, Int.reduceLE, Int.reduceNeg, Int.reduceSub, Int.reduceMul, if_true, if_false, not_false_eq_true, not_true_eq_false, true_implies, false_implies, Classical.not_not, Nat.reduceAdd, Nat.reduceLeDiff, b0, zq183T (w := 365260) hp, if_neg c1, zq196z, zq183T (w := 86988807) hp, if_neg c2]
      by_cases c3 : pIs T (gWc 15) s = true
      · rw [if_pos c3, if_pos c3]
        exact go
      · rw [if_neg c3, if_neg c3]
        have bb : (pBl T 1 s).2.1 ≠ 0 := pBl_g (by decide)
        have e : pG2 T (D 0 0) s = pBl T 1 s := by
          unfold pG2 pG1
          rw [pTw_f c3, pQ_b bb, pN_b bb]
        rw [e] at go
        exact zWP_im go (fun r' m' ⟨a, b, c, e⟩ => ⟨a, b, fun z => absurd z bb, e⟩)
