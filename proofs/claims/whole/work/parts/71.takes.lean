/-! ===== the class's parser: blame, takes ===== -/
theorem gPc_ad {d : Nat} {m T : zMm} {s : Int × Int × Int} (hk : gTo1 T) (hp : gPc T s m) : zC (d + 3) 65 [.inr (.inr 1)] m (fun r' m' => r' = none ∧ gPc T (pAd T s) m' ∧ gFp m m') := by
  have e := gEd_b hp.2.2.2.2.2
  have hq := hp.2.2.2.2
  have ss := gSt1_s hq.2
  refine zC_im (gz65 hk hp.1 hp.2.1.1 ⟨by omega, e.2.1⟩) (fun r' m' ⟨a, b, c⟩ => ⟨a, ⟨gTp_of hp.1 (c 1 0 (by omega)) (fun i => c 2 i (by omega)), b, ?_, ?_, ?_⟩, fun c' i' hc => ?_⟩)
  · rw [c 1 1 (by omega)]; exact hp.2.2.1
  · rw [c 1 2 (by omega)]; exact hp.2.2.2.1
  · show 0 ≤ gEd T s.1 ∧ gEd T s.1 ≤ T 0 0
    omega
  · exact c c' i' (by omega)
theorem gz60 {d : Nat} {m : zMm} {x : Int} {T : zMm} {s : Int × Int × Int} (hp : gPc T s m) : zC (d + 1) 60 [.inr (.inr 1), .inl x] m (fun r' m' => r' = none ∧ gPc T (pBl T x s) m' ∧ gFp m m') := by
  refine ze60 ?_
  obtain ⟨ht, ⟨q4, q5, q6, q7⟩, f1, f2, hq⟩ := hp
  unfold pBl
  by_cases c : s.2.1 = 0
  · rw [if_pos c]
    rw [c] at f1
    simp +contextual (disch := (first | omega | assumption | decide)) only [↓zbrT, ↓zbrF, zw60_0, zw60_1, zw60_2, zr_1, zr_3, zr_10, zr_13, zr_62, zr_72, zr_73, zlg_0, zlg_s, zkd_1, Int.cast_ofNat_Int, Int.reduceAdd, zmu_same, zmu_c, zmu_i, false_and, and_false, true_and, and_true, true_or, or_true, false_or, or_false, Option.toList, List.nil_append, List.cons_append, zif0, zif1, zif01, zem1, zem2, Int.reduceEq, Int.reduceLT, Int.reduceLE, Int.reduceNeg, Int.reduceSub, Int.reduceMul, if_true, if_false, not_false_eq_true, not_true_eq_false, true_implies, false_implies, Classical.not_not, Nat.reduceAdd, Nat.reduceLeDiff, f1, q6]
    refine ⟨⟨gTp_of ht ?_ (fun i => ?_), ⟨?_, ?_, ?_, ?_⟩, ?_, zmu_same, hq⟩, fun c' i' hc => ?_⟩
    · simp (disch := decide) only [zmu_i]
    · simp (disch := decide) only [zmu_c]
    · simp (disch := decide) only [zmu_i]; exact q4
    · simp (disch := decide) only [zmu_i]; exact q5
    · simp (disch := decide) only [zmu_i]; exact q6
    · simp (disch := decide) only [zmu_i]; exact q7
    · simp (disch := decide) only [zmu_i, zmu_same]
    · unfold zmu
      rw [if_neg (by omega), if_neg (by omega)]
  · rw [if_neg c]
    simp +contextual (disch := (first | omega | assumption | decide)) only [↓zbrT, ↓zbrF, zw60_0, zw60_1, zw60_2, zr_1, zr_3, zr_10, zr_13, zr_62, zr_72, zr_73, zlg_0, zlg_s, zkd_1, Int.cast_ofNat_Int, Int.reduceAdd, zmu_same, zmu_c, zmu_i, false_and, and_false, true_and, and_true, true_or, or_true, false_or, or_false, Option.toList, List.nil_append, List.cons_append, zif0, zif1, zif01, zem1, zem2, Int.reduceEq, Int.reduceLT, Int.reduceLE, Int.reduceNeg, Int.reduceSub, Int.reduceMul, if_true, if_false, not_false_eq_true, not_true_eq_false, true_implies, false_implies, Classical.not_not, Nat.reduceAdd, Nat.reduceLeDiff, f1]
    exact ⟨⟨ht, ⟨q4, q5, q6, q7⟩, f1, f2, hq⟩, gFp_refl⟩
theorem gz58 {d : Nat} {m : zMm} {a : Int} {T : zMm} {s : Int × Int × Int} {w : Nat} (hk : gTo1 T) (hw : w < 17) (ha : a = -10 - (w : Int)) (hp : gPc T s m) : zC (d + 4) 58 [.inr (.inr 1), .inr (.inr a)] m (fun r' m' => r' = none ∧ gPc T (pTw T (gWc w) s) m' ∧ gFp m m') := by
  refine ze58 ?_
  unfold pTw
  by_cases c : pIs T (gWc w) s = true
  · rw [if_pos c]
    simp +contextual (disch := (first | omega | assumption | decide)) only [↓zbrT, ↓zbrF, zw58_0, zw58_1, zw58_2, zw58_3, zr_3, zr_7, zr_54, zr_61, zr_68, zr_72, zr_73, zlg_0, zlg_s, zrc_1, zrc_s, zcat_n, zcat_i, zcat_l, zcat_r, zkd_1, Int.cast_ofNat_Int, Int.reduceAdd, false_and, and_false, true_and, and_true, true_or, or_true, false_or, or_false, Option.toList, List.nil_append, List.cons_append, zif0, zif1, zif01, zem1, zem2, Int.reduceEq, Int.reduceLT, Int.reduceLE, Int.reduceNeg, Int.reduceSub, Int.reduceMul, if_true, if_false, not_false_eq_true, not_true_eq_false, true_implies, false_implies, Classical.not_not, Nat.reduceAdd, Nat.reduceLeDiff, zq61 hk hw ha hp, if_pos c]
    refine gK (gPc_ad hk hp) rfl rfl (Nat.le_of_ble_eq_true rfl) ?_
    rintro _ m2 ⟨rfl, r1, r2⟩
    simp +contextual (disch := (first | omega | assumption | decide)) only [↓zbrT, ↓zbrF, zw58_0, zw58_1, zw58_2, zw58_3, zr_3, zr_7, zr_54, zr_61, zr_68, zr_72, zr_73, zlg_0, zlg_s, zrc_1, zrc_s, zcat_n, zcat_i, zcat_l, zcat_r, zkd_1, Int.cast_ofNat_Int, Int.reduceAdd, false_and, and_false, true_and, and_true, true_or, or_true, false_or, or_false, Option.toList, List.nil_append, List.cons_append, zif0, zif1, zif01, zem1, zem2, Int.reduceEq, Int.reduceLT, Int.reduceLE, Int.reduceNeg, Int.reduceSub, Int.reduceMul, if_true, if_false, not_false_eq_true, not_true_eq_false, true_implies, false_implies, Classical.not_not, Nat.reduceAdd, Nat.reduceLeDiff]
    exact ⟨r1, r2⟩
  · rw [if_neg c]
    simp +contextual (disch := (first | omega | assumption | decide)) only [↓zbrT, ↓zbrF, zw58_0, zw58_1, zw58_2, zw58_3, zr_3, zr_7, zr_54, zr_61, zr_68, zr_72, zr_73, zlg_0, zlg_s, zrc_1, zrc_s, zcat_n, zcat_i, zcat_l, zcat_r, zkd_1, Int.cast_ofNat_Int, Int.reduceAdd, false_and, and_false, true_and, and_true, true_or, or_true, false_or, or_false, Option.toList, List.nil_append, List.cons_append, zif0, zif1, zif01, zem1, zem2, Int.reduceEq, Int.reduceLT, Int.reduceLE, Int.reduceNeg, Int.reduceSub, Int.reduceMul, if_true, if_false, not_false_eq_true, not_true_eq_false, true_implies, false_implies, Classical.not_not, Nat.reduceAdd, Nat.reduceLeDiff, zq61 hk hw ha hp, if_neg c]
    refine gK (gz60 hp) rfl rfl (Nat.le_of_ble_eq_true rfl) ?_
    rintro _ m2 ⟨rfl, r1, r2⟩
    simp +contextual (disch := (first | omega | assumption | decide)) only [↓zbrT, ↓zbrF, zw58_0, zw58_1, zw58_2, zw58_3, zr_3, zr_7, zr_54, zr_61, zr_68, zr_72, zr_73, zlg_0, zlg_s, zrc_1, zrc_s, zcat_n, zcat_i, zcat_l, zcat_r, zkd_1, Int.cast_ofNat_Int, Int.reduceAdd, false_and, and_false, true_and, and_true, true_or, or_true, false_or, or_false, Option.toList, List.nil_append, List.cons_append, zif0, zif1, zif01, zem1, zem2, Int.reduceEq, Int.reduceLT, Int.reduceLE, Int.reduceNeg, Int.reduceSub, Int.reduceMul, if_true, if_false, not_false_eq_true, not_true_eq_false, true_implies, false_implies, Classical.not_not, Nat.reduceAdd, Nat.reduceLeDiff]
    exact ⟨r1, r2⟩
theorem gz57 {d : Nat} {m : zMm} {x : Int} {y : Int} {T : zMm} {s : Int × Int × Int} (hk : gTo1 T) (hp : gPc T s m) : zC (d + 4) 57 [.inr (.inr 1), .inl x, .inl y] m (fun r' m' => r' = some (.inl (pVa T x y 0 s)) ∧ gPc T (pNu T x y s) m' ∧ gFp m m') := by
  refine ze57 ?_
  have hp0 := hp
  obtain ⟨ht, ⟨q4, q5, q6, q7⟩, f1, f2, hq⟩ := hp
  unfold pVa pNu
  by_cases c : s.2.1 = 0
  · rw [c] at f1
    by_cases ck : gKi T s.1 = 2
    · rw [ck] at q5
      by_cases c3 : x ≤ gVl T s.1
      · by_cases c4 : gVl T s.1 ≤ y
        · have ci := pIn_t.mpr ⟨⟨c, ck⟩, c3, c4⟩
          rw [if_pos ci, if_pos ci]
          simp +contextual (disch := (first | omega | assumption | decide)) only [↓zbrT, ↓zbrF, zw57_0, zw57_1, zw57_2, zw57_3, zw57_4, zw57_5, zw57_6, zw57_7, zr_1, zr_3, zr_4, zr_7, zr_10, zr_55, zr_57, zr_60, zr_61, zr_68, zr_70, zlg_0, zlg_s, zls_0, zls_1, zls_s, zkl_i, zkl_r, zkl_l, zkl_n, zrc_1, zrc_s, zcat_n, zcat_i, zcat_l, zcat_r, zkd_1, Int.cast_ofNat_Int, Int.reduceAdd, false_and, and_false, true_and, and_true, true_or, or_true, false_or, or_false, Option.toList, List.nil_append, List.cons_append, zif0, zif1, zif01, zem1, zem2, Int.reduceEq, Int.reduceLT, Int.reduceLE, Int.reduceNeg, Int.reduceSub, Int.reduceMul, if_true, if_false, not_false_eq_true, not_true_eq_false, true_implies, false_implies, Classical.not_not, Nat.reduceAdd, Nat.reduceLeDiff, f1, q5, q7]
          refine gK (gPc_ad hk hp0) rfl rfl (Nat.le_of_ble_eq_true rfl) ?_
          rintro _ m2 ⟨rfl, r1, r2⟩
          simp +contextual (disch := (first | omega | assumption | decide)) only [↓zbrT, ↓zbrF, zw57_0, zw57_1, zw57_2, zw57_3, zw57_4, zw57_5, zw57_6, zw57_7, zr_1, zr_3, zr_4, zr_7, zr_10, zr_55, zr_57, zr_60, zr_61, zr_68, zr_70, zlg_0, zlg_s, zls_0, zls_1, zls_s, zkl_i, zkl_r, zkl_l, zkl_n, zrc_1, zrc_s, zcat_n, zcat_i, zcat_l, zcat_r, zkd_1, Int.cast_ofNat_Int, Int.reduceAdd, false_and, and_false, true_and, and_true, true_or, or_true, false_or, or_false, Option.toList, List.nil_append, List.cons_append, zif0, zif1, zif01, zem1, zem2, Int.reduceEq, Int.reduceLT, Int.reduceLE, Int.reduceNeg, Int.reduceSub, Int.reduceMul, if_true, if_false, not_false_eq_true, not_true_eq_false, true_implies, false_implies, Classical.not_not, Nat.reduceAdd, Nat.reduceLeDiff]
          exact ⟨r1, r2⟩
        · have ci : ¬ pIn T x y s = true := fun z => c4 (pIn_t.mp z).2.2
          rw [if_neg ci, if_neg ci, if_pos ⟨c, ck⟩]
          simp +contextual (disch := (first | omega | assumption | decide)) only [↓zbrT, ↓zbrF, zw57_0, zw57_1, zw57_2, zw57_3, zw57_4, zw57_5, zw57_6, zw57_7, zr_1, zr_3, zr_4, zr_7, zr_10, zr_55, zr_57, zr_60, zr_61, zr_68, zr_70, zlg_0, zlg_s, zls_0, zls_1, zls_s, zkl_i, zkl_r, zkl_l, zkl_n, zrc_1, zrc_s, zcat_n, zcat_i, zcat_l, zcat_r, zkd_1, Int.cast_ofNat_Int, Int.reduceAdd, false_and, and_false, true_and, and_true, true_or, or_true, false_or, or_false, Option.toList, List.nil_append, List.cons_append, zif0, zif1, zif01, zem1, zem2, Int.reduceEq, Int.reduceLT, Int.reduceLE, Int.reduceNeg, Int.reduceSub, Int.reduceMul, if_true, if_false, not_false_eq_true, not_true_eq_false, true_implies, false_implies, Classical.not_not, Nat.reduceAdd, Nat.reduceLeDiff, f1, q5, q7]
          refine gK (gz60 hp0) rfl rfl (Nat.le_of_ble_eq_true rfl) ?_
          rintro _ m2 ⟨rfl, r1, r2⟩
          simp +contextual (disch := (first | omega | assumption | decide)) only [↓zbrT, ↓zbrF, zw57_0, zw57_1, zw57_2, zw57_3, zw57_4, zw57_5, zw57_6, zw57_7, zr_1, zr_3, zr_4, zr_7, zr_10, zr_55, zr_57, zr_60, zr_61, zr_68, zr_70, zlg_0, zlg_s, zls_0, zls_1, zls_s, zkl_i, zkl_r, zkl_l, zkl_n, zrc_1, zrc_s, zcat_n, zcat_i, zcat_l, zcat_r, zkd_1, Int.cast_ofNat_Int, Int.reduceAdd, false_and, and_false, true_and, and_true, true_or, or_true, false_or, or_false, Option.toList, List.nil_append, List.cons_append, zif0, zif1, zif01, zem1, zem2, Int.reduceEq, Int.reduceLT, Int.reduceLE, Int.reduceNeg, Int.reduceSub, Int.reduceMul, if_true, if_false, not_false_eq_true, not_true_eq_false, true_implies, false_implies, Classical.not_not, Nat.reduceAdd, Nat.reduceLeDiff]
          exact ⟨r1, r2⟩
      · have ci : ¬ pIn T x y s = true := fun z => c3 (pIn_t.mp z).2.1
        rw [if_neg ci, if_neg ci, if_pos ⟨c, ck⟩]
        simp +contextual (disch := (first | omega | assumption | decide)) only [↓zbrT, ↓zbrF, zw57_0, zw57_1, zw57_2, zw57_3, zw57_4, zw57_5, zw57_6, zw57_7, zr_1, zr_3, zr_4, zr_7, zr_10, zr_55, zr_57, zr_60, zr_61, zr_68, zr_70, zlg_0, zlg_s, zls_0, zls_1, zls_s, zkl_i, zkl_r, zkl_l, zkl_n, zrc_1, zrc_s, zcat_n, zcat_i, zcat_l, zcat_r, zkd_1, Int.cast_ofNat_Int, Int.reduceAdd, false_and, and_false, true_and, and_true, true_or, or_true, false_or, or_false, Option.toList, List.nil_append, List.cons_append, zif0, zif1, zif01, zem1, zem2, Int.reduceEq, Int.reduceLT, Int.reduceLE, Int.reduceNeg, Int.reduceSub, Int.reduceMul, if_true, if_false, not_false_eq_true, not_true_eq_false, true_implies, false_implies, Classical.not_not, Nat.reduceAdd, Nat.reduceLeDiff, f1, q5, q7]
        refine gK (gz60 hp0) rfl rfl (Nat.le_of_ble_eq_true rfl) ?_
        rintro _ m2 ⟨rfl, r1, r2⟩
        simp +contextual (disch := (first | omega | assumption | decide)) only [↓zbrT, ↓zbrF, zw57_0, zw57_1, zw57_2, zw57_3, zw57_4, zw57_5, zw57_6, zw57_7, zr_1, zr_3, zr_4, zr_7, zr_10, zr_55, zr_57, zr_60, zr_61, zr_68, zr_70, zlg_0, zlg_s, zls_0, zls_1, zls_s, zkl_i, zkl_r, zkl_l, zkl_n, zrc_1, zrc_s, zcat_n, zcat_i, zcat_l, zcat_r, zkd_1, Int.cast_ofNat_Int, Int.reduceAdd, false_and, and_false, true_and, and_true, true_or, or_true, false_or, or_false, Option.toList, List.nil_append, List.cons_append, zif0, zif1, zif01, zem1, zem2, Int.reduceEq, Int.reduceLT, Int.reduceLE, Int.reduceNeg, Int.reduceSub, Int.reduceMul, if_true, if_false, not_false_eq_true, not_true_eq_false, true_implies, false_implies, Classical.not_not, Nat.reduceAdd, Nat.reduceLeDiff]
        exact ⟨r1, r2⟩
    · have ci : ¬ pIn T x y s = true := fun z => ck (pIn_t.mp z).1.2
      rw [if_neg ci, if_neg ci, if_neg (fun z => ck z.2)]
      simp +contextual (disch := (first | omega | assumption | decide)) only [↓zbrT, ↓zbrF, zw57_0, zw57_1, zw57_2, zw57_3, zw57_4, zw57_5, zw57_6, zw57_7, zr_1, zr_3, zr_4, zr_7, zr_10, zr_55, zr_57, zr_60, zr_61, zr_68, zr_70, zlg_0, zlg_s, zls_0, zls_1, zls_s, zkl_i, zkl_r, zkl_l, zkl_n, zrc_1, zrc_s, zcat_n, zcat_i, zcat_l, zcat_r, zkd_1, Int.cast_ofNat_Int, Int.reduceAdd, false_and, and_false, true_and, and_true, true_or, or_true, false_or, or_false, Option.toList, List.nil_append, List.cons_append, zif0, zif1, zif01, zem1, zem2, Int.reduceEq, Int.reduceLT, Int.reduceLE, Int.reduceNeg, Int.reduceSub, Int.reduceMul, if_true, if_false, not_false_eq_true, not_true_eq_false, true_implies, false_implies, Classical.not_not, Nat.reduceAdd, Nat.reduceLeDiff, f1, q5]
      refine gK (gz60 hp0) rfl rfl (Nat.le_of_ble_eq_true rfl) ?_
      rintro _ m2 ⟨rfl, r1, r2⟩
      simp +contextual (disch := (first | omega | assumption | decide)) only [↓zbrT, ↓zbrF, zw57_0, zw57_1, zw57_2, zw57_3, zw57_4, zw57_5, zw57_6, zw57_7, zr_1, zr_3, zr_4, zr_7, zr_10, zr_55, zr_57, zr_60, zr_61, zr_68, zr_70, zlg_0, zlg_s, zls_0, zls_1, zls_s, zkl_i, zkl_r, zkl_l, zkl_n, zrc_1, zrc_s, zcat_n, zcat_i, zcat_l, zcat_r, zkd_1, Int.cast_ofNat_Int, Int.reduceAdd, false_and, and_false, true_and, and_true, true_or, or_true, false_or, or_false, Option.toList, List.nil_append, List.cons_append, zif0, zif1, zif01, zem1, zem2, Int.reduceEq, Int.reduceLT, Int.reduceLE, Int.reduceNeg, Int.reduceSub, Int.reduceMul, if_true, if_false, not_false_eq_true, not_true_eq_false, true_implies, false_implies, Classical.not_not, Nat.reduceAdd, Nat.reduceLeDiff]
      exact ⟨r1, r2⟩
  · have ci : ¬ pIn T x y s = true := fun z => c (pIn_t.mp z).1.1
    rw [if_neg ci, if_neg ci, if_neg (fun z => c z.1)]
    simp +contextual (disch := (first | omega | assumption | decide)) only [↓zbrT, ↓zbrF, zw57_0, zw57_1, zw57_2, zw57_3, zw57_4, zw57_5, zw57_6, zw57_7, zr_1, zr_3, zr_4, zr_7, zr_10, zr_55, zr_57, zr_60, zr_61, zr_68, zr_70, zlg_0, zlg_s, zls_0, zls_1, zls_s, zkl_i, zkl_r, zkl_l, zkl_n, zrc_1, zrc_s, zcat_n, zcat_i, zcat_l, zcat_r, zkd_1, Int.cast_ofNat_Int, Int.reduceAdd, false_and, and_false, true_and, and_true, true_or, or_true, false_or, or_false, Option.toList, List.nil_append, List.cons_append, zif0, zif1, zif01, zem1, zem2, Int.reduceEq, Int.reduceLT, Int.reduceLE, Int.reduceNeg, Int.reduceSub, Int.reduceMul, if_true, if_false, not_false_eq_true, not_true_eq_false, true_implies, false_implies, Classical.not_not, Nat.reduceAdd, Nat.reduceLeDiff, f1]
    unfold pBl
    rw [if_neg c]
    exact ⟨hp0, gFp_refl⟩
theorem gz56 {d : Nat} {m : zMm} {a : Int} {x : Int} {y : Int} {T : zMm} {s : Int × Int × Int} {w : Nat} (hk : gTo1 T) (hw : w < 17) (ha : a = -10 - (w : Int)) (hp : gPc T s m) : zC (d + 5) 56 [.inr (.inr 1), .inr (.inr a), .inl x, .inl y] m (fun r' m' => r' = some (.inl (pVa T x y 0 (pTw T (gWc w) s))) ∧ gPc T (pNu T x y (pTw T (gWc w) s)) m' ∧ gFp m m') := by
  refine ze56 ?_
  simp +contextual (disch := (first | omega | assumption | decide)) only [zw56_0, zr_1, zr_3, zr_68, zr_70, zlg_0, zlg_s, zrc_1, zrc_s, zcat_n, zcat_i, zcat_l, zcat_r, zkd_1, Int.cast_ofNat_Int, Int.reduceAdd, false_and, and_false, true_and, and_true, true_or, or_true, false_or, or_false, Option.toList, List.nil_append, List.cons_append, zif0, zif1, zif01, zem1, zem2, Int.reduceEq, Int.reduceLT, Int.reduceLE, Int.reduceNeg, Int.reduceSub, Int.reduceMul, if_true, if_false, not_false_eq_true, not_true_eq_false, true_implies, false_implies, Classical.not_not, Nat.reduceAdd, Nat.reduceLeDiff]
  refine gK (gz58 hk hw ha hp) rfl rfl (Nat.le_of_ble_eq_true rfl) ?_
  rintro _ m2 ⟨rfl, r1, r2⟩
  simp +contextual (disch := (first | omega | assumption | decide)) only [zw56_0, zr_1, zr_3, zr_68, zr_70, zlg_0, zlg_s, zrc_1, zrc_s, zcat_n, zcat_i, zcat_l, zcat_r, zkd_1, Int.cast_ofNat_Int, Int.reduceAdd, false_and, and_false, true_and, and_true, true_or, or_true, false_or, or_false, Option.toList, List.nil_append, List.cons_append, zif0, zif1, zif01, zem1, zem2, Int.reduceEq, Int.reduceLT, Int.reduceLE, Int.reduceNeg, Int.reduceSub, Int.reduceMul, if_true, if_false, not_false_eq_true, not_true_eq_false, true_implies, false_implies, Classical.not_not, Nat.reduceAdd, Nat.reduceLeDiff]
  refine gK (gz57 hk r1) rfl rfl (Nat.le_of_ble_eq_true rfl) ?_
  rintro _ m3 ⟨rfl, r3, r4⟩
  simp +contextual (disch := (first | omega | assumption | decide)) only [zw56_0, zr_1, zr_3, zr_68, zr_70, zlg_0, zlg_s, zrc_1, zrc_s, zcat_n, zcat_i, zcat_l, zcat_r, zkd_1, Int.cast_ofNat_Int, Int.reduceAdd, false_and, and_false, true_and, and_true, true_or, or_true, false_or, or_false, Option.toList, List.nil_append, List.cons_append, zif0, zif1, zif01, zem1, zem2, Int.reduceEq, Int.reduceLT, Int.reduceLE, Int.reduceNeg, Int.reduceSub, Int.reduceMul, if_true, if_false, not_false_eq_true, not_true_eq_false, true_implies, false_implies, Classical.not_not, Nat.reduceAdd, Nat.reduceLeDiff]
  exact ⟨r3, gFp_tr r2 r4⟩
def pPl (T : zMm) (w x : Int) (s : Int × Int × Int) : Int × Int × Int := pDn T x (pTw T w s)
theorem gz55 {d : Nat} {m : zMm} {a : Int} {x : Int} {T : zMm} {P : Int} {s : Int × Int × Int} {w : Nat} (hk : gTo1 T) (hw : w < 17) (ha : a = -10 - (w : Int)) (hP : m 3 1 = P) (hP0 : 0 ≤ P ∧ P ≤ 6) (hp : gPc T s m) : zC (d + 5) 55 [.inr (.inr 1), .inr (.inr 3), .inr (.inr a), .inl x] m (fun r' m' => r' = some (.inl (pVa T 0 (P - 1) 0 (pPl T (gWc w) x s))) ∧ gPc T (pNu T 0 (P - 1) (pPl T (gWc w) x s)) m' ∧ gFp m m') := by
  refine ze55 ?_
  simp +contextual (disch := (first | omega | assumption | decide)) only [↓zbrT, ↓zbrF, zw55_0, zw55_1, zw55_2, zw55_3, zw55_4, zr_1, zr_3, zr_7, zr_10, zr_27, zr_56, zr_62, zr_68, zr_70, zr_73, zlg_0, zlg_s, zrc_1, zrc_s, zcat_n, zcat_i, zcat_l, zcat_r, zkd_1, zkd_105, zkd_21, zkd_3, zkd_67, zkd_86, Int.cast_ofNat_Int, Int.reduceAdd, zw_id, false_and, and_false, true_and, and_true, true_or, or_true, false_or, or_false, Option.toList, List.nil_append, List.cons_append, zif0, zif1, zif01, zem1, zem2, Int.reduceEq, Int.reduceLT, Int.reduceLE, Int.reduceNeg, Int.reduceSub, Int.reduceMul, if_true, if_false, not_false_eq_true, not_true_eq_false, true_implies, false_implies, Classical.not_not, Nat.reduceAdd, Nat.reduceLeDiff]
  refine gK (gz58 hk hw ha hp) rfl rfl (Nat.le_of_ble_eq_true rfl) ?_
  rintro _ m2 ⟨rfl, r1, r2⟩
  have hP2 : m2 3 1 = P := by rw [r2 3 1 (by omega)]; exact hP
  have r10 := r1
  obtain ⟨ht, ⟨q4, q5, q6, q7⟩, f1, f2, hq⟩ := r1
  unfold pPl pDn
  by_cases c : ((pTw T (gWc w) s).2.1 = 0 ∧ gKi T (pTw T (gWc w) s).1 = 2) ∧ gVl T (pTw T (gWc w) s).1 = x
  · rw [if_pos c]
    rw [c.1.1] at f1
    rw [c.1.2] at q5
    rw [c.2] at q7
    simp +contextual (disch := (first | omega | assumption | decide)) only [↓zbrT, ↓zbrF, zw55_0, zw55_1, zw55_2, zw55_3, zw55_4, zr_1, zr_3, zr_7, zr_10, zr_27, zr_56, zr_62, zr_68, zr_70, zr_73, zlg_0, zlg_s, zrc_1, zrc_s, zcat_n, zcat_i, zcat_l, zcat_r, zkd_1, zkd_105, zkd_21, zkd_3, zkd_67, zkd_86, Int.cast_ofNat_Int, Int.reduceAdd, zw_id, false_and, and_false, true_and, and_true, true_or, or_true, false_or, or_false, Option.toList, List.nil_append, List.cons_append, zif0, zif1, zif01, zem1, zem2, Int.reduceEq, Int.reduceLT, Int.reduceLE, Int.reduceNeg, Int.reduceSub, Int.reduceMul, if_true, if_false, not_false_eq_true, not_true_eq_false, true_implies, false_implies, Classical.not_not, Nat.reduceAdd, Nat.reduceLeDiff, f1, q5, q7]
    refine gK (gz60 r10) rfl rfl (Nat.le_of_ble_eq_true rfl) ?_
    rintro _ m3 ⟨rfl, r3, r4⟩
    have hP3 : m3 3 1 = P := by rw [r4 3 1 (by omega)]; exact hP2
    simp +contextual (disch := (first | omega | assumption | decide)) only [↓zbrT, ↓zbrF, zw55_0, zw55_1, zw55_2, zw55_3, zw55_4, zr_1, zr_3, zr_7, zr_10, zr_27, zr_56, zr_62, zr_68, zr_70, zr_73, zlg_0, zlg_s, zrc_1, zrc_s, zcat_n, zcat_i, zcat_l, zcat_r, zkd_1, zkd_105, zkd_21, zkd_3, zkd_67, zkd_86, Int.cast_ofNat_Int, Int.reduceAdd, zw_id, false_and, and_false, true_and, and_true, true_or, or_true, false_or, or_false, Option.toList, List.nil_append, List.cons_append, zif0, zif1, zif01, zem1, zem2, Int.reduceEq, Int.reduceLT, Int.reduceLE, Int.reduceNeg, Int.reduceSub, Int.reduceMul, if_true, if_false, not_false_eq_true, not_true_eq_false, true_implies, false_implies, Classical.not_not, Nat.reduceAdd, Nat.reduceLeDiff, hP3]
    refine gK (gz57 hk r3) rfl rfl (Nat.le_of_ble_eq_true rfl) ?_
    rintro _ m4 ⟨rfl, r5, r6⟩
    simp +contextual (disch := (first | omega | assumption | decide)) only [↓zbrT, ↓zbrF, zw55_0, zw55_1, zw55_2, zw55_3, zw55_4, zr_1, zr_3, zr_7, zr_10, zr_27, zr_56, zr_62, zr_68, zr_70, zr_73, zlg_0, zlg_s, zrc_1, zrc_s, zcat_n, zcat_i, zcat_l, zcat_r, zkd_1, zkd_105, zkd_21, zkd_3, zkd_67, zkd_86, Int.cast_ofNat_Int, Int.reduceAdd, zw_id, false_and, and_false, true_and, and_true, true_or, or_true, false_or, or_false, Option.toList, List.nil_append, List.cons_append, zif0, zif1, zif01, zem1, zem2, Int.reduceEq, Int.reduceLT, Int.reduceLE, Int.reduceNeg, Int.reduceSub, Int.reduceMul, if_true, if_false, not_false_eq_true, not_true_eq_false, true_implies, false_implies, Classical.not_not, Nat.reduceAdd, Nat.reduceLeDiff]
    exact ⟨r5, gFp_tr r2 (gFp_tr r4 r6)⟩
  · rw [if_neg c]
    by_cases c0 : (pTw T (gWc w) s).2.1 = 0
    · rw [c0] at f1
      by_cases c1 : gKi T (pTw T (gWc w) s).1 = 2
      · have c2 : ¬ gVl T (pTw T (gWc w) s).1 = x := fun z => c ⟨⟨c0, c1⟩, z⟩
        rw [c1] at q5
        simp +contextual (disch := (first | omega | assumption | decide)) only [↓zbrT, ↓zbrF, zw55_0, zw55_1, zw55_2, zw55_3, zw55_4, zr_1, zr_3, zr_7, zr_10, zr_27, zr_56, zr_62, zr_68, zr_70, zr_73, zlg_0, zlg_s, zrc_1, zrc_s, zcat_n, zcat_i, zcat_l, zcat_r, zkd_1, zkd_105, zkd_21, zkd_3, zkd_67, zkd_86, Int.cast_ofNat_Int, Int.reduceAdd, zw_id, false_and, and_false, true_and, and_true, true_or, or_true, false_or, or_false, Option.toList, List.nil_append, List.cons_append, zif0, zif1, zif01, zem1, zem2, Int.reduceEq, Int.reduceLT, Int.reduceLE, Int.reduceNeg, Int.reduceSub, Int.reduceMul, if_true, if_false, not_false_eq_true, not_true_eq_false, true_implies, false_implies, Classical.not_not, Nat.reduceAdd, Nat.reduceLeDiff, f1, q5, q7, c2, hP2]
        refine gK (gz57 hk r10) rfl rfl (Nat.le_of_ble_eq_true rfl) ?_
        rintro _ m4 ⟨rfl, r5, r6⟩
        simp +contextual (disch := (first | omega | assumption | decide)) only [↓zbrT, ↓zbrF, zw55_0, zw55_1, zw55_2, zw55_3, zw55_4, zr_1, zr_3, zr_7, zr_10, zr_27, zr_56, zr_62, zr_68, zr_70, zr_73, zlg_0, zlg_s, zrc_1, zrc_s, zcat_n, zcat_i, zcat_l, zcat_r, zkd_1, zkd_105, zkd_21, zkd_3, zkd_67, zkd_86, Int.cast_ofNat_Int, Int.reduceAdd, zw_id, false_and, and_false, true_and, and_true, true_or, or_true, false_or, or_false, Option.toList, List.nil_append, List.cons_append, zif0, zif1, zif01, zem1, zem2, Int.reduceEq, Int.reduceLT, Int.reduceLE, Int.reduceNeg, Int.reduceSub, Int.reduceMul, if_true, if_false, not_false_eq_true, not_true_eq_false, true_implies, false_implies, Classical.not_not, Nat.reduceAdd, Nat.reduceLeDiff]
        exact ⟨r5, gFp_tr r2 r6⟩
      · clear c
        rw [← q5] at c1
        simp +contextual (disch := (first | omega | assumption | decide)) only [↓zbrT, ↓zbrF, zw55_0, zw55_1, zw55_2, zw55_3, zw55_4, zr_1, zr_3, zr_7, zr_10, zr_27, zr_56, zr_62, zr_68, zr_70, zr_73, zlg_0, zlg_s, zrc_1, zrc_s, zcat_n, zcat_i, zcat_l, zcat_r, zkd_1, zkd_105, zkd_21, zkd_3, zkd_67, zkd_86, Int.cast_ofNat_Int, Int.reduceAdd, zw_id, false_and, and_false, true_and, and_true, true_or, or_true, false_or, or_false, Option.toList, List.nil_append, List.cons_append, zif0, zif1, zif01, zem1, zem2, Int.reduceEq, Int.reduceLT, Int.reduceLE, Int.reduceNeg, Int.reduceSub, Int.reduceMul, if_true, if_false, not_false_eq_true, not_true_eq_false, true_implies, false_implies, Classical.not_not, Nat.reduceAdd, Nat.reduceLeDiff, f1, c1, hP2]
        refine gK (gz57 hk r10) rfl rfl (Nat.le_of_ble_eq_true rfl) ?_
        rintro _ m4 ⟨rfl, r5, r6⟩
        simp +contextual (disch := (first | omega | assumption | decide)) only [↓zbrT, ↓zbrF, zw55_0, zw55_1, zw55_2, zw55_3, zw55_4, zr_1, zr_3, zr_7, zr_10, zr_27, zr_56, zr_62, zr_68, zr_70, zr_73, zlg_0, zlg_s, zrc_1, zrc_s, zcat_n, zcat_i, zcat_l, zcat_r, zkd_1, zkd_105, zkd_21, zkd_3, zkd_67, zkd_86, Int.cast_ofNat_Int, Int.reduceAdd, zw_id, false_and, and_false, true_and, and_true, true_or, or_true, false_or, or_false, Option.toList, List.nil_append, List.cons_append, zif0, zif1, zif01, zem1, zem2, Int.reduceEq, Int.reduceLT, Int.reduceLE, Int.reduceNeg, Int.reduceSub, Int.reduceMul, if_true, if_false, not_false_eq_true, not_true_eq_false, true_implies, false_implies, Classical.not_not, Nat.reduceAdd, Nat.reduceLeDiff]
        exact ⟨r5, gFp_tr r2 r6⟩
    · clear c
      rw [← f1] at c0
      simp +contextual (disch := (first | omega | assumption | decide)) only [↓zbrT, ↓zbrF, zw55_0, zw55_1, zw55_2, zw55_3, zw55_4, zr_1, zr_3, zr_7, zr_10, zr_27, zr_56, zr_62, zr_68, zr_70, zr_73, zlg_0, zlg_s, zrc_1, zrc_s, zcat_n, zcat_i, zcat_l, zcat_r, zkd_1, zkd_105, zkd_21, zkd_3, zkd_67, zkd_86, Int.cast_ofNat_Int, Int.reduceAdd, zw_id, false_and, and_false, true_and, and_true, true_or, or_true, false_or, or_false, Option.toList, List.nil_append, List.cons_append, zif0, zif1, zif01, zem1, zem2, Int.reduceEq, Int.reduceLT, Int.reduceLE, Int.reduceNeg, Int.reduceSub, Int.reduceMul, if_true, if_false, not_false_eq_true, not_true_eq_false, true_implies, false_implies, Classical.not_not, Nat.reduceAdd, Nat.reduceLeDiff, c0, hP2]
      refine gK (gz57 hk r10) rfl rfl (Nat.le_of_ble_eq_true rfl) ?_
      rintro _ m4 ⟨rfl, r5, r6⟩
      simp +contextual (disch := (first | omega | assumption | decide)) only [↓zbrT, ↓zbrF, zw55_0, zw55_1, zw55_2, zw55_3, zw55_4, zr_1, zr_3, zr_7, zr_10, zr_27, zr_56, zr_62, zr_68, zr_70, zr_73, zlg_0, zlg_s, zrc_1, zrc_s, zcat_n, zcat_i, zcat_l, zcat_r, zkd_1, zkd_105, zkd_21, zkd_3, zkd_67, zkd_86, Int.cast_ofNat_Int, Int.reduceAdd, zw_id, false_and, and_false, true_and, and_true, true_or, or_true, false_or, or_false, Option.toList, List.nil_append, List.cons_append, zif0, zif1, zif01, zem1, zem2, Int.reduceEq, Int.reduceLT, Int.reduceLE, Int.reduceNeg, Int.reduceSub, Int.reduceMul, if_true, if_false, not_false_eq_true, not_true_eq_false, true_implies, false_implies, Classical.not_not, Nat.reduceAdd, Nat.reduceLeDiff]
      exact ⟨r5, gFp_tr r2 r6⟩
theorem gz59 {d : Nat} {m : zMm} {T : zMm} {s : Int × Int × Int} (hk : gTo1 T) (hp : gPc T s m) : zC (d + 4) 59 [.inr (.inr 1)] m (fun r' m' => r' = none ∧ gPc T (pSg T s) m' ∧ gFp m m') := by
  refine ze59 ?_
  have hp0 := hp
  obtain ⟨ht, ⟨q4, q5, q6, q7⟩, f1, f2, hq⟩ := hp
  unfold pSg
  by_cases c : s.2.1 = 0 ∧ gKi T s.1 = 3
  · rw [if_pos c]
    rw [c.1] at f1
    rw [c.2] at q5
    simp +contextual (disch := (first | omega | assumption | decide)) only [↓zbrT, ↓zbrF, zw59_0, zw59_1, zw59_2, zw59_3, zw59_4, zr_3, zr_7, zr_10, zr_54, zr_56, zr_62, zr_68, zr_72, zr_73, zlg_0, zlg_s, zrc_1, zrc_s, zcat_n, zcat_i, zcat_l, zcat_r, zkd_1, Int.cast_ofNat_Int, Int.reduceAdd, false_and, and_false, true_and, and_true, true_or, or_true, false_or, or_false, Option.toList, List.nil_append, List.cons_append, zif0, zif1, zif01, zem1, zem2, Int.reduceEq, Int.reduceLT, Int.reduceLE, Int.reduceNeg, Int.reduceSub, Int.reduceMul, if_true, if_false, not_false_eq_true, not_true_eq_false, true_implies, false_implies, Classical.not_not, Nat.reduceAdd, Nat.reduceLeDiff, f1, q5]
    refine gK (gPc_ad hk hp0) rfl rfl (Nat.le_of_ble_eq_true rfl) ?_
    rintro _ m2 ⟨rfl, r1, r2⟩
    simp +contextual (disch := (first | omega | assumption | decide)) only [↓zbrT, ↓zbrF, zw59_0, zw59_1, zw59_2, zw59_3, zw59_4, zr_3, zr_7, zr_10, zr_54, zr_56, zr_62, zr_68, zr_72, zr_73, zlg_0, zlg_s, zrc_1, zrc_s, zcat_n, zcat_i, zcat_l, zcat_r, zkd_1, Int.cast_ofNat_Int, Int.reduceAdd, false_and, and_false, true_and, and_true, true_or, or_true, false_or, or_false, Option.toList, List.nil_append, List.cons_append, zif0, zif1, zif01, zem1, zem2, Int.reduceEq, Int.reduceLT, Int.reduceLE, Int.reduceNeg, Int.reduceSub, Int.reduceMul, if_true, if_false, not_false_eq_true, not_true_eq_false, true_implies, false_implies, Classical.not_not, Nat.reduceAdd, Nat.reduceLeDiff]
    exact ⟨r1, r2⟩
  · rw [if_neg c]
    by_cases c0 : s.2.1 = 0
    · have c1 : ¬ gKi T s.1 = 3 := fun z => c ⟨c0, z⟩
      rw [c0] at f1
      simp +contextual (disch := (first | omega | assumption | decide)) only [↓zbrT, ↓zbrF, zw59_0, zw59_1, zw59_2, zw59_3, zw59_4, zr_3, zr_7, zr_10, zr_54, zr_56, zr_62, zr_68, zr_72, zr_73, zlg_0, zlg_s, zrc_1, zrc_s, zcat_n, zcat_i, zcat_l, zcat_r, zkd_1, Int.cast_ofNat_Int, Int.reduceAdd, false_and, and_false, true_and, and_true, true_or, or_true, false_or, or_false, Option.toList, List.nil_append, List.cons_append, zif0, zif1, zif01, zem1, zem2, Int.reduceEq, Int.reduceLT, Int.reduceLE, Int.reduceNeg, Int.reduceSub, Int.reduceMul, if_true, if_false, not_false_eq_true, not_true_eq_false, true_implies, false_implies, Classical.not_not, Nat.reduceAdd, Nat.reduceLeDiff, f1, q5]
      refine gK (gz60 hp0) rfl rfl (Nat.le_of_ble_eq_true rfl) ?_
      rintro _ m2 ⟨rfl, r1, r2⟩
      simp +contextual (disch := (first | omega | assumption | decide)) only [↓zbrT, ↓zbrF, zw59_0, zw59_1, zw59_2, zw59_3, zw59_4, zr_3, zr_7, zr_10, zr_54, zr_56, zr_62, zr_68, zr_72, zr_73, zlg_0, zlg_s, zrc_1, zrc_s, zcat_n, zcat_i, zcat_l, zcat_r, zkd_1, Int.cast_ofNat_Int, Int.reduceAdd, false_and, and_false, true_and, and_true, true_or, or_true, false_or, or_false, Option.toList, List.nil_append, List.cons_append, zif0, zif1, zif01, zem1, zem2, Int.reduceEq, Int.reduceLT, Int.reduceLE, Int.reduceNeg, Int.reduceSub, Int.reduceMul, if_true, if_false, not_false_eq_true, not_true_eq_false, true_implies, false_implies, Classical.not_not, Nat.reduceAdd, Nat.reduceLeDiff]
      exact ⟨r1, r2⟩
    · simp +contextual (disch := (first | omega | assumption | decide)) only [↓zbrT, ↓zbrF, zw59_0, zw59_1, zw59_2, zw59_3, zw59_4, zr_3, zr_7, zr_10, zr_54, zr_56, zr_62, zr_68, zr_72, zr_73, zlg_0, zlg_s, zrc_1, zrc_s, zcat_n, zcat_i, zcat_l, zcat_r, zkd_1, Int.cast_ofNat_Int, Int.reduceAdd, false_and, and_false, true_and, and_true, true_or, or_true, false_or, or_false, Option.toList, List.nil_append, List.cons_append, zif0, zif1, zif01, zem1, zem2, Int.reduceEq, Int.reduceLT, Int.reduceLE, Int.reduceNeg, Int.reduceSub, Int.reduceMul, if_true, if_false, not_false_eq_true, not_true_eq_false, true_implies, false_implies, Classical.not_not, Nat.reduceAdd, Nat.reduceLeDiff, f1]
      refine gK (gz60 hp0) rfl rfl (Nat.le_of_ble_eq_true rfl) ?_
      rintro _ m2 ⟨rfl, r1, r2⟩
      simp +contextual (disch := (first | omega | assumption | decide)) only [↓zbrT, ↓zbrF, zw59_0, zw59_1, zw59_2, zw59_3, zw59_4, zr_3, zr_7, zr_10, zr_54, zr_56, zr_62, zr_68, zr_72, zr_73, zlg_0, zlg_s, zrc_1, zrc_s, zcat_n, zcat_i, zcat_l, zcat_r, zkd_1, Int.cast_ofNat_Int, Int.reduceAdd, false_and, and_false, true_and, and_true, true_or, or_true, false_or, or_false, Option.toList, List.nil_append, List.cons_append, zif0, zif1, zif01, zem1, zem2, Int.reduceEq, Int.reduceLT, Int.reduceLE, Int.reduceNeg, Int.reduceSub, Int.reduceMul, if_true, if_false, not_false_eq_true, not_true_eq_false, true_implies, false_implies, Classical.not_not, Nat.reduceAdd, Nat.reduceLeDiff]
      exact ⟨r1, r2⟩
