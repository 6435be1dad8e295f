/-! ===== the model's parser ===== -/
def gPd (T : zMm) (s : Int × Int × Int) (m : zMm) : Prop := gTn T m ∧ gTt T s.1 m ∧ m 131 12 = s.2.1 ∧ m 131 13 = s.2.2 ∧ (0 ≤ s.1 ∧ s.1 ≤ T 0 0)
def gFn (m m' : zMm) : Prop := ∀ c i, ¬ (c = 131 ∧ 7 ≤ i ∧ i ≤ 13) → m' c i = m c i
theorem gFn_refl {m : zMm} : gFn m m := fun _ _ _ => rfl
theorem gFn_tr {m m' m'' : zMm} (h1 : gFn m m') (h2 : gFn m' m'') : gFn m m'' := fun c i h => by rw [h2 c i h, h1 c i h]
theorem gFn_u {m m' : zMm} (h : gFn m m') {c i : Int} (hc : c ≠ 131) : m' c i = m c i := h c i (by omega)
theorem gVk_x {T : zMm} {q : Int} (h : q ≤ T 0 0) (hk : gKi T q = 2) : (0 ≤ gVl T q ∧ gVl T q ≤ 100000) ∧ (gVl T q < 100000 → gVk T q = gVl T q) ∧ (gVl T q = 100000 → 100000 ≤ gVk T q ∧ gVk T q ≤ 1000009) := by
  have s := gSt1_s h
  have E := gEnd_s (T := T) (P := gDi) s.1.2
  have ed : gEd T q = gEnd T gDi (gSt1 T q) := by
    unfold gEd
    rw [if_neg (by omega), if_neg (by omega), if_pos hk]
  unfold gVl gVk
  rw [if_pos hk, if_pos hk, ed]
  exact gVm_x _ (fun j hj => gDi_t.mp (E.2.1 _ (by omega) (by omega)))
theorem gPd_ad {d : Nat} {m T : zMm} {s : Int × Int × Int} (hk : gTo1 T) (hp : gPd T s m) : zC (d + 2) 180 [.inr (.inr 131)] m (fun r' m' => r' = none ∧ gPd T (pAd T s) m' ∧ gFn m m') := by
  have e := gEd_b hp.2.2.2.2.2
  have hq := hp.2.2.2.2
  have ss := gSt1_s hq.2
  refine zC_im (gz180 hk hp.1 hp.2.1.1 ⟨by omega, e.2.1⟩) (fun r' m' ⟨a, b, c⟩ => ⟨a, ⟨gTn_of hp.1 (c 131 6 (by omega)) (fun i => c 136 i (by omega)), b, ?_, ?_, ?_⟩, fun c' i' hc => ?_⟩)
  · rw [c 131 12 (by omega)]; exact hp.2.2.1
  · rw [c 131 13 (by omega)]; exact hp.2.2.2.1
  · show 0 ≤ gEd T s.1 ∧ gEd T s.1 ≤ T 0 0
    omega
  · exact c c' i' (by omega)
theorem gz182 {d : Nat} {m : zMm} {x : Int} {T : zMm} {s : Int × Int × Int} (hp : gPd T s m) : zC (d + 1) 182 [.inr (.inr 131), .inl x] m (fun r' m' => r' = none ∧ gPd T (pBl T x s) m' ∧ gFn m m') := by
  refine ze182 ?_
  obtain ⟨ht, ⟨q7, q8, q9, q10, q11⟩, f1, f2, hq⟩ := hp
  unfold pBl
  by_cases c : s.2.1 = 0
  · rw [if_pos c]
    rw [c] at f1
    simp +contextual (disch := (first | omega | assumption | decide)) only [↓zbrT, ↓zbrF, zw182_0, zw182_1, zw182_2, zr_1, zr_3, zr_10, zr_13, zr_61, zr_72, zlg_0, zlg_s, zkd_131, Int.cast_ofNat_Int, Int.reduceAdd, zmu_same, zmu_c, zmu_i, false_and, and_false, true_and, and_true, true_or, or_true, false_or, or_false, Option.toList, List.nil_append, List.cons_append, zif0, zif1, zif01, zem1, zem2, Int.reduceEq, Int.reduceLT, Int.reduceLE, Int.reduceNeg, Int.reduceSub, Int.reduceMul, if_true, if_false, not_false_eq_true, not_true_eq_false, true_implies, false_implies, Classical.not_not, Nat.reduceAdd, Nat.reduceLeDiff, f1, q9]
    refine ⟨⟨gTn_of ht ?_ (fun i => ?_), ⟨?_, ?_, ?_, ?_, ?_⟩, ?_, zmu_same, hq⟩, fun c' i' hc => ?_⟩
    · simp (disch := decide) only [zmu_i]
    · simp (disch := decide) only [zmu_c]
    · simp (disch := decide) only [zmu_i]; exact q7
    · simp (disch := decide) only [zmu_i]; exact q8
    · simp (disch := decide) only [zmu_i]; exact q9
    · simp (disch := decide) only [zmu_i]; exact q10
    · simp (disch := decide) only [zmu_i]; exact q11
    · simp (disch := decide) only [zmu_i, zmu_same]
    · unfold zmu
      rw [if_neg (by omega), if_neg (by omega)]
  · rw [if_neg c]
    simp +contextual (disch := (first | omega | assumption | decide)) only [↓zbrT, ↓zbrF, zw182_0, zw182_1, zw182_2, zr_1, zr_3, zr_10, zr_13, zr_61, zr_72, zlg_0, zlg_s, zkd_131, Int.cast_ofNat_Int, Int.reduceAdd, zmu_same, zmu_c, zmu_i, false_and, and_false, true_and, and_true, true_or, or_true, false_or, or_false, Option.toList, List.nil_append, List.cons_append, zif0, zif1, zif01, zem1, zem2, Int.reduceEq, Int.reduceLT, Int.reduceLE, Int.reduceNeg, Int.reduceSub, Int.reduceMul, if_true, if_false, not_false_eq_true, not_true_eq_false, true_implies, false_implies, Classical.not_not, Nat.reduceAdd, Nat.reduceLeDiff, f1]
    exact ⟨⟨ht, ⟨q7, q8, q9, q10, q11⟩, f1, f2, hq⟩, gFn_refl⟩
theorem zq183T {d : Nat} {m : zMm} {w : Int} {rest : List zV} {k : List zV → zMm → Prop} {T : zMm} {s : Int × Int × Int} (hp : gPd T s m) : zcl (zEx (d + 1)) 183 2 (.inr (.inl w) :: .inr (.inr 131) :: rest) m k = (zcat rest ≤ 8 ∧ k (.inl (if pIs T w s then 1 else 0) :: rest) m) := by
  refine zcl_eq (as := [.inr (.inr 131), .inr (.inl w)]) (r := some (.inl (if pIs T w s then 1 else 0))) (zC_eq.mp (ze183 ?_)) rfl rfl
  obtain ⟨ht, ⟨q7, q8, q9, q10, q11⟩, f1, f2, hq⟩ := hp
  by_cases c0 : s.2.1 = 0
  · rw [c0] at f1
    by_cases c1 : gKi T s.1 = 1
    · rw [c1] at q8
      by_cases c2 : gCo1 T s.1 = w
      · rw [if_pos (pIs_t.mpr ⟨c0, c1, c2⟩)]
        rw [c2] at q11
        simp +contextual (disch := (first | omega | assumption | decide)) only [↓zbrT, ↓zbrF, zw183_0, zw183_1, zw183_2, zw183_3, zw183_4, zw183_5, zr_2, zr_3, zr_7, zr_10, zr_11, zr_45, zr_54, zr_56, zr_62, zr_73, zr_76, zlg_0, zlg_s, zkd_131, Int.cast_ofNat_Int, Int.reduceAdd, zlc_lt, zlc_ge, zlc_gt, zlc_le, zlc_eq, false_and, and_false, true_and, and_true, true_or, or_true, false_or, or_false, Option.toList, List.nil_append, List.cons_append, zif0, zif1, zif01, zem1, zem2, Int.reduceEq, Int.reduceLT, Int.reduceLE, Int.reduceNeg, Int.reduceSub, Int.reduceMul, if_true, if_false, not_false_eq_true, not_true_eq_false, true_implies, false_implies, Classical.not_not, Nat.reduceAdd, Nat.reduceLeDiff, f1, q8, q11]
      · rw [if_neg (fun z => c2 (pIs_t.mp z).2.2)]
        simp +contextual (disch := (first | omega | assumption | decide)) only [↓zbrT, ↓zbrF, zw183_0, zw183_1, zw183_2, zw183_3, zw183_4, zw183_5, zr_2, zr_3, zr_7, zr_10, zr_11, zr_45, zr_54, zr_56, zr_62, zr_73, zr_76, zlg_0, zlg_s, zkd_131, Int.cast_ofNat_Int, Int.reduceAdd, zlc_lt, zlc_ge, zlc_gt, zlc_le, zlc_eq, false_and, and_false, true_and, and_true, true_or, or_true, false_or, or_false, Option.toList, List.nil_append, List.cons_append, zif0, zif1, zif01, zem1, zem2, Int.reduceEq, Int.reduceLT, Int.reduceLE, Int.reduceNeg, Int.reduceSub, Int.reduceMul, if_true, if_false, not_false_eq_true, not_true_eq_false, true_implies, false_implies, Classical.not_not, Nat.reduceAdd, Nat.reduceLeDiff, f1, q8, q11]
        exact ⟨fun _ => trivial, fun z => absurd z c2⟩
    · rw [if_neg (fun z => c1 (pIs_t.mp z).2.1)]
      rw [← q8] at c1
      simp +contextual (disch := (first | omega | assumption | decide)) only [↓zbrT, ↓zbrF, zw183_0, zw183_1, zw183_2, zw183_3, zw183_4, zw183_5, zr_2, zr_3, zr_7, zr_10, zr_11, zr_45, zr_54, zr_56, zr_62, zr_73, zr_76, zlg_0, zlg_s, zkd_131, Int.cast_ofNat_Int, Int.reduceAdd, zlc_lt, zlc_ge, zlc_gt, zlc_le, zlc_eq, false_and, and_false, true_and, and_true, true_or, or_true, false_or, or_false, Option.toList, List.nil_append, List.cons_append, zif0, zif1, zif01, zem1, zem2, Int.reduceEq, Int.reduceLT, Int.reduceLE, Int.reduceNeg, Int.reduceSub, Int.reduceMul, if_true, if_false, not_false_eq_true, not_true_eq_false, true_implies, false_implies, Classical.not_not, Nat.reduceAdd, Nat.reduceLeDiff, f1, c1]
  · rw [if_neg (fun z => c0 (pIs_t.mp z).1)]
    rw [← f1] at c0
    simp +contextual (disch := (first | omega | assumption | decide)) only [↓zbrT, ↓zbrF, zw183_0, zw183_1, zw183_2, zw183_3, zw183_4, zw183_5, zr_2, zr_3, zr_7, zr_10, zr_11, zr_45, zr_54, zr_56, zr_62, zr_73, zr_76, zlg_0, zlg_s, zkd_131, Int.cast_ofNat_Int, Int.reduceAdd, zlc_lt, zlc_ge, zlc_gt, zlc_le, zlc_eq, false_and, and_false, true_and, and_true, true_or, or_true, false_or, or_false, Option.toList, List.nil_append, List.cons_append, zif0, zif1, zif01, zem1, zem2, Int.reduceEq, Int.reduceLT, Int.reduceLE, Int.reduceNeg, Int.reduceSub, Int.reduceMul, if_true, if_false, not_false_eq_true, not_true_eq_false, true_implies, false_implies, Classical.not_not, Nat.reduceAdd, Nat.reduceLeDiff, c0]
theorem gz184 {d : Nat} {m : zMm} {w : Int} {T : zMm} {s : Int × Int × Int} (hk : gTo1 T) (hp : gPd T s m) : zC (d + 3) 184 [.inr (.inr 131), .inr (.inl w)] m (fun r' m' => r' = some (.inl (if pIs T w s then 1 else 0)) ∧ gPd T (if pIs T w s then pAd T s else s) m' ∧ gFn m m') := by
  refine ze184 ?_
  by_cases c : pIs T w s = true
  · rw [if_pos c, if_pos c]
    simp +contextual (disch := (first | omega | assumption | decide)) only [↓zbrT, ↓zbrF, zw184_0, zw184_1, zw184_2, zr_2, zr_3, zr_7, zr_62, zr_68, zr_76, zlg_0, zlg_s, zrc_1, zrc_s, zcat_n, zcat_i, zcat_l, zcat_r, zkd_131, Int.cast_ofNat_Int, Int.reduceAdd, false_and, and_false, true_and, and_true, true_or, or_true, false_or, or_false, Option.toList, List.nil_append, List.cons_append, zif0, zif1, zif01, zem1, zem2, Int.reduceEq, Int.reduceLT, Int.reduceLE, Int.reduceNeg, Int.reduceSub, Int.reduceMul, if_true, if_false, not_false_eq_true, not_true_eq_false, true_implies, false_implies, Classical.not_not, Nat.reduceAdd, Nat.reduceLeDiff, zq183T hp, if_pos c]
    refine gK (gPd_ad hk hp) rfl rfl (Nat.le_of_ble_eq_true rfl) ?_
    rintro _ m2 ⟨rfl, r1, r2⟩
    simp +contextual (disch := (first | omega | assumption | decide)) only [↓zbrT, ↓zbrF, zw184_0, zw184_1, zw184_2, zr_2, zr_3, zr_7, zr_62, zr_68, zr_76, zlg_0, zlg_s, zrc_1, zrc_s, zcat_n, zcat_i, zcat_l, zcat_r, zkd_131, Int.cast_ofNat_Int, Int.reduceAdd, false_and, and_false, true_and, and_true, true_or, or_true, false_or, or_false, Option.toList, List.nil_append, List.cons_append, zif0, zif1, zif01, zem1, zem2, Int.reduceEq, Int.reduceLT, Int.reduceLE, Int.reduceNeg, Int.reduceSub, Int.reduceMul, if_true, if_false, not_false_eq_true, not_true_eq_false, true_implies, false_implies, Classical.not_not, Nat.reduceAdd, Nat.reduceLeDiff]
    exact ⟨r1, r2⟩
  · rw [if_neg c, if_neg c]
    simp +contextual (disch := (first | omega | assumption | decide)) only [↓zbrT, ↓zbrF, zw184_0, zw184_1, zw184_2, zr_2, zr_3, zr_7, zr_62, zr_68, zr_76, zlg_0, zlg_s, zrc_1, zrc_s, zcat_n, zcat_i, zcat_l, zcat_r, zkd_131, Int.cast_ofNat_Int, Int.reduceAdd, false_and, and_false, true_and, and_true, true_or, or_true, false_or, or_false, Option.toList, List.nil_append, List.cons_append, zif0, zif1, zif01, zem1, zem2, Int.reduceEq, Int.reduceLT, Int.reduceLE, Int.reduceNeg, Int.reduceSub, Int.reduceMul, if_true, if_false, not_false_eq_true, not_true_eq_false, true_implies, false_implies, Classical.not_not, Nat.reduceAdd, Nat.reduceLeDiff, zq183T hp, if_neg c]
    exact ⟨hp, gFn_refl⟩
theorem gz185 {d : Nat} {m : zMm} {w : Int} {T : zMm} {s : Int × Int × Int} (hk : gTo1 T) (hp : gPd T s m) : zC (d + 4) 185 [.inr (.inr 131), .inr (.inl w)] m (fun r' m' => r' = none ∧ gPd T (pTw T w s) m' ∧ gFn m m') := by
  refine ze185 ?_
  unfold pTw
  simp +contextual (disch := (first | omega | assumption | decide)) only [↓zbrT, ↓zbrF, zw185_0, zw185_1, zw185_2, zr_2, zr_3, zr_7, zr_62, zr_68, zr_72, zr_73, zlg_0, zlg_s, zrc_1, zrc_s, zcat_n, zcat_i, zcat_l, zcat_r, zkd_131, Int.cast_ofNat_Int, Int.reduceAdd, false_and, and_false, true_and, and_true, true_or, or_true, false_or, or_false, Option.toList, List.nil_append, List.cons_append, zif0, zif1, zif01, zem1, zem2, Int.reduceEq, Int.reduceLT, Int.reduceLE, Int.reduceNeg, Int.reduceSub, Int.reduceMul, if_true, if_false, not_false_eq_true, not_true_eq_false, true_implies, false_implies, Classical.not_not, Nat.reduceAdd, Nat.reduceLeDiff]
  refine gK (gz184 hk hp) rfl rfl (Nat.le_of_ble_eq_true rfl) ?_
  rintro _ m2 ⟨rfl, r1, r2⟩
  by_cases c : pIs T w s = true
  · rw [if_pos c] at r1 ⊢
    simp +contextual (disch := (first | omega | assumption | decide)) only [↓zbrT, ↓zbrF, zw185_0, zw185_1, zw185_2, zr_2, zr_3, zr_7, zr_62, zr_68, zr_72, zr_73, zlg_0, zlg_s, zrc_1, zrc_s, zcat_n, zcat_i, zcat_l, zcat_r, zkd_131, Int.cast_ofNat_Int, Int.reduceAdd, false_and, and_false, true_and, and_true, true_or, or_true, false_or, or_false, Option.toList, List.nil_append, List.cons_append, zif0, zif1, zif01, zem1, zem2, Int.reduceEq, Int.reduceLT, Int.reduceLE, Int.reduceNeg, Int.reduceSub, Int.reduceMul, if_true, if_false, not_false_eq_true, not_true_eq_false, true_implies, false_implies, Classical.not_not, Nat.reduceAdd, Nat.reduceLeDiff, if_pos c]
    exact ⟨r1, r2⟩
  · rw [if_neg c] at r1 ⊢
    simp +contextual (disch := (first | omega | assumption | decide)) only [↓zbrT, ↓zbrF, zw185_0, zw185_1, zw185_2, zr_2, zr_3, zr_7, zr_62, zr_68, zr_72, zr_73, zlg_0, zlg_s, zrc_1, zrc_s, zcat_n, zcat_i, zcat_l, zcat_r, zkd_131, Int.cast_ofNat_Int, Int.reduceAdd, false_and, and_false, true_and, and_true, true_or, or_true, false_or, or_false, Option.toList, List.nil_append, List.cons_append, zif0, zif1, zif01, zem1, zem2, Int.reduceEq, Int.reduceLT, Int.reduceLE, Int.reduceNeg, Int.reduceSub, Int.reduceMul, if_true, if_false, not_false_eq_true, not_true_eq_false, true_implies, false_implies, Classical.not_not, Nat.reduceAdd, Nat.reduceLeDiff, if_neg c]
    refine gK (gz182 r1) rfl rfl (Nat.le_of_ble_eq_true rfl) ?_
    rintro _ m3 ⟨rfl, r3, r4⟩
    simp +contextual (disch := (first | omega | assumption | decide)) only [↓zbrT, ↓zbrF, zw185_0, zw185_1, zw185_2, zr_2, zr_3, zr_7, zr_62, zr_68, zr_72, zr_73, zlg_0, zlg_s, zrc_1, zrc_s, zcat_n, zcat_i, zcat_l, zcat_r, zkd_131, Int.cast_ofNat_Int, Int.reduceAdd, false_and, and_false, true_and, and_true, true_or, or_true, false_or, or_false, Option.toList, List.nil_append, List.cons_append, zif0, zif1, zif01, zem1, zem2, Int.reduceEq, Int.reduceLT, Int.reduceLE, Int.reduceNeg, Int.reduceSub, Int.reduceMul, if_true, if_false, not_false_eq_true, not_true_eq_false, true_implies, false_implies, Classical.not_not, Nat.reduceAdd, Nat.reduceLeDiff]
    exact ⟨r3, gFn_tr r2 r4⟩
theorem gz186 {d : Nat} {m : zMm} {x : Int} {y : Int} {T : zMm} {s : Int × Int × Int} (hk : gTo1 T) (hy : y < 100000) (hp : gPd T s m) : zC (d + 3) 186 [.inr (.inr 131), .inl x, .inl y] m (fun r' m' => r' = some (.inl (pVa T x y x s)) ∧ gPd T (pNu T x y s) m' ∧ gFn m m') := by
  refine ze186 ?_
  have hp0 := hp
  obtain ⟨ht, ⟨q7, q8, q9, q10, q11⟩, f1, f2, hq⟩ := hp
  unfold pVa pNu
  by_cases c : s.2.1 = 0
  · rw [c] at f1
    by_cases ck : gKi T s.1 = 2
    · rw [ck] at q8
      have v := gVk_x hq.2 ck
      by_cases c3 : x ≤ gVl T s.1 ∧ gVl T s.1 ≤ y
      · have ci := pIn_t.mpr ⟨⟨c, ck⟩, c3⟩
        rw [if_pos ci, if_pos ci]
        have e := v.2.1 (by omega)
        rw [e] at q10
        simp +contextual (disch := (first | omega | assumption | decide)) only [↓zbrT, ↓zbrF, zw186_0, zw186_1, zw186_2, zw186_3, zw186_4, zw186_5, zw186_6, zr_1, zr_3, zr_4, zr_7, zr_10, zr_46, zr_55, zr_61, zr_62, zr_68, zr_69, zr_70, zlg_0, zlg_s, zls_0, zls_1, zls_s, zkl_i, zkl_r, zkl_l, zkl_n, zrc_1, zrc_s, zcat_n, zcat_i, zcat_l, zcat_r, zkd_131, Int.cast_ofNat_Int, Int.reduceAdd, false_and, and_false, true_and, and_true, true_or, or_true, false_or, or_false, Option.toList, List.nil_append, List.cons_append, zif0, zif1, zif01, zem1, zem2, Int.reduceEq, Int.reduceLT, Int.reduceLE, Int.reduceNeg, Int.reduceSub, Int.reduceMul, if_true, if_false, not_false_eq_true, not_true_eq_false, true_implies, false_implies, Classical.not_not, Nat.reduceAdd, Nat.reduceLeDiff, f1, q8, q10, zq170, if_pos c3]
        refine gK (gPd_ad hk hp0) rfl rfl (Nat.le_of_ble_eq_true rfl) ?_
        rintro _ m2 ⟨rfl, r1, r2⟩
        simp +contextual (disch := (first | omega | assumption | decide)) only [↓zbrT, ↓zbrF, zw186_0, zw186_1, zw186_2, zw186_3, zw186_4, zw186_5, zw186_6, zr_1, zr_3, zr_4, zr_7, zr_10, zr_46, zr_55, zr_61, zr_62, zr_68, zr_69, zr_70, zlg_0, zlg_s, zls_0, zls_1, zls_s, zkl_i, zkl_r, zkl_l, zkl_n, zrc_1, zrc_s, zcat_n, zcat_i, zcat_l, zcat_r, zkd_131, Int.cast_ofNat_Int, Int.reduceAdd, false_and, and_false, true_and, and_true, true_or, or_true, false_or, or_false, Option.toList, List.nil_append, List.cons_append, zif0, zif1, zif01, zem1, zem2, Int.reduceEq, Int.reduceLT, Int.reduceLE, Int.reduceNeg, Int.reduceSub, Int.reduceMul, if_true, if_false, not_false_eq_true, not_true_eq_false, true_implies, false_implies, Classical.not_not, Nat.reduceAdd, Nat.reduceLeDiff]
        exact ⟨r1, r2⟩
      · have ci : ¬ pIn T x y s = true := fun z => c3 (pIn_t.mp z).2
        have c4 : ¬ (x ≤ gVk T s.1 ∧ gVk T s.1 ≤ y) := by omega
        rw [if_neg ci, if_neg ci, if_pos ⟨c, ck⟩]
        simp +contextual (disch := (first | omega | assumption | decide)) only [↓zbrT, ↓zbrF, zw186_0, zw186_1, zw186_2, zw186_3, zw186_4, zw186_5, zw186_6, zr_1, zr_3, zr_4, zr_7, zr_10, zr_46, zr_55, zr_61, zr_62, zr_68, zr_69, zr_70, zlg_0, zlg_s, zls_0, zls_1, zls_s, zkl_i, zkl_r, zkl_l, zkl_n, zrc_1, zrc_s, zcat_n, zcat_i, zcat_l, zcat_r, zkd_131, Int.cast_ofNat_Int, Int.reduceAdd, false_and, and_false, true_and, and_true, true_or, or_true, false_or, or_false, Option.toList, List.nil_append, List.cons_append, zif0, zif1, zif01, zem1, zem2, Int.reduceEq, Int.reduceLT, Int.reduceLE, Int.reduceNeg, Int.reduceSub, Int.reduceMul, if_true, if_false, not_false_eq_true, not_true_eq_false, true_implies, false_implies, Classical.not_not, Nat.reduceAdd, Nat.reduceLeDiff, f1, q8, q10, zq170, if_neg c4]
        refine gK (gz182 hp0) rfl rfl (Nat.le_of_ble_eq_true rfl) ?_
        rintro _ m2 ⟨rfl, r1, r2⟩
        simp +contextual (disch := (first | omega | assumption | decide)) only [↓zbrT, ↓zbrF, zw186_0, zw186_1, zw186_2, zw186_3, zw186_4, zw186_5, zw186_6, zr_1, zr_3, zr_4, zr_7, zr_10, zr_46, zr_55, zr_61, zr_62, zr_68, zr_69, zr_70, zlg_0, zlg_s, zls_0, zls_1, zls_s, zkl_i, zkl_r, zkl_l, zkl_n, zrc_1, zrc_s, zcat_n, zcat_i, zcat_l, zcat_r, zkd_131, Int.cast_ofNat_Int, Int.reduceAdd, false_and, and_false, true_and, and_true, true_or, or_true, false_or, or_false, Option.toList, List.nil_append, List.cons_append, zif0, zif1, zif01, zem1, zem2, Int.reduceEq, Int.reduceLT, Int.reduceLE, Int.reduceNeg, Int.reduceSub, Int.reduceMul, if_true, if_false, not_false_eq_true, not_true_eq_false, true_implies, false_implies, Classical.not_not, Nat.reduceAdd, Nat.reduceLeDiff]
        exact ⟨r1, r2⟩
    · have ci : ¬ pIn T x y s = true := fun z => ck (pIn_t.mp z).1.2
      rw [if_neg ci, if_neg ci, if_neg (fun z => ck z.2)]
      rw [← q8] at ck
      simp +contextual (disch := (first | omega | assumption | decide)) only [↓zbrT, ↓zbrF, zw186_0, zw186_1, zw186_2, zw186_3, zw186_4, zw186_5, zw186_6, zr_1, zr_3, zr_4, zr_7, zr_10, zr_46, zr_55, zr_61, zr_62, zr_68, zr_69, zr_70, zlg_0, zlg_s, zls_0, zls_1, zls_s, zkl_i, zkl_r, zkl_l, zkl_n, zrc_1, zrc_s, zcat_n, zcat_i, zcat_l, zcat_r, zkd_131, Int.cast_ofNat_Int, Int.reduceAdd, false_and, and_false, true_and, and_true, true_or, or_true, false_or, or_false, Option.toList, List.nil_append, List.cons_append, zif0, zif1, zif01, zem1, zem2, Int.reduceEq, Int.reduceLT, Int.reduceLE, Int.reduceNeg, Int.reduceSub, Int.reduceMul, if_true, if_false, not_false_eq_true, not_true_eq_false, true_implies, false_implies, Classical.not_not, Nat.reduceAdd, Nat.reduceLeDiff, f1, ck]
      refine gK (gz182 hp0) rfl rfl (Nat.le_of_ble_eq_true rfl) ?_
      rintro _ m2 ⟨rfl, r1, r2⟩
      simp +contextual (disch := (first | omega | assumption | decide)) only [↓zbrT, ↓zbrF, zw186_0, zw186_1, zw186_2, zw186_3, zw186_4, zw186_5, zw186_6, zr_1, zr_3, zr_4, zr_7, zr_10, zr_46, zr_55, zr_61, zr_62, zr_68, zr_69, zr_70, zlg_0, zlg_s, zls_0, zls_1, zls_s, zkl_i, zkl_r, zkl_l, zkl_n, zrc_1, zrc_s, zcat_n, zcat_i, zcat_l, zcat_r, zkd_131, Int.cast_ofNat_Int, Int.reduceAdd, false_and, and_false, true_and, and_true, true_or, or_true, false_or, or_false, Option.toList, List.nil_append, List.cons_append, zif0, zif1, zif01, zem1, zem2, Int.reduceEq, Int.reduceLT, Int.reduceLE, Int.reduceNeg, Int.reduceSub, Int.reduceMul, if_true, if_false, not_false_eq_true, not_true_eq_false, true_implies, false_implies, Classical.not_not, Nat.reduceAdd, Nat.reduceLeDiff]
      exact ⟨r1, r2⟩
  · have ci : ¬ pIn T x y s = true := fun z => c (pIn_t.mp z).1.1
    have pb : pBl T 1 s = s := by unfold pBl; rw [if_neg c]
    rw [if_neg ci, if_neg ci, if_neg (fun z => c z.1), pb]
    rw [← f1] at c
    simp +contextual (disch := (first | omega | assumption | decide)) only [↓zbrT, ↓zbrF, zw186_0, zw186_1, zw186_2, zw186_3, zw186_4, zw186_5, zw186_6, zr_1, zr_3, zr_4, zr_7, zr_10, zr_46, zr_55, zr_61, zr_62, zr_68, zr_69, zr_70, zlg_0, zlg_s, zls_0, zls_1, zls_s, zkl_i, zkl_r, zkl_l, zkl_n, zrc_1, zrc_s, zcat_n, zcat_i, zcat_l, zcat_r, zkd_131, Int.cast_ofNat_Int, Int.reduceAdd, false_and, and_false, true_and, and_true, true_or, or_true, false_or, or_false, Option.toList, List.nil_append, List.cons_append, zif0, zif1, zif01, zem1, zem2, Int.reduceEq, Int.reduceLT, Int.reduceLE, Int.reduceNeg, Int.reduceSub, Int.reduceMul, if_true, if_false, not_false_eq_true, not_true_eq_false, true_implies, false_implies, Classical.not_not, Nat.reduceAdd, Nat.reduceLeDiff, c]
    exact ⟨hp0, gFn_refl⟩
theorem gz187 {d : Nat} {m : zMm} {w : Int} {x : Int} {y : Int} {T : zMm} {s : Int × Int × Int} (hk : gTo1 T) (hy : y < 100000) (hp : gPd T s m) : zC (d + 5) 187 [.inr (.inr 131), .inr (.inl w), .inl x, .inl y] m (fun r' m' => r' = some (.inl (pV T w x y x s)) ∧ gPd T (pN T w x y s) m' ∧ gFn m m') := by
  refine ze187 ?_
  simp +contextual (disch := (first | omega | assumption | decide)) only [zw187_0, zr_1, zr_2, zr_3, zr_68, zr_70, zlg_0, zlg_s, zrc_1, zrc_s, zcat_n, zcat_i, zcat_l, zcat_r, zkd_131, Int.cast_ofNat_Int, Int.reduceAdd, false_and, and_false, true_and, and_true, true_or, or_true, false_or, or_false, Option.toList, List.nil_append, List.cons_append, zif0, zif1, zif01, zem1, zem2, Int.reduceEq, Int.reduceLT, Int.reduceLE, Int.reduceNeg, Int.reduceSub, Int.reduceMul, if_true, if_false, not_false_eq_true, not_true_eq_false, true_implies, false_implies, Classical.not_not, Nat.reduceAdd, Nat.reduceLeDiff]
  refine gK (gz185 hk hp) rfl rfl (Nat.le_of_ble_eq_true rfl) ?_
  rintro _ m2 ⟨rfl, r1, r2⟩
  simp +contextual (disch := (first | omega | assumption | decide)) only [zw187_0, zr_1, zr_2, zr_3, zr_68, zr_70, zlg_0, zlg_s, zrc_1, zrc_s, zcat_n, zcat_i, zcat_l, zcat_r, zkd_131, Int.cast_ofNat_Int, Int.reduceAdd, false_and, and_false, true_and, and_true, true_or, or_true, false_or, or_false, Option.toList, List.nil_append, List.cons_append, zif0, zif1, zif01, zem1, zem2, Int.reduceEq, Int.reduceLT, Int.reduceLE, Int.reduceNeg, Int.reduceSub, Int.reduceMul, if_true, if_false, not_false_eq_true, not_true_eq_false, true_implies, false_implies, Classical.not_not, Nat.reduceAdd, Nat.reduceLeDiff]
  refine gK (gz186 hk hy r1) rfl rfl (Nat.le_of_ble_eq_true rfl) ?_
  rintro _ m3 ⟨rfl, r3, r4⟩
  simp +contextual (disch := (first | omega | assumption | decide)) only [zw187_0, zr_1, zr_2, zr_3, zr_68, zr_70, zlg_0, zlg_s, zrc_1, zrc_s, zcat_n, zcat_i, zcat_l, zcat_r, zkd_131, Int.cast_ofNat_Int, Int.reduceAdd, false_and, and_false, true_and, and_true, true_or, or_true, false_or, or_false, Option.toList, List.nil_append, List.cons_append, zif0, zif1, zif01, zem1, zem2, Int.reduceEq, Int.reduceLT, Int.reduceLE, Int.reduceNeg, Int.reduceSub, Int.reduceMul, if_true, if_false, not_false_eq_true, not_true_eq_false, true_implies, false_implies, Classical.not_not, Nat.reduceAdd, Nat.reduceLeDiff]
  exact ⟨rfl, r3, gFn_tr r2 r4⟩
theorem gz188 {d : Nat} {m : zMm} {T : zMm} {s : Int × Int × Int} (hk : gTo1 T) (hp : gPd T s m) : zC (d + 3) 188 [.inr (.inr 131)] m (fun r' m' => r' = none ∧ gPd T (pSg T s) m' ∧ gFn m m') := by
  refine ze188 ?_
  have hp0 := hp
  obtain ⟨ht, ⟨q7, q8, q9, q10, q11⟩, f1, f2, hq⟩ := hp
  unfold pSg
  by_cases c1 : gKi T s.1 = 3
  · rw [c1] at q8
    by_cases c0 : s.2.1 = 0
    · rw [if_pos ⟨c0, c1⟩]
      rw [c0] at f1
      simp +contextual (disch := (first | omega | assumption | decide)) only [↓zbrT, ↓zbrF, zw188_0, zw188_1, zw188_2, zw188_3, zw188_4, zr_3, zr_7, zr_10, zr_55, zr_62, zr_68, zr_72, zr_73, zlg_0, zlg_s, zrc_1, zrc_s, zcat_n, zcat_i, zcat_l, zcat_r, zkd_131, Int.cast_ofNat_Int, Int.reduceAdd, false_and, and_false, true_and, and_true, true_or, or_true, false_or, or_false, Option.toList, List.nil_append, List.cons_append, zif0, zif1, zif01, zem1, zem2, Int.reduceEq, Int.reduceLT, Int.reduceLE, Int.reduceNeg, Int.reduceSub, Int.reduceMul, if_true, if_false, not_false_eq_true, not_true_eq_false, true_implies, false_implies, Classical.not_not, Nat.reduceAdd, Nat.reduceLeDiff, f1, q8]
      refine gK (gPd_ad hk hp0) rfl rfl (Nat.le_of_ble_eq_true rfl) ?_
      rintro _ m2 ⟨rfl, r1, r2⟩
      simp +contextual (disch := (first | omega | assumption | decide)) only [↓zbrT, ↓zbrF, zw188_0, zw188_1, zw188_2, zw188_3, zw188_4, zr_3, zr_7, zr_10, zr_55, zr_62, zr_68, zr_72, zr_73, zlg_0, zlg_s, zrc_1, zrc_s, zcat_n, zcat_i, zcat_l, zcat_r, zkd_131, Int.cast_ofNat_Int, Int.reduceAdd, false_and, and_false, true_and, and_true, true_or, or_true, false_or, or_false, Option.toList, List.nil_append, List.cons_append, zif0, zif1, zif01, zem1, zem2, Int.reduceEq, Int.reduceLT, Int.reduceLE, Int.reduceNeg, Int.reduceSub, Int.reduceMul, if_true, if_false, not_false_eq_true, not_true_eq_false, true_implies, false_implies, Classical.not_not, Nat.reduceAdd, Nat.reduceLeDiff]
      exact ⟨r1, r2⟩
    · have pb : pBl T 1 s = s := by unfold pBl; rw [if_neg c0]
      rw [if_neg (fun z => c0 z.1), pb]
      rw [← f1] at c0
      simp +contextual (disch := (first | omega | assumption | decide)) only [↓zbrT, ↓zbrF, zw188_0, zw188_1, zw188_2, zw188_3, zw188_4, zr_3, zr_7, zr_10, zr_55, zr_62, zr_68, zr_72, zr_73, zlg_0, zlg_s, zrc_1, zrc_s, zcat_n, zcat_i, zcat_l, zcat_r, zkd_131, Int.cast_ofNat_Int, Int.reduceAdd, false_and, and_false, true_and, and_true, true_or, or_true, false_or, or_false, Option.toList, List.nil_append, List.cons_append, zif0, zif1, zif01, zem1, zem2, Int.reduceEq, Int.reduceLT, Int.reduceLE, Int.reduceNeg, Int.reduceSub, Int.reduceMul, if_true, if_false, not_false_eq_true, not_true_eq_false, true_implies, false_implies, Classical.not_not, Nat.reduceAdd, Nat.reduceLeDiff, c0, q8]
      exact ⟨hp0, gFn_refl⟩
  · rw [if_neg (fun z => c1 z.2)]
    rw [← q8] at c1
    simp +contextual (disch := (first | omega | assumption | decide)) only [↓zbrT, ↓zbrF, zw188_0, zw188_1, zw188_2, zw188_3, zw188_4, zr_3, zr_7, zr_10, zr_55, zr_62, zr_68, zr_72, zr_73, zlg_0, zlg_s, zrc_1, zrc_s, zcat_n, zcat_i, zcat_l, zcat_r, zkd_131, Int.cast_ofNat_Int, Int.reduceAdd, false_and, and_false, true_and, and_true, true_or, or_true, false_or, or_false, Option.toList, List.nil_append, List.cons_append, zif0, zif1, zif01, zem1, zem2, Int.reduceEq, Int.reduceLT, Int.reduceLE, Int.reduceNeg, Int.reduceSub, Int.reduceMul, if_true, if_false, not_false_eq_true, not_true_eq_false, true_implies, false_implies, Classical.not_not, Nat.reduceAdd, Nat.reduceLeDiff, c1]
    refine gK (gz182 hp0) rfl rfl (Nat.le_of_ble_eq_true rfl) ?_
    rintro _ m2 ⟨rfl, r1, r2⟩
    have n : ¬ m2 131 12 = 0 := by rw [r1.2.2.1]; exact pBl_g (by decide)
    simp +contextual (disch := (first | omega | assumption | decide)) only [↓zbrT, ↓zbrF, zw188_0, zw188_1, zw188_2, zw188_3, zw188_4, zr_3, zr_7, zr_10, zr_55, zr_62, zr_68, zr_72, zr_73, zlg_0, zlg_s, zrc_1, zrc_s, zcat_n, zcat_i, zcat_l, zcat_r, zkd_131, Int.cast_ofNat_Int, Int.reduceAdd, false_and, and_false, true_and, and_true, true_or, or_true, false_or, or_false, Option.toList, List.nil_append, List.cons_append, zif0, zif1, zif01, zem1, zem2, Int.reduceEq, Int.reduceLT, Int.reduceLE, Int.reduceNeg, Int.reduceSub, Int.reduceMul, if_true, if_false, not_false_eq_true, not_true_eq_false, true_implies, false_implies, Classical.not_not, Nat.reduceAdd, Nat.reduceLeDiff, n]
    exact ⟨r1, r2⟩
