/-! ===== the model reads a token ===== -/
def gTn (T m : zMm) : Prop := m 131 6 = T 0 0 ∧ ∀ i, 0 ≤ i → i < T 0 0 → m 136 i = T 1 i
theorem gTn_of {T m m' : zMm} (h : gTn T m) (h0 : m' 131 6 = m 131 6) (h1 : ∀ i, m' 136 i = m 136 i) : gTn T m' := ⟨by rw [h0]; exact h.1, fun i a b => by rw [h1]; exact h.2 i a b⟩
theorem zq179 {d : Nat} {m : zMm} {i : Int} {x : Int} {y : Int} {rest : List zV} {k : List zV → zMm → Prop} {T : zMm} (hk : gTo1 T) (ht : gTn T m) (hi : 0 ≤ i) : zcl (zEx (d + 1)) 179 4 (.inl y :: .inl x :: .inl i :: .inr (.inr 131) :: rest) m k = (zcat rest ≤ 8 ∧ k (.inl (if i < T 0 0 ∧ x ≤ T 1 i ∧ T 1 i ≤ y then 1 else 0) :: rest) m) := by
  refine zcl_eq (as := [.inr (.inr 131), .inl i, .inl x, .inl y]) (r := some (.inl (if i < T 0 0 ∧ x ≤ T 1 i ∧ T 1 i ≤ y then 1 else 0))) (zC_eq.mp (ze179 ?_)) rfl rfl
  have hb := hk.1
  have e := ht.1
  by_cases c1 : i < T 0 0
  · have e2 := ht.2 i hi c1
    by_cases c2 : x ≤ T 1 i
    · by_cases c3 : T 1 i ≤ y
      · rw [if_pos ⟨c1, c2, c3⟩]
        simp +contextual (disch := (first | omega | assumption | decide)) only [↓zbrT, ↓zbrF, zw179_0, zw179_1, zw179_2, zw179_3, zw179_4, zw179_5, zr_1, zr_3, zr_7, zr_10, zr_12, zr_17, zr_54, zr_57, zr_58, zr_59, zr_73, zr_76, zlg_0, zlg_s, zkd_131, zkd_136, zln_136, zrf_131_5, Int.cast_ofNat_Int, Int.reduceAdd, zbd, false_and, and_false, true_and, and_true, true_or, or_true, false_or, or_false, Option.toList, List.nil_append, List.cons_append, zif0, zif1, zif01, zem1, zem2, Int.reduceEq, Int.reduceLT, Int.reduceLE, Int.reduceNeg, Int.reduceSub, Int.reduceMul, if_true, if_false, not_false_eq_true, not_true_eq_false, true_implies, false_implies, Classical.not_not, Nat.reduceAdd, Nat.reduceLeDiff, e, e2]
      · rw [if_neg (fun z => c3 z.2.2)]
        simp +contextual (disch := (first | omega | assumption | decide)) only [↓zbrT, ↓zbrF, zw179_0, zw179_1, zw179_2, zw179_3, zw179_4, zw179_5, zr_1, zr_3, zr_7, zr_10, zr_12, zr_17, zr_54, zr_57, zr_58, zr_59, zr_73, zr_76, zlg_0, zlg_s, zkd_131, zkd_136, zln_136, zrf_131_5, Int.cast_ofNat_Int, Int.reduceAdd, zbd, false_and, and_false, true_and, and_true, true_or, or_true, false_or, or_false, Option.toList, List.nil_append, List.cons_append, zif0, zif1, zif01, zem1, zem2, Int.reduceEq, Int.reduceLT, Int.reduceLE, Int.reduceNeg, Int.reduceSub, Int.reduceMul, if_true, if_false, not_false_eq_true, not_true_eq_false, true_implies, false_implies, Classical.not_not, Nat.reduceAdd, Nat.reduceLeDiff, e, e2]
    · rw [if_neg (fun z => c2 z.2.1)]
      simp +contextual (disch := (first | omega | assumption | decide)) only [↓zbrT, ↓zbrF, zw179_0, zw179_1, zw179_2, zw179_3, zw179_4, zw179_5, zr_1, zr_3, zr_7, zr_10, zr_12, zr_17, zr_54, zr_57, zr_58, zr_59, zr_73, zr_76, zlg_0, zlg_s, zkd_131, zkd_136, zln_136, zrf_131_5, Int.cast_ofNat_Int, Int.reduceAdd, zbd, false_and, and_false, true_and, and_true, true_or, or_true, false_or, or_false, Option.toList, List.nil_append, List.cons_append, zif0, zif1, zif01, zem1, zem2, Int.reduceEq, Int.reduceLT, Int.reduceLE, Int.reduceNeg, Int.reduceSub, Int.reduceMul, if_true, if_false, not_false_eq_true, not_true_eq_false, true_implies, false_implies, Classical.not_not, Nat.reduceAdd, Nat.reduceLeDiff, e, e2]
  · rw [if_neg (fun z => c1 z.1)]
    simp +contextual (disch := (first | omega | assumption | decide)) only [↓zbrT, ↓zbrF, zw179_0, zw179_1, zw179_2, zw179_3, zw179_4, zw179_5, zr_1, zr_3, zr_7, zr_10, zr_12, zr_17, zr_54, zr_57, zr_58, zr_59, zr_73, zr_76, zlg_0, zlg_s, zkd_131, zkd_136, zln_136, zrf_131_5, Int.cast_ofNat_Int, Int.reduceAdd, zbd, false_and, and_false, true_and, and_true, true_or, or_true, false_or, or_false, Option.toList, List.nil_append, List.cons_append, zif0, zif1, zif01, zem1, zem2, Int.reduceEq, Int.reduceLT, Int.reduceLE, Int.reduceNeg, Int.reduceSub, Int.reduceMul, if_true, if_false, not_false_eq_true, not_true_eq_false, true_implies, false_implies, Classical.not_not, Nat.reduceAdd, Nat.reduceLeDiff, e]
theorem gCd_bd {T : zMm} {s : Int} : ∀ k : Nat, k ≤ 12 → (∀ j : Nat, j < k → 97 ≤ T 1 (s + j) ∧ T 1 (s + j) ≤ 122) → 0 ≤ gCd T s k ∧ gCd T s k + 1 ≤ 27 ^ k
  | 0, _, _ => by
    show 0 ≤ (0 : Int) ∧ (0 : Int) + 1 ≤ 27 ^ 0
    decide
  | k + 1, hk, h => by
    have i := gCd_bd (T := T) (s := s) k (by omega) (fun j a => h j (by omega))
    have b := h k (by omega)
    show 0 ≤ (if 11 < (k : Int) then -1 else 27 * gCd T s k + T 1 (s + k) - 96) ∧ (if 11 < (k : Int) then -1 else 27 * gCd T s k + T 1 (s + k) - 96) + 1 ≤ (27 : Int) ^ (k + 1)
    rw [if_neg (by omega), Int.pow_succ]
    omega
/-- the model's token: read from q -/
def gTt (T : zMm) (q : Int) (m : zMm) : Prop := m 131 7 = gEd T q ∧ m 131 8 = gKi T q ∧ m 131 9 = gSt1 T q ∧ m 131 10 = gVk T q ∧ m 131 11 = gCo1 T q
def gFb1 (m m' : zMm) : Prop := ∀ c i, ¬ (c = 131 ∧ 7 ≤ i ∧ i ≤ 11) → m' c i = m c i
theorem gz180 {d : Nat} {m : zMm} {T : zMm} {q : Int} (hk : gTo1 T) (ht : gTn T m) (hq : m 131 7 = q) (hq0 : 0 ≤ q ∧ q ≤ T 0 0) : zC (d + 2) 180 [.inr (.inr 131)] m (fun r' m' => r' = none ∧ gTt T q m' ∧ gFb1 m m') := by
  refine ze180 ?_
  have hb := hk.1
  have s := gSt1_s hq0.2
  refine zfor (gSt1 T q) (fun i lc m' => q ≤ i ∧ (∃ x, lc = [some (.inr (.inr 131)), x]) ∧ m' 131 7 = i ∧ gFb1 m m') ?_ ?_ (i := q) s.1.1 ?_
  · rintro i lc m' hi ⟨h0, ⟨x, rfl⟩, e4, hf⟩ kk
    have ht' : gTn T m' := gTn_of ht (hf 131 6 (by omega)) (fun i => hf 136 i (by omega))
    have w := s.2.1 i h0 hi
    rw [zw180_0]
    have fin : ∃ x', [some (.inr (.inr 131)), x] = ([some (.inr (.inr 131)), x'] : zLc) := ⟨x, rfl⟩
    have hf2 : gFb1 m (zmu m' 131 7 (i + 1)) := fun c j hc => by
      unfold zmu
      rw [if_neg (by omega)]; exact hf c j hc
    by_cases c : T 1 i = 32
    · have c1 : i < T 0 0 ∧ 32 ≤ T 1 i ∧ T 1 i ≤ 32 := by omega
      simp +contextual (disch := (first | omega | assumption | decide)) only [↓zbrT, ↓zbrF, zw180_1, zw180_2, zw180_3, zw180_4, zw180_5, zw180_6, zw180_8, zw180_9, zw180_10, zw180_11, zw180_12, zw180_13, zw180_14, zw180_15, zw180_16, zw180_18, zw180_19, zw180_20, zw180_21, zw180_22, zw180_23, zw180_24, zw180_25, zw180_26, zr_1, zr_3, zr_4, zr_7, zr_8, zr_10, zr_11, zr_12, zr_13, zr_14, zr_17, zr_26, zr_27, zr_28, zr_37, zr_38, zr_39, zr_46, zr_50, zr_50b, zr_53, zr_54, zr_56, zr_60, zr_61, zr_62, zr_68, zr_72, zr_73, zlg_0, zlg_s, zls_0, zls_1, zls_s, zkl_i, zkl_r, zkl_l, zkl_n, zrc_1, zrc_s, zcat_n, zcat_i, zcat_l, zcat_r, zkd_131, zkd_136, zln_136, zrf_131_5, Int.cast_ofNat_Int, Int.reduceAdd, zbd, zw_id, zwl_id, zmu_same, zmu_c, zmu_i, false_and, and_false, true_and, and_true, true_or, or_true, false_or, or_false, Option.toList, List.nil_append, List.cons_append, zif0, zif1, zif01, zem1, zem2, Int.reduceEq, Int.reduceLT, Int.reduceLE, Int.reduceNeg, Int.reduceSub, Int.reduceMul, if_true, if_false, not_false_eq_true, not_true_eq_false, true_implies, false_implies, Classical.not_not, Nat.reduceAdd, Nat.reduceLeDiff, e4, zq179 hk ht', if_pos c1]
      exact kk _ _ ⟨by omega, fin, zmu_same, hf2⟩
    · have c1 : ¬ (i < T 0 0 ∧ 32 ≤ T 1 i ∧ T 1 i ≤ 32) := by omega
      have c2 : i < T 0 0 ∧ 10 ≤ T 1 i ∧ T 1 i ≤ 10 := by omega
      simp +contextual (disch := (first | omega | assumption | decide)) only [↓zbrT, ↓zbrF, zw180_1, zw180_2, zw180_3, zw180_4, zw180_5, zw180_6, zw180_8, zw180_9, zw180_10, zw180_11, zw180_12, zw180_13, zw180_14, zw180_15, zw180_16, zw180_18, zw180_19, zw180_20, zw180_21, zw180_22, zw180_23, zw180_24, zw180_25, zw180_26, zr_1, zr_3, zr_4, zr_7, zr_8, zr_10, zr_11, zr_12, zr_13, zr_14, zr_17, zr_26, zr_27, zr_28, zr_37, zr_38, zr_39, zr_46, zr_50, zr_50b, zr_53, zr_54, zr_56, zr_60, zr_61, zr_62, zr_68, zr_72, zr_73, zlg_0, zlg_s, zls_0, zls_1, zls_s, zkl_i, zkl_r, zkl_l, zkl_n, zrc_1, zrc_s, zcat_n, zcat_i, zcat_l, zcat_r, zkd_131, zkd_136, zln_136, zrf_131_5, Int.cast_ofNat_Int, Int.reduceAdd, zbd, zw_id, zwl_id, zmu_same, zmu_c, zmu_i, false_and, and_false, true_and, and_true, true_or, or_true, false_or, or_false, Option.toList, List.nil_append, List.cons_append, zif0, zif1, zif01, zem1, zem2, Int.reduceEq, Int.reduceLT, Int.reduceLE, Int.reduceNeg, Int.reduceSub, Int.reduceMul, if_true, if_false, not_false_eq_true, not_true_eq_false, true_implies, false_implies, Classical.not_not, Nat.reduceAdd, Nat.reduceLeDiff, e4, zq179 hk ht', if_neg c1, if_pos c2]
      exact kk _ _ ⟨by omega, fin, zmu_same, hf2⟩
  · rintro lc m' ⟨h0, ⟨x, rfl⟩, e4, hf⟩
    have e0 : m' 131 6 = T 0 0 := by rw [hf 131 6 (by omega)]; exact ht.1
    have ht' : gTn T m' := gTn_of ht (hf 131 6 (by omega)) (fun i => hf 136 i (by omega))
    have c1 : ¬ (gSt1 T q < T 0 0 ∧ 32 ≤ T 1 (gSt1 T q) ∧ T 1 (gSt1 T q) ≤ 32) := by omega
    have c2 : ¬ (gSt1 T q < T 0 0 ∧ 10 ≤ T 1 (gSt1 T q) ∧ T 1 (gSt1 T q) ≤ 10) := by omega
    rw [zw180_0]
    simp +contextual (disch := (first | omega | assumption | decide)) only [↓zbrT, ↓zbrF, zw180_1, zw180_2, zw180_4, zw180_5, zw180_6, zw180_8, zw180_9, zw180_10, zw180_11, zw180_12, zw180_13, zw180_14, zw180_15, zw180_16, zw180_18, zw180_19, zw180_20, zw180_21, zw180_22, zw180_23, zw180_24, zw180_25, zw180_26, zr_1, zr_3, zr_4, zr_7, zr_8, zr_10, zr_11, zr_12, zr_13, zr_14, zr_17, zr_26, zr_27, zr_28, zr_37, zr_38, zr_39, zr_46, zr_50, zr_50b, zr_53, zr_54, zr_56, zr_60, zr_61, zr_62, zr_68, zr_72, zr_73, zlg_0, zlg_s, zls_0, zls_1, zls_s, zkl_i, zkl_r, zkl_l, zkl_n, zrc_1, zrc_s, zcat_n, zcat_i, zcat_l, zcat_r, zkd_131, zkd_136, zln_136, zrf_131_5, Int.cast_ofNat_Int, Int.reduceAdd, zbd, zw_id, zwl_id, zmu_same, zmu_c, zmu_i, false_and, and_false, true_and, and_true, true_or, or_true, false_or, or_false, Option.toList, List.nil_append, List.cons_append, zif0, zif1, zif01, zem1, zem2, Int.reduceEq, Int.reduceLT, Int.reduceLE, Int.reduceNeg, Int.reduceSub, Int.reduceMul, if_true, if_false, not_false_eq_true, not_true_eq_false, true_implies, false_implies, Classical.not_not, Nat.reduceAdd, Nat.reduceLeDiff, e4, zq179 hk ht', if_neg c1, if_neg c2]
    have ht2 : gTn T (zmu (zmu (zmu m' 131 9 (gSt1 T q)) 131 10 0) 131 11 0) := gTn_of ht' (by simp (disch := decide) only [zmu_i]) (fun i => by simp (disch := decide) only [zmu_c])
    have hf2 : gFb1 m (zmu (zmu (zmu m' 131 9 (gSt1 T q)) 131 10 0) 131 11 0) := fun c' i' hc => by
      unfold zmu
      rw [if_neg (by omega), if_neg (by omega), if_neg (by omega)]; exact hf c' i' hc
    by_cases c : gSt1 T q = T 0 0
    · have k0 : gKi T q = 0 := by
        unfold gKi
        rw [if_pos c]
      have e4' : m' 131 7 = T 0 0 := by omega
      simp +contextual (disch := (first | omega | assumption | decide)) only [↓zbrT, ↓zbrF, zw180_1, zw180_2, zw180_3, zw180_4, zw180_5, zw180_6, zw180_8, zw180_9, zw180_10, zw180_11, zw180_12, zw180_13, zw180_14, zw180_15, zw180_16, zw180_18, zw180_19, zw180_20, zw180_21, zw180_22, zw180_23, zw180_24, zw180_25, zw180_26, zr_1, zr_3, zr_4, zr_7, zr_8, zr_10, zr_11, zr_12, zr_13, zr_14, zr_17, zr_26, zr_27, zr_28, zr_37, zr_38, zr_39, zr_46, zr_50, zr_50b, zr_53, zr_54, zr_56, zr_60, zr_61, zr_62, zr_68, zr_72, zr_73, zlg_0, zlg_s, zls_0, zls_1, zls_s, zkl_i, zkl_r, zkl_l, zkl_n, zrc_1, zrc_s, zcat_n, zcat_i, zcat_l, zcat_r, zkd_131, zkd_136, zln_136, zrf_131_5, Int.cast_ofNat_Int, Int.reduceAdd, zbd, zw_id, zwl_id, zmu_same, zmu_c, zmu_i, false_and, and_false, true_and, and_true, true_or, or_true, false_or, or_false, Option.toList, List.nil_append, List.cons_append, zif0, zif1, zif01, zem1, zem2, Int.reduceEq, Int.reduceLT, Int.reduceLE, Int.reduceNeg, Int.reduceSub, Int.reduceMul, if_true, if_false, not_false_eq_true, not_true_eq_false, true_implies, false_implies, Classical.not_not, Nat.reduceAdd, Nat.reduceLeDiff, e4, e4', e0]
      refine ⟨⟨?_, ?_, ?_, ?_, ?_⟩, fun c' i' hc => ?_⟩
      · simp (disch := decide) only [zmu_i]
        rw [e4]
        unfold gEd
        rw [if_pos k0]
      · rw [zmu_same, k0]
      · simp (disch := decide) only [zmu_i, zmu_same]
      · simp (disch := decide) only [zmu_i, zmu_same]
        unfold gVk
        rw [if_neg (by omega)]
      · simp (disch := decide) only [zmu_i, zmu_same]
        unfold gCo1
        rw [if_neg (by omega)]
      · have q2 := hf2 c' i' hc
        unfold zmu at q2 ⊢
        rw [if_neg (by omega)]; exact q2
    · have b1 := hk.2 (gSt1 T q) (by omega) (by omega)
      by_cases cl : 97 ≤ T 1 (gSt1 T q) ∧ T 1 (gSt1 T q) ≤ 122
      · have cl' : gSt1 T q < T 0 0 ∧ 97 ≤ T 1 (gSt1 T q) ∧ T 1 (gSt1 T q) ≤ 122 := ⟨by omega, cl⟩
        have k1 : gKi T q = 1 := by
          unfold gKi
          rw [if_neg c, if_pos (gLt_t.mpr cl)]
        have E := gEnd_s (T := T) (P := gLt) s.1.2
        have ed : gEd T q = gEnd T gLt (gSt1 T q) := by
          unfold gEd
          rw [if_neg (by omega), if_pos k1]
        simp +contextual (disch := (first | omega | assumption | decide)) only [↓zbrT, ↓zbrF, zw180_1, zw180_2, zw180_3, zw180_4, zw180_5, zw180_6, zw180_8, zw180_9, zw180_10, zw180_11, zw180_12, zw180_13, zw180_14, zw180_15, zw180_16, zw180_18, zw180_19, zw180_20, zw180_21, zw180_22, zw180_23, zw180_24, zw180_25, zw180_26, zr_1, zr_3, zr_4, zr_7, zr_8, zr_10, zr_11, zr_12, zr_13, zr_14, zr_17, zr_26, zr_27, zr_28, zr_37, zr_38, zr_39, zr_46, zr_50, zr_50b, zr_53, zr_54, zr_56, zr_60, zr_61, zr_62, zr_68, zr_72, zr_73, zlg_0, zlg_s, zls_0, zls_1, zls_s, zkl_i, zkl_r, zkl_l, zkl_n, zrc_1, zrc_s, zcat_n, zcat_i, zcat_l, zcat_r, zkd_131, zkd_136, zln_136, zrf_131_5, Int.cast_ofNat_Int, Int.reduceAdd, zbd, zw_id, zwl_id, zmu_same, zmu_c, zmu_i, false_and, and_false, true_and, and_true, true_or, or_true, false_or, or_false, Option.toList, List.nil_append, List.cons_append, zif0, zif1, zif01, zem1, zem2, Int.reduceEq, Int.reduceLT, Int.reduceLE, Int.reduceNeg, Int.reduceSub, Int.reduceMul, if_true, if_false, not_false_eq_true, not_true_eq_false, true_implies, false_implies, Classical.not_not, Nat.reduceAdd, Nat.reduceLeDiff, e4, e0, c, zq179 hk ht2, if_pos cl']
        refine zfor (gEnd T gLt (gSt1 T q)) (fun i lc m3 => gSt1 T q ≤ i ∧ lc = [some (.inr (.inr 131)), some (.inl (i - gSt1 T q))] ∧ m3 131 7 = i ∧ m3 131 8 = 1 ∧ m3 131 9 = gSt1 T q ∧ m3 131 10 = 0 ∧ m3 131 11 = gCd T (gSt1 T q) (i - gSt1 T q).toNat ∧ gFb1 m m3) ?_ ?_ (i := gSt1 T q) E.1.1 ?_
        · rintro i lc m3 hi ⟨h0', rfl, f7, f8, f9, f10, f11, hf3⟩ kk
          have ht3 : gTn T m3 := gTn_of ht (hf3 131 6 (by omega)) (fun i => hf3 136 i (by omega))
          have w := gLt_t.mp (E.2.1 i h0' hi)
          have e6 := ht3.2 i (by omega) (by omega)
          have w' : i < T 0 0 ∧ 97 ≤ T 1 i ∧ T 1 i ≤ 122 := ⟨by omega, w⟩
          have cs : gCd T (gSt1 T q) (i + 1 - gSt1 T q).toNat = if 11 < i - gSt1 T q then -1 else 27 * gCd T (gSt1 T q) (i - gSt1 T q).toNat + T 1 i - 96 := by
            rw [show (i + 1 - gSt1 T q).toNat = (i - gSt1 T q).toNat + 1 by omega]
            show (if 11 < (((i - gSt1 T q).toNat : Nat) : Int) then -1 else 27 * gCd T (gSt1 T q) (i - gSt1 T q).toNat + T 1 (gSt1 T q + ((i - gSt1 T q).toNat : Nat)) - 96) = _
            rw [show gSt1 T q + (((i - gSt1 T q).toNat : Nat) : Int) = i by omega, show (((i - gSt1 T q).toNat : Nat) : Int) = i - gSt1 T q by omega]
          rw [zw180_7]
          by_cases c11 : 11 < i - gSt1 T q
          · rw [if_pos c11] at cs
            simp +contextual (disch := (first | omega | assumption | decide)) only [↓zbrT, ↓zbrF, zw180_1, zw180_2, zw180_3, zw180_4, zw180_5, zw180_6, zw180_8, zw180_9, zw180_10, zw180_11, zw180_12, zw180_13, zw180_14, zw180_15, zw180_16, zw180_18, zw180_19, zw180_20, zw180_21, zw180_22, zw180_23, zw180_24, zw180_25, zw180_26, zr_1, zr_3, zr_4, zr_7, zr_8, zr_10, zr_11, zr_12, zr_13, zr_14, zr_17, zr_26, zr_27, zr_28, zr_37, zr_38, zr_39, zr_46, zr_50, zr_50b, zr_53, zr_54, zr_56, zr_60, zr_61, zr_62, zr_68, zr_72, zr_73, zlg_0, zlg_s, zls_0, zls_1, zls_s, zkl_i, zkl_r, zkl_l, zkl_n, zrc_1, zrc_s, zcat_n, zcat_i, zcat_l, zcat_r, zkd_131, zkd_136, zln_136, zrf_131_5, Int.cast_ofNat_Int, Int.reduceAdd, zbd, zw_id, zwl_id, zmu_same, zmu_c, zmu_i, false_and, and_false, true_and, and_true, true_or, or_true, false_or, or_false, Option.toList, List.nil_append, List.cons_append, zif0, zif1, zif01, zem1, zem2, Int.reduceEq, Int.reduceLT, Int.reduceLE, Int.reduceNeg, Int.reduceSub, Int.reduceMul, if_true, if_false, not_false_eq_true, not_true_eq_false, true_implies, false_implies, Classical.not_not, Nat.reduceAdd, Nat.reduceLeDiff, f7, zq179 hk ht3, if_pos w']
            refine kk _ _ ⟨by omega, ?_, zmu_same, ?_, ?_, ?_, ?_, fun c' i' hc => ?_⟩
            · rw [show i + 1 - gSt1 T q = i - gSt1 T q + 1 by omega]
            · simp (disch := decide) only [zmu_i]; exact f8
            · simp (disch := decide) only [zmu_i]; exact f9
            · simp (disch := decide) only [zmu_i]; exact f10
            · simp (disch := decide) only [zmu_i, zmu_same]; exact cs.symm
            · unfold zmu
              rw [if_neg (by omega), if_neg (by omega), if_neg (by omega)]; exact hf3 c' i' hc
          · rw [if_neg c11] at cs
            have bd := gCd_bd (T := T) (s := gSt1 T q) (i - gSt1 T q).toNat (by omega) (fun j hj => gLt_t.mp (E.2.1 _ (by omega) (by omega)))
            have b2 : (27 : Int) ^ (i - gSt1 T q).toNat ≤ 27 ^ 11 := by
              have := Nat.pow_le_pow_right (n := 27) (by decide) (show (i - gSt1 T q).toNat ≤ 11 by omega)
              exact_mod_cast this
            have b3 : (27 : Int) ^ 11 = 5559060566555523 := by decide
            simp +contextual (disch := (first | omega | assumption | decide)) only [↓zbrT, ↓zbrF, zw180_1, zw180_2, zw180_3, zw180_4, zw180_5, zw180_6, zw180_8, zw180_9, zw180_10, zw180_11, zw180_12, zw180_13, zw180_14, zw180_15, zw180_16, zw180_18, zw180_19, zw180_20, zw180_21, zw180_22, zw180_23, zw180_24, zw180_25, zw180_26, zr_1, zr_3, zr_4, zr_7, zr_8, zr_10, zr_11, zr_12, zr_13, zr_14, zr_17, zr_26, zr_27, zr_28, zr_37, zr_38, zr_39, zr_46, zr_50, zr_50b, zr_53, zr_54, zr_56, zr_60, zr_61, zr_62, zr_68, zr_72, zr_73, zlg_0, zlg_s, zls_0, zls_1, zls_s, zkl_i, zkl_r, zkl_l, zkl_n, zrc_1, zrc_s, zcat_n, zcat_i, zcat_l, zcat_r, zkd_131, zkd_136, zln_136, zrf_131_5, Int.cast_ofNat_Int, Int.reduceAdd, zbd, zw_id, zwl_id, zmu_same, zmu_c, zmu_i, false_and, and_false, true_and, and_true, true_or, or_true, false_or, or_false, Option.toList, List.nil_append, List.cons_append, zif0, zif1, zif01, zem1, zem2, Int.reduceEq, Int.reduceLT, Int.reduceLE, Int.reduceNeg, Int.reduceSub, Int.reduceMul, if_true, if_false, not_false_eq_true, not_true_eq_false, true_implies, false_implies, Classical.not_not, Nat.reduceAdd, Nat.reduceLeDiff, f7, f11, e6, zq179 hk ht3, if_pos w']
            refine kk _ _ ⟨by omega, ?_, zmu_same, ?_, ?_, ?_, ?_, fun c' i' hc => ?_⟩
            · rw [show i + 1 - gSt1 T q = i - gSt1 T q + 1 by omega]
            · simp (disch := decide) only [zmu_i]; exact f8
            · simp (disch := decide) only [zmu_i]; exact f9
            · simp (disch := decide) only [zmu_i]; exact f10
            · simp (disch := decide) only [zmu_i, zmu_same]; exact cs.symm
            · unfold zmu
              rw [if_neg (by omega), if_neg (by omega)]; exact hf3 c' i' hc
        · rintro lc m3 ⟨h0', rfl, f7, f8, f9, f10, f11, hf3⟩
          have ht3 : gTn T m3 := gTn_of ht (hf3 131 6 (by omega)) (fun i => hf3 136 i (by omega))
          have res : gTt T q m3 ∧ gFb1 m m3 := ⟨⟨by rw [f7, ed], by rw [f8, k1], f9, by rw [f10]; unfold gVk; rw [if_neg (by omega)], by rw [f11]; unfold gCo1; rw [if_pos k1, ed]⟩, hf3⟩
          have w' : ¬ (gEnd T gLt (gSt1 T q) < T 0 0 ∧ 97 ≤ T 1 (gEnd T gLt (gSt1 T q)) ∧ T 1 (gEnd T gLt (gSt1 T q)) ≤ 122) := by
            rcases E.2.2 with z | z
            · omega
            · exact fun y => gLt_f.mp z y.2
          rw [zw180_7]
          simp +contextual (disch := (first | omega | assumption | decide)) only [↓zbrT, ↓zbrF, zw180_1, zw180_2, zw180_3, zw180_4, zw180_5, zw180_6, zw180_8, zw180_9, zw180_10, zw180_11, zw180_12, zw180_13, zw180_14, zw180_15, zw180_16, zw180_18, zw180_19, zw180_20, zw180_21, zw180_22, zw180_23, zw180_24, zw180_25, zw180_26, zr_1, zr_3, zr_4, zr_7, zr_8, zr_10, zr_11, zr_12, zr_13, zr_14, zr_17, zr_26, zr_27, zr_28, zr_37, zr_38, zr_39, zr_46, zr_50, zr_50b, zr_53, zr_54, zr_56, zr_60, zr_61, zr_62, zr_68, zr_72, zr_73, zlg_0, zlg_s, zls_0, zls_1, zls_s, zkl_i, zkl_r, zkl_l, zkl_n, zrc_1, zrc_s, zcat_n, zcat_i, zcat_l, zcat_r, zkd_131, zkd_136, zln_136, zrf_131_5, Int.cast_ofNat_Int, Int.reduceAdd, zbd, zw_id, zwl_id, zmu_same, zmu_c, zmu_i, false_and, and_false, true_and, and_true, true_or, or_true, false_or, or_false, Option.toList, List.nil_append, List.cons_append, zif0, zif1, zif01, zem1, zem2, Int.reduceEq, Int.reduceLT, Int.reduceLE, Int.reduceNeg, Int.reduceSub, Int.reduceMul, if_true, if_false, not_false_eq_true, not_true_eq_false, true_implies, false_implies, Classical.not_not, Nat.reduceAdd, Nat.reduceLeDiff, f7, zq179 hk ht3, if_neg w']
          exact res
        · refine ⟨Int.le_refl _, by rw [Int.sub_self], ?_, zmu_same, ?_, ?_, ?_, fun c' i' hc => ?_⟩
          · simp (disch := decide) only [zmu_i]; exact e4
          · simp (disch := decide) only [zmu_i, zmu_same]
          · simp (disch := decide) only [zmu_i, zmu_same]
          · simp (disch := decide) only [zmu_i, zmu_same, Int.sub_self]; rfl
          · have q2 := hf2 c' i' hc
            unfold zmu at q2 ⊢
            rw [if_neg (by omega)]; exact q2
      · have cl' : ¬ (gSt1 T q < T 0 0 ∧ 97 ≤ T 1 (gSt1 T q) ∧ T 1 (gSt1 T q) ≤ 122) := fun z => cl z.2
        by_cases cd : 48 ≤ T 1 (gSt1 T q) ∧ T 1 (gSt1 T q) ≤ 57
        · have cd' : gSt1 T q < T 0 0 ∧ 48 ≤ T 1 (gSt1 T q) ∧ T 1 (gSt1 T q) ≤ 57 := ⟨by omega, cd⟩
          have k1 : gKi T q = 2 := by
            unfold gKi
            rw [if_neg c, if_neg (fun z => cl (gLt_t.mp z)), if_pos (gDi_t.mpr cd)]
          have E := gEnd_s (T := T) (P := gDi) s.1.2
          have ed : gEd T q = gEnd T gDi (gSt1 T q) := by
            unfold gEd
            rw [if_neg (by omega), if_neg (by omega), if_pos k1]
          simp +contextual (disch := (first | omega | assumption | decide)) only [↓zbrT, ↓zbrF, zw180_1, zw180_2, zw180_3, zw180_4, zw180_5, zw180_6, zw180_8, zw180_9, zw180_10, zw180_11, zw180_12, zw180_13, zw180_14, zw180_15, zw180_16, zw180_18, zw180_19, zw180_20, zw180_21, zw180_22, zw180_23, zw180_24, zw180_25, zw180_26, zr_1, zr_3, zr_4, zr_7, zr_8, zr_10, zr_11, zr_12, zr_13, zr_14, zr_17, zr_26, zr_27, zr_28, zr_37, zr_38, zr_39, zr_46, zr_50, zr_50b, zr_53, zr_54, zr_56, zr_60, zr_61, zr_62, zr_68, zr_72, zr_73, zlg_0, zlg_s, zls_0, zls_1, zls_s, zkl_i, zkl_r, zkl_l, zkl_n, zrc_1, zrc_s, zcat_n, zcat_i, zcat_l, zcat_r, zkd_131, zkd_136, zln_136, zrf_131_5, Int.cast_ofNat_Int, Int.reduceAdd, zbd, zw_id, zwl_id, zmu_same, zmu_c, zmu_i, false_and, and_false, true_and, and_true, true_or, or_true, false_or, or_false, Option.toList, List.nil_append, List.cons_append, zif0, zif1, zif01, zem1, zem2, Int.reduceEq, Int.reduceLT, Int.reduceLE, Int.reduceNeg, Int.reduceSub, Int.reduceMul, if_true, if_false, not_false_eq_true, not_true_eq_false, true_implies, false_implies, Classical.not_not, Nat.reduceAdd, Nat.reduceLeDiff, e4, e0, c, zq179 hk ht2, if_neg cl', if_pos cd']
          refine zfor (gEnd T gDi (gSt1 T q)) (fun i lc m3 => gSt1 T q ≤ i ∧ (∃ x, lc = [some (.inr (.inr 131)), x]) ∧ m3 131 7 = i ∧ m3 131 8 = 2 ∧ m3 131 9 = gSt1 T q ∧ m3 131 11 = 0 ∧ m3 131 10 = gVm T (gSt1 T q) (i - gSt1 T q).toNat ∧ gFb1 m m3) ?_ ?_ (i := gSt1 T q) E.1.1 ?_
          · rintro i lc m3 hi ⟨h0', ⟨x, rfl⟩, f7, f8, f9, f11, f10, hf3⟩ kk
            have ht3 : gTn T m3 := gTn_of ht (hf3 131 6 (by omega)) (fun i => hf3 136 i (by omega))
            have w := gDi_t.mp (E.2.1 i h0' hi)
            have e6 := ht3.2 i (by omega) (by omega)
            have w' : i < T 0 0 ∧ 48 ≤ T 1 i ∧ T 1 i ≤ 57 := ⟨by omega, w⟩
            have vb := gVm_x (T := T) (s := gSt1 T q) (i - gSt1 T q).toNat (fun j hj => gDi_t.mp (E.2.1 _ (by omega) (by omega)))
            have vs : gVm T (gSt1 T q) (i + 1 - gSt1 T q).toNat = if 100000 < gVm T (gSt1 T q) (i - gSt1 T q).toNat then 1000000 else 10 * gVm T (gSt1 T q) (i - gSt1 T q).toNat + T 1 i - 48 := by
              rw [show (i + 1 - gSt1 T q).toNat = (i - gSt1 T q).toNat + 1 by omega]
              show (if 100000 < gVm T (gSt1 T q) (i - gSt1 T q).toNat then 1000000 else 10 * gVm T (gSt1 T q) (i - gSt1 T q).toNat + T 1 (gSt1 T q + ((i - gSt1 T q).toNat : Nat)) - 48) = _
              rw [show gSt1 T q + (((i - gSt1 T q).toNat : Nat) : Int) = i by omega]
            have vb0 : 0 ≤ gVm T (gSt1 T q) (i - gSt1 T q).toNat ∧ gVm T (gSt1 T q) (i - gSt1 T q).toNat ≤ 1000009 := by omega
            rw [zw180_17]
            by_cases c11 : 100000 < gVm T (gSt1 T q) (i - gSt1 T q).toNat
            · rw [if_pos c11] at vs
              simp +contextual (disch := (first | omega | assumption | decide)) only [↓zbrT, ↓zbrF, zw180_1, zw180_2, zw180_3, zw180_4, zw180_5, zw180_6, zw180_8, zw180_9, zw180_10, zw180_11, zw180_12, zw180_13, zw180_14, zw180_15, zw180_16, zw180_18, zw180_19, zw180_20, zw180_21, zw180_22, zw180_23, zw180_24, zw180_25, zw180_26, zr_1, zr_3, zr_4, zr_7, zr_8, zr_10, zr_11, zr_12, zr_13, zr_14, zr_17, zr_26, zr_27, zr_28, zr_37, zr_38, zr_39, zr_46, zr_50, zr_50b, zr_53, zr_54, zr_56, zr_60, zr_61, zr_62, zr_68, zr_72, zr_73, zlg_0, zlg_s, zls_0, zls_1, zls_s, zkl_i, zkl_r, zkl_l, zkl_n, zrc_1, zrc_s, zcat_n, zcat_i, zcat_l, zcat_r, zkd_131, zkd_136, zln_136, zrf_131_5, Int.cast_ofNat_Int, Int.reduceAdd, zbd, zw_id, zwl_id, zmu_same, zmu_c, zmu_i, false_and, and_false, true_and, and_true, true_or, or_true, false_or, or_false, Option.toList, List.nil_append, List.cons_append, zif0, zif1, zif01, zem1, zem2, Int.reduceEq, Int.reduceLT, Int.reduceLE, Int.reduceNeg, Int.reduceSub, Int.reduceMul, if_true, if_false, not_false_eq_true, not_true_eq_false, true_implies, false_implies, Classical.not_not, Nat.reduceAdd, Nat.reduceLeDiff, f7, f10, e6, zq179 hk ht3, if_pos w']
              refine kk _ _ ⟨by omega, ⟨_, rfl⟩, zmu_same, ?_, ?_, ?_, ?_, fun c' i' hc => ?_⟩
              · simp (disch := decide) only [zmu_i]; exact f8
              · simp (disch := decide) only [zmu_i]; exact f9
              · simp (disch := decide) only [zmu_i]; exact f11
              · simp (disch := decide) only [zmu_i, zmu_same]; exact vs.symm
              · unfold zmu
                rw [if_neg (by omega), if_neg (by omega)]; exact hf3 c' i' hc
            · rw [if_neg c11] at vs
              simp +contextual (disch := (first | omega | assumption | decide)) only [↓zbrT, ↓zbrF, zw180_1, zw180_2, zw180_3, zw180_4, zw180_5, zw180_6, zw180_8, zw180_9, zw180_10, zw180_11, zw180_12, zw180_13, zw180_14, zw180_15, zw180_16, zw180_18, zw180_19, zw180_20, zw180_21, zw180_22, zw180_23, zw180_24, zw180_25, zw180_26, zr_1, zr_3, zr_4, zr_7, zr_8, zr_10, zr_11, zr_12, zr_13, zr_14, zr_17, zr_26, zr_27, zr_28, zr_37, zr_38, zr_39, zr_46, zr_50, zr_50b, zr_53, zr_54, zr_56, zr_60, zr_61, zr_62, zr_68, zr_72, zr_73, zlg_0, zlg_s, zls_0, zls_1, zls_s, zkl_i, zkl_r, zkl_l, zkl_n, zrc_1, zrc_s, zcat_n, zcat_i, zcat_l, zcat_r, zkd_131, zkd_136, zln_136, zrf_131_5, Int.cast_ofNat_Int, Int.reduceAdd, zbd, zw_id, zwl_id, zmu_same, zmu_c, zmu_i, false_and, and_false, true_and, and_true, true_or, or_true, false_or, or_false, Option.toList, List.nil_append, List.cons_append, zif0, zif1, zif01, zem1, zem2, Int.reduceEq, Int.reduceLT, Int.reduceLE, Int.reduceNeg, Int.reduceSub, Int.reduceMul, if_true, if_false, not_false_eq_true, not_true_eq_false, true_implies, false_implies, Classical.not_not, Nat.reduceAdd, Nat.reduceLeDiff, f7, f10, e6, zq179 hk ht3, if_pos w']
              refine kk _ _ ⟨by omega, ⟨_, rfl⟩, zmu_same, ?_, ?_, ?_, ?_, fun c' i' hc => ?_⟩
              · simp (disch := decide) only [zmu_i]; exact f8
              · simp (disch := decide) only [zmu_i]; exact f9
              · simp (disch := decide) only [zmu_i]; exact f11
              · simp (disch := decide) only [zmu_i, zmu_same]; exact vs.symm
              · unfold zmu
                rw [if_neg (by omega), if_neg (by omega)]; exact hf3 c' i' hc
          · rintro lc m3 ⟨h0', ⟨x, rfl⟩, f7, f8, f9, f11, f10, hf3⟩
            have ht3 : gTn T m3 := gTn_of ht (hf3 131 6 (by omega)) (fun i => hf3 136 i (by omega))
            have res : gTt T q m3 ∧ gFb1 m m3 := ⟨⟨by rw [f7, ed], by rw [f8, k1], f9, by rw [f10]; unfold gVk; rw [if_pos k1, ed], by rw [f11]; unfold gCo1; rw [if_neg (by omega)]⟩, hf3⟩
            have w' : ¬ (gEnd T gDi (gSt1 T q) < T 0 0 ∧ 48 ≤ T 1 (gEnd T gDi (gSt1 T q)) ∧ T 1 (gEnd T gDi (gSt1 T q)) ≤ 57) := by
              rcases E.2.2 with z | z
              · omega
              · exact fun y => gDi_f.mp z y.2
            rw [zw180_17]
            simp +contextual (disch := (first | omega | assumption | decide)) only [↓zbrT, ↓zbrF, zw180_1, zw180_2, zw180_3, zw180_4, zw180_5, zw180_6, zw180_8, zw180_9, zw180_10, zw180_11, zw180_12, zw180_13, zw180_14, zw180_15, zw180_16, zw180_18, zw180_19, zw180_20, zw180_21, zw180_22, zw180_23, zw180_24, zw180_25, zw180_26, zr_1, zr_3, zr_4, zr_7, zr_8, zr_10, zr_11, zr_12, zr_13, zr_14, zr_17, zr_26, zr_27, zr_28, zr_37, zr_38, zr_39, zr_46, zr_50, zr_50b, zr_53, zr_54, zr_56, zr_60, zr_61, zr_62, zr_68, zr_72, zr_73, zlg_0, zlg_s, zls_0, zls_1, zls_s, zkl_i, zkl_r, zkl_l, zkl_n, zrc_1, zrc_s, zcat_n, zcat_i, zcat_l, zcat_r, zkd_131, zkd_136, zln_136, zrf_131_5, Int.cast_ofNat_Int, Int.reduceAdd, zbd, zw_id, zwl_id, zmu_same, zmu_c, zmu_i, false_and, and_false, true_and, and_true, true_or, or_true, false_or, or_false, Option.toList, List.nil_append, List.cons_append, zif0, zif1, zif01, zem1, zem2, Int.reduceEq, Int.reduceLT, Int.reduceLE, Int.reduceNeg, Int.reduceSub, Int.reduceMul, if_true, if_false, not_false_eq_true, not_true_eq_false, true_implies, false_implies, Classical.not_not, Nat.reduceAdd, Nat.reduceLeDiff, f7, zq179 hk ht3, if_neg w']
            exact res
          · refine ⟨Int.le_refl _, ⟨_, rfl⟩, ?_, zmu_same, ?_, ?_, ?_, fun c' i' hc => ?_⟩
            · simp (disch := decide) only [zmu_i]; exact e4
            · simp (disch := decide) only [zmu_i, zmu_same]
            · simp (disch := decide) only [zmu_i, zmu_same]
            · simp (disch := decide) only [zmu_i, zmu_same, Int.sub_self]; rfl
            · have q2 := hf2 c' i' hc
              unfold zmu at q2 ⊢
              rw [if_neg (by omega)]; exact q2
        · have cd' : ¬ (gSt1 T q < T 0 0 ∧ 48 ≤ T 1 (gSt1 T q) ∧ T 1 (gSt1 T q) ≤ 57) := fun z => cd z.2
          have k1 : gKi T q = if T 1 (gSt1 T q) = 59 then 3 else 4 := by
            unfold gKi
            rw [if_neg c, if_neg (fun z => cl (gLt_t.mp z)), if_neg (fun z => cd (gDi_t.mp z))]
          have k2 : gKi T q = 3 ∨ gKi T q = 4 := by rw [k1]; split <;> omega
          have ed : gEd T q = gSt1 T q + 1 := by
            unfold gEd
            rw [if_neg (by omega), if_neg (by omega), if_neg (by omega)]
          have vl : gVk T q = 0 := by
            unfold gVk
            rw [if_neg (by omega)]
          have co : gCo1 T q = 0 := by
            unfold gCo1
            rw [if_neg (by omega)]
          have e6 := ht'.2 (gSt1 T q) (by omega) (by omega)
          have fin : ∀ k : Int, k = gKi T q → gTt T q (zmu (zmu (zmu (zmu (zmu m' 131 9 (gSt1 T q)) 131 10 0) 131 11 0) 131 8 k) 131 7 (gSt1 T q + 1)) ∧ gFb1 m (zmu (zmu (zmu (zmu (zmu m' 131 9 (gSt1 T q)) 131 10 0) 131 11 0) 131 8 k) 131 7 (gSt1 T q + 1)) := fun k ek => by
            refine ⟨⟨by rw [zmu_same, ed], by simp (disch := decide) only [zmu_i, zmu_same]; exact ek, by simp (disch := decide) only [zmu_i, zmu_same], by simp (disch := decide) only [zmu_i, zmu_same]; exact vl.symm, by simp (disch := decide) only [zmu_i, zmu_same]; exact co.symm⟩, fun c' i' hc => ?_⟩
            unfold zmu
            rw [if_neg (by omega), if_neg (by omega), if_neg (by omega), if_neg (by omega), if_neg (by omega)]; exact hf c' i' hc
          by_cases c5 : T 1 (gSt1 T q) = 59
          · rw [if_pos c5] at k1
            simp +contextual (disch := (first | omega | assumption | decide)) only [↓zbrT, ↓zbrF, zw180_1, zw180_2, zw180_3, zw180_4, zw180_5, zw180_6, zw180_8, zw180_9, zw180_10, zw180_11, zw180_12, zw180_13, zw180_14, zw180_15, zw180_16, zw180_18, zw180_19, zw180_20, zw180_21, zw180_22, zw180_23, zw180_24, zw180_25, zw180_26, zr_1, zr_3, zr_4, zr_7, zr_8, zr_10, zr_11, zr_12, zr_13, zr_14, zr_17, zr_26, zr_27, zr_28, zr_37, zr_38, zr_39, zr_46, zr_50, zr_50b, zr_53, zr_54, zr_56, zr_60, zr_61, zr_62, zr_68, zr_72, zr_73, zlg_0, zlg_s, zls_0, zls_1, zls_s, zkl_i, zkl_r, zkl_l, zkl_n, zrc_1, zrc_s, zcat_n, zcat_i, zcat_l, zcat_r, zkd_131, zkd_136, zln_136, zrf_131_5, Int.cast_ofNat_Int, Int.reduceAdd, zbd, zw_id, zwl_id, zmu_same, zmu_c, zmu_i, false_and, and_false, true_and, and_true, true_or, or_true, false_or, or_false, Option.toList, List.nil_append, List.cons_append, zif0, zif1, zif01, zem1, zem2, Int.reduceEq, Int.reduceLT, Int.reduceLE, Int.reduceNeg, Int.reduceSub, Int.reduceMul, if_true, if_false, not_false_eq_true, not_true_eq_false, true_implies, false_implies, Classical.not_not, Nat.reduceAdd, Nat.reduceLeDiff, e4, e0, c, e6, c5, zq179 hk ht2, if_neg cl', if_neg cd']
            exact fin 3 k1.symm
          · rw [if_neg c5] at k1
            simp +contextual (disch := (first | omega | assumption | decide)) only [↓zbrT, ↓zbrF, zw180_1, zw180_2, zw180_3, zw180_4, zw180_5, zw180_6, zw180_8, zw180_9, zw180_10, zw180_11, zw180_12, zw180_13, zw180_14, zw180_15, zw180_16, zw180_18, zw180_19, zw180_20, zw180_21, zw180_22, zw180_23, zw180_24, zw180_25, zw180_26, zr_1, zr_3, zr_4, zr_7, zr_8, zr_10, zr_11, zr_12, zr_13, zr_14, zr_17, zr_26, zr_27, zr_28, zr_37, zr_38, zr_39, zr_46, zr_50, zr_50b, zr_53, zr_54, zr_56, zr_60, zr_61, zr_62, zr_68, zr_72, zr_73, zlg_0, zlg_s, zls_0, zls_1, zls_s, zkl_i, zkl_r, zkl_l, zkl_n, zrc_1, zrc_s, zcat_n, zcat_i, zcat_l, zcat_r, zkd_131, zkd_136, zln_136, zrf_131_5, Int.cast_ofNat_Int, Int.reduceAdd, zbd, zw_id, zwl_id, zmu_same, zmu_c, zmu_i, false_and, and_false, true_and, and_true, true_or, or_true, false_or, or_false, Option.toList, List.nil_append, List.cons_append, zif0, zif1, zif01, zem1, zem2, Int.reduceEq, Int.reduceLT, Int.reduceLE, Int.reduceNeg, Int.reduceSub, Int.reduceMul, if_true, if_false, not_false_eq_true, not_true_eq_false, true_implies, false_implies, Classical.not_not, Nat.reduceAdd, Nat.reduceLeDiff, e4, e0, c, e6, c5, zq179 hk ht2, if_neg cl', if_neg cd']
            exact fin 4 k1.symm
  · exact ⟨Int.le_refl _, ⟨none, rfl⟩, hq, fun _ _ _ => rfl⟩
