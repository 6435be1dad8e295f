/-! ===== band, most, bands ===== -/
def gSl (V : zMm) (t : Int) : Nat → Int
  | 0 => 1
  | k + 1 => gSl V t k * (if zbit t k = 1 then 100 - vF V k 4 else 1)
def gHn (t : Int) : Nat → Int
  | 0 => 1
  | k + 1 => gHn t k * (if zbit t k = 1 then 100 else 1)
theorem gHn_pos (t : Int) : ∀ k : Nat, k ≤ 8 → 1 ≤ gHn t k ∧ gHn t k ≤ 100 ^ k
  | 0, _ => by show (1 : Int) ≤ 1 ∧ (1 : Int) ≤ 100 ^ 0; decide
  | k + 1, h => by
    have i := gHn_pos t k (by omega)
    have p : (100 : Int) ^ (k + 1) = 100 ^ k * 100 := Int.pow_succ 100 k
    show 1 ≤ gHn t k * (if zbit t k = 1 then 100 else 1) ∧ gHn t k * (if zbit t k = 1 then 100 else 1) ≤ 100 ^ (k + 1)
    rw [p]
    split <;> omega
theorem gSl_bd {V : zMm} (hV : gOk V) (t : Int) : ∀ k : Nat, (k : Int) ≤ V 0 6 → 0 ≤ gSl V t k ∧ gSl V t k ≤ gHn t k
  | 0, _ => by show (0 : Int) ≤ 1 ∧ (1 : Int) ≤ 1; decide
  | k + 1, h => by
    have hb := hV.1
    have i := gSl_bd hV t k (by omega)
    have b := (hV.2.2 k (by omega) (by omega)).2.2.2.2.2
    show 0 ≤ gSl V t k * (if zbit t k = 1 then 100 - vF V k 4 else 1) ∧ gSl V t k * (if zbit t k = 1 then 100 - vF V k 4 else 1) ≤ gHn t k * (if zbit t k = 1 then 100 else 1)
    split
    · have h1 := Int.mul_nonneg i.1 (show 0 ≤ 100 - vF V k 4 by omega)
      have h2 : gSl V t k * (100 - vF V k 4) ≤ gHn t k * 100 := Int.mul_le_mul i.2 (by omega) (by omega) (by omega)
      exact ⟨h1, h2⟩
    · omega
theorem gP12 {k : Nat} (h : k ≤ 6) : (1 : Int) ≤ 100 ^ k ∧ (100 : Int) ^ k ≤ 1000000000000 := by
  have : ∀ k, k < 7 → (1 : Int) ≤ 100 ^ k ∧ (100 : Int) ^ k ≤ 1000000000000 := by decide
  exact this k (by omega)
theorem gSl_s {V : zMm} {t j : Int} (h : 0 ≤ j) : gSl V t (j + 1).toNat = gSl V t j.toNat * (if zbit t j = 1 then 100 - vF V j 4 else 1) := by
  rw [show (j + 1).toNat = j.toNat + 1 by omega]
  show gSl V t j.toNat * (if zbit t (j.toNat : Nat) = 1 then 100 - vF V (j.toNat : Nat) 4 else 1) = _
  rw [show ((j.toNat : Nat) : Int) = j by omega]
theorem gHn_s {t j : Int} (h : 0 ≤ j) : gHn t (j + 1).toNat = gHn t j.toNat * (if zbit t j = 1 then 100 else 1) := by
  rw [show (j + 1).toNat = j.toNat + 1 by omega]
  show gHn t j.toNat * (if zbit t (j.toNat : Nat) = 1 then 100 else 1) = _
  rw [show ((j.toNat : Nat) : Int) = j by omega]
theorem zq143 {d : Nat} {m : zMm} {t : Int} {rest : List zV} {k : List zV → zMm → Prop} {V : zMm} (hA : gA V m) (ht : 0 ≤ t ∧ t < 256) : zcl (zEx (d + 1)) 143 2 (.inl t :: .inr (.inr 0) :: rest) m k = (zcat rest ≤ 8 ∧ k (.inr (.inl (gSl V t (V 0 6).toNat)) :: rest) m) := by
  refine zcl_eq (as := [.inr (.inr 0), .inl t]) (r := some (.inr (.inl (gSl V t (V 0 6).toNat)))) (zC_eq.mp (ze143 ?_)) rfl rfl
  have hb := gA_b hA
  simp +contextual (disch := (first | omega | assumption | decide)) only [↓zbrT, ↓zbrF, zw143_0, zw143_2, zw143_3, zw143_4, zw143_5, zr_1, zr_2, zr_3, zr_4, zr_5, zr_7, zr_8, zr_10, zr_12, zr_20, zr_27, zr_31, zr_35, zr_39, zr_46, zr_53, zr_54, zr_56, zr_58, zr_71, zr_73, zlg_0, zlg_s, zls_0, zls_1, zls_s, zkl_i, zkl_r, zkl_l, zkl_n, zlL_0, zlL_1, zlL_s, zkd_0, zkd_105, zkd_107, zkd_21, zkd_23, zkd_3, zkd_5, zkd_67, zkd_69, zkd_86, zkd_88, zkd_a107, zkd_a23, zkd_a5, zkd_a69, zkd_a88, zln_107, zln_23, zln_5, zln_69, zln_88, zrf_0_3, zrf_105_11, zrf_21_11, zrf_3_11, zrf_67_11, zrf_86_11, zrf_a107, zrf_a23, zrf_a5, zrf_a69, zrf_a88, Int.cast_ofNat_Int, Int.reduceAdd, zbd, zw_id, zwl_id, false_and, and_false, true_and, and_true, true_or, or_true, false_or, or_false, Option.toList, List.nil_append, List.cons_append, zif0, zif1, zif01, zem1, zem2, Int.reduceEq, Int.reduceLT, Int.reduceLE, Int.reduceNeg, Int.reduceSub, Int.reduceMul, if_true, if_false, not_false_eq_true, not_true_eq_false, true_implies, false_implies, Classical.not_not, Nat.reduceAdd, Nat.reduceLeDiff]
  refine zfor (V 0 6) (fun f lc m' => 0 ≤ f ∧ lc = [some (.inr (.inr 0)), some (.inl t), some (.inr (.inl (gSl V t f.toNat))), none, some (.inl f)] ∧ m' = m) ?_ ?_ (i := 0) (by omega) ?_
  · rintro f lc m' hf ⟨h0, rfl, rfl⟩ kk
    have es := gSl_s (V := V) (t := t) h0
    have b1 := gSl_bd hA.1 t f.toNat (by omega)
    have b2 := gHn_pos t f.toNat (by omega)
    have b3 := gP12 (k := f.toNat) (by omega)
    have b4 := (hA.1.2.2 f h0 hf).2.2.2.2.2
    have b5 : 0 ≤ gSl V t f.toNat * (100 - vF V f 4) ∧ gSl V t f.toNat * (100 - vF V f 4) ≤ 1000000000000 * 100 := ⟨Int.mul_nonneg b1.1 (by omega), Int.mul_le_mul (by omega) (by omega) (by omega) (by decide)⟩
    rw [zw143_1]
    by_cases z : zbit t f = 1
    · rw [if_pos z] at es
      simp +contextual (disch := (first | omega | assumption | decide)) only [↓zbrT, ↓zbrF, zw143_0, zw143_2, zw143_3, zw143_4, zw143_5, zr_1, zr_2, zr_3, zr_4, zr_5, zr_7, zr_8, zr_10, zr_12, zr_20, zr_27, zr_31, zr_35, zr_39, zr_46, zr_53, zr_54, zr_56, zr_58, zr_71, zr_73, zlg_0, zlg_s, zls_0, zls_1, zls_s, zkl_i, zkl_r, zkl_l, zkl_n, zlL_0, zlL_1, zlL_s, zkd_0, zkd_105, zkd_107, zkd_21, zkd_23, zkd_3, zkd_5, zkd_67, zkd_69, zkd_86, zkd_88, zkd_a107, zkd_a23, zkd_a5, zkd_a69, zkd_a88, zln_107, zln_23, zln_5, zln_69, zln_88, zrf_0_3, zrf_105_11, zrf_21_11, zrf_3_11, zrf_67_11, zrf_86_11, zrf_a107, zrf_a23, zrf_a5, zrf_a69, zrf_a88, Int.cast_ofNat_Int, Int.reduceAdd, zbd, zw_id, zwl_id, false_and, and_false, true_and, and_true, true_or, or_true, false_or, or_false, Option.toList, List.nil_append, List.cons_append, zif0, zif1, zif01, zem1, zem2, Int.reduceEq, Int.reduceLT, Int.reduceLE, Int.reduceNeg, Int.reduceSub, Int.reduceMul, if_true, if_false, not_false_eq_true, not_true_eq_false, true_implies, false_implies, Classical.not_not, Nat.reduceAdd, Nat.reduceLeDiff, gA_0 hA.2.1, gA_1 hA.2.1, gA_2 hA.2.1, gA_3 hA.2.1, gA_4 hA.2.1, gA_5 hA.2.1, gA_6 hA.2.1, gA_7 hA.2.1, gA_8 hA.2.1, gA_9 hA.2.1, gA_r0 hA.2.1, gA_r1 hA.2.1, gA_r2 hA.2.1, gA_r3 hA.2.1, gA_f0 hA.2.1, gA_f1 hA.2.1, gA_f2 hA.2.1, gA_f3 hA.2.1, gA_f4 hA.2.1, gA_d hA, zbit_of, z]
      exact kk _ _ ⟨by omega, by rw [es], rfl⟩
    · rw [if_neg z, Int.mul_one] at es
      simp +contextual (disch := (first | omega | assumption | decide)) only [↓zbrT, ↓zbrF, zw143_0, zw143_2, zw143_3, zw143_4, zw143_5, zr_1, zr_2, zr_3, zr_4, zr_5, zr_7, zr_8, zr_10, zr_12, zr_20, zr_27, zr_31, zr_35, zr_39, zr_46, zr_53, zr_54, zr_56, zr_58, zr_71, zr_73, zlg_0, zlg_s, zls_0, zls_1, zls_s, zkl_i, zkl_r, zkl_l, zkl_n, zlL_0, zlL_1, zlL_s, zkd_0, zkd_105, zkd_107, zkd_21, zkd_23, zkd_3, zkd_5, zkd_67, zkd_69, zkd_86, zkd_88, zkd_a107, zkd_a23, zkd_a5, zkd_a69, zkd_a88, zln_107, zln_23, zln_5, zln_69, zln_88, zrf_0_3, zrf_105_11, zrf_21_11, zrf_3_11, zrf_67_11, zrf_86_11, zrf_a107, zrf_a23, zrf_a5, zrf_a69, zrf_a88, Int.cast_ofNat_Int, Int.reduceAdd, zbd, zw_id, zwl_id, false_and, and_false, true_and, and_true, true_or, or_true, false_or, or_false, Option.toList, List.nil_append, List.cons_append, zif0, zif1, zif01, zem1, zem2, Int.reduceEq, Int.reduceLT, Int.reduceLE, Int.reduceNeg, Int.reduceSub, Int.reduceMul, if_true, if_false, not_false_eq_true, not_true_eq_false, true_implies, false_implies, Classical.not_not, Nat.reduceAdd, Nat.reduceLeDiff, gA_0 hA.2.1, gA_1 hA.2.1, gA_2 hA.2.1, gA_3 hA.2.1, gA_4 hA.2.1, gA_5 hA.2.1, gA_6 hA.2.1, gA_7 hA.2.1, gA_8 hA.2.1, gA_9 hA.2.1, gA_r0 hA.2.1, gA_r1 hA.2.1, gA_r2 hA.2.1, gA_r3 hA.2.1, gA_f0 hA.2.1, gA_f1 hA.2.1, gA_f2 hA.2.1, gA_f3 hA.2.1, gA_f4 hA.2.1, gA_d hA, zbit_of, z]
      exact kk _ _ ⟨by omega, by rw [es], rfl⟩
  · rintro lc m' ⟨h0, rfl, rfl⟩
    rw [zw143_1]
    simp +contextual (disch := (first | omega | assumption | decide)) only [↓zbrT, ↓zbrF, zw143_0, zw143_2, zw143_3, zw143_4, zw143_5, zr_1, zr_2, zr_3, zr_4, zr_5, zr_7, zr_8, zr_10, zr_12, zr_20, zr_27, zr_31, zr_35, zr_39, zr_46, zr_53, zr_54, zr_56, zr_58, zr_71, zr_73, zlg_0, zlg_s, zls_0, zls_1, zls_s, zkl_i, zkl_r, zkl_l, zkl_n, zlL_0, zlL_1, zlL_s, zkd_0, zkd_105, zkd_107, zkd_21, zkd_23, zkd_3, zkd_5, zkd_67, zkd_69, zkd_86, zkd_88, zkd_a107, zkd_a23, zkd_a5, zkd_a69, zkd_a88, zln_107, zln_23, zln_5, zln_69, zln_88, zrf_0_3, zrf_105_11, zrf_21_11, zrf_3_11, zrf_67_11, zrf_86_11, zrf_a107, zrf_a23, zrf_a5, zrf_a69, zrf_a88, Int.cast_ofNat_Int, Int.reduceAdd, zbd, zw_id, zwl_id, false_and, and_false, true_and, and_true, true_or, or_true, false_or, or_false, Option.toList, List.nil_append, List.cons_append, zif0, zif1, zif01, zem1, zem2, Int.reduceEq, Int.reduceLT, Int.reduceLE, Int.reduceNeg, Int.reduceSub, Int.reduceMul, if_true, if_false, not_false_eq_true, not_true_eq_false, true_implies, false_implies, Classical.not_not, Nat.reduceAdd, Nat.reduceLeDiff, gA_0 hA.2.1, gA_1 hA.2.1, gA_2 hA.2.1, gA_3 hA.2.1, gA_4 hA.2.1, gA_5 hA.2.1, gA_6 hA.2.1, gA_7 hA.2.1, gA_8 hA.2.1, gA_9 hA.2.1, gA_r0 hA.2.1, gA_r1 hA.2.1, gA_r2 hA.2.1, gA_r3 hA.2.1, gA_f0 hA.2.1, gA_f1 hA.2.1, gA_f2 hA.2.1, gA_f3 hA.2.1, gA_f4 hA.2.1, gA_d hA]
  · exact ⟨by decide, rfl, rfl⟩
theorem zq144 {d : Nat} {m : zMm} {t : Int} {rest : List zV} {k : List zV → zMm → Prop} {V : zMm} (hA : gA V m) (ht : 0 ≤ t ∧ t < 256) : zcl (zEx (d + 1)) 144 2 (.inl t :: .inr (.inr 0) :: rest) m k = (zcat rest ≤ 8 ∧ k (.inr (.inl (gHn t (V 0 6).toNat)) :: rest) m) := by
  refine zcl_eq (as := [.inr (.inr 0), .inl t]) (r := some (.inr (.inl (gHn t (V 0 6).toNat)))) (zC_eq.mp (ze144 ?_)) rfl rfl
  have hb := gA_b hA
  simp +contextual (disch := (first | omega | assumption | decide)) only [↓zbrT, ↓zbrF, zw144_0, zw144_2, zw144_3, zw144_4, zw144_5, zr_1, zr_2, zr_3, zr_4, zr_5, zr_7, zr_8, zr_10, zr_12, zr_31, zr_35, zr_39, zr_53, zr_54, zr_56, zr_58, zr_71, zr_73, zlg_0, zlg_s, zls_0, zls_1, zls_s, zkl_i, zkl_r, zkl_l, zkl_n, zlL_0, zlL_1, zlL_s, zkd_0, zkd_105, zkd_21, zkd_3, zkd_67, zkd_86, zrf_0_3, Int.cast_ofNat_Int, Int.reduceAdd, zw_id, zwl_id, false_and, and_false, true_and, and_true, true_or, or_true, false_or, or_false, Option.toList, List.nil_append, List.cons_append, zif0, zif1, zif01, zem1, zem2, Int.reduceEq, Int.reduceLT, Int.reduceLE, Int.reduceNeg, Int.reduceSub, Int.reduceMul, if_true, if_false, not_false_eq_true, not_true_eq_false, true_implies, false_implies, Classical.not_not, Nat.reduceAdd, Nat.reduceLeDiff]
  refine zfor (V 0 6) (fun f lc m' => 0 ≤ f ∧ lc = [some (.inr (.inr 0)), some (.inl t), some (.inr (.inl (gHn t f.toNat))), none, some (.inl f)] ∧ m' = m) ?_ ?_ (i := 0) (by omega) ?_
  · rintro f lc m' hf ⟨h0, rfl, rfl⟩ kk
    have es := gHn_s (t := t) h0
    have b2 := gHn_pos t f.toNat (by omega)
    have b3 := gP12 (k := f.toNat) (by omega)
    rw [zw144_1]
    by_cases z : zbit t f = 1
    · rw [if_pos z] at es
      simp +contextual (disch := (first | omega | assumption | decide)) only [↓zbrT, ↓zbrF, zw144_0, zw144_2, zw144_3, zw144_4, zw144_5, zr_1, zr_2, zr_3, zr_4, zr_5, zr_7, zr_8, zr_10, zr_12, zr_31, zr_35, zr_39, zr_53, zr_54, zr_56, zr_58, zr_71, zr_73, zlg_0, zlg_s, zls_0, zls_1, zls_s, zkl_i, zkl_r, zkl_l, zkl_n, zlL_0, zlL_1, zlL_s, zkd_0, zkd_105, zkd_21, zkd_3, zkd_67, zkd_86, zrf_0_3, Int.cast_ofNat_Int, Int.reduceAdd, zw_id, zwl_id, false_and, and_false, true_and, and_true, true_or, or_true, false_or, or_false, Option.toList, List.nil_append, List.cons_append, zif0, zif1, zif01, zem1, zem2, Int.reduceEq, Int.reduceLT, Int.reduceLE, Int.reduceNeg, Int.reduceSub, Int.reduceMul, if_true, if_false, not_false_eq_true, not_true_eq_false, true_implies, false_implies, Classical.not_not, Nat.reduceAdd, Nat.reduceLeDiff, gA_0 hA.2.1, gA_1 hA.2.1, gA_2 hA.2.1, gA_3 hA.2.1, gA_4 hA.2.1, gA_5 hA.2.1, gA_6 hA.2.1, gA_7 hA.2.1, gA_8 hA.2.1, gA_9 hA.2.1, gA_r0 hA.2.1, gA_r1 hA.2.1, gA_r2 hA.2.1, gA_r3 hA.2.1, gA_f0 hA.2.1, gA_f1 hA.2.1, gA_f2 hA.2.1, gA_f3 hA.2.1, gA_f4 hA.2.1, gA_d hA, zbit_of, z]
      exact kk _ _ ⟨by omega, by rw [es], rfl⟩
    · rw [if_neg z, Int.mul_one] at es
      simp +contextual (disch := (first | omega | assumption | decide)) only [↓zbrT, ↓zbrF, zw144_0, zw144_2, zw144_3, zw144_4, zw144_5, zr_1, zr_2, zr_3, zr_4, zr_5, zr_7, zr_8, zr_10, zr_12, zr_31, zr_35, zr_39, zr_53, zr_54, zr_56, zr_58, zr_71, zr_73, zlg_0, zlg_s, zls_0, zls_1, zls_s, zkl_i, zkl_r, zkl_l, zkl_n, zlL_0, zlL_1, zlL_s, zkd_0, zkd_105, zkd_21, zkd_3, zkd_67, zkd_86, zrf_0_3, Int.cast_ofNat_Int, Int.reduceAdd, zw_id, zwl_id, false_and, and_false, true_and, and_true, true_or, or_true, false_or, or_false, Option.toList, List.nil_append, List.cons_append, zif0, zif1, zif01, zem1, zem2, Int.reduceEq, Int.reduceLT, Int.reduceLE, Int.reduceNeg, Int.reduceSub, Int.reduceMul, if_true, if_false, not_false_eq_true, not_true_eq_false, true_implies, false_implies, Classical.not_not, Nat.reduceAdd, Nat.reduceLeDiff, gA_0 hA.2.1, gA_1 hA.2.1, gA_2 hA.2.1, gA_3 hA.2.1, gA_4 hA.2.1, gA_5 hA.2.1, gA_6 hA.2.1, gA_7 hA.2.1, gA_8 hA.2.1, gA_9 hA.2.1, gA_r0 hA.2.1, gA_r1 hA.2.1, gA_r2 hA.2.1, gA_r3 hA.2.1, gA_f0 hA.2.1, gA_f1 hA.2.1, gA_f2 hA.2.1, gA_f3 hA.2.1, gA_f4 hA.2.1, gA_d hA, zbit_of, z]
      exact kk _ _ ⟨by omega, by rw [es], rfl⟩
  · rintro lc m' ⟨h0, rfl, rfl⟩
    rw [zw144_1]
    simp +contextual (disch := (first | omega | assumption | decide)) only [↓zbrT, ↓zbrF, zw144_0, zw144_2, zw144_3, zw144_4, zw144_5, zr_1, zr_2, zr_3, zr_4, zr_5, zr_7, zr_8, zr_10, zr_12, zr_31, zr_35, zr_39, zr_53, zr_54, zr_56, zr_58, zr_71, zr_73, zlg_0, zlg_s, zls_0, zls_1, zls_s, zkl_i, zkl_r, zkl_l, zkl_n, zlL_0, zlL_1, zlL_s, zkd_0, zkd_105, zkd_21, zkd_3, zkd_67, zkd_86, zrf_0_3, Int.cast_ofNat_Int, Int.reduceAdd, zw_id, zwl_id, false_and, and_false, true_and, and_true, true_or, or_true, false_or, or_false, Option.toList, List.nil_append, List.cons_append, zif0, zif1, zif01, zem1, zem2, Int.reduceEq, Int.reduceLT, Int.reduceLE, Int.reduceNeg, Int.reduceSub, Int.reduceMul, if_true, if_false, not_false_eq_true, not_true_eq_false, true_implies, false_implies, Classical.not_not, Nat.reduceAdd, Nat.reduceLeDiff, gA_0 hA.2.1, gA_1 hA.2.1, gA_2 hA.2.1, gA_3 hA.2.1, gA_4 hA.2.1, gA_5 hA.2.1, gA_6 hA.2.1, gA_7 hA.2.1, gA_8 hA.2.1, gA_9 hA.2.1, gA_r0 hA.2.1, gA_r1 hA.2.1, gA_r2 hA.2.1, gA_r3 hA.2.1, gA_f0 hA.2.1, gA_f1 hA.2.1, gA_f2 hA.2.1, gA_f3 hA.2.1, gA_f4 hA.2.1, gA_d hA]
  · exact ⟨by decide, rfl, rfl⟩
theorem zq286 {d : Nat} {m : zMm} {t : Int} {rest : List zV} {k : List zV → zMm → Prop} {V : zMm} (hV : gOk V) (hM : gMo V m) (ht : 0 ≤ t ∧ t < 256) : zcl (zEx (d + 2)) 286 2 (.inl t :: .inr (.inr 131) :: rest) m k = (zcat rest ≤ 8 ∧ k (.inr (.inl (gSl V t (V 0 6).toNat)) :: rest) m) := by
  refine zcl_eq (as := [.inr (.inr 131), .inl t]) (r := some (.inr (.inl (gSl V t (V 0 6).toNat)))) (zC_eq.mp (ze286 ?_)) rfl rfl
  have hb := hV.1
  simp +contextual (disch := (first | omega | assumption | decide)) only [↓zbrT, ↓zbrF, zw286_0, zw286_2, zw286_3, zw286_4, zw286_5, zw286_6, zr_1, zr_2, zr_3, zr_4, zr_5, zr_7, zr_8, zr_12, zr_16, zr_26, zr_27, zr_28, zr_39, zr_46, zr_53, zr_54, zr_58, zr_61, zr_69, zr_71, zr_73, zlg_0, zlg_s, zls_0, zls_1, zls_s, zkl_i, zkl_r, zkl_l, zkl_n, zlL_0, zlL_1, zlL_s, zcat_n, zcat_i, zcat_l, zcat_r, zkd_131, zkd_138, zkd_140, zln_138, zln_140, zrf_131_17, zrf_131_19, Int.cast_ofNat_Int, Int.reduceAdd, zbd, zw_id, zwl_id, false_and, and_false, true_and, and_true, true_or, or_true, false_or, or_false, Option.toList, List.nil_append, List.cons_append, zif0, zif1, zif01, zem1, zem2, Int.reduceEq, Int.reduceLT, Int.reduceLE, Int.reduceNeg, Int.reduceSub, Int.reduceMul, if_true, if_false, not_false_eq_true, not_true_eq_false, true_implies, false_implies, Classical.not_not, Nat.reduceAdd, Nat.reduceLeDiff]
  refine zfor (V 0 6) (fun f lc m' => 0 ≤ f ∧ lc = [some (.inr (.inr 131)), some (.inl t), some (.inr (.inl (gSl V t f.toNat))), none, some (.inl f)] ∧ m' = m) ?_ ?_ (i := 0) (by omega) ?_
  · rintro f lc m' hf ⟨h0, rfl, rfl⟩ kk
    have es := gSl_s (V := V) (t := t) h0
    have b1 := gSl_bd hV t f.toNat (by omega)
    have b2 := gHn_pos t f.toNat (by omega)
    have b3 := gP12 (k := f.toNat) (by omega)
    have b4 := (hV.2.2 f h0 hf).2.2.2.2.2
    have b5 : 0 ≤ gSl V t f.toNat * (100 - vF V f 4) ∧ gSl V t f.toNat * (100 - vF V f 4) ≤ 1000000000000 * 100 := ⟨Int.mul_nonneg b1.1 (by omega), Int.mul_le_mul (by omega) (by omega) (by omega) (by decide)⟩
    rw [zw286_1]
    by_cases z : zbit t f = 1
    · rw [if_pos z] at es
      simp +contextual (disch := (first | omega | assumption | decide)) only [↓zbrT, ↓zbrF, zw286_0, zw286_2, zw286_3, zw286_4, zw286_5, zw286_6, zr_1, zr_2, zr_3, zr_4, zr_5, zr_7, zr_8, zr_12, zr_16, zr_26, zr_27, zr_28, zr_39, zr_46, zr_53, zr_54, zr_58, zr_61, zr_69, zr_71, zr_73, zlg_0, zlg_s, zls_0, zls_1, zls_s, zkl_i, zkl_r, zkl_l, zkl_n, zlL_0, zlL_1, zlL_s, zcat_n, zcat_i, zcat_l, zcat_r, zkd_131, zkd_138, zkd_140, zln_138, zln_140, zrf_131_17, zrf_131_19, Int.cast_ofNat_Int, Int.reduceAdd, zbd, zw_id, zwl_id, false_and, and_false, true_and, and_true, true_or, or_true, false_or, or_false, Option.toList, List.nil_append, List.cons_append, zif0, zif1, zif01, zem1, zem2, Int.reduceEq, Int.reduceLT, Int.reduceLE, Int.reduceNeg, Int.reduceSub, Int.reduceMul, if_true, if_false, not_false_eq_true, not_true_eq_false, true_implies, false_implies, Classical.not_not, Nat.reduceAdd, Nat.reduceLeDiff, gM_0 hM, gM_1 hM, gM_2 hM, gM_3 hM, gM_4 hM, gM_5 hM, gM_6 hM, gM_7 hM, gM_8 hM, gM_9 hM, gM_10 hM, gM_r0 hM, gM_r1 hM, gM_r2 hM, gM_r3 hM, gM_f0 hM, gM_f1 hM, gM_f2 hM, gM_f3 hM, gM_f4 hM, zq207, z]
      exact kk _ _ ⟨by omega, by rw [es], rfl⟩
    · rw [if_neg z] at es
      have z0 : zbit t f = 0 := by have := zbit_01 t f; omega
      simp +contextual (disch := (first | omega | assumption | decide)) only [↓zbrT, ↓zbrF, zw286_0, zw286_2, zw286_3, zw286_4, zw286_5, zw286_6, zr_1, zr_2, zr_3, zr_4, zr_5, zr_7, zr_8, zr_12, zr_16, zr_26, zr_27, zr_28, zr_39, zr_46, zr_53, zr_54, zr_58, zr_61, zr_69, zr_71, zr_73, zlg_0, zlg_s, zls_0, zls_1, zls_s, zkl_i, zkl_r, zkl_l, zkl_n, zlL_0, zlL_1, zlL_s, zcat_n, zcat_i, zcat_l, zcat_r, zkd_131, zkd_138, zkd_140, zln_138, zln_140, zrf_131_17, zrf_131_19, Int.cast_ofNat_Int, Int.reduceAdd, zbd, zw_id, zwl_id, false_and, and_false, true_and, and_true, true_or, or_true, false_or, or_false, Option.toList, List.nil_append, List.cons_append, zif0, zif1, zif01, zem1, zem2, Int.reduceEq, Int.reduceLT, Int.reduceLE, Int.reduceNeg, Int.reduceSub, Int.reduceMul, if_true, if_false, not_false_eq_true, not_true_eq_false, true_implies, false_implies, Classical.not_not, Nat.reduceAdd, Nat.reduceLeDiff, gM_0 hM, gM_1 hM, gM_2 hM, gM_3 hM, gM_4 hM, gM_5 hM, gM_6 hM, gM_7 hM, gM_8 hM, gM_9 hM, gM_10 hM, gM_r0 hM, gM_r1 hM, gM_r2 hM, gM_r3 hM, gM_f0 hM, gM_f1 hM, gM_f2 hM, gM_f3 hM, gM_f4 hM, zq207, z0]
      exact kk _ _ ⟨by omega, by rw [es], rfl⟩
  · rintro lc m' ⟨h0, rfl, rfl⟩
    rw [zw286_1]
    simp +contextual (disch := (first | omega | assumption | decide)) only [↓zbrT, ↓zbrF, zw286_0, zw286_2, zw286_3, zw286_4, zw286_5, zw286_6, zr_1, zr_2, zr_3, zr_4, zr_5, zr_7, zr_8, zr_12, zr_16, zr_26, zr_27, zr_28, zr_39, zr_46, zr_53, zr_54, zr_58, zr_61, zr_69, zr_71, zr_73, zlg_0, zlg_s, zls_0, zls_1, zls_s, zkl_i, zkl_r, zkl_l, zkl_n, zlL_0, zlL_1, zlL_s, zcat_n, zcat_i, zcat_l, zcat_r, zkd_131, zkd_138, zkd_140, zln_138, zln_140, zrf_131_17, zrf_131_19, Int.cast_ofNat_Int, Int.reduceAdd, zbd, zw_id, zwl_id, false_and, and_false, true_and, and_true, true_or, or_true, false_or, or_false, Option.toList, List.nil_append, List.cons_append, zif0, zif1, zif01, zem1, zem2, Int.reduceEq, Int.reduceLT, Int.reduceLE, Int.reduceNeg, Int.reduceSub, Int.reduceMul, if_true, if_false, not_false_eq_true, not_true_eq_false, true_implies, false_implies, Classical.not_not, Nat.reduceAdd, Nat.reduceLeDiff, gM_0 hM, gM_1 hM, gM_2 hM, gM_3 hM, gM_4 hM, gM_5 hM, gM_6 hM, gM_7 hM, gM_8 hM, gM_9 hM, gM_10 hM, gM_r0 hM, gM_r1 hM, gM_r2 hM, gM_r3 hM, gM_f0 hM, gM_f1 hM, gM_f2 hM, gM_f3 hM, gM_f4 hM]
  · exact ⟨by decide, rfl, rfl⟩
theorem zq287 {d : Nat} {m : zMm} {n : Int} {rest : List zV} {k : List zV → zMm → Prop} (hn : 0 ≤ n ∧ n ≤ 6) : zcl (zEx (d + 1)) 287 1 (.inl n :: rest) m k = (zcat rest ≤ 8 ∧ k (.inr (.inl (100 ^ n.toNat)) :: rest) m) := by
  refine zcl_eq (as := [.inl n]) (r := some (.inr (.inl (100 ^ n.toNat)))) (zC_eq.mp (ze287 ?_)) rfl rfl
  simp +contextual (disch := (first | omega | assumption | decide)) only [↓zbrT, ↓zbrF, zw287_0, zw287_2, zw287_3, zr_1, zr_2, zr_4, zr_5, zr_7, zr_8, zr_39, zr_53, zr_54, zr_58, zr_71, zr_73, zlg_0, zlg_s, zls_0, zls_1, zls_s, zkl_i, zkl_r, zkl_l, zkl_n, zlL_0, zlL_1, zlL_s, Int.cast_ofNat_Int, zw_id, zwl_id, false_and, and_false, true_and, and_true, true_or, or_true, false_or, or_false, Option.toList, List.nil_append, List.cons_append, zif0, zif1, zif01, zem1, zem2, Int.reduceEq, Int.reduceLT, Int.reduceLE, Int.reduceNeg, Int.reduceSub, Int.reduceMul, Int.reduceAdd, if_true, if_false, not_false_eq_true, not_true_eq_false, true_implies, false_implies, Classical.not_not, Nat.reduceAdd, Nat.reduceLeDiff]
  refine zfor n (fun i lc m' => 0 ≤ i ∧ lc = [some (.inl n), some (.inr (.inl (100 ^ i.toNat))), none, some (.inl i)] ∧ m' = m) ?_ ?_ (i := 0) hn.1 ?_
  · rintro i lc m' hi ⟨h0, rfl, rfl⟩ kk
    have b3 := gP12 (k := i.toNat) (by omega)
    rw [zw287_1]
    simp +contextual (disch := (first | omega | assumption | decide)) only [↓zbrT, ↓zbrF, zw287_0, zw287_2, zw287_3, zr_1, zr_2, zr_4, zr_5, zr_7, zr_8, zr_39, zr_53, zr_54, zr_58, zr_71, zr_73, zlg_0, zlg_s, zls_0, zls_1, zls_s, zkl_i, zkl_r, zkl_l, zkl_n, zlL_0, zlL_1, zlL_s, Int.cast_ofNat_Int, zw_id, zwl_id, false_and, and_false, true_and, and_true, true_or, or_true, false_or, or_false, Option.toList, List.nil_append, List.cons_append, zif0, zif1, zif01, zem1, zem2, Int.reduceEq, Int.reduceLT, Int.reduceLE, Int.reduceNeg, Int.reduceSub, Int.reduceMul, Int.reduceAdd, if_true, if_false, not_false_eq_true, not_true_eq_false, true_implies, false_implies, Classical.not_not, Nat.reduceAdd, Nat.reduceLeDiff]
    exact kk _ _ ⟨by omega, by rw [show (i + 1).toNat = i.toNat + 1 by omega, Int.pow_succ], rfl⟩
  · rintro lc m' ⟨h0, rfl, rfl⟩
    rw [zw287_1]
    simp +contextual (disch := (first | omega | assumption | decide)) only [↓zbrT, ↓zbrF, zw287_0, zw287_2, zw287_3, zr_1, zr_2, zr_4, zr_5, zr_7, zr_8, zr_39, zr_53, zr_54, zr_58, zr_71, zr_73, zlg_0, zlg_s, zls_0, zls_1, zls_s, zkl_i, zkl_r, zkl_l, zkl_n, zlL_0, zlL_1, zlL_s, Int.cast_ofNat_Int, zw_id, zwl_id, false_and, and_false, true_and, and_true, true_or, or_true, false_or, or_false, Option.toList, List.nil_append, List.cons_append, zif0, zif1, zif01, zem1, zem2, Int.reduceEq, Int.reduceLT, Int.reduceLE, Int.reduceNeg, Int.reduceSub, Int.reduceMul, Int.reduceAdd, if_true, if_false, not_false_eq_true, not_true_eq_false, true_implies, false_implies, Classical.not_not, Nat.reduceAdd, Nat.reduceLeDiff]
  · exact ⟨by decide, rfl, rfl⟩
/-- a hundred for each of a set -/
theorem gHn_pc (t : Int) : ∀ k : Nat, gHn t k = 100 ^ (gSm (fun j => zbit t j) k).toNat ∧ 0 ≤ gSm (fun j => zbit t j) k
  | 0 => ⟨rfl, Int.le_refl _⟩
  | k + 1 => by
    have i := gHn_pc t k
    have e : gSm (fun j => zbit t j) (k + 1) = gSm (fun j => zbit t j) k + zbit t k := rfl
    show gHn t k * (if zbit t k = 1 then 100 else 1) = _ ∧ _
    rcases zbit_01 t k with z | z
    · rw [e, z, if_neg (by decide), Int.mul_one, Int.add_zero]; exact i
    · rw [e, z, if_pos rfl, i.1, ← Int.pow_succ]
      exact ⟨by rw [show (gSm (fun j => zbit t j) k + 1).toNat = (gSm (fun j => zbit t j) k).toNat + 1 by omega], by omega⟩
theorem gp2 (M : Nat) : ∀ k : Nat, (2 : Int) ^ M ≤ 2 ^ (M + k) ∧ (0 : Int) < 2 ^ (M + k)
  | 0 => ⟨Int.le_refl _, Int.pow_pos (by decide)⟩
  | k + 1 => by
    have i := gp2 M k
    have e : (2 : Int) ^ (M + (k + 1)) = 2 ^ (M + k) * 2 := Int.pow_succ 2 (M + k)
    rw [e]
    omega
theorem gpc_M {t : Int} : ∀ (k M : Nat), (0 ≤ t ∧ t < 2 ^ M) → gSm (fun j => zbit t j) (M + k) = gSm (fun j => zbit t j) M
  | 0, M, _ => rfl
  | k + 1, M, h => by
    show gSm (fun j => zbit t j) (M + k) + zbit t ((M + k : Nat) : Int) = _
    rw [gpc_M k M h]
    have : zbit t ((M + k : Nat) : Int) = 0 := by
      unfold zbit
      rw [Int.toNat_natCast, Int.ediv_eq_zero_of_lt h.1 (Int.lt_of_lt_of_le h.2 (gp2 M k).1)]
      rfl
    omega
theorem gHn_z {V : zMm} (hV : gOk V) {t : Int} (ht : 0 ≤ t ∧ t < 2 ^ (V 0 6).toNat) : gHn t (V 0 6).toNat = 100 ^ (zpc t).toNat ∧ zpc t ≤ 6 ∧ 0 ≤ zpc t ∧ t < 256 := by
  have hb := hV.1
  have e1 := gpc_M (8 - (V 0 6).toNat) (V 0 6).toNat ht
  rw [show (V 0 6).toNat + (8 - (V 0 6).toNat) = 8 by omega] at e1
  have e2 : gSm (fun j => zbit t j) 8 = zpc t := by
    show 0 + zbit t ((0 : Nat) : Int) + zbit t ((1 : Nat) : Int) + zbit t ((2 : Nat) : Int) + zbit t ((3 : Nat) : Int) + zbit t ((4 : Nat) : Int) + zbit t ((5 : Nat) : Int) + zbit t ((6 : Nat) : Int) + zbit t ((7 : Nat) : Int) = zpc t
    unfold zpc
    rw [Int.zero_add]
    rfl
  have e3 := gHn_pc t (V 0 6).toNat
  have e4 := gSm_bd (g := fun j => zbit t j) (B := 1) (V 0 6).toNat (fun r _ => by have := zbit_01 t r; show 0 ≤ zbit t r ∧ zbit t r ≤ 1; omega)
  have e5 : (2 : Int) ^ (V 0 6).toNat ≤ 2 ^ 6 := by
    have := (gp2 (V 0 6).toNat (6 - (V 0 6).toNat)).1
    rw [show (V 0 6).toNat + (6 - (V 0 6).toNat) = 6 by omega] at this
    exact this
  rw [← e1, e2] at e3 e4
  have e6 : (2 : Int) ^ 6 = 64 := by decide
  exact ⟨e3.1, by omega, e3.2, by omega⟩
/-! ===== the common divisor ===== -/
def gGc (a b : Int) : Int := (Nat.gcd a.toNat b.toNat : Nat)
theorem gGc_step {a b : Int} (ha : 0 ≤ a) (hb : 0 < b) : gGc b (a % b) = gGc a b := by
  unfold gGc
  have e : (a % b).toNat = a.toNat % b.toNat := by
    obtain ⟨n, rfl⟩ : ∃ n : Nat, a = n := ⟨a.toNat, by omega⟩
    obtain ⟨k, rfl⟩ : ∃ n : Nat, b = n := ⟨b.toNat, by omega⟩
    rw [← Int.natCast_emod, Int.toNat_natCast, Int.toNat_natCast, Int.toNat_natCast]
  rw [e, Nat.gcd_comm a.toNat, Nat.gcd_rec b.toNat a.toNat, Nat.gcd_comm]
theorem gGc_0 {a : Int} (ha : 0 ≤ a) : gGc a 0 = a := by
  unfold gGc
  rw [show (0 : Int).toNat = 0 from rfl, Nat.gcd_zero_right]; omega
theorem gGc_c {a b : Int} : gGc a b = gGc b a := by unfold gGc; rw [Nat.gcd_comm]
theorem gmod2 {a b : Int} (hb : 0 < b) (hab : b ≤ a) : 0 ≤ a % b ∧ a % b < b ∧ 2 * (a % b) ≤ a := by
  have h1 := Int.emod_nonneg a (show b ≠ 0 by omega)
  have h2 := Int.emod_lt_of_pos a hb
  have h3 := Int.emod_add_mul_ediv a b
  have h4 : 1 ≤ a / b := by
    have := Int.ediv_le_ediv hb hab
    rw [Int.ediv_self (by omega)] at this
    exact this
  have h5 : b * 1 ≤ b * (a / b) := Int.mul_le_mul_of_nonneg_left h4 (by omega)
  omega
theorem gprod {a b P : Int} (hb : 0 < b) (hab : b ≤ a) (h : a * b < P + P) : b * (a % b) < P := by
  have q := gmod2 hb hab
  have h1 : b * (2 * (a % b)) ≤ b * a := Int.mul_le_mul_of_nonneg_left q.2.2 (by omega)
  have h2 : b * (2 * (a % b)) = 2 * (b * (a % b)) := by rw [← Int.mul_assoc, Int.mul_comm b 2, Int.mul_assoc]
  have h3 : b * a = a * b := Int.mul_comm b a
  omega
theorem gz285 : ∀ (k : Nat) {d : Nat} {m : zMm} {a b : Int}, (0 ≤ b ∧ b ≤ a ∧ a ≤ 1000000000000) → a * b < 2 ^ k → zEx (d + k + 1) 285 [.inr (.inl a), .inr (.inl b)] m (some (.inr (.inl (gGc a b)))) m
  | k, d, m, a, b, h, hp => by
    refine zC_eq.mp (ze285 ?_)
    by_cases c : b = 0
    · subst c
      simp +contextual (disch := (first | omega | assumption | decide)) only [↓zbrT, ↓zbrF, zw285_0, zw285_1, zw285_2, zw285_3, zr_2, zr_8, zr_41, zr_45, zr_54, zr_62, zr_69, zr_71, zr_73, zlg_0, zlg_s, zcat_n, zcat_i, zcat_l, zcat_r, Int.cast_ofNat_Int, zwl_id, zlc_lt, zlc_ge, zlc_gt, zlc_le, zlc_eq, zlrem_pos, false_and, and_false, true_and, and_true, true_or, or_true, false_or, or_false, Option.toList, List.nil_append, List.cons_append, zif0, zif1, zif01, zem1, zem2, Int.reduceEq, Int.reduceLT, Int.reduceLE, Int.reduceNeg, Int.reduceSub, Int.reduceMul, Int.reduceAdd, if_true, if_false, not_false_eq_true, not_true_eq_false, true_implies, false_implies, Classical.not_not, Nat.reduceAdd, Nat.reduceLeDiff]
      rw [gGc_0 (by omega)]
    · cases k with
      | zero =>
        exfalso
        have h1 : 1 * 1 ≤ a * b := Int.mul_le_mul (by omega) (by omega) (by decide) (by omega)
        rw [Int.pow_zero] at hp
        omega
      | succ k =>
        have q := gmod2 (a := a) (b := b) (by omega) h.2.1
        have e2 : (2 : Int) ^ (k + 1) = 2 ^ k + 2 ^ k := by rw [Int.pow_succ]; omega
        have hp2 := gprod (a := a) (b := b) (P := 2 ^ k) (by omega) h.2.1 (by omega)
        have ih := gz285 k (d := d) (m := m) (a := b) (b := a % b) ⟨q.1, by omega, by omega⟩ hp2
        simp +contextual (disch := (first | omega | assumption | decide)) only [↓zbrT, ↓zbrF, zw285_0, zw285_1, zw285_2, zw285_3, zr_2, zr_8, zr_41, zr_45, zr_54, zr_62, zr_69, zr_71, zr_73, zlg_0, zlg_s, zcat_n, zcat_i, zcat_l, zcat_r, Int.cast_ofNat_Int, zwl_id, zlc_lt, zlc_ge, zlc_gt, zlc_le, zlc_eq, zlrem_pos, false_and, and_false, true_and, and_true, true_or, or_true, false_or, or_false, Option.toList, List.nil_append, List.cons_append, zif0, zif1, zif01, zem1, zem2, Int.reduceEq, Int.reduceLT, Int.reduceLE, Int.reduceNeg, Int.reduceSub, Int.reduceMul, Int.reduceAdd, if_true, if_false, not_false_eq_true, not_true_eq_false, true_implies, false_implies, Classical.not_not, Nat.reduceAdd, Nat.reduceLeDiff, c]
        refine gK (zC_eq.mpr ih) rfl rfl (Nat.le_of_ble_eq_true rfl) ?_
        rintro _ _ ⟨rfl, rfl⟩
        simp +contextual (disch := (first | omega | assumption | decide)) only [↓zbrT, ↓zbrF, zw285_0, zw285_1, zw285_2, zw285_3, zr_2, zr_8, zr_41, zr_45, zr_54, zr_62, zr_69, zr_71, zr_73, zlg_0, zlg_s, zcat_n, zcat_i, zcat_l, zcat_r, Int.cast_ofNat_Int, zwl_id, zlc_lt, zlc_ge, zlc_gt, zlc_le, zlc_eq, zlrem_pos, false_and, and_false, true_and, and_true, true_or, or_true, false_or, or_false, Option.toList, List.nil_append, List.cons_append, zif0, zif1, zif01, zem1, zem2, Int.reduceEq, Int.reduceLT, Int.reduceLE, Int.reduceNeg, Int.reduceSub, Int.reduceMul, Int.reduceAdd, if_true, if_false, not_false_eq_true, not_true_eq_false, true_implies, false_implies, Classical.not_not, Nat.reduceAdd, Nat.reduceLeDiff]
        rw [gGc_step (by omega) (by omega)]
theorem zq146 {d : Nat} {m : zMm} {a : Int} {b : Int} {rest : List zV} {k : List zV → zMm → Prop} (h : 0 ≤ a ∧ a ≤ b ∧ b ≤ 1000000000000) : zcl (zEx (d + 1)) 146 2 (.inr (.inl b) :: .inr (.inl a) :: rest) m k = (zcat rest ≤ 8 ∧ k (.inr (.inl (gGc a b)) :: rest) m) := by
  refine zcl_eq (as := [.inr (.inl a), .inr (.inl b)]) (r := some (.inr (.inl (gGc a b)))) (zC_eq.mp (ze146 ?_)) rfl rfl
  simp +contextual (disch := (first | omega | assumption | decide)) only [↓zbrT, ↓zbrF, zw146_0, zw146_2, zw146_3, zw146_4, zr_1, zr_2, zr_4, zr_5, zr_7, zr_8, zr_41, zr_45, zr_53, zr_54, zr_58, zr_61, zr_71, zr_73, zlg_0, zlg_s, zls_0, zls_1, zls_s, zkl_i, zkl_r, zkl_l, zkl_n, zlL_0, zlL_1, zlL_s, Int.cast_ofNat_Int, zw_id, zwl_id, zlc_lt, zlc_ge, zlc_gt, zlc_le, zlc_eq, zlrem_pos, false_and, and_false, true_and, and_true, true_or, or_true, false_or, or_false, Option.toList, List.nil_append, List.cons_append, zif0, zif1, zif01, zem1, zem2, Int.reduceEq, Int.reduceLT, Int.reduceLE, Int.reduceNeg, Int.reduceSub, Int.reduceMul, Int.reduceAdd, if_true, if_false, not_false_eq_true, not_true_eq_false, true_implies, false_implies, Classical.not_not, Nat.reduceAdd, Nat.reduceLeDiff]
  refine zfor 128 (fun i lc m' => 0 ≤ i ∧ (∃ x y r9 r10, lc = [some (.inr (.inl a)), none, some (.inr (.inl b)), none, some (.inr (.inl x)), none, some (.inr (.inl y)), none, some (.inl i), r9, r10] ∧ (0 ≤ y ∧ y ≤ x ∧ x ≤ 1000000000000) ∧ gGc x y = gGc a b ∧ (i ≤ 100 → x * y < 2 ^ (100 - i).toNat) ∧ (100 ≤ i → y = 0)) ∧ m' = m) ?_ ?_ (i := 0) (by decide) ?_
  · rintro i lc m' hi ⟨h0, ⟨x, y, r9, r10, rfl, hxy, hg, hp, hz⟩, rfl⟩ kk
    rw [zw146_1]
    by_cases c : y = 0
    · subst c
      simp +contextual (disch := (first | omega | assumption | decide)) only [↓zbrT, ↓zbrF, zw146_0, zw146_2, zw146_3, zw146_4, zr_1, zr_2, zr_4, zr_5, zr_7, zr_8, zr_41, zr_45, zr_53, zr_54, zr_58, zr_61, zr_71, zr_73, zlg_0, zlg_s, zls_0, zls_1, zls_s, zkl_i, zkl_r, zkl_l, zkl_n, zlL_0, zlL_1, zlL_s, Int.cast_ofNat_Int, zw_id, zwl_id, zlc_lt, zlc_ge, zlc_gt, zlc_le, zlc_eq, zlrem_pos, false_and, and_false, true_and, and_true, true_or, or_true, false_or, or_false, Option.toList, List.nil_append, List.cons_append, zif0, zif1, zif01, zem1, zem2, Int.reduceEq, Int.reduceLT, Int.reduceLE, Int.reduceNeg, Int.reduceSub, Int.reduceMul, Int.reduceAdd, if_true, if_false, not_false_eq_true, not_true_eq_false, true_implies, false_implies, Classical.not_not, Nat.reduceAdd, Nat.reduceLeDiff]
      rw [← hg, gGc_0 (by omega)]
    · have i1 : i < 100 := by
        by_cases z : i < 100
        · exact z
        · exact absurd (hz (by omega)) c
      have q := gmod2 (a := x) (b := y) (by omega) hxy.2.1
      have hp1 := hp (by omega)
      have e2 : (2 : Int) ^ (100 - i).toNat = 2 ^ (100 - (i + 1)).toNat + 2 ^ (100 - (i + 1)).toNat := by rw [show (100 - i).toNat = (100 - (i + 1)).toNat + 1 by omega, Int.pow_succ]; omega
      have hp2 := gprod (a := x) (b := y) (P := 2 ^ (100 - (i + 1)).toNat) (by omega) hxy.2.1 (by omega)
      simp +contextual (disch := (first | omega | assumption | decide)) only [↓zbrT, ↓zbrF, zw146_0, zw146_2, zw146_3, zw146_4, zr_1, zr_2, zr_4, zr_5, zr_7, zr_8, zr_41, zr_45, zr_53, zr_54, zr_58, zr_61, zr_71, zr_73, zlg_0, zlg_s, zls_0, zls_1, zls_s, zkl_i, zkl_r, zkl_l, zkl_n, zlL_0, zlL_1, zlL_s, Int.cast_ofNat_Int, zw_id, zwl_id, zlc_lt, zlc_ge, zlc_gt, zlc_le, zlc_eq, zlrem_pos, false_and, and_false, true_and, and_true, true_or, or_true, false_or, or_false, Option.toList, List.nil_append, List.cons_append, zif0, zif1, zif01, zem1, zem2, Int.reduceEq, Int.reduceLT, Int.reduceLE, Int.reduceNeg, Int.reduceSub, Int.reduceMul, Int.reduceAdd, if_true, if_false, not_false_eq_true, not_true_eq_false, true_implies, false_implies, Classical.not_not, Nat.reduceAdd, Nat.reduceLeDiff, c]
      refine kk _ _ ⟨by omega, ⟨y, x % y, some (.inr (.inl (x % y))), none, rfl, ⟨q.1, by omega, by omega⟩, by rw [gGc_step (by omega) (by omega)]; exact hg, fun _ => hp2, fun z => ?_⟩, rfl⟩
      have i99 : i = 99 := by omega
      subst i99
      rw [show ((100 : Int) - (99 + 1)).toNat = 0 from rfl, Int.pow_zero] at hp2
      by_cases y0 : x % y = 0
      · exact y0
      · have : 1 * 1 ≤ y * (x % y) := Int.mul_le_mul (by omega) (by omega) (by decide) (by omega)
        omega
  · rintro lc m' ⟨h0, ⟨x, y, r9, r10, rfl, hxy, hg, hp, hz⟩, rfl⟩
    have y0 := hz (by decide)
    subst y0
    rw [zw146_1]
    simp +contextual (disch := (first | omega | assumption | decide)) only [↓zbrT, ↓zbrF, zw146_0, zw146_2, zw146_3, zw146_4, zr_1, zr_2, zr_4, zr_5, zr_7, zr_8, zr_41, zr_45, zr_53, zr_54, zr_58, zr_61, zr_71, zr_73, zlg_0, zlg_s, zls_0, zls_1, zls_s, zkl_i, zkl_r, zkl_l, zkl_n, zlL_0, zlL_1, zlL_s, Int.cast_ofNat_Int, zw_id, zwl_id, zlc_lt, zlc_ge, zlc_gt, zlc_le, zlc_eq, zlrem_pos, false_and, and_false, true_and, and_true, true_or, or_true, false_or, or_false, Option.toList, List.nil_append, List.cons_append, zif0, zif1, zif01, zem1, zem2, Int.reduceEq, Int.reduceLT, Int.reduceLE, Int.reduceNeg, Int.reduceSub, Int.reduceMul, Int.reduceAdd, if_true, if_false, not_false_eq_true, not_true_eq_false, true_implies, false_implies, Classical.not_not, Nat.reduceAdd, Nat.reduceLeDiff]
    rw [← hg, gGc_0 (by omega)]
  · refine ⟨by decide, ⟨b, a, _, _, rfl, ⟨h.1, h.2.1, h.2.2⟩, gGc_c, fun _ => ?_, fun z => by omega⟩, rfl⟩
    have h1 : b * a ≤ 1000000000000 * 1000000000000 := Int.mul_le_mul h.2.2 (by omega) h.1 (by decide)
    have h2 : (1000000000000 : Int) * 1000000000000 < 2 ^ (100 - (0 : Int)).toNat := by decide
    omega
def sp145 (V : zMm) (t w : Int) : Int := if (¬ V 0 10 = 0 ∧ (0 ≤ t ∧ t ≤ 2 ^ (V 0 6).toNat - 1)) ∧ (0 ≤ w ∧ w ≤ 1) then (if w = 0 then gSl V t (V 0 6).toNat / gGc (gSl V t (V 0 6).toNat) (gHn t (V 0 6).toNat) else gHn t (V 0 6).toNat / gGc (gSl V t (V 0 6).toNat) (gHn t (V 0 6).toNat)) else -2
theorem gGc_pos {a b : Int} (hb : 0 < b) : 1 ≤ gGc a b := by
  unfold gGc
  have := Nat.gcd_pos_of_pos_right a.toNat (show 0 < b.toNat by omega)
  omega
theorem gz145 {d : Nat} {m : zMm} {t : Int} {w : Int} {V : zMm} (hI : gI V m) : zC (d + 3) 145 [.inr (.inr 0), .inl t, .inl w] m (fun r' m' => r' = some (.inr (.inl (sp145 V t w))) ∧ gI V m' ∧ gX m m') := by
  refine ze145 ?_
  have hb := hI.1.1.1
  have h9 : 0 ≤ m 21 9 ∧ m 21 9 ≤ 6 := by rw [gA_9 hI.1.2.1]; omega
  unfold sp145
  by_cases c1 : V 0 10 = 0
  · rw [if_neg (fun z => z.1.1 c1)]
    simp +contextual (disch := (first | omega | assumption | decide)) only [↓zbrT, ↓zbrF, zw145_0, zw145_1, zw145_2, zw145_3, zw145_4, zw145_5, zw145_6, zw145_7, zw145_8, zw145_9, zr_1, zr_2, zr_3, zr_5, zr_7, zr_8, zr_12, zr_40, zr_45, zr_54, zr_61, zr_62, zr_65, zr_68, zr_69, zr_71, zr_73, zlg_0, zlg_s, zls_0, zls_1, zls_s, zkl_i, zkl_r, zkl_l, zkl_n, zlL_0, zlL_1, zlL_s, zrc_1, zrc_s, zcat_n, zcat_i, zcat_l, zcat_r, zkd_0, zkd_105, zkd_21, zkd_3, zkd_67, zkd_86, zrf_0_3, Int.cast_ofNat_Int, Int.reduceAdd, zwl_id, zlc_lt, zlc_ge, zlc_gt, zlc_le, zlc_eq, zldiv_pos, false_and, and_false, true_and, and_true, true_or, or_true, false_or, or_false, Option.toList, List.nil_append, List.cons_append, zif0, zif1, zif01, zem1, zem2, Int.reduceEq, Int.reduceLT, Int.reduceLE, Int.reduceNeg, Int.reduceSub, Int.reduceMul, if_true, if_false, not_false_eq_true, not_true_eq_false, true_implies, false_implies, Classical.not_not, Nat.reduceAdd, Nat.reduceLeDiff, zq74, gA_0 hI.1.2.1, gA_1 hI.1.2.1, gA_2 hI.1.2.1, gA_3 hI.1.2.1, gA_4 hI.1.2.1, gA_5 hI.1.2.1, gA_6 hI.1.2.1, gA_7 hI.1.2.1, gA_8 hI.1.2.1, gA_9 hI.1.2.1, gA_r0 hI.1.2.1, gA_r1 hI.1.2.1, gA_r2 hI.1.2.1, gA_r3 hI.1.2.1, gA_f0 hI.1.2.1, gA_f1 hI.1.2.1, gA_f2 hI.1.2.1, gA_f3 hI.1.2.1, gA_f4 hI.1.2.1, gA_d hI.1, gI_s0 hI, gI_s1 hI, gI_s2 hI, gI_s3 hI, gI_s4 hI, gI_s5 hI, gI_n hI, if_pos c1]
    (first | exact ⟨hI, gX_refl⟩ | exact ⟨rfl, hI, gX_refl⟩)
  · by_cases c2 : 0 ≤ t ∧ t ≤ 2 ^ (V 0 6).toNat - 1
    · by_cases c3 : 0 ≤ w ∧ w ≤ 1
      · rw [if_pos ⟨⟨c1, c2⟩, c3⟩]
        have hz := gHn_z hI.1.1 (t := t) ⟨c2.1, by omega⟩
        have b1 := gSl_bd hI.1.1 t (V 0 6).toNat (by omega)
        have b2 := gHn_pos t (V 0 6).toNat (by omega)
        have b3 := gP12 (k := (V 0 6).toNat) (by omega)
        have gp := gGc_pos (a := gSl V t (V 0 6).toNat) (b := gHn t (V 0 6).toNat) (by omega)
        have gn : ¬ gGc (gSl V t (V 0 6).toNat) (gHn t (V 0 6).toNat) = 0 := by omega
        by_cases w0 : w = 0
        · subst w0
          rw [if_pos rfl]
          simp +contextual (disch := (first | omega | assumption | decide)) only [↓zbrT, ↓zbrF, zw145_0, zw145_1, zw145_2, zw145_3, zw145_4, zw145_5, zw145_6, zw145_7, zw145_8, zw145_9, zr_1, zr_2, zr_3, zr_5, zr_7, zr_8, zr_12, zr_40, zr_45, zr_54, zr_61, zr_62, zr_65, zr_68, zr_69, zr_71, zr_73, zlg_0, zlg_s, zls_0, zls_1, zls_s, zkl_i, zkl_r, zkl_l, zkl_n, zlL_0, zlL_1, zlL_s, zrc_1, zrc_s, zcat_n, zcat_i, zcat_l, zcat_r, zkd_0, zkd_105, zkd_21, zkd_3, zkd_67, zkd_86, zrf_0_3, Int.cast_ofNat_Int, Int.reduceAdd, zwl_id, zlc_lt, zlc_ge, zlc_gt, zlc_le, zlc_eq, zldiv_pos, false_and, and_false, true_and, and_true, true_or, or_true, false_or, or_false, Option.toList, List.nil_append, List.cons_append, zif0, zif1, zif01, zem1, zem2, Int.reduceEq, Int.reduceLT, Int.reduceLE, Int.reduceNeg, Int.reduceSub, Int.reduceMul, if_true, if_false, not_false_eq_true, not_true_eq_false, true_implies, false_implies, Classical.not_not, Nat.reduceAdd, Nat.reduceLeDiff, zq74, gA_0 hI.1.2.1, gA_1 hI.1.2.1, gA_2 hI.1.2.1, gA_3 hI.1.2.1, gA_4 hI.1.2.1, gA_5 hI.1.2.1, gA_6 hI.1.2.1, gA_7 hI.1.2.1, gA_8 hI.1.2.1, gA_9 hI.1.2.1, gA_r0 hI.1.2.1, gA_r1 hI.1.2.1, gA_r2 hI.1.2.1, gA_r3 hI.1.2.1, gA_f0 hI.1.2.1, gA_f1 hI.1.2.1, gA_f2 hI.1.2.1, gA_f3 hI.1.2.1, gA_f4 hI.1.2.1, gA_d hI.1, gI_s0 hI, gI_s1 hI, gI_s2 hI, gI_s3 hI, gI_s4 hI, gI_s5 hI, gI_n hI, if_neg c1, zq36 rfl h9, zq80, zq143 hI.1, zq144 hI.1, zq146, gn]
          (first | exact ⟨hI, gX_refl⟩ | exact ⟨rfl, hI, gX_refl⟩)
        · rw [if_neg w0]
          simp +contextual (disch := (first | omega | assumption | decide)) only [↓zbrT, ↓zbrF, zw145_0, zw145_1, zw145_2, zw145_3, zw145_4, zw145_5, zw145_6, zw145_7, zw145_8, zw145_9, zr_1, zr_2, zr_3, zr_5, zr_7, zr_8, zr_12, zr_40, zr_45, zr_54, zr_61, zr_62, zr_65, zr_68, zr_69, zr_71, zr_73, zlg_0, zlg_s, zls_0, zls_1, zls_s, zkl_i, zkl_r, zkl_l, zkl_n, zlL_0, zlL_1, zlL_s, zrc_1, zrc_s, zcat_n, zcat_i, zcat_l, zcat_r, zkd_0, zkd_105, zkd_21, zkd_3, zkd_67, zkd_86, zrf_0_3, Int.cast_ofNat_Int, Int.reduceAdd, zwl_id, zlc_lt, zlc_ge, zlc_gt, zlc_le, zlc_eq, zldiv_pos, false_and, and_false, true_and, and_true, true_or, or_true, false_or, or_false, Option.toList, List.nil_append, List.cons_append, zif0, zif1, zif01, zem1, zem2, Int.reduceEq, Int.reduceLT, Int.reduceLE, Int.reduceNeg, Int.reduceSub, Int.reduceMul, if_true, if_false, not_false_eq_true, not_true_eq_false, true_implies, false_implies, Classical.not_not, Nat.reduceAdd, Nat.reduceLeDiff, zq74, gA_0 hI.1.2.1, gA_1 hI.1.2.1, gA_2 hI.1.2.1, gA_3 hI.1.2.1, gA_4 hI.1.2.1, gA_5 hI.1.2.1, gA_6 hI.1.2.1, gA_7 hI.1.2.1, gA_8 hI.1.2.1, gA_9 hI.1.2.1, gA_r0 hI.1.2.1, gA_r1 hI.1.2.1, gA_r2 hI.1.2.1, gA_r3 hI.1.2.1, gA_f0 hI.1.2.1, gA_f1 hI.1.2.1, gA_f2 hI.1.2.1, gA_f3 hI.1.2.1, gA_f4 hI.1.2.1, gA_d hI.1, gI_s0 hI, gI_s1 hI, gI_s2 hI, gI_s3 hI, gI_s4 hI, gI_s5 hI, gI_n hI, if_neg c1, zq36 rfl h9, zq80, zq143 hI.1, zq144 hI.1, zq146, gn, w0]
          (first | exact ⟨hI, gX_refl⟩ | exact ⟨rfl, hI, gX_refl⟩)
      · rw [if_neg (fun z => c3 z.2)]
        simp +contextual (disch := (first | omega | assumption | decide)) only [↓zbrT, ↓zbrF, zw145_0, zw145_1, zw145_2, zw145_3, zw145_4, zw145_5, zw145_6, zw145_7, zw145_8, zw145_9, zr_1, zr_2, zr_3, zr_5, zr_7, zr_8, zr_12, zr_40, zr_45, zr_54, zr_61, zr_62, zr_65, zr_68, zr_69, zr_71, zr_73, zlg_0, zlg_s, zls_0, zls_1, zls_s, zkl_i, zkl_r, zkl_l, zkl_n, zlL_0, zlL_1, zlL_s, zrc_1, zrc_s, zcat_n, zcat_i, zcat_l, zcat_r, zkd_0, zkd_105, zkd_21, zkd_3, zkd_67, zkd_86, zrf_0_3, Int.cast_ofNat_Int, Int.reduceAdd, zwl_id, zlc_lt, zlc_ge, zlc_gt, zlc_le, zlc_eq, zldiv_pos, false_and, and_false, true_and, and_true, true_or, or_true, false_or, or_false, Option.toList, List.nil_append, List.cons_append, zif0, zif1, zif01, zem1, zem2, Int.reduceEq, Int.reduceLT, Int.reduceLE, Int.reduceNeg, Int.reduceSub, Int.reduceMul, if_true, if_false, not_false_eq_true, not_true_eq_false, true_implies, false_implies, Classical.not_not, Nat.reduceAdd, Nat.reduceLeDiff, zq74, gA_0 hI.1.2.1, gA_1 hI.1.2.1, gA_2 hI.1.2.1, gA_3 hI.1.2.1, gA_4 hI.1.2.1, gA_5 hI.1.2.1, gA_6 hI.1.2.1, gA_7 hI.1.2.1, gA_8 hI.1.2.1, gA_9 hI.1.2.1, gA_r0 hI.1.2.1, gA_r1 hI.1.2.1, gA_r2 hI.1.2.1, gA_r3 hI.1.2.1, gA_f0 hI.1.2.1, gA_f1 hI.1.2.1, gA_f2 hI.1.2.1, gA_f3 hI.1.2.1, gA_f4 hI.1.2.1, gA_d hI.1, gI_s0 hI, gI_s1 hI, gI_s2 hI, gI_s3 hI, gI_s4 hI, gI_s5 hI, gI_n hI, if_neg c1, zq36 rfl h9, zq80]
        (first | exact ⟨hI, gX_refl⟩ | exact ⟨rfl, hI, gX_refl⟩)
    · rw [if_neg (fun z => c2 z.1.2)]
      simp +contextual (disch := (first | omega | assumption | decide)) only [↓zbrT, ↓zbrF, zw145_0, zw145_1, zw145_2, zw145_3, zw145_4, zw145_5, zw145_6, zw145_7, zw145_8, zw145_9, zr_1, zr_2, zr_3, zr_5, zr_7, zr_8, zr_12, zr_40, zr_45, zr_54, zr_61, zr_62, zr_65, zr_68, zr_69, zr_71, zr_73, zlg_0, zlg_s, zls_0, zls_1, zls_s, zkl_i, zkl_r, zkl_l, zkl_n, zlL_0, zlL_1, zlL_s, zrc_1, zrc_s, zcat_n, zcat_i, zcat_l, zcat_r, zkd_0, zkd_105, zkd_21, zkd_3, zkd_67, zkd_86, zrf_0_3, Int.cast_ofNat_Int, Int.reduceAdd, zwl_id, zlc_lt, zlc_ge, zlc_gt, zlc_le, zlc_eq, zldiv_pos, false_and, and_false, true_and, and_true, true_or, or_true, false_or, or_false, Option.toList, List.nil_append, List.cons_append, zif0, zif1, zif01, zem1, zem2, Int.reduceEq, Int.reduceLT, Int.reduceLE, Int.reduceNeg, Int.reduceSub, Int.reduceMul, if_true, if_false, not_false_eq_true, not_true_eq_false, true_implies, false_implies, Classical.not_not, Nat.reduceAdd, Nat.reduceLeDiff, zq74, gA_0 hI.1.2.1, gA_1 hI.1.2.1, gA_2 hI.1.2.1, gA_3 hI.1.2.1, gA_4 hI.1.2.1, gA_5 hI.1.2.1, gA_6 hI.1.2.1, gA_7 hI.1.2.1, gA_8 hI.1.2.1, gA_9 hI.1.2.1, gA_r0 hI.1.2.1, gA_r1 hI.1.2.1, gA_r2 hI.1.2.1, gA_r3 hI.1.2.1, gA_f0 hI.1.2.1, gA_f1 hI.1.2.1, gA_f2 hI.1.2.1, gA_f3 hI.1.2.1, gA_f4 hI.1.2.1, gA_d hI.1, gI_s0 hI, gI_s1 hI, gI_s2 hI, gI_s3 hI, gI_s4 hI, gI_s5 hI, gI_n hI, if_neg c1, zq36 rfl h9, zq80]
      (first | exact ⟨hI, gX_refl⟩ | exact ⟨rfl, hI, gX_refl⟩)
theorem gz288 {d : Nat} {m : zMm} {t : Int} {w : Int} {V : zMm} (hQ : gQ V m) : zC (d + 90) 288 [.inr (.inr 131), .inl t, .inl w] m (fun r' m' => r' = some (.inr (.inl (sp145 V t w))) ∧ gY m m') := by
  refine ze288 ?_
  have hb := hQ.1.1
  have hY0 : gY m (zmu m 131 0 0) := gY_u (by decide)
  have hQ0 := gQ_y hQ hY0
  have h5 : 0 ≤ zmu m 131 0 0 138 5 ∧ zmu m 131 0 0 138 5 ≤ 8 := by rw [gM_5 hQ0.2.2.1]; omega
  have h6 : 0 ≤ zmu m 131 0 0 138 6 ∧ zmu m 131 0 0 138 6 ≤ 6 := by rw [gM_6 hQ0.2.2.1]; omega
  have h0 : 0 ≤ zmu m 131 0 0 138 0 ∧ zmu m 131 0 0 138 0 ≤ 6 := by rw [gM_0 hQ0.2.2.1]; omega
  have hp := zpow8 (k := V 0 6) (by omega) (by omega)
  unfold sp145
  by_cases c1 : V 0 10 = 0
  · rw [if_neg (fun z => z.1.1 c1)]
    simp +contextual (disch := (first | omega | assumption | decide)) only [↓zbrT, ↓zbrF, zw288_0, zw288_1, zw288_2, zw288_3, zw288_4, zw288_5, zw288_6, zw288_7, zr_1, zr_2, zr_3, zr_5, zr_7, zr_8, zr_12, zr_13, zr_16, zr_27, zr_34, zr_40, zr_46, zr_54, zr_61, zr_62, zr_68, zr_69, zr_71, zr_73, zlg_0, zlg_s, zls_0, zls_1, zls_s, zkl_i, zkl_r, zkl_l, zkl_n, zlL_0, zlL_1, zlL_s, zrc_1, zrc_s, zcat_n, zcat_i, zcat_l, zcat_r, zkd_131, zkd_138, zln_138, zrf_131_17, Int.cast_ofNat_Int, Int.reduceAdd, zbd, zw_id, zwl_id, zmu_same, zmu_c, zmu_i, zldiv_pos, false_and, and_false, true_and, and_true, true_or, or_true, false_or, or_false, Option.toList, List.nil_append, List.cons_append, zif0, zif1, zif01, zem1, zem2, Int.reduceEq, Int.reduceLT, Int.reduceLE, Int.reduceNeg, Int.reduceSub, Int.reduceMul, if_true, if_false, not_false_eq_true, not_true_eq_false, true_implies, false_implies, Classical.not_not, Nat.reduceAdd, Nat.reduceLeDiff, zq202, gM_0 hQ.2.2.1, gM_1 hQ.2.2.1, gM_2 hQ.2.2.1, gM_3 hQ.2.2.1, gM_4 hQ.2.2.1, gM_5 hQ.2.2.1, gM_6 hQ.2.2.1, gM_7 hQ.2.2.1, gM_8 hQ.2.2.1, gM_9 hQ.2.2.1, gM_10 hQ.2.2.1, gM_r0 hQ.2.2.1, gM_r1 hQ.2.2.1, gM_r2 hQ.2.2.1, gM_r3 hQ.2.2.1, gM_f0 hQ.2.2.1, gM_f1 hQ.2.2.1, gM_f2 hQ.2.2.1, gM_f3 hQ.2.2.1, gM_f4 hQ.2.2.1]
    (first | exact hY0 | exact ⟨rfl, hY0⟩)
  · by_cases c2 : 0 ≤ t ∧ t ≤ 2 ^ (V 0 6).toNat - 1
    · by_cases c3 : 0 ≤ w ∧ w ≤ 1
      · rw [if_pos ⟨⟨c1, c2⟩, c3⟩]
        have hz := gHn_z hQ.1 (t := t) ⟨c2.1, by omega⟩
        have b1 := gSl_bd hQ.1 t (V 0 6).toNat (by omega)
        have b2 := gHn_pos t (V 0 6).toNat (by omega)
        have b3 := gP12 (k := (V 0 6).toNat) (by omega)
        have gp := gGc_pos (a := gSl V t (V 0 6).toNat) (b := gHn t (V 0 6).toNat) (by omega)
        have gn : ¬ gGc (gSl V t (V 0 6).toNat) (gHn t (V 0 6).toNat) = 0 := by omega
        have e2 : (1000000000000 : Int) * 1000000000000 < 2 ^ 80 := by decide
        have ih : ∀ {m0 : zMm} {rest : List zV} {k : List zV → zMm → Prop}, zcl (zEx (d + 89)) 285 2 (.inr (.inl (gHn t (V 0 6).toNat)) :: .inr (.inl (gSl V t (V 0 6).toNat)) :: rest) m0 k = (zcat rest ≤ 8 ∧ k (.inr (.inl (gGc (gSl V t (V 0 6).toNat) (gHn t (V 0 6).toNat))) :: rest) m0) := by
          intro m0 rest k
          refine zcl_eq (as := [.inr (.inl (gSl V t (V 0 6).toNat)), .inr (.inl (gHn t (V 0 6).toNat))]) (r := some (.inr (.inl (gGc (gSl V t (V 0 6).toNat) (gHn t (V 0 6).toNat))))) (zC_eq.mp (ze285 ?_)) rfl rfl
          have nz : ¬ gHn t (V 0 6).toNat = 0 := by omega
          have q0 := Int.emod_nonneg (gSl V t (V 0 6).toNat) nz
          have q1 := Int.emod_lt_of_pos (gSl V t (V 0 6).toNat) (show 0 < gHn t (V 0 6).toNat by omega)
          have q2 : gHn t (V 0 6).toNat * (gSl V t (V 0 6).toNat % gHn t (V 0 6).toNat) ≤ 1000000000000 * 1000000000000 := Int.mul_le_mul (by omega) (by omega) q0 (by decide)
          have r1 := gz285 80 (d := d + 7) (m := m0) (a := gHn t (V 0 6).toNat) (b := gSl V t (V 0 6).toNat % gHn t (V 0 6).toNat) ⟨q0, by omega, by omega⟩ (by omega)
          simp +contextual (disch := (first | omega | assumption | decide)) only [↓zbrT, ↓zbrF, zw285_0, zw285_1, zw285_2, zw285_3, zr_2, zr_8, zr_41, zr_45, zr_54, zr_62, zr_69, zr_71, zr_73, zlg_0, zlg_s, zcat_n, zcat_i, zcat_l, zcat_r, Int.cast_ofNat_Int, zwl_id, zlc_lt, zlc_ge, zlc_gt, zlc_le, zlc_eq, zlrem_pos, false_and, and_false, true_and, and_true, true_or, or_true, false_or, or_false, Option.toList, List.nil_append, List.cons_append, zif0, zif1, zif01, zem1, zem2, Int.reduceEq, Int.reduceLT, Int.reduceLE, Int.reduceNeg, Int.reduceSub, Int.reduceMul, Int.reduceAdd, if_true, if_false, not_false_eq_true, not_true_eq_false, true_implies, false_implies, Classical.not_not, Nat.reduceAdd, Nat.reduceLeDiff, nz]
          refine gK (zC_eq.mpr r1) rfl rfl (Nat.le_of_ble_eq_true rfl) ?_
          rintro _ _ ⟨rfl, rfl⟩
          simp +contextual (disch := (first | omega | assumption | decide)) only [↓zbrT, ↓zbrF, zw285_0, zw285_1, zw285_2, zw285_3, zr_2, zr_8, zr_41, zr_45, zr_54, zr_62, zr_69, zr_71, zr_73, zlg_0, zlg_s, zcat_n, zcat_i, zcat_l, zcat_r, Int.cast_ofNat_Int, zwl_id, zlc_lt, zlc_ge, zlc_gt, zlc_le, zlc_eq, zlrem_pos, false_and, and_false, true_and, and_true, true_or, or_true, false_or, or_false, Option.toList, List.nil_append, List.cons_append, zif0, zif1, zif01, zem1, zem2, Int.reduceEq, Int.reduceLT, Int.reduceLE, Int.reduceNeg, Int.reduceSub, Int.reduceMul, Int.reduceAdd, if_true, if_false, not_false_eq_true, not_true_eq_false, true_implies, false_implies, Classical.not_not, Nat.reduceAdd, Nat.reduceLeDiff]
          rw [gGc_step (by omega) (by omega)]
        by_cases w0 : w = 0
        · subst w0
          rw [if_pos rfl]
          simp +contextual (disch := (first | omega | assumption | decide)) only [↓zbrT, ↓zbrF, zw288_0, zw288_1, zw288_2, zw288_3, zw288_4, zw288_5, zw288_6, zw288_7, zr_1, zr_2, zr_3, zr_5, zr_7, zr_8, zr_12, zr_13, zr_16, zr_27, zr_34, zr_40, zr_46, zr_54, zr_61, zr_62, zr_68, zr_69, zr_71, zr_73, zlg_0, zlg_s, zls_0, zls_1, zls_s, zkl_i, zkl_r, zkl_l, zkl_n, zlL_0, zlL_1, zlL_s, zrc_1, zrc_s, zcat_n, zcat_i, zcat_l, zcat_r, zkd_131, zkd_138, zln_138, zrf_131_17, Int.cast_ofNat_Int, Int.reduceAdd, zbd, zw_id, zwl_id, zmu_same, zmu_c, zmu_i, zldiv_pos, false_and, and_false, true_and, and_true, true_or, or_true, false_or, or_false, Option.toList, List.nil_append, List.cons_append, zif0, zif1, zif01, zem1, zem2, Int.reduceEq, Int.reduceLT, Int.reduceLE, Int.reduceNeg, Int.reduceSub, Int.reduceMul, if_true, if_false, not_false_eq_true, not_true_eq_false, true_implies, false_implies, Classical.not_not, Nat.reduceAdd, Nat.reduceLeDiff, zq202, gM_0 hQ.2.2.1, gM_1 hQ.2.2.1, gM_2 hQ.2.2.1, gM_3 hQ.2.2.1, gM_4 hQ.2.2.1, gM_5 hQ.2.2.1, gM_6 hQ.2.2.1, gM_7 hQ.2.2.1, gM_8 hQ.2.2.1, gM_9 hQ.2.2.1, gM_10 hQ.2.2.1, gM_r0 hQ.2.2.1, gM_r1 hQ.2.2.1, gM_r2 hQ.2.2.1, gM_r3 hQ.2.2.1, gM_f0 hQ.2.2.1, gM_f1 hQ.2.2.1, gM_f2 hQ.2.2.1, gM_f3 hQ.2.2.1, gM_f4 hQ.2.2.1, zshl_1, zq170, zq286 hQ.1 hQ0.2.2.1, zq208, zq287, ← hz.1, ih, gn]
          (first | exact hY0 | exact ⟨rfl, hY0⟩)
        · rw [if_neg w0]
          simp +contextual (disch := (first | omega | assumption | decide)) only [↓zbrT, ↓zbrF, zw288_0, zw288_1, zw288_2, zw288_3, zw288_4, zw288_5, zw288_6, zw288_7, zr_1, zr_2, zr_3, zr_5, zr_7, zr_8, zr_12, zr_13, zr_16, zr_27, zr_34, zr_40, zr_46, zr_54, zr_61, zr_62, zr_68, zr_69, zr_71, zr_73, zlg_0, zlg_s, zls_0, zls_1, zls_s, zkl_i, zkl_r, zkl_l, zkl_n, zlL_0, zlL_1, zlL_s, zrc_1, zrc_s, zcat_n, zcat_i, zcat_l, zcat_r, zkd_131, zkd_138, zln_138, zrf_131_17, Int.cast_ofNat_Int, Int.reduceAdd, zbd, zw_id, zwl_id, zmu_same, zmu_c, zmu_i, zldiv_pos, false_and, and_false, true_and, and_true, true_or, or_true, false_or, or_false, Option.toList, List.nil_append, List.cons_append, zif0, zif1, zif01, zem1, zem2, Int.reduceEq, Int.reduceLT, Int.reduceLE, Int.reduceNeg, Int.reduceSub, Int.reduceMul, if_true, if_false, not_false_eq_true, not_true_eq_false, true_implies, false_implies, Classical.not_not, Nat.reduceAdd, Nat.reduceLeDiff, zq202, gM_0 hQ.2.2.1, gM_1 hQ.2.2.1, gM_2 hQ.2.2.1, gM_3 hQ.2.2.1, gM_4 hQ.2.2.1, gM_5 hQ.2.2.1, gM_6 hQ.2.2.1, gM_7 hQ.2.2.1, gM_8 hQ.2.2.1, gM_9 hQ.2.2.1, gM_10 hQ.2.2.1, gM_r0 hQ.2.2.1, gM_r1 hQ.2.2.1, gM_r2 hQ.2.2.1, gM_r3 hQ.2.2.1, gM_f0 hQ.2.2.1, gM_f1 hQ.2.2.1, gM_f2 hQ.2.2.1, gM_f3 hQ.2.2.1, gM_f4 hQ.2.2.1, zshl_1, zq170, zq286 hQ.1 hQ0.2.2.1, zq208, zq287, ← hz.1, ih, gn, w0]
          (first | exact hY0 | exact ⟨rfl, hY0⟩)
      · rw [if_neg (fun z => c3 z.2)]
        simp +contextual (disch := (first | omega | assumption | decide)) only [↓zbrT, ↓zbrF, zw288_0, zw288_1, zw288_2, zw288_3, zw288_4, zw288_5, zw288_6, zw288_7, zr_1, zr_2, zr_3, zr_5, zr_7, zr_8, zr_12, zr_13, zr_16, zr_27, zr_34, zr_40, zr_46, zr_54, zr_61, zr_62, zr_68, zr_69, zr_71, zr_73, zlg_0, zlg_s, zls_0, zls_1, zls_s, zkl_i, zkl_r, zkl_l, zkl_n, zlL_0, zlL_1, zlL_s, zrc_1, zrc_s, zcat_n, zcat_i, zcat_l, zcat_r, zkd_131, zkd_138, zln_138, zrf_131_17, Int.cast_ofNat_Int, Int.reduceAdd, zbd, zw_id, zwl_id, zmu_same, zmu_c, zmu_i, zldiv_pos, false_and, and_false, true_and, and_true, true_or, or_true, false_or, or_false, Option.toList, List.nil_append, List.cons_append, zif0, zif1, zif01, zem1, zem2, Int.reduceEq, Int.reduceLT, Int.reduceLE, Int.reduceNeg, Int.reduceSub, Int.reduceMul, if_true, if_false, not_false_eq_true, not_true_eq_false, true_implies, false_implies, Classical.not_not, Nat.reduceAdd, Nat.reduceLeDiff, zq202, gM_0 hQ.2.2.1, gM_1 hQ.2.2.1, gM_2 hQ.2.2.1, gM_3 hQ.2.2.1, gM_4 hQ.2.2.1, gM_5 hQ.2.2.1, gM_6 hQ.2.2.1, gM_7 hQ.2.2.1, gM_8 hQ.2.2.1, gM_9 hQ.2.2.1, gM_10 hQ.2.2.1, gM_r0 hQ.2.2.1, gM_r1 hQ.2.2.1, gM_r2 hQ.2.2.1, gM_r3 hQ.2.2.1, gM_f0 hQ.2.2.1, gM_f1 hQ.2.2.1, gM_f2 hQ.2.2.1, gM_f3 hQ.2.2.1, gM_f4 hQ.2.2.1, zshl_1, zq170]
        (first | exact hY0 | exact ⟨rfl, hY0⟩)
    · rw [if_neg (fun z => c2 z.1.2)]
      simp +contextual (disch := (first | omega | assumption | decide)) only [↓zbrT, ↓zbrF, zw288_0, zw288_1, zw288_2, zw288_3, zw288_4, zw288_5, zw288_6, zw288_7, zr_1, zr_2, zr_3, zr_5, zr_7, zr_8, zr_12, zr_13, zr_16, zr_27, zr_34, zr_40, zr_46, zr_54, zr_61, zr_62, zr_68, zr_69, zr_71, zr_73, zlg_0, zlg_s, zls_0, zls_1, zls_s, zkl_i, zkl_r, zkl_l, zkl_n, zlL_0, zlL_1, zlL_s, zrc_1, zrc_s, zcat_n, zcat_i, zcat_l, zcat_r, zkd_131, zkd_138, zln_138, zrf_131_17, Int.cast_ofNat_Int, Int.reduceAdd, zbd, zw_id, zwl_id, zmu_same, zmu_c, zmu_i, zldiv_pos, false_and, and_false, true_and, and_true, true_or, or_true, false_or, or_false, Option.toList, List.nil_append, List.cons_append, zif0, zif1, zif01, zem1, zem2, Int.reduceEq, Int.reduceLT, Int.reduceLE, Int.reduceNeg, Int.reduceSub, Int.reduceMul, if_true, if_false, not_false_eq_true, not_true_eq_false, true_implies, false_implies, Classical.not_not, Nat.reduceAdd, Nat.reduceLeDiff, zq202, gM_0 hQ.2.2.1, gM_1 hQ.2.2.1, gM_2 hQ.2.2.1, gM_3 hQ.2.2.1, gM_4 hQ.2.2.1, gM_5 hQ.2.2.1, gM_6 hQ.2.2.1, gM_7 hQ.2.2.1, gM_8 hQ.2.2.1, gM_9 hQ.2.2.1, gM_10 hQ.2.2.1, gM_r0 hQ.2.2.1, gM_r1 hQ.2.2.1, gM_r2 hQ.2.2.1, gM_r3 hQ.2.2.1, gM_f0 hQ.2.2.1, gM_f1 hQ.2.2.1, gM_f2 hQ.2.2.1, gM_f3 hQ.2.2.1, gM_f4 hQ.2.2.1, zshl_1, zq170]
      (first | exact hY0 | exact ⟨rfl, hY0⟩)
