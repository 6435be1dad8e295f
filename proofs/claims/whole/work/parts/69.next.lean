/-! ===== the model reads a token ===== -/
def gTn (T m : zMm) : Prop := m 131 6 = T 0 0 ∧ ∀ i, 0 ≤ i → i < T 0 0 → m 136 i = T 1 i
theorem gTn_of {T m m' : zMm} (h : gTn T m) (h0 : m' 131 6 = m 131 6) (h1 : ∀ i, m' 136 i = m 136 i) : gTn T m' := ⟨by rw [h0]; exact h.1, fun i a b => by rw [h1]; exact h.2 i a b⟩
theorem zq179 {d : Nat} {m : zMm} {i : Int} {x : Int} {y : Int} {rest : List zV} {k : List zV → zMm → Prop} {T : zMm} (hk : gTo1 T) (ht : gTn T m) (hi : 0 ≤ i) : zcl (zEx (d + 1)) 179 4 (.inl y :: .inl x :: .inl i :: .inr (.inr 131) :: rest) m k = (zcat rest ≤ 8 ∧ k (.inl (if i < T 0 0 ∧ x ≤ T 1 i ∧ T 1 i ≤ y then 1 else 0) :: rest) m) := by
  refine zcl_eq (as := [.inr (.inr 131), .inl i, .inl x, .inl y]) (r := some (.inl (if i < T 0 0 ∧ x ≤ T 1 i ∧ T 1 i ≤ y then 1 else 0))) (zC_eq.mp (ze179 ?_)) rfl rfl
  have hb := hk.1
  have e := ht.1
  by_cases c1 : i < T 0 0
  · have e2 := ht.2 i hi c1
    by_cases c2 : x ≤ T 1 i
    · by_cases c3 : T 1 i ≤ y
      · rw [if_pos ⟨c1, c2, c3⟩]
        simp +contextual (disch := (first | omega | assumption | decide)) only [↓zbrT, ↓zbrF, zw179_0, zw179_1, zw179_2, zw179_3, zw179_4, zw179_5, zr_1, zr_3, zr_7, zr_10, zr_12, zr_17, zr_54, zr_57, zr_58, zr_59, zr_73, zr_76, zlg_0, zlg_s, zkd_131, zkd_136, zln_136, zrf_131_5, Int.cast_ofNat_Int, Int.reduceAdd, zbd, false_and, and_false, true_and, and_true, true_or, or_true, false_or, or_false, Option.toList, List.nil_append, List.cons_append, zif0, zif1, zif01, zem1, zem2, Int.reduceEq, Int.reduceLT, Int.reduceLE, Int.reduceNeg, Int.reduceSub, Int.reduceMul, if_true, if_false, not_false_eq_true, not_true_eq_false, true_implies, false_implies, Classical.not_not, Nat.reduceAdd, Nat.reduceLeDiff, e, e2]
      · rw [if_neg (fun z => c3 z.2.2)]
        simp +contextual (disch := (first | omega | assumption | decide)) only [↓zbrT, ↓zbrF, zw179_0, zw179_1, zw179_2, zw179_3, zw179_4, zw179_5, zr_1, zr_3, zr_7, zr_10, zr_12, zr_17, zr_54, zr_57, zr_58, zr_59, zr_73, zr_76, zlg_0, zlg_s, zkd_131, zkd_136, zln_136, zrf_131_5, Int.cast_ofNat_Int, Int.reduceAdd, zbd, false_and, and_false, true_and, and_true, true_or, or_true, false_or, or_false, Option.toList, List.nil_append, List.cons_append, zif0, zif1, zif01, zem1, zem2, Int.reduceEq, Int.reduceLT, Int.reduceLE, Int.reduceNeg, Int.reduceSub, Int.reduceMul, if_true, if_false, not_false_eq_true, not_true_eq_false, true_implies, false_implies, Classical.not_not, Nat.reduceAdd, Nat.reduceLeDiff, e, e2]
    · rw [if_neg (fun z => c2 z.2.1)]
      simp +contextual (disch := (first | omega | assumption | decide)) only [↓zbrT, ↓zbrF, zw179_0, zw179_1, zw179_2, zw179_3, zw179_4, zw179_5, zr_1, zr_3, zr_7, zr_10, zr_12, zr_17, zr_54, zr_57, zr_58, zr_59, zr_73, zr_76, zlg_0, zlg_s, zkd_131, zkd_136, zln_136, zrf_131_5, Int.cast_ofNat_Int, Int.reduceAdd, zbd, false_and, and_false, true_and, and_true, true_or, or_true, false_or, or_false, Option.toList, List.nil_append, List.cons_append, zif0, zif1, zif01, zem1, zem2, Int.reduceEq, Int.reduceLT, Int.reduceLE, Int.reduceNeg, Int.reduceSub, Int.reduceMul, if_true, if_false, not_false_eq_true, not_true_eq_false, true_implies, false_implies, Classical.not_not, Nat.reduceAdd, Nat.reduceLeDiff, e, e2]
  · rw [if_neg (fun z => c1 z.1)]
    simp +contextual (disch := (first | omega | assumption | decide)) only [↓zbrT, ↓zbrF, zw179_0, zw179_1, zw179_2, zw179_3, zw179_4, zw179_5, zr_1, zr_3, zr_7, zr_10, zr_12, zr_17, zr_54, zr_57, zr_58, zr_59, zr_73, zr_76, zlg_0, zlg_s, zkd_131, zkd_136, zln_136, zrf_131_5, Int.cast_ofNat_Int, Int.reduceAdd, zbd, false_and, and_false, true_and, and_true, true_or, or_true, false_or, or_false, Option.toList, List.nil_append, List.cons_append, zif0, zif1, zif01, zem1, zem2, Int.reduceEq, Int.reduceLT, Int.reduceLE, Int.reduceNeg, Int.reduceSub, Int.reduceMul, if_true, if_false, not_false_eq_true, not_true_eq_false, true_implies, false_implies, Classical.not_not, Nat.reduceAdd, Nat.reduceLeDiff, e]
theorem gCd_bd {T : zMm} {s : Int} : ∀ k : Nat, k ≤ 12 → (∀ j : Nat, j < k → 97 ≤ T 1 (s + j) ∧ T 1 (s + j) ≤ 122) → 0 ≤ gCd T s k ∧ gCd T s k + 1 ≤ 27 ^ k
  | 0, _, _ => by
    show 0 ≤ (0 : Int) ∧ (0 : Int) + 1 ≤ 27 ^ 0
    decide
  | k + 1, hk, h => by
    have i := gCd_bd (T := T) (s := s) k (by omega) (fun j a => h j (by omega))
    have b := h k (by omega)
    show 0 ≤ (if 11 < (k : Int) then -1 else 27 * gCd T s k + T 1 (s + k) - 96) ∧ (if 11 < (k : Int) then -1 else 27 * gCd T s k + T 1 (s + k) - 96) + 1 ≤ (27 : Int) ^ (k + 1)
    rw [if_neg (by omega), Int.pow_succ]
    omega
