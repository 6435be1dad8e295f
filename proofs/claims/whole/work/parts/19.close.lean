/-! ===== Atlas.close: all ways through the first k places ===== -/
def gF (T : Int → Int → Int) : Nat → Int → Int → Int
  | 0, p, q => T p q
  | k + 1, p, q => min (gF T k p q) (gF T k p k + gF T k k q)
/-- a good table: 0 to itself, never below 0, at most far -/
def gG (T : Int → Int → Int) (far : Int) : Prop := (∀ p, T p p = 0) ∧ ∀ p q, 0 ≤ T p q ∧ T p q ≤ far
theorem gF_good {T : Int → Int → Int} {far : Int} (h : gG T far) : ∀ k, gG (gF T k) far
  | 0 => h
  | k + 1 => by
    obtain ⟨h1, h2⟩ := gF_good h k
    refine ⟨fun p => ?_, fun p q => ?_⟩
    · have a := h2 p k
      have b := h2 k p
      show min _ _ = 0
      rw [h1 p]; omega
    · have a := h2 p q
      have b := h2 p k
      have c := h2 k q
      show 0 ≤ min _ _ ∧ min _ _ ≤ far
      omega
theorem gF_row {T : Int → Int → Int} {far : Int} (h : gG T far) (k : Nat) (q : Int) : gF T (k + 1) k q = gF T k k q := by
  have h1 := (gF_good h k).1 k
  show min (gF T k k q) (gF T k k k + gF T k k q) = _
  rw [h1]; omega
theorem gF_col {T : Int → Int → Int} {far : Int} (h : gG T far) (k : Nat) (p : Int) : gF T (k + 1) p k = gF T k p k := by
  have h1 := (gF_good h k).1 k
  show min (gF T k p k) (gF T k p k + gF T k k k) = _
  rw [h1]; omega
/-- the table in memory while pass k is at row a, place b -/
def gTb (m0 : zMm) (c : Int) (T : Int → Int → Int) (k : Nat) (a b n : Int) : zMm := fun c' i' => if c' = c ∧ 0 ≤ i' ∧ i' < 36 ∧ i' / 6 < n ∧ i' % 6 < n then (if i' / 6 < a ∨ (i' / 6 = a ∧ i' % 6 < b) then gF T (k + 1) (i' / 6) (i' % 6) else gF T k (i' / 6) (i' % 6)) else m0 c' i'
theorem gTb_at {m0 : zMm} {c : Int} {T : Int → Int → Int} {k : Nat} {a b n p q : Int} (hp : 0 ≤ p ∧ p < n) (hq : 0 ≤ q ∧ q < n) (hn : n ≤ 6) : gTb m0 c T k a b n c (p * 6 + q) = if p < a ∨ (p = a ∧ q < b) then gF T (k + 1) p q else gF T k p q := by
  have e1 : (p * 6 + q) / 6 = p := by omega
  have e2 : (p * 6 + q) % 6 = q := by omega
  unfold gTb
  rw [e1, e2, if_pos (by omega)]
theorem gTb_o {m0 : zMm} {c : Int} {T : Int → Int → Int} {k : Nat} {a b n c' i' : Int} (h : c' ≠ c) : gTb m0 c T k a b n c' i' = m0 c' i' := by
  unfold gTb
  rw [if_neg (fun q => h q.1)]
theorem ga10 {d : Nat} {m : zMm} {c n : Int} {T : Int → Int → Int} (hc : zkd c = 1) (hl : zln c = 36) (hn : m 21 1 = n) (h0 : 0 ≤ n ∧ n ≤ 6) (hc21 : (21 : Int) ≠ c) (hT : gG T 268435456) (hm : ∀ p q, 0 ≤ p → p < n → 0 ≤ q → q < n → m c (p * 6 + q) = T p q) : zEx (d + 2) 10 [.inr (.inr 20), .inr (.inr c)] m none (gTb m c T n.toNat 0 0 n) := by
  refine zC_eq.mp (ze10 ?_)
  simp +contextual (disch := omega) only [↓zbrT, ↓zbrF, zw10_0, zw10_2, zw10_4, zw10_5, zw10_6, zw10_8, zw10_9, zw10_10, zw10_11, zw10_12, zw10_13, zr_1, zr_3, zr_4, zr_7, zr_10, zr_12, zr_16, zr_21, zr_26, zr_53, zr_54, zr_57, zr_58, zr_69, zr_72, zr_73, zlg_0, zlg_s, zls_0, zls_1, zls_s, zkl_i, zkl_r, zkl_l, zkl_n, zcat_n, zcat_i, zcat_l, zcat_r, zkd_105, zkd_20, zkd_21, zkd_3, zkd_67, zkd_86, zrf_20_0, Int.cast_ofNat_Int, Int.reduceAdd, zbd, zw_id, zmu_same, zmu_c, zmu_i, false_and, and_false, true_and, and_true, true_or, or_true, false_or, or_false, Option.toList, List.nil_append, List.cons_append, zif0, zif1, zif01, zem1, zem2, Int.reduceEq, Int.reduceLT, Int.reduceLE, Int.reduceNeg, Int.reduceSub, Int.reduceMul, if_true, if_false, not_false_eq_true, not_true_eq_false, true_implies, false_implies, Classical.not_not, Nat.reduceAdd, Nat.reduceLeDiff]
  refine zfor n (fun i lc m' => 0 ≤ i ∧ (∃ x3 x4 x5 x6, lc = [some (.inr (.inr 20)), some (.inr (.inr c)), some (.inl i), x3, x4, x5, x6]) ∧ m' = gTb m c T i.toNat 0 0 n) ?_ ?_ (i := 0) h0.1 ?_
  · rintro i lc m' hi ⟨hi0, ⟨x3, x4, x5, x6, rfl⟩, rfl⟩ kk
    have e0 : gTb m c T i.toNat 0 0 n 21 1 = n := by rw [gTb_o hc21, hn]
    rw [zw10_1]
    simp +contextual (disch := omega) only [↓zbrT, ↓zbrF, zw10_0, zw10_2, zw10_4, zw10_5, zw10_6, zw10_8, zw10_9, zw10_10, zw10_11, zw10_12, zw10_13, zr_1, zr_3, zr_4, zr_7, zr_10, zr_12, zr_16, zr_21, zr_26, zr_53, zr_54, zr_57, zr_58, zr_69, zr_72, zr_73, zlg_0, zlg_s, zls_0, zls_1, zls_s, zkl_i, zkl_r, zkl_l, zkl_n, zcat_n, zcat_i, zcat_l, zcat_r, zkd_105, zkd_20, zkd_21, zkd_3, zkd_67, zkd_86, zrf_20_0, Int.cast_ofNat_Int, Int.reduceAdd, zbd, zw_id, zmu_same, zmu_c, zmu_i, false_and, and_false, true_and, and_true, true_or, or_true, false_or, or_false, Option.toList, List.nil_append, List.cons_append, zif0, zif1, zif01, zem1, zem2, Int.reduceEq, Int.reduceLT, Int.reduceLE, Int.reduceNeg, Int.reduceSub, Int.reduceMul, if_true, if_false, not_false_eq_true, not_true_eq_false, true_implies, false_implies, Classical.not_not, Nat.reduceAdd, Nat.reduceLeDiff, e0]
    obtain ⟨k, rfl⟩ : ∃ k : Nat, i = k := ⟨i.toNat, by omega⟩
    rw [Int.toNat_natCast] at *
    refine zfor n (fun p lc m' => 0 ≤ p ∧ (∃ x4 x5 x6, lc = [some (.inr (.inr 20)), some (.inr (.inr c)), some (.inl k), some (.inl p), x4, x5, x6]) ∧ m' = gTb m c T k p 0 n) ?_ ?_ (i := 0) h0.1 ?_
    · rintro p lc m' hp ⟨hp0, ⟨x4, x5, x6, rfl⟩, rfl⟩ k2
      have e0 : gTb m c T k p 0 n 21 1 = n := by rw [gTb_o hc21, hn]
      have e1 : gTb m c T k p 0 n c (p * 6 + k) = gF T k p k := by
        rw [gTb_at ⟨hp0, hp⟩ ⟨hi0, hi⟩ h0.2, if_neg (by omega)]
      obtain ⟨g1, g2⟩ := gF_good hT k
      have g3 := g2 p k
      rw [zw10_3]
      by_cases hf : gF T k p k < 268435456
      · simp +contextual (disch := omega) only [↓zbrT, ↓zbrF, zw10_0, zw10_2, zw10_4, zw10_5, zw10_6, zw10_8, zw10_9, zw10_10, zw10_11, zw10_12, zw10_13, zr_1, zr_3, zr_4, zr_7, zr_10, zr_12, zr_16, zr_21, zr_26, zr_53, zr_54, zr_57, zr_58, zr_69, zr_72, zr_73, zlg_0, zlg_s, zls_0, zls_1, zls_s, zkl_i, zkl_r, zkl_l, zkl_n, zcat_n, zcat_i, zcat_l, zcat_r, zkd_105, zkd_20, zkd_21, zkd_3, zkd_67, zkd_86, zrf_20_0, Int.cast_ofNat_Int, Int.reduceAdd, zbd, zw_id, zmu_same, zmu_c, zmu_i, false_and, and_false, true_and, and_true, true_or, or_true, false_or, or_false, Option.toList, List.nil_append, List.cons_append, zif0, zif1, zif01, zem1, zem2, Int.reduceEq, Int.reduceLT, Int.reduceLE, Int.reduceNeg, Int.reduceSub, Int.reduceMul, if_true, if_false, not_false_eq_true, not_true_eq_false, true_implies, false_implies, Classical.not_not, Nat.reduceAdd, Nat.reduceLeDiff, e0, e1, hc, hl, zq7]
        refine zfor n (fun q lc m' => 0 ≤ q ∧ (∃ x6, lc = [some (.inr (.inr 20)), some (.inr (.inr c)), some (.inl k), some (.inl p), some (.inl (gF T k p k)), some (.inl q), x6]) ∧ m' = gTb m c T k p q n) ?_ ?_ (i := 0) h0.1 ?_
        · rintro q lc m' hq ⟨hq0, ⟨x6, rfl⟩, rfl⟩ k3
          have e0 : gTb m c T k p q n 21 1 = n := by rw [gTb_o hc21, hn]
          have e2 : gTb m c T k p q n c (k * 6 + q) = gF T k k q := by
            rw [gTb_at ⟨hi0, hi⟩ ⟨hq0, hq⟩ h0.2, gF_row hT]
            split <;> rfl
          have e3 : gTb m c T k p q n c (p * 6 + q) = gF T k p q := by
            rw [gTb_at ⟨hp0, hp⟩ ⟨hq0, hq⟩ h0.2, if_neg (by omega)]
          have g4 := g2 k q
          have g5 := g2 p q
          have e4 : gF T (k + 1) p q = min (gF T k p q) (gF T k p k + gF T k k q) := rfl
          have ends : ∀ m', (∀ c' i', m' c' i' = if c' = c ∧ i' = p * 6 + q then gF T (k + 1) p q else gTb m c T k p q n c' i') → m' = gTb m c T k p (q + 1) n := by
            intro m' h
            funext c' i'
            rw [h]
            by_cases h1 : c' = c ∧ i' = p * 6 + q
            · obtain ⟨rfl, rfl⟩ := h1
              rw [if_pos ⟨rfl, rfl⟩, gTb_at ⟨hp0, hp⟩ ⟨hq0, hq⟩ h0.2, if_pos (by omega)]
            · rw [if_neg h1]
              unfold gTb
              (repeat' split) <;> (first | rfl | omega | (exfalso; omega))
          rw [zw10_7]
          by_cases hs : gF T k p k + gF T k k q < gF T k p q
          · simp +contextual (disch := omega) only [↓zbrT, ↓zbrF, zw10_0, zw10_2, zw10_4, zw10_5, zw10_6, zw10_8, zw10_9, zw10_10, zw10_11, zw10_12, zw10_13, zr_1, zr_3, zr_4, zr_7, zr_10, zr_12, zr_16, zr_21, zr_26, zr_53, zr_54, zr_57, zr_58, zr_69, zr_72, zr_73, zlg_0, zlg_s, zls_0, zls_1, zls_s, zkl_i, zkl_r, zkl_l, zkl_n, zcat_n, zcat_i, zcat_l, zcat_r, zkd_105, zkd_20, zkd_21, zkd_3, zkd_67, zkd_86, zrf_20_0, Int.cast_ofNat_Int, Int.reduceAdd, zbd, zw_id, zmu_same, zmu_c, zmu_i, false_and, and_false, true_and, and_true, true_or, or_true, false_or, or_false, Option.toList, List.nil_append, List.cons_append, zif0, zif1, zif01, zem1, zem2, Int.reduceEq, Int.reduceLT, Int.reduceLE, Int.reduceNeg, Int.reduceSub, Int.reduceMul, if_true, if_false, not_false_eq_true, not_true_eq_false, true_implies, false_implies, Classical.not_not, Nat.reduceAdd, Nat.reduceLeDiff, e0, e2, e3, hc, hl, zq7]
            refine k3 _ _ ⟨by omega, ⟨_, rfl⟩, ends _ (fun c' i' => ?_)⟩
            unfold zmu
            rw [e4, show min (gF T k p q) (gF T k p k + gF T k k q) = gF T k p k + gF T k k q by omega]
          · simp +contextual (disch := omega) only [↓zbrT, ↓zbrF, zw10_0, zw10_2, zw10_4, zw10_5, zw10_6, zw10_8, zw10_9, zw10_10, zw10_11, zw10_12, zw10_13, zr_1, zr_3, zr_4, zr_7, zr_10, zr_12, zr_16, zr_21, zr_26, zr_53, zr_54, zr_57, zr_58, zr_69, zr_72, zr_73, zlg_0, zlg_s, zls_0, zls_1, zls_s, zkl_i, zkl_r, zkl_l, zkl_n, zcat_n, zcat_i, zcat_l, zcat_r, zkd_105, zkd_20, zkd_21, zkd_3, zkd_67, zkd_86, zrf_20_0, Int.cast_ofNat_Int, Int.reduceAdd, zbd, zw_id, zmu_same, zmu_c, zmu_i, false_and, and_false, true_and, and_true, true_or, or_true, false_or, or_false, Option.toList, List.nil_append, List.cons_append, zif0, zif1, zif01, zem1, zem2, Int.reduceEq, Int.reduceLT, Int.reduceLE, Int.reduceNeg, Int.reduceSub, Int.reduceMul, if_true, if_false, not_false_eq_true, not_true_eq_false, true_implies, false_implies, Classical.not_not, Nat.reduceAdd, Nat.reduceLeDiff, e0, e2, e3, hc, hl, zq7]
            refine k3 _ _ ⟨by omega, ⟨_, rfl⟩, ends _ (fun c' i' => ?_)⟩
            by_cases h1 : c' = c ∧ i' = p * 6 + q
            · rw [if_pos h1, h1.1, h1.2, e3, e4]; omega
            · rw [if_neg h1]
        · rintro lc m' ⟨hq0, ⟨x6, rfl⟩, rfl⟩
          have e0 : gTb m c T k p n n 21 1 = n := by rw [gTb_o hc21, hn]
          rw [zw10_7]
          simp +contextual (disch := omega) only [↓zbrT, ↓zbrF, zw10_0, zw10_2, zw10_4, zw10_5, zw10_6, zw10_8, zw10_9, zw10_10, zw10_11, zw10_12, zw10_13, zr_1, zr_3, zr_4, zr_7, zr_10, zr_12, zr_16, zr_21, zr_26, zr_53, zr_54, zr_57, zr_58, zr_69, zr_72, zr_73, zlg_0, zlg_s, zls_0, zls_1, zls_s, zkl_i, zkl_r, zkl_l, zkl_n, zcat_n, zcat_i, zcat_l, zcat_r, zkd_105, zkd_20, zkd_21, zkd_3, zkd_67, zkd_86, zrf_20_0, Int.cast_ofNat_Int, Int.reduceAdd, zbd, zw_id, zmu_same, zmu_c, zmu_i, false_and, and_false, true_and, and_true, true_or, or_true, false_or, or_false, Option.toList, List.nil_append, List.cons_append, zif0, zif1, zif01, zem1, zem2, Int.reduceEq, Int.reduceLT, Int.reduceLE, Int.reduceNeg, Int.reduceSub, Int.reduceMul, if_true, if_false, not_false_eq_true, not_true_eq_false, true_implies, false_implies, Classical.not_not, Nat.reduceAdd, Nat.reduceLeDiff, e0]
          refine k2 _ _ ⟨by omega, ⟨_, _, _, rfl⟩, ?_⟩
          funext c' i'
          unfold gTb
          (repeat' split) <;> (first | rfl | omega | (exfalso; omega))
        · exact ⟨by decide, ⟨_, rfl⟩, rfl⟩
      · simp +contextual (disch := omega) only [↓zbrT, ↓zbrF, zw10_0, zw10_2, zw10_4, zw10_5, zw10_6, zw10_8, zw10_9, zw10_10, zw10_11, zw10_12, zw10_13, zr_1, zr_3, zr_4, zr_7, zr_10, zr_12, zr_16, zr_21, zr_26, zr_53, zr_54, zr_57, zr_58, zr_69, zr_72, zr_73, zlg_0, zlg_s, zls_0, zls_1, zls_s, zkl_i, zkl_r, zkl_l, zkl_n, zcat_n, zcat_i, zcat_l, zcat_r, zkd_105, zkd_20, zkd_21, zkd_3, zkd_67, zkd_86, zrf_20_0, Int.cast_ofNat_Int, Int.reduceAdd, zbd, zw_id, zmu_same, zmu_c, zmu_i, false_and, and_false, true_and, and_true, true_or, or_true, false_or, or_false, Option.toList, List.nil_append, List.cons_append, zif0, zif1, zif01, zem1, zem2, Int.reduceEq, Int.reduceLT, Int.reduceLE, Int.reduceNeg, Int.reduceSub, Int.reduceMul, if_true, if_false, not_false_eq_true, not_true_eq_false, true_implies, false_implies, Classical.not_not, Nat.reduceAdd, Nat.reduceLeDiff, e0, e1, hc, hl, zq7]
        refine k2 _ _ ⟨by omega, ⟨_, _, _, rfl⟩, ?_⟩
        funext c' i'
        have e5 : ∀ q, gF T (k + 1) p q = gF T k p q := by
          intro q
          have := g2 p q
          have := g2 k q
          show min _ _ = _
          omega
        unfold gTb
        (repeat' split) <;> (first | rfl | omega | (exfalso; omega) | (rw [show i' / 6 = p by omega, e5]))
    · rintro lc m' ⟨hp0, ⟨x4, x5, x6, rfl⟩, rfl⟩
      have e0 : gTb m c T k n 0 n 21 1 = n := by rw [gTb_o hc21, hn]
      rw [zw10_3]
      simp +contextual (disch := omega) only [↓zbrT, ↓zbrF, zw10_0, zw10_2, zw10_4, zw10_5, zw10_6, zw10_8, zw10_9, zw10_10, zw10_11, zw10_12, zw10_13, zr_1, zr_3, zr_4, zr_7, zr_10, zr_12, zr_16, zr_21, zr_26, zr_53, zr_54, zr_57, zr_58, zr_69, zr_72, zr_73, zlg_0, zlg_s, zls_0, zls_1, zls_s, zkl_i, zkl_r, zkl_l, zkl_n, zcat_n, zcat_i, zcat_l, zcat_r, zkd_105, zkd_20, zkd_21, zkd_3, zkd_67, zkd_86, zrf_20_0, Int.cast_ofNat_Int, Int.reduceAdd, zbd, zw_id, zmu_same, zmu_c, zmu_i, false_and, and_false, true_and, and_true, true_or, or_true, false_or, or_false, Option.toList, List.nil_append, List.cons_append, zif0, zif1, zif01, zem1, zem2, Int.reduceEq, Int.reduceLT, Int.reduceLE, Int.reduceNeg, Int.reduceSub, Int.reduceMul, if_true, if_false, not_false_eq_true, not_true_eq_false, true_implies, false_implies, Classical.not_not, Nat.reduceAdd, Nat.reduceLeDiff, e0]
      refine kk _ _ ⟨by omega, ⟨_, _, _, _, rfl⟩, ?_⟩
      rw [show ((k : Int) + 1).toNat = k + 1 by omega]
      funext c' i'
      unfold gTb
      (repeat' split) <;> (first | rfl | omega | (exfalso; omega))
    · exact ⟨by decide, ⟨_, _, _, rfl⟩, rfl⟩
  · rintro lc m' ⟨hi0, ⟨x3, x4, x5, x6, rfl⟩, rfl⟩
    have e0 : gTb m c T n.toNat 0 0 n 21 1 = n := by rw [gTb_o hc21, hn]
    rw [zw10_1]
    simp +contextual (disch := omega) only [↓zbrT, ↓zbrF, zw10_0, zw10_2, zw10_4, zw10_5, zw10_6, zw10_8, zw10_9, zw10_10, zw10_11, zw10_12, zw10_13, zr_1, zr_3, zr_4, zr_7, zr_10, zr_12, zr_16, zr_21, zr_26, zr_53, zr_54, zr_57, zr_58, zr_69, zr_72, zr_73, zlg_0, zlg_s, zls_0, zls_1, zls_s, zkl_i, zkl_r, zkl_l, zkl_n, zcat_n, zcat_i, zcat_l, zcat_r, zkd_105, zkd_20, zkd_21, zkd_3, zkd_67, zkd_86, zrf_20_0, Int.cast_ofNat_Int, Int.reduceAdd, zbd, zw_id, zmu_same, zmu_c, zmu_i, false_and, and_false, true_and, and_true, true_or, or_true, false_or, or_false, Option.toList, List.nil_append, List.cons_append, zif0, zif1, zif01, zem1, zem2, Int.reduceEq, Int.reduceLT, Int.reduceLE, Int.reduceNeg, Int.reduceSub, Int.reduceMul, if_true, if_false, not_false_eq_true, not_true_eq_false, true_implies, false_implies, Classical.not_not, Nat.reduceAdd, Nat.reduceLeDiff, e0]
  · refine ⟨by decide, ⟨_, _, _, _, rfl⟩, ?_⟩
    funext c' i'
    unfold gTb
    split
    · rename_i h
      rw [if_neg (by omega)]
      show m c' i' = T (i' / 6) (i' % 6)
      rw [← hm (i' / 6) (i' % 6) (by omega) (by omega) (by omega) (by omega), h.1]
      congr 1
      omega
    · rfl
