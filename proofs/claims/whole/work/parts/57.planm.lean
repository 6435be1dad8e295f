/-! ===== seek, fewest, plan; the model's ===== -/
theorem gFw_at {V : zMm} {n : Nat} {l : List Int} (h : ∀ j : Nat, j < n → gFs V j (gSn V) = none) (h2 : gFs V n (gSn V) = some l) (hn : n ≤ 4) : gFw V = n ∧ gPn V = l := by
  have e : gFw V = n := by
    unfold gFw
    rcases (by omega : n = 0 ∨ n = 1 ∨ n = 2 ∨ n = 3 ∨ n = 4) with z | z | z | z | z <;> subst z
    · rw [h2]; rfl
    · rw [h 0 (by decide), h2]; rfl
    · rw [h 0 (by decide), h 1 (by decide), h2]; rfl
    · rw [h 0 (by decide), h 1 (by decide), h 2 (by decide), h2]; rfl
    · rw [h 0 (by decide), h 1 (by decide), h 2 (by decide), h 3 (by decide), h2]; rfl
  refine ⟨e, ?_⟩
  unfold gPn
  rw [e, Int.toNat_natCast, h2]; rfl
theorem gFw_no {V : zMm} (h : ∀ j : Nat, j < 5 → gFs V j (gSn V) = none) : gFw V = -1 := by
  unfold gFw
  rw [h 0 (by decide), h 1 (by decide), h 2 (by decide), h 3 (by decide), h 4 (by decide)]; rfl
theorem gz28 {d : Nat} {m : zMm} {V : zMm} (hI : gI V m) : zC (d + 12) 28 [.inr (.inr 48), .inr (.inr 20), .inr (.inr 43)] m (fun r' m' => r' = some (.inl (gFw V)) ∧ gI V m' ∧ gX m m' ∧ ∀ i : Nat, (i : Int) < gFw V → m' 49 i = (gPn V).getD i 0) := by
  refine ze28 ?_
  have hk := (gI_k hI).1
  have hk0 := (gI_k hI).2
  have hb := hI.1.1.1
  have z1 := zrf_a50 (i := 0) (by decide) (by decide)
  rcases hI.2.2.2.2 with p | ⟨p1, p2, p3⟩
  · have two := hk.2.2.1
    have go : ∀ x, (x = -1 ∧ gSn V 2 = 0) ∨ (x = 0 ∧ gSn V 2 = 1) → zWP (zEx (d + 11)) 28 5 [some (.inr (.inr 48)), some (.inr (.inr 20)), some (.inr (.inr 43)), none] [.inl x, .inr (.inr 48)] (zmu m 48 3 1) (fun r' m' => r' = some (.inl (gFw V)) ∧ gI V m' ∧ gX m m' ∧ ∀ i : Nat, (i : Int) < gFw V → m' 49 i = (gPn V).getD i 0) := by
      intro x hx
      have hS0 : gSt (gSn V) 43 (zmu (zmu m 48 3 1) 48 2 x) := gSt_of hI.2.2.2.1 (fun i => by rw [zmu_c (by decide), zmu_c (by decide)]) (fun i => by rw [zmu_c (by decide), zmu_c (by decide)])
      simp +contextual (disch := (first | omega | assumption | decide)) only [↓zbrT, ↓zbrF, zw28_0, zw28_1, zw28_2, zw28_3, zw28_4, zw28_5, zw28_7, zw28_8, zw28_9, zw28_10, zw28_11, zr_1, zr_3, zr_4, zr_7, zr_10, zr_12, zr_13, zr_15, zr_20, zr_53, zr_54, zr_56, zr_59, zr_61, zr_68, zr_70, zr_73, zlg_0, zlg_s, zls_0, zls_1, zls_s, zkl_i, zkl_r, zkl_l, zkl_n, zrc_1, zrc_s, zcat_n, zcat_i, zcat_l, zcat_r, zkd_43, zkd_45, zkd_48, zkd_50, zkd_51, zkd_53, zkd_55, zkd_57, zkd_59, zkd_a50, zln_50, zrf_48_1, zrf_a50, Int.cast_ofNat_Int, Int.reduceAdd, zbd, zw_id, zmu_same, zmu_c, zmu_i, false_and, and_false, true_and, and_true, true_or, or_true, false_or, or_false, Option.toList, List.nil_append, List.cons_append, zif0, zif1, zif01, zem1, zem2, Int.reduceEq, Int.reduceLT, Int.reduceLE, Int.reduceNeg, Int.reduceSub, Int.reduceMul, if_true, if_false, not_false_eq_true, not_true_eq_false, true_implies, false_implies, Classical.not_not, Nat.reduceAdd, Nat.reduceLeDiff, z1]
      refine gK (gz42 (c := 51) (gStc_p (i := 0) (by decide) (by decide)) gStc_43 hS0 (by decide) hk.2.2.1) rfl rfl (Nat.le_of_ble_eq_true rfl) ?_
      rintro _ m1 ⟨rfl, hS1, hE1⟩
      have hA1 : gA V m1 := gA_of hI.1 (fun c i a b => by rw [hE1 c i (by omega), zmu_c (by omega), zmu_c (by omega)])
      have n1 : m1 48 2 = x := by rw [hE1 48 2 (by decide), zmu_same]
      have f1 : m1 48 3 = 1 := by rw [hE1 48 3 (by decide), zmu_i (by decide), zmu_same]
      have fr1 : ∀ c i, c ≠ 20 ∧ c ≠ 39 ∧ c ≠ 40 ∧ c ≠ 41 ∧ (c < 45 ∨ 63 < c) → m1 c i = m c i := fun c i hc => by rw [hE1 c i (by omega), zmu_c (by omega), zmu_c (by omega)]
      have fin : ∀ m', gA V m' → gX m m' → m' 48 3 = 1 → m' 48 2 = gFw V → (∀ i : Nat, (i : Int) < gFw V → m' 49 i = (gPn V).getD i 0) → gI V m' := by
        intro m' a1 a2 a3 a4 a5
        exact ⟨a1, hI.2.1, ⟨by rw [a2 0 5 (by decide)]; exact hI.2.2.1.1, fun k b c => by rw [a2 42 k (by decide)]; exact hI.2.2.1.2 k b c⟩, gSt_of hI.2.2.2.1 (fun i => a2 43 i (by decide)) (fun i => a2 44 i (by decide)), Or.inr ⟨a3, a4, a5⟩⟩
      simp +contextual (disch := (first | omega | assumption | decide)) only [↓zbrT, ↓zbrF, zw28_0, zw28_1, zw28_2, zw28_3, zw28_4, zw28_5, zw28_7, zw28_8, zw28_9, zw28_10, zw28_11, zr_1, zr_3, zr_4, zr_7, zr_10, zr_12, zr_13, zr_15, zr_20, zr_53, zr_54, zr_56, zr_59, zr_61, zr_68, zr_70, zr_73, zlg_0, zlg_s, zls_0, zls_1, zls_s, zkl_i, zkl_r, zkl_l, zkl_n, zrc_1, zrc_s, zcat_n, zcat_i, zcat_l, zcat_r, zkd_43, zkd_45, zkd_48, zkd_50, zkd_51, zkd_53, zkd_55, zkd_57, zkd_59, zkd_a50, zln_50, zrf_48_1, zrf_a50, Int.cast_ofNat_Int, Int.reduceAdd, zbd, zw_id, zmu_same, zmu_c, zmu_i, false_and, and_false, true_and, and_true, true_or, or_true, false_or, or_false, Option.toList, List.nil_append, List.cons_append, zif0, zif1, zif01, zem1, zem2, Int.reduceEq, Int.reduceLT, Int.reduceLE, Int.reduceNeg, Int.reduceSub, Int.reduceMul, if_true, if_false, not_false_eq_true, not_true_eq_false, true_implies, false_implies, Classical.not_not, Nat.reduceAdd, Nat.reduceLeDiff]
      refine zfor 5 (fun j lc m' => 1 ≤ j ∧ lc = [some (.inr (.inr 48)), some (.inr (.inr 20)), some (.inr (.inr 43)), some (.inl j)] ∧ gA V m' ∧ gSt (gSn V) 51 m' ∧ gX m m' ∧ m' 48 3 = 1 ∧ ((m' 48 2 = -1 ∧ ∀ k : Nat, (k : Int) < j → gFs V k (gSn V) = none) ∨ (m' 48 2 = gFw V ∧ 0 ≤ gFw V ∧ ∀ i : Nat, (i : Int) < gFw V → m' 49 i = (gPn V).getD i 0))) ?_ ?_ (i := 1) (by decide) ?_
      · rintro j lc m' hj ⟨h0, rfl, hA, hS, hX, h3, hor⟩ kk
        rw [zw28_6]
        rcases hor with ⟨q1, q2⟩ | ⟨q1, q2, q3⟩
        · simp +contextual (disch := (first | omega | assumption | decide)) only [↓zbrT, ↓zbrF, zw28_0, zw28_1, zw28_2, zw28_3, zw28_4, zw28_5, zw28_7, zw28_8, zw28_9, zw28_10, zw28_11, zr_1, zr_3, zr_4, zr_7, zr_10, zr_12, zr_13, zr_15, zr_20, zr_53, zr_54, zr_56, zr_59, zr_61, zr_68, zr_70, zr_73, zlg_0, zlg_s, zls_0, zls_1, zls_s, zkl_i, zkl_r, zkl_l, zkl_n, zrc_1, zrc_s, zcat_n, zcat_i, zcat_l, zcat_r, zkd_43, zkd_45, zkd_48, zkd_50, zkd_51, zkd_53, zkd_55, zkd_57, zkd_59, zkd_a50, zln_50, zrf_48_1, zrf_a50, Int.cast_ofNat_Int, Int.reduceAdd, zbd, zw_id, zmu_same, zmu_c, zmu_i, false_and, and_false, true_and, and_true, true_or, or_true, false_or, or_false, Option.toList, List.nil_append, List.cons_append, zif0, zif1, zif01, zem1, zem2, Int.reduceEq, Int.reduceLT, Int.reduceLE, Int.reduceNeg, Int.reduceSub, Int.reduceMul, if_true, if_false, not_false_eq_true, not_true_eq_false, true_implies, false_implies, Classical.not_not, Nat.reduceAdd, Nat.reduceLeDiff, q1]
          obtain ⟨r, hr⟩ : ∃ r : Nat, j = r := ⟨j.toNat, by omega⟩
          subst hr
          have hc := zC_le (d' := d + 11) (by omega) (gz29 (V := V) r (d := d) (m := m') (e := 0) (n := r) (S := gSn V) (by omega) hA hS hk (by omega) (fun k hk' => q2 k (by omega)))
          refine gK hc rfl rfl (Nat.le_of_ble_eq_true rfl) ?_
          rintro _ m2 ⟨rfl, hA2, hE2, hl2⟩
          have hX2 : gX m m2 := fun c i hc => by rw [hE2 c i (by omega)]; exact hX c i hc
          have hS2 : gSt (gSn V) 51 m2 := gSt_of hS (fun i => hE2 51 i (by omega)) (fun i => hE2 _ i (by omega))
          have h32 : m2 48 3 = 1 := by rw [hE2 48 3 (by omega)]; exact h3
          have h22 : m2 48 2 = -1 := by rw [hE2 48 2 (by omega)]; exact q1
          by_cases cs : (gFs V r (gSn V)).isSome ∧ 0 < r
          · obtain ⟨l, hl⟩ := Option.isSome_iff_exists.mp cs.1
            have at' := gFw_at (fun k hk' => q2 k (by omega)) hl (by omega)
            simp +contextual (disch := (first | omega | assumption | decide)) only [↓zbrT, ↓zbrF, zw28_0, zw28_1, zw28_2, zw28_3, zw28_4, zw28_5, zw28_7, zw28_8, zw28_9, zw28_10, zw28_11, zr_1, zr_3, zr_4, zr_7, zr_10, zr_12, zr_13, zr_15, zr_20, zr_53, zr_54, zr_56, zr_59, zr_61, zr_68, zr_70, zr_73, zlg_0, zlg_s, zls_0, zls_1, zls_s, zkl_i, zkl_r, zkl_l, zkl_n, zrc_1, zrc_s, zcat_n, zcat_i, zcat_l, zcat_r, zkd_43, zkd_45, zkd_48, zkd_50, zkd_51, zkd_53, zkd_55, zkd_57, zkd_59, zkd_a50, zln_50, zrf_48_1, zrf_a50, Int.cast_ofNat_Int, Int.reduceAdd, zbd, zw_id, zmu_same, zmu_c, zmu_i, false_and, and_false, true_and, and_true, true_or, or_true, false_or, or_false, Option.toList, List.nil_append, List.cons_append, zif0, zif1, zif01, zem1, zem2, Int.reduceEq, Int.reduceLT, Int.reduceLE, Int.reduceNeg, Int.reduceSub, Int.reduceMul, if_true, if_false, not_false_eq_true, not_true_eq_false, true_implies, false_implies, Classical.not_not, Nat.reduceAdd, Nat.reduceLeDiff, if_pos cs]
            refine kk _ _ ⟨by omega, rfl, gA_of hA2 (fun c i a b => zmu_c (by omega)), gSt_of hS2 (fun i => zmu_c (by decide)) (fun i => zmu_c (by decide)), fun c i hc => by rw [zmu_c (by omega)]; exact hX2 c i hc, by rw [zmu_i (by decide)]; exact h32, Or.inr ⟨by rw [zmu_same, at'.1], by rw [at'.1]; omega, fun i hi => ?_⟩⟩
            rw [at'.1] at hi
            have := hl2 cs.2 l hl i (by omega)
            rw [zmu_c (by decide), at'.2, ← this, show (0 : Int) + i = i by omega]
          · have f2 : gFs V r (gSn V) = none := by
              cases c : gFs V r (gSn V) with
              | none => rfl
              | some l => exact absurd ⟨by rw [c]; rfl, by omega⟩ cs
            simp +contextual (disch := (first | omega | assumption | decide)) only [↓zbrT, ↓zbrF, zw28_0, zw28_1, zw28_2, zw28_3, zw28_4, zw28_5, zw28_7, zw28_8, zw28_9, zw28_10, zw28_11, zr_1, zr_3, zr_4, zr_7, zr_10, zr_12, zr_13, zr_15, zr_20, zr_53, zr_54, zr_56, zr_59, zr_61, zr_68, zr_70, zr_73, zlg_0, zlg_s, zls_0, zls_1, zls_s, zkl_i, zkl_r, zkl_l, zkl_n, zrc_1, zrc_s, zcat_n, zcat_i, zcat_l, zcat_r, zkd_43, zkd_45, zkd_48, zkd_50, zkd_51, zkd_53, zkd_55, zkd_57, zkd_59, zkd_a50, zln_50, zrf_48_1, zrf_a50, Int.cast_ofNat_Int, Int.reduceAdd, zbd, zw_id, zmu_same, zmu_c, zmu_i, false_and, and_false, true_and, and_true, true_or, or_true, false_or, or_false, Option.toList, List.nil_append, List.cons_append, zif0, zif1, zif01, zem1, zem2, Int.reduceEq, Int.reduceLT, Int.reduceLE, Int.reduceNeg, Int.reduceSub, Int.reduceMul, if_true, if_false, not_false_eq_true, not_true_eq_false, true_implies, false_implies, Classical.not_not, Nat.reduceAdd, Nat.reduceLeDiff, if_neg cs]
            refine kk _ _ ⟨by omega, rfl, hA2, hS2, hX2, h32, Or.inl ⟨h22, fun k hk' => ?_⟩⟩
            by_cases e : k = r
            · rw [e]; exact f2
            · exact q2 k (by omega)
        · have nz : ¬ gFw V = -1 := by omega
          simp +contextual (disch := (first | omega | assumption | decide)) only [↓zbrT, ↓zbrF, zw28_0, zw28_1, zw28_2, zw28_3, zw28_4, zw28_5, zw28_7, zw28_8, zw28_9, zw28_10, zw28_11, zr_1, zr_3, zr_4, zr_7, zr_10, zr_12, zr_13, zr_15, zr_20, zr_53, zr_54, zr_56, zr_59, zr_61, zr_68, zr_70, zr_73, zlg_0, zlg_s, zls_0, zls_1, zls_s, zkl_i, zkl_r, zkl_l, zkl_n, zrc_1, zrc_s, zcat_n, zcat_i, zcat_l, zcat_r, zkd_43, zkd_45, zkd_48, zkd_50, zkd_51, zkd_53, zkd_55, zkd_57, zkd_59, zkd_a50, zln_50, zrf_48_1, zrf_a50, Int.cast_ofNat_Int, Int.reduceAdd, zbd, zw_id, zmu_same, zmu_c, zmu_i, false_and, and_false, true_and, and_true, true_or, or_true, false_or, or_false, Option.toList, List.nil_append, List.cons_append, zif0, zif1, zif01, zem1, zem2, Int.reduceEq, Int.reduceLT, Int.reduceLE, Int.reduceNeg, Int.reduceSub, Int.reduceMul, if_true, if_false, not_false_eq_true, not_true_eq_false, true_implies, false_implies, Classical.not_not, Nat.reduceAdd, Nat.reduceLeDiff, q1, nz]
          exact ⟨fin m' hA hX h3 q1 q3, hX, q3⟩
      · rintro lc m' ⟨h0, rfl, hA, hS, hX, h3, hor⟩
        rw [zw28_6]
        rcases hor with ⟨q1, q2⟩ | ⟨q1, q2, q3⟩
        · have e := gFw_no (fun j hj => q2 j (by omega))
          simp +contextual (disch := (first | omega | assumption | decide)) only [↓zbrT, ↓zbrF, zw28_0, zw28_1, zw28_2, zw28_3, zw28_4, zw28_5, zw28_7, zw28_8, zw28_9, zw28_10, zw28_11, zr_1, zr_3, zr_4, zr_7, zr_10, zr_12, zr_13, zr_15, zr_20, zr_53, zr_54, zr_56, zr_59, zr_61, zr_68, zr_70, zr_73, zlg_0, zlg_s, zls_0, zls_1, zls_s, zkl_i, zkl_r, zkl_l, zkl_n, zrc_1, zrc_s, zcat_n, zcat_i, zcat_l, zcat_r, zkd_43, zkd_45, zkd_48, zkd_50, zkd_51, zkd_53, zkd_55, zkd_57, zkd_59, zkd_a50, zln_50, zrf_48_1, zrf_a50, Int.cast_ofNat_Int, Int.reduceAdd, zbd, zw_id, zmu_same, zmu_c, zmu_i, false_and, and_false, true_and, and_true, true_or, or_true, false_or, or_false, Option.toList, List.nil_append, List.cons_append, zif0, zif1, zif01, zem1, zem2, Int.reduceEq, Int.reduceLT, Int.reduceLE, Int.reduceNeg, Int.reduceSub, Int.reduceMul, if_true, if_false, not_false_eq_true, not_true_eq_false, true_implies, false_implies, Classical.not_not, Nat.reduceAdd, Nat.reduceLeDiff, q1]
          exact ⟨by rw [e], fin m' hA hX h3 (by rw [e]; exact q1) (fun i hi => by omega), hX, fun i hi => by omega⟩
        · simp +contextual (disch := (first | omega | assumption | decide)) only [↓zbrT, ↓zbrF, zw28_0, zw28_1, zw28_2, zw28_3, zw28_4, zw28_5, zw28_7, zw28_8, zw28_9, zw28_10, zw28_11, zr_1, zr_3, zr_4, zr_7, zr_10, zr_12, zr_13, zr_15, zr_20, zr_53, zr_54, zr_56, zr_59, zr_61, zr_68, zr_70, zr_73, zlg_0, zlg_s, zls_0, zls_1, zls_s, zkl_i, zkl_r, zkl_l, zkl_n, zrc_1, zrc_s, zcat_n, zcat_i, zcat_l, zcat_r, zkd_43, zkd_45, zkd_48, zkd_50, zkd_51, zkd_53, zkd_55, zkd_57, zkd_59, zkd_a50, zln_50, zrf_48_1, zrf_a50, Int.cast_ofNat_Int, Int.reduceAdd, zbd, zw_id, zmu_same, zmu_c, zmu_i, false_and, and_false, true_and, and_true, true_or, or_true, false_or, or_false, Option.toList, List.nil_append, List.cons_append, zif0, zif1, zif01, zem1, zem2, Int.reduceEq, Int.reduceLT, Int.reduceLE, Int.reduceNeg, Int.reduceSub, Int.reduceMul, if_true, if_false, not_false_eq_true, not_true_eq_false, true_implies, false_implies, Classical.not_not, Nat.reduceAdd, Nat.reduceLeDiff, q1]
          exact ⟨fin m' hA hX h3 q1 q3, hX, q3⟩
      · refine ⟨by decide, rfl, hA1, hS1, fr1, f1, ?_⟩
        rcases hx with ⟨x1, x2⟩ | ⟨x1, x2⟩
        · refine Or.inl ⟨by rw [n1, x1], fun k hk' => ?_⟩
          have : k = 0 := by omega
          subst this
          show (if gSn V 2 = 1 then some [] else none) = none
          rw [if_neg (by omega)]
        · have e := gFw_at (V := V) (n := 0) (l := []) (fun j hj => by omega) (by show (if gSn V 2 = 1 then some [] else none) = some []; rw [if_pos x2]) (by decide)
          exact Or.inr ⟨by rw [n1, x1, e.1]; rfl, by rw [e.1]; decide, fun i hi => by rw [e.1] at hi; omega⟩
    rcases two with z | z
    · simp +contextual (disch := (first | omega | assumption | decide)) only [↓zbrT, ↓zbrF, zw28_0, zw28_1, zw28_2, zw28_3, zw28_4, zw28_7, zw28_8, zw28_9, zw28_10, zw28_11, zr_1, zr_3, zr_4, zr_7, zr_10, zr_12, zr_13, zr_15, zr_20, zr_53, zr_54, zr_56, zr_59, zr_61, zr_68, zr_70, zr_73, zlg_0, zlg_s, zls_0, zls_1, zls_s, zkl_i, zkl_r, zkl_l, zkl_n, zrc_1, zrc_s, zcat_n, zcat_i, zcat_l, zcat_r, zkd_43, zkd_45, zkd_48, zkd_50, zkd_51, zkd_53, zkd_55, zkd_57, zkd_59, zkd_a50, zln_50, zrf_48_1, zrf_a50, Int.cast_ofNat_Int, Int.reduceAdd, zbd, zw_id, zmu_same, zmu_c, zmu_i, false_and, and_false, true_and, and_true, true_or, or_true, false_or, or_false, Option.toList, List.nil_append, List.cons_append, zif0, zif1, zif01, zem1, zem2, Int.reduceEq, Int.reduceLT, Int.reduceLE, Int.reduceNeg, Int.reduceSub, Int.reduceMul, if_true, if_false, not_false_eq_true, not_true_eq_false, true_implies, false_implies, Classical.not_not, Nat.reduceAdd, Nat.reduceLeDiff, p, gA_0 hI.1.2.1, gA_1 hI.1.2.1, gA_2 hI.1.2.1, gA_3 hI.1.2.1, gA_4 hI.1.2.1, gA_5 hI.1.2.1, gA_6 hI.1.2.1, gA_7 hI.1.2.1, gA_8 hI.1.2.1, gA_9 hI.1.2.1, gA_r0 hI.1.2.1, gA_r1 hI.1.2.1, gA_r2 hI.1.2.1, gA_r3 hI.1.2.1, gA_f0 hI.1.2.1, gA_f1 hI.1.2.1, gA_f2 hI.1.2.1, gA_f3 hI.1.2.1, gA_f4 hI.1.2.1, gA_d hI.1, gI_s0 hI, gI_s1 hI, gI_s2 hI, gI_s3 hI, gI_s4 hI, gI_s5 hI, gI_n hI, z]
      exact go _ (Or.inl ⟨rfl, z⟩)
    · simp +contextual (disch := (first | omega | assumption | decide)) only [↓zbrT, ↓zbrF, zw28_0, zw28_1, zw28_2, zw28_3, zw28_4, zw28_7, zw28_8, zw28_9, zw28_10, zw28_11, zr_1, zr_3, zr_4, zr_7, zr_10, zr_12, zr_13, zr_15, zr_20, zr_53, zr_54, zr_56, zr_59, zr_61, zr_68, zr_70, zr_73, zlg_0, zlg_s, zls_0, zls_1, zls_s, zkl_i, zkl_r, zkl_l, zkl_n, zrc_1, zrc_s, zcat_n, zcat_i, zcat_l, zcat_r, zkd_43, zkd_45, zkd_48, zkd_50, zkd_51, zkd_53, zkd_55, zkd_57, zkd_59, zkd_a50, zln_50, zrf_48_1, zrf_a50, Int.cast_ofNat_Int, Int.reduceAdd, zbd, zw_id, zmu_same, zmu_c, zmu_i, false_and, and_false, true_and, and_true, true_or, or_true, false_or, or_false, Option.toList, List.nil_append, List.cons_append, zif0, zif1, zif01, zem1, zem2, Int.reduceEq, Int.reduceLT, Int.reduceLE, Int.reduceNeg, Int.reduceSub, Int.reduceMul, if_true, if_false, not_false_eq_true, not_true_eq_false, true_implies, false_implies, Classical.not_not, Nat.reduceAdd, Nat.reduceLeDiff, p, gA_0 hI.1.2.1, gA_1 hI.1.2.1, gA_2 hI.1.2.1, gA_3 hI.1.2.1, gA_4 hI.1.2.1, gA_5 hI.1.2.1, gA_6 hI.1.2.1, gA_7 hI.1.2.1, gA_8 hI.1.2.1, gA_9 hI.1.2.1, gA_r0 hI.1.2.1, gA_r1 hI.1.2.1, gA_r2 hI.1.2.1, gA_r3 hI.1.2.1, gA_f0 hI.1.2.1, gA_f1 hI.1.2.1, gA_f2 hI.1.2.1, gA_f3 hI.1.2.1, gA_f4 hI.1.2.1, gA_d hI.1, gI_s0 hI, gI_s1 hI, gI_s2 hI, gI_s3 hI, gI_s4 hI, gI_s5 hI, gI_n hI, z]
      exact go _ (Or.inr ⟨rfl, z⟩)
  · simp +contextual (disch := (first | omega | assumption | decide)) only [↓zbrT, ↓zbrF, zw28_0, zw28_1, zw28_2, zw28_3, zw28_4, zw28_5, zw28_7, zw28_8, zw28_9, zw28_10, zw28_11, zr_1, zr_3, zr_4, zr_7, zr_10, zr_12, zr_13, zr_15, zr_20, zr_53, zr_54, zr_56, zr_59, zr_61, zr_68, zr_70, zr_73, zlg_0, zlg_s, zls_0, zls_1, zls_s, zkl_i, zkl_r, zkl_l, zkl_n, zrc_1, zrc_s, zcat_n, zcat_i, zcat_l, zcat_r, zkd_43, zkd_45, zkd_48, zkd_50, zkd_51, zkd_53, zkd_55, zkd_57, zkd_59, zkd_a50, zln_50, zrf_48_1, zrf_a50, Int.cast_ofNat_Int, Int.reduceAdd, zbd, zw_id, zmu_same, zmu_c, zmu_i, false_and, and_false, true_and, and_true, true_or, or_true, false_or, or_false, Option.toList, List.nil_append, List.cons_append, zif0, zif1, zif01, zem1, zem2, Int.reduceEq, Int.reduceLT, Int.reduceLE, Int.reduceNeg, Int.reduceSub, Int.reduceMul, if_true, if_false, not_false_eq_true, not_true_eq_false, true_implies, false_implies, Classical.not_not, Nat.reduceAdd, Nat.reduceLeDiff, p1, p2]
    exact ⟨hI, gX_refl, p3⟩
def sp136 (V : zMm) : Int := if V 0 10 = 0 then -2 else gFw V
def sp137 (V : zMm) (i : Int) : Int := if V 0 10 = 0 then -2 else if 0 ≤ i ∧ i < gFw V then (gPn V).getD i.toNat 0 else -3
theorem gFw_bd {V : zMm} : -1 ≤ gFw V ∧ gFw V ≤ 4 := by
  unfold gFw
  (repeat' split) <;> omega
theorem gz136 {d : Nat} {m : zMm} {V : zMm} (hI : gI V m) : zC (d + 13) 136 [.inr (.inr 0)] m (fun r' m' => r' = some (.inl (sp136 V)) ∧ gI V m' ∧ gX m m') := by
  refine ze136 ?_
  unfold sp136
  by_cases c1 : V 0 10 = 0
  · rw [if_pos c1]
    simp +contextual (disch := (first | omega | assumption | decide)) only [↓zbrT, ↓zbrF, zw136_0, zw136_1, zw136_2, zw136_3, zr_3, zr_7, zr_12, zr_54, zr_61, zr_68, zr_70, zr_73, zlg_0, zlg_s, zrc_1, zrc_s, zcat_n, zcat_i, zcat_l, zcat_r, zkd_0, zkd_20, zkd_43, zkd_48, zrf_0_2, zrf_0_6, zrf_0_9, Int.cast_ofNat_Int, Int.reduceAdd, false_and, and_false, true_and, and_true, true_or, or_true, false_or, or_false, Option.toList, List.nil_append, List.cons_append, zif0, zif1, zif01, zem1, zem2, Int.reduceEq, Int.reduceLT, Int.reduceLE, Int.reduceNeg, Int.reduceSub, Int.reduceMul, if_true, if_false, not_false_eq_true, not_true_eq_false, true_implies, false_implies, Classical.not_not, Nat.reduceAdd, Nat.reduceLeDiff, zq74, gA_0 hI.1.2.1, gA_1 hI.1.2.1, gA_2 hI.1.2.1, gA_3 hI.1.2.1, gA_4 hI.1.2.1, gA_5 hI.1.2.1, gA_6 hI.1.2.1, gA_7 hI.1.2.1, gA_8 hI.1.2.1, gA_9 hI.1.2.1, gA_r0 hI.1.2.1, gA_r1 hI.1.2.1, gA_r2 hI.1.2.1, gA_r3 hI.1.2.1, gA_f0 hI.1.2.1, gA_f1 hI.1.2.1, gA_f2 hI.1.2.1, gA_f3 hI.1.2.1, gA_f4 hI.1.2.1, gA_d hI.1, gI_s0 hI, gI_s1 hI, gI_s2 hI, gI_s3 hI, gI_s4 hI, gI_s5 hI, gI_n hI, if_pos c1]
    (first | exact ⟨hI, gX_refl⟩ | exact ⟨rfl, hI, gX_refl⟩)
  · rw [if_neg c1]
    simp +contextual (disch := (first | omega | assumption | decide)) only [↓zbrT, ↓zbrF, zw136_0, zw136_1, zw136_2, zw136_3, zr_3, zr_7, zr_12, zr_54, zr_61, zr_68, zr_70, zr_73, zlg_0, zlg_s, zrc_1, zrc_s, zcat_n, zcat_i, zcat_l, zcat_r, zkd_0, zkd_20, zkd_43, zkd_48, zrf_0_2, zrf_0_6, zrf_0_9, Int.cast_ofNat_Int, Int.reduceAdd, false_and, and_false, true_and, and_true, true_or, or_true, false_or, or_false, Option.toList, List.nil_append, List.cons_append, zif0, zif1, zif01, zem1, zem2, Int.reduceEq, Int.reduceLT, Int.reduceLE, Int.reduceNeg, Int.reduceSub, Int.reduceMul, if_true, if_false, not_false_eq_true, not_true_eq_false, true_implies, false_implies, Classical.not_not, Nat.reduceAdd, Nat.reduceLeDiff, zq74, gA_0 hI.1.2.1, gA_1 hI.1.2.1, gA_2 hI.1.2.1, gA_3 hI.1.2.1, gA_4 hI.1.2.1, gA_5 hI.1.2.1, gA_6 hI.1.2.1, gA_7 hI.1.2.1, gA_8 hI.1.2.1, gA_9 hI.1.2.1, gA_r0 hI.1.2.1, gA_r1 hI.1.2.1, gA_r2 hI.1.2.1, gA_r3 hI.1.2.1, gA_f0 hI.1.2.1, gA_f1 hI.1.2.1, gA_f2 hI.1.2.1, gA_f3 hI.1.2.1, gA_f4 hI.1.2.1, gA_d hI.1, gI_s0 hI, gI_s1 hI, gI_s2 hI, gI_s3 hI, gI_s4 hI, gI_s5 hI, gI_n hI, if_neg c1]
    refine gK (gz28 hI) rfl rfl (Nat.le_of_ble_eq_true rfl) ?_
    rintro _ m1 ⟨rfl, hI1, hX1, _⟩
    (try simp +contextual (disch := (first | omega | assumption | decide)) only [↓zbrT, ↓zbrF, zw136_0, zw136_1, zw136_2, zw136_3, zr_3, zr_7, zr_12, zr_54, zr_61, zr_68, zr_70, zr_73, zlg_0, zlg_s, zrc_1, zrc_s, zcat_n, zcat_i, zcat_l, zcat_r, zkd_0, zkd_20, zkd_43, zkd_48, zrf_0_2, zrf_0_6, zrf_0_9, Int.cast_ofNat_Int, Int.reduceAdd, false_and, and_false, true_and, and_true, true_or, or_true, false_or, or_false, Option.toList, List.nil_append, List.cons_append, zif0, zif1, zif01, zem1, zem2, Int.reduceEq, Int.reduceLT, Int.reduceLE, Int.reduceNeg, Int.reduceSub, Int.reduceMul, if_true, if_false, not_false_eq_true, not_true_eq_false, true_implies, false_implies, Classical.not_not, Nat.reduceAdd, Nat.reduceLeDiff])
    (first | exact ⟨hI1, hX1⟩ | exact ⟨rfl, hI1, hX1⟩)
theorem gz137 {d : Nat} {m : zMm} {i : Int} {V : zMm} (hI : gI V m) : zC (d + 13) 137 [.inr (.inr 0), .inl i] m (fun r' m' => r' = some (.inl (sp137 V i)) ∧ gI V m' ∧ gX m m') := by
  refine ze137 ?_
  have fb := gFw_bd (V := V)
  unfold sp137
  by_cases c1 : V 0 10 = 0
  · rw [if_pos c1]
    simp +contextual (disch := (first | omega | assumption | decide)) only [↓zbrT, ↓zbrF, zw137_0, zw137_1, zw137_2, zw137_3, zw137_4, zw137_5, zw137_6, zr_1, zr_3, zr_4, zr_7, zr_12, zr_16, zr_54, zr_58, zr_61, zr_63, zr_68, zr_70, zr_73, zlg_0, zlg_s, zls_0, zls_1, zls_s, zkl_i, zkl_r, zkl_l, zkl_n, zrc_1, zrc_s, zcat_n, zcat_i, zcat_l, zcat_r, zkd_0, zkd_20, zkd_43, zkd_48, zkd_49, zln_49, zrf_0_2, zrf_0_6, zrf_0_9, zrf_48_0, Int.cast_ofNat_Int, Int.reduceAdd, zbd, false_and, and_false, true_and, and_true, true_or, or_true, false_or, or_false, Option.toList, List.nil_append, List.cons_append, zif0, zif1, zif01, zem1, zem2, Int.reduceEq, Int.reduceLT, Int.reduceLE, Int.reduceNeg, Int.reduceSub, Int.reduceMul, if_true, if_false, not_false_eq_true, not_true_eq_false, true_implies, false_implies, Classical.not_not, Nat.reduceAdd, Nat.reduceLeDiff, zq74, gA_0 hI.1.2.1, gA_1 hI.1.2.1, gA_2 hI.1.2.1, gA_3 hI.1.2.1, gA_4 hI.1.2.1, gA_5 hI.1.2.1, gA_6 hI.1.2.1, gA_7 hI.1.2.1, gA_8 hI.1.2.1, gA_9 hI.1.2.1, gA_r0 hI.1.2.1, gA_r1 hI.1.2.1, gA_r2 hI.1.2.1, gA_r3 hI.1.2.1, gA_f0 hI.1.2.1, gA_f1 hI.1.2.1, gA_f2 hI.1.2.1, gA_f3 hI.1.2.1, gA_f4 hI.1.2.1, gA_d hI.1, gI_s0 hI, gI_s1 hI, gI_s2 hI, gI_s3 hI, gI_s4 hI, gI_s5 hI, gI_n hI, if_pos c1]
    (first | exact ⟨hI, gX_refl⟩ | exact ⟨rfl, hI, gX_refl⟩)
  · rw [if_neg c1]
    simp +contextual (disch := (first | omega | assumption | decide)) only [↓zbrT, ↓zbrF, zw137_0, zw137_1, zw137_2, zw137_3, zw137_4, zw137_5, zw137_6, zr_1, zr_3, zr_4, zr_7, zr_12, zr_16, zr_54, zr_58, zr_61, zr_63, zr_68, zr_70, zr_73, zlg_0, zlg_s, zls_0, zls_1, zls_s, zkl_i, zkl_r, zkl_l, zkl_n, zrc_1, zrc_s, zcat_n, zcat_i, zcat_l, zcat_r, zkd_0, zkd_20, zkd_43, zkd_48, zkd_49, zln_49, zrf_0_2, zrf_0_6, zrf_0_9, zrf_48_0, Int.cast_ofNat_Int, Int.reduceAdd, zbd, false_and, and_false, true_and, and_true, true_or, or_true, false_or, or_false, Option.toList, List.nil_append, List.cons_append, zif0, zif1, zif01, zem1, zem2, Int.reduceEq, Int.reduceLT, Int.reduceLE, Int.reduceNeg, Int.reduceSub, Int.reduceMul, if_true, if_false, not_false_eq_true, not_true_eq_false, true_implies, false_implies, Classical.not_not, Nat.reduceAdd, Nat.reduceLeDiff, zq74, gA_0 hI.1.2.1, gA_1 hI.1.2.1, gA_2 hI.1.2.1, gA_3 hI.1.2.1, gA_4 hI.1.2.1, gA_5 hI.1.2.1, gA_6 hI.1.2.1, gA_7 hI.1.2.1, gA_8 hI.1.2.1, gA_9 hI.1.2.1, gA_r0 hI.1.2.1, gA_r1 hI.1.2.1, gA_r2 hI.1.2.1, gA_r3 hI.1.2.1, gA_f0 hI.1.2.1, gA_f1 hI.1.2.1, gA_f2 hI.1.2.1, gA_f3 hI.1.2.1, gA_f4 hI.1.2.1, gA_d hI.1, gI_s0 hI, gI_s1 hI, gI_s2 hI, gI_s3 hI, gI_s4 hI, gI_s5 hI, gI_n hI, if_neg c1]
    refine gK (gz28 hI) rfl rfl (Nat.le_of_ble_eq_true rfl) ?_
    rintro _ m1 ⟨rfl, hI1, hX1, hp⟩
    by_cases c2 : 0 ≤ i ∧ i < gFw V
    · rw [if_pos c2]
      have e := hp i.toNat (by omega)
      rw [show ((i.toNat : Nat) : Int) = i by omega] at e
      simp +contextual (disch := (first | omega | assumption | decide)) only [↓zbrT, ↓zbrF, zw137_0, zw137_1, zw137_2, zw137_3, zw137_4, zw137_5, zw137_6, zr_1, zr_3, zr_4, zr_7, zr_12, zr_16, zr_54, zr_58, zr_61, zr_63, zr_68, zr_70, zr_73, zlg_0, zlg_s, zls_0, zls_1, zls_s, zkl_i, zkl_r, zkl_l, zkl_n, zrc_1, zrc_s, zcat_n, zcat_i, zcat_l, zcat_r, zkd_0, zkd_20, zkd_43, zkd_48, zkd_49, zln_49, zrf_0_2, zrf_0_6, zrf_0_9, zrf_48_0, Int.cast_ofNat_Int, Int.reduceAdd, zbd, false_and, and_false, true_and, and_true, true_or, or_true, false_or, or_false, Option.toList, List.nil_append, List.cons_append, zif0, zif1, zif01, zem1, zem2, Int.reduceEq, Int.reduceLT, Int.reduceLE, Int.reduceNeg, Int.reduceSub, Int.reduceMul, if_true, if_false, not_false_eq_true, not_true_eq_false, true_implies, false_implies, Classical.not_not, Nat.reduceAdd, Nat.reduceLeDiff, e]
      exact ⟨hI1, hX1⟩
    · rw [if_neg c2]
      by_cases c3 : i < 0
      · simp +contextual (disch := (first | omega | assumption | decide)) only [↓zbrT, ↓zbrF, zw137_0, zw137_1, zw137_2, zw137_3, zw137_4, zw137_5, zw137_6, zr_1, zr_3, zr_4, zr_7, zr_12, zr_16, zr_54, zr_58, zr_61, zr_63, zr_68, zr_70, zr_73, zlg_0, zlg_s, zls_0, zls_1, zls_s, zkl_i, zkl_r, zkl_l, zkl_n, zrc_1, zrc_s, zcat_n, zcat_i, zcat_l, zcat_r, zkd_0, zkd_20, zkd_43, zkd_48, zkd_49, zln_49, zrf_0_2, zrf_0_6, zrf_0_9, zrf_48_0, Int.cast_ofNat_Int, Int.reduceAdd, zbd, false_and, and_false, true_and, and_true, true_or, or_true, false_or, or_false, Option.toList, List.nil_append, List.cons_append, zif0, zif1, zif01, zem1, zem2, Int.reduceEq, Int.reduceLT, Int.reduceLE, Int.reduceNeg, Int.reduceSub, Int.reduceMul, if_true, if_false, not_false_eq_true, not_true_eq_false, true_implies, false_implies, Classical.not_not, Nat.reduceAdd, Nat.reduceLeDiff]
        exact ⟨hI1, hX1⟩
      · simp +contextual (disch := (first | omega | assumption | decide)) only [↓zbrT, ↓zbrF, zw137_0, zw137_1, zw137_2, zw137_3, zw137_4, zw137_5, zw137_6, zr_1, zr_3, zr_4, zr_7, zr_12, zr_16, zr_54, zr_58, zr_61, zr_63, zr_68, zr_70, zr_73, zlg_0, zlg_s, zls_0, zls_1, zls_s, zkl_i, zkl_r, zkl_l, zkl_n, zrc_1, zrc_s, zcat_n, zcat_i, zcat_l, zcat_r, zkd_0, zkd_20, zkd_43, zkd_48, zkd_49, zln_49, zrf_0_2, zrf_0_6, zrf_0_9, zrf_48_0, Int.cast_ofNat_Int, Int.reduceAdd, zbd, false_and, and_false, true_and, and_true, true_or, or_true, false_or, or_false, Option.toList, List.nil_append, List.cons_append, zif0, zif1, zif01, zem1, zem2, Int.reduceEq, Int.reduceLT, Int.reduceLE, Int.reduceNeg, Int.reduceSub, Int.reduceMul, if_true, if_false, not_false_eq_true, not_true_eq_false, true_implies, false_implies, Classical.not_not, Nat.reduceAdd, Nat.reduceLeDiff]
        exact ⟨hI1, hX1⟩
/-! ===== the model's search of plans ===== -/
def gRw (V : zMm) : List Int → (Int → Int) → Option (Int → Int)
  | [], S => some S
  | g :: t, S => if gMp V S g = 1 then gRw V t (gNi V S g) else none
theorem gRw_app {V : zMm} {g : Int} : ∀ (l : List Int) (S : Int → Int), gRw V (l ++ [g]) S = match gRw V l S with | some S' => if gMp V S' g = 1 then some (gNi V S' g) else none | none => none
  | [], S => by
    show (if gMp V S g = 1 then some (gNi V S g) else none) = _
    rfl
  | a :: l, S => by
    show (if gMp V S a = 1 then gRw V (l ++ [g]) (gNi V S a) else none) = match (if gMp V S a = 1 then gRw V l (gNi V S a) else none) with | some S' => if gMp V S' g = 1 then some (gNi V S' g) else none | none => none
    by_cases c : gMp V S a = 1
    · rw [if_pos c, if_pos c]; exact gRw_app l _
    · rw [if_neg c, if_neg c]
theorem gRw_ok {V : zMm} (hV : gOk V) : ∀ (l : List Int) (S S' : Int → Int), gSok V S → S 0 + l.length ≤ 1000 → gRw V l S = some S' → gSok V S' ∧ S' 0 = S 0 + l.length
  | [], S, S', h, _, e => by
    have : S = S' := Option.some.inj e
    subst this
    exact ⟨h, by show S 0 = S 0 + ((0 : Nat) : Int); omega⟩
  | g :: t, S, S', h, hb, e => by
    have e1 : gRw V (g :: t) S = if gMp V S g = 1 then gRw V t (gNi V S g) else none := rfl
    rw [e1] at e
    rw [List.length_cons] at hb
    by_cases c : gMp V S g = 1
    · rw [if_pos c] at e
      have l := gMp_lg c
      have i := gRw_ok hV t (gNi V S g) S' (gSok_ni hV h l.1 (by omega)) (by rw [gNi_0]; omega) e
      refine ⟨i.1, ?_⟩
      rw [i.2, gNi_0, List.length_cons]; omega
    · rw [if_neg c] at e; cases e
/-- the first numbers of the model's row of gates -/
def gPw (l : List Int) (m : zMm) : Prop := ∀ i : Nat, i < l.length → m 150 i = l.getD i 0
theorem gtake_app : ∀ (l : List Int) (i : Nat), i < l.length → l.take (i + 1) = l.take i ++ [l.getD i 0]
  | [], i, h => absurd h (by simp)
  | a :: l, 0, h => by simp
  | a :: l, i + 1, h => by
    rw [List.length_cons] at h
    rw [List.take_succ_cons, List.take_succ_cons, List.getD_cons_succ, gtake_app l i (by omega)]; rfl
theorem gz276 {d : Nat} {m : zMm} {n : Int} {V : zMm} {l : List Int} (hQ : gQ V m) (hl : (l.length : Int) = n ∧ n ≤ 4) (hp : gPw l m) (hg : ∀ g, g ∈ l → g = -1 ∨ (0 ≤ g ∧ g < V 0 5)) : zC (d + 14) 276 [.inr (.inr 131), .inl n] m (fun r' m' => (∃ S, gRw V l (gSn V) = some S ∧ r' = some (.inl 1) ∧ gL V S m' ∧ gY m m' ∧ ∀ i, m' 150 i = m 150 i) ∨ (gRw V l (gSn V) = none ∧ r' = some (.inl 0) ∧ gY m m' ∧ ∀ i, m' 150 i = m 150 i)) := by
  refine ze276 ?_
  have hb := hQ.1.1
  have ok0 := gSn_0 hQ.1 hQ.2.1
  simp +contextual (disch := (first | omega | assumption | decide)) only [↓zbrT, ↓zbrF, zw276_0, zw276_2, zw276_3, zw276_4, zw276_5, zr_1, zr_3, zr_4, zr_7, zr_12, zr_16, zr_52, zr_53, zr_54, zr_58, zr_62, zr_68, zr_73, zr_76, zlg_0, zlg_s, zls_0, zls_1, zls_s, zkl_i, zkl_r, zkl_l, zkl_n, zrc_1, zrc_s, zcat_n, zcat_i, zcat_l, zcat_r, zkd_131, zkd_150, zln_150, zrf_131_40, Int.cast_ofNat_Int, Int.reduceAdd, zbd, zw_id, false_and, and_false, true_and, and_true, true_or, or_true, false_or, or_false, Option.toList, List.nil_append, List.cons_append, zif0, zif1, zif01, zem1, zem2, Int.reduceEq, Int.reduceLT, Int.reduceLE, Int.reduceNeg, Int.reduceSub, Int.reduceMul, if_true, if_false, not_false_eq_true, not_true_eq_false, true_implies, false_implies, Classical.not_not, Nat.reduceAdd, Nat.reduceLeDiff]
  refine gK (gz219 hQ.1 hQ.2.1 hQ.2.2.1 hQ.2.2.2) rfl rfl (Nat.le_of_ble_eq_true rfl) ?_
  rintro _ m1 ⟨rfl, hS1, hF1, hE1⟩
  simp +contextual (disch := (first | omega | assumption | decide)) only [↓zbrT, ↓zbrF, zw276_0, zw276_2, zw276_3, zw276_4, zw276_5, zr_1, zr_3, zr_4, zr_7, zr_12, zr_16, zr_52, zr_53, zr_54, zr_58, zr_62, zr_68, zr_73, zr_76, zlg_0, zlg_s, zls_0, zls_1, zls_s, zkl_i, zkl_r, zkl_l, zkl_n, zrc_1, zrc_s, zcat_n, zcat_i, zcat_l, zcat_r, zkd_131, zkd_150, zln_150, zrf_131_40, Int.cast_ofNat_Int, Int.reduceAdd, zbd, zw_id, false_and, and_false, true_and, and_true, true_or, or_true, false_or, or_false, Option.toList, List.nil_append, List.cons_append, zif0, zif1, zif01, zem1, zem2, Int.reduceEq, Int.reduceLT, Int.reduceLE, Int.reduceNeg, Int.reduceSub, Int.reduceMul, if_true, if_false, not_false_eq_true, not_true_eq_false, true_implies, false_implies, Classical.not_not, Nat.reduceAdd, Nat.reduceLeDiff]
  refine zfor n (fun k lc m' => 0 ≤ k ∧ lc = [some (.inr (.inr 131)), some (.inl n), some (.inl k)] ∧ ∃ S, gRw V (l.take k.toNat) (gSn V) = some S ∧ gL V S m' ∧ gEn m m') ?_ ?_ (i := 0) (by omega) ?_
  · rintro k lc m' hk ⟨h0, rfl, S, hR, hL, hE⟩ kk
    have hM := gEn_mo hE hQ.2.2.1
    have ok := gRw_ok hQ.1 (l.take k.toNat) (gSn V) S ok0.1 (by rw [List.length_take]; omega) hR
    rw [List.length_take] at ok
    have ea : m' 150 k = l.getD k.toNat 0 := by
      have := hp k.toNat (by omega)
      rw [show ((k.toNat : Nat) : Int) = k by omega] at this
      rw [hE 150 k (by omega)]; exact this
    have hm := hg _ (ggetD_mem l k.toNat (by omega))
    have et := gtake_app l k.toNat (by omega)
    have er := gRw_app (V := V) (g := l.getD k.toNat 0) (l.take k.toNat) (gSn V)
    rw [hR, ← et] at er
    have er' : gRw V (l.take (k.toNat + 1)) (gSn V) = if gMp V S (l.getD k.toNat 0) = 1 then some (gNi V S (l.getD k.toNat 0)) else none := er
    rw [zw276_1]
    rcases gMp_01 V S (l.getD k.toNat 0) with z | z
    · simp +contextual (disch := (first | omega | assumption | decide)) only [↓zbrT, ↓zbrF, zw276_0, zw276_2, zw276_3, zw276_4, zw276_5, zr_1, zr_3, zr_4, zr_7, zr_12, zr_16, zr_52, zr_53, zr_54, zr_58, zr_62, zr_68, zr_73, zr_76, zlg_0, zlg_s, zls_0, zls_1, zls_s, zkl_i, zkl_r, zkl_l, zkl_n, zrc_1, zrc_s, zcat_n, zcat_i, zcat_l, zcat_r, zkd_131, zkd_150, zln_150, zrf_131_40, Int.cast_ofNat_Int, Int.reduceAdd, zbd, zw_id, false_and, and_false, true_and, and_true, true_or, or_true, false_or, or_false, Option.toList, List.nil_append, List.cons_append, zif0, zif1, zif01, zem1, zem2, Int.reduceEq, Int.reduceLT, Int.reduceLE, Int.reduceNeg, Int.reduceSub, Int.reduceMul, if_true, if_false, not_false_eq_true, not_true_eq_false, true_implies, false_implies, Classical.not_not, Nat.reduceAdd, Nat.reduceLeDiff, ea, zq220 hQ.1 hM hL.2 hL.1 ok.1 hm, z]
      refine Or.inr ⟨?_, gY_n hE, fun i => hE 150 i (by omega)⟩
      rw [if_neg (by omega)] at er'
      have more : ∀ j : Nat, gRw V (l.take (k.toNat + 1 + j)) (gSn V) = none := by
        intro j
        induction j with
        | zero => exact er'
        | succ j ih =>
          by_cases c : k.toNat + 1 + j < l.length
          · rw [show k.toNat + 1 + (j + 1) = (k.toNat + 1 + j) + 1 by omega, gtake_app l _ c, gRw_app, ih]
          · rw [List.take_of_length_le (by omega)] at ih ⊢
            exact ih
      have := more l.length
      rw [List.take_of_length_le (by omega)] at this
      exact this
    · rw [if_pos z] at er'
      simp +contextual (disch := (first | omega | assumption | decide)) only [↓zbrT, ↓zbrF, zw276_0, zw276_2, zw276_3, zw276_4, zw276_5, zr_1, zr_3, zr_4, zr_7, zr_12, zr_16, zr_52, zr_53, zr_54, zr_58, zr_62, zr_68, zr_73, zr_76, zlg_0, zlg_s, zls_0, zls_1, zls_s, zkl_i, zkl_r, zkl_l, zkl_n, zrc_1, zrc_s, zcat_n, zcat_i, zcat_l, zcat_r, zkd_131, zkd_150, zln_150, zrf_131_40, Int.cast_ofNat_Int, Int.reduceAdd, zbd, zw_id, false_and, and_false, true_and, and_true, true_or, or_true, false_or, or_false, Option.toList, List.nil_append, List.cons_append, zif0, zif1, zif01, zem1, zem2, Int.reduceEq, Int.reduceLT, Int.reduceLE, Int.reduceNeg, Int.reduceSub, Int.reduceMul, if_true, if_false, not_false_eq_true, not_true_eq_false, true_implies, false_implies, Classical.not_not, Nat.reduceAdd, Nat.reduceLeDiff, ea, zq220 hQ.1 hM hL.2 hL.1 ok.1 hm, z]
      refine gK (gz221 hQ.1 hM hL.2 hL.1 ok.1 (gMp_lg z).1 (by omega)) rfl rfl (Nat.le_of_ble_eq_true rfl) ?_
      rintro _ m2 ⟨rfl, hS2, hF2, hE2⟩
      simp +contextual (disch := (first | omega | assumption | decide)) only [↓zbrT, ↓zbrF, zw276_0, zw276_2, zw276_3, zw276_4, zw276_5, zr_1, zr_3, zr_4, zr_7, zr_12, zr_16, zr_52, zr_53, zr_54, zr_58, zr_62, zr_68, zr_73, zr_76, zlg_0, zlg_s, zls_0, zls_1, zls_s, zkl_i, zkl_r, zkl_l, zkl_n, zrc_1, zrc_s, zcat_n, zcat_i, zcat_l, zcat_r, zkd_131, zkd_150, zln_150, zrf_131_40, Int.cast_ofNat_Int, Int.reduceAdd, zbd, zw_id, false_and, and_false, true_and, and_true, true_or, or_true, false_or, or_false, Option.toList, List.nil_append, List.cons_append, zif0, zif1, zif01, zem1, zem2, Int.reduceEq, Int.reduceLT, Int.reduceLE, Int.reduceNeg, Int.reduceSub, Int.reduceMul, if_true, if_false, not_false_eq_true, not_true_eq_false, true_implies, false_implies, Classical.not_not, Nat.reduceAdd, Nat.reduceLeDiff]
      exact kk _ _ ⟨by omega, rfl, _, by rw [show (k + 1).toNat = k.toNat + 1 by omega]; exact er', ⟨hS2, hF2⟩, gEn_tr hE hE2⟩
  · rintro lc m' ⟨h0, rfl, S, hR, hL, hE⟩
    rw [List.take_of_length_le (by omega)] at hR
    rw [zw276_1]
    simp +contextual (disch := (first | omega | assumption | decide)) only [↓zbrT, ↓zbrF, zw276_0, zw276_2, zw276_3, zw276_4, zw276_5, zr_1, zr_3, zr_4, zr_7, zr_12, zr_16, zr_52, zr_53, zr_54, zr_58, zr_62, zr_68, zr_73, zr_76, zlg_0, zlg_s, zls_0, zls_1, zls_s, zkl_i, zkl_r, zkl_l, zkl_n, zrc_1, zrc_s, zcat_n, zcat_i, zcat_l, zcat_r, zkd_131, zkd_150, zln_150, zrf_131_40, Int.cast_ofNat_Int, Int.reduceAdd, zbd, zw_id, false_and, and_false, true_and, and_true, true_or, or_true, false_or, or_false, Option.toList, List.nil_append, List.cons_append, zif0, zif1, zif01, zem1, zem2, Int.reduceEq, Int.reduceLT, Int.reduceLE, Int.reduceNeg, Int.reduceSub, Int.reduceMul, if_true, if_false, not_false_eq_true, not_true_eq_false, true_implies, false_implies, Classical.not_not, Nat.reduceAdd, Nat.reduceLeDiff]
    exact Or.inl ⟨S, hR, hL, gY_n hE, fun i => hE 150 i (by omega)⟩
  · exact ⟨by decide, rfl, gSn V, rfl, ⟨hS1, hF1⟩, hE1⟩
theorem gz277 {V : zMm} : ∀ (r : Nat) {d : Nat} {m : zMm} {i n : Int} {l : List Int}, gQ V m → ((l.length : Int) = i ∧ i + r = n ∧ n ≤ 4) → gPw l m → (∀ g, g ∈ l → g = -1 ∨ (0 ≤ g ∧ g < V 0 5)) → zC (d + r + 15) 277 [.inr (.inr 131), .inl i, .inl n] m (fun r' m' => gY m m' ∧ (∀ k, k < i → m' 150 k = m 150 k) ∧ ((∃ S t, gRw V l (gSn V) = some S ∧ gFs V r S = some t ∧ r' = some (.inl 1) ∧ ∀ j : Nat, j < r → m' 150 (i + j) = t.getD j 0) ∨ ((∀ S, gRw V l (gSn V) = some S → gFs V r S = none) ∧ r' = some (.inl 0))))
  | r, d, m, i, n, l, hQ, hl, hp, hg => by
    have hb := hQ.1.1
    have ok0 := gSn_0 hQ.1 hQ.2.1
    refine ze277 ?_
    simp +contextual (disch := (first | omega | assumption | decide)) only [↓zbrT, ↓zbrF, zw277_0, zw277_1, zw277_2, zw277_3, zw277_4, zw277_6, zw277_7, zw277_8, zw277_9, zw277_10, zw277_11, zw277_12, zr_1, zr_3, zr_4, zr_7, zr_10, zr_12, zr_16, zr_21, zr_26, zr_46, zr_53, zr_54, zr_55, zr_56, zr_58, zr_61, zr_62, zr_68, zr_73, zr_76, zlg_0, zlg_s, zls_0, zls_1, zls_s, zkl_i, zkl_r, zkl_l, zkl_n, zrc_1, zrc_s, zcat_n, zcat_i, zcat_l, zcat_r, zkd_131, zkd_138, zkd_150, zln_138, zln_150, zrf_131_17, zrf_131_40, Int.cast_ofNat_Int, Int.reduceAdd, zbd, zw_id, zmu_same, zmu_c, zmu_i, false_and, and_false, true_and, and_true, true_or, or_true, false_or, or_false, Option.toList, List.nil_append, List.cons_append, zif0, zif1, zif01, zem1, zem2, Int.reduceEq, Int.reduceLT, Int.reduceLE, Int.reduceNeg, Int.reduceSub, Int.reduceMul, if_true, if_false, not_false_eq_true, not_true_eq_false, true_implies, false_implies, Classical.not_not, Nat.reduceAdd, Nat.reduceLeDiff]
    refine gK (zC_le (d' := d + r + 14) (by omega) (gz276 (d := d) (l := l) hQ ⟨hl.1, by omega⟩ hp hg)) rfl rfl (Nat.le_of_ble_eq_true rfl) ?_
    rintro r1 m1 (⟨S, hR, rfl, hL, hY, h150⟩ | ⟨hR, rfl, hY, h150⟩)
    · have ok := gRw_ok hQ.1 l (gSn V) S ok0.1 (by omega) hR
      cases r with
      | zero =>
        have e0 : gFs V 0 S = if S 2 = 1 then some [] else none := rfl
        have z01 := ok.1.2.2.1
        rcases z01 with z | z
        · rw [if_neg (by omega)] at e0
          simp +contextual (disch := (first | omega | assumption | decide)) only [↓zbrT, ↓zbrF, zw277_0, zw277_1, zw277_2, zw277_3, zw277_4, zw277_6, zw277_7, zw277_8, zw277_9, zw277_10, zw277_11, zw277_12, zr_1, zr_3, zr_4, zr_7, zr_10, zr_12, zr_16, zr_21, zr_26, zr_46, zr_53, zr_54, zr_55, zr_56, zr_58, zr_61, zr_62, zr_68, zr_73, zr_76, zlg_0, zlg_s, zls_0, zls_1, zls_s, zkl_i, zkl_r, zkl_l, zkl_n, zrc_1, zrc_s, zcat_n, zcat_i, zcat_l, zcat_r, zkd_131, zkd_138, zkd_150, zln_138, zln_150, zrf_131_17, zrf_131_40, Int.cast_ofNat_Int, Int.reduceAdd, zbd, zw_id, zmu_same, zmu_c, zmu_i, false_and, and_false, true_and, and_true, true_or, or_true, false_or, or_false, Option.toList, List.nil_append, List.cons_append, zif0, zif1, zif01, zem1, zem2, Int.reduceEq, Int.reduceLT, Int.reduceLE, Int.reduceNeg, Int.reduceSub, Int.reduceMul, if_true, if_false, not_false_eq_true, not_true_eq_false, true_implies, false_implies, Classical.not_not, Nat.reduceAdd, Nat.reduceLeDiff, gL_2 hL, z]
          refine ⟨hY, fun k hk => h150 k, Or.inr (fun S' hS' => ?_)⟩
          rw [hR] at hS'
          cases hS'
          exact e0
        · rw [if_pos z] at e0
          simp +contextual (disch := (first | omega | assumption | decide)) only [↓zbrT, ↓zbrF, zw277_0, zw277_1, zw277_2, zw277_3, zw277_4, zw277_6, zw277_7, zw277_8, zw277_9, zw277_10, zw277_11, zw277_12, zr_1, zr_3, zr_4, zr_7, zr_10, zr_12, zr_16, zr_21, zr_26, zr_46, zr_53, zr_54, zr_55, zr_56, zr_58, zr_61, zr_62, zr_68, zr_73, zr_76, zlg_0, zlg_s, zls_0, zls_1, zls_s, zkl_i, zkl_r, zkl_l, zkl_n, zrc_1, zrc_s, zcat_n, zcat_i, zcat_l, zcat_r, zkd_131, zkd_138, zkd_150, zln_138, zln_150, zrf_131_17, zrf_131_40, Int.cast_ofNat_Int, Int.reduceAdd, zbd, zw_id, zmu_same, zmu_c, zmu_i, false_and, and_false, true_and, and_true, true_or, or_true, false_or, or_false, Option.toList, List.nil_append, List.cons_append, zif0, zif1, zif01, zem1, zem2, Int.reduceEq, Int.reduceLT, Int.reduceLE, Int.reduceNeg, Int.reduceSub, Int.reduceMul, if_true, if_false, not_false_eq_true, not_true_eq_false, true_implies, false_implies, Classical.not_not, Nat.reduceAdd, Nat.reduceLeDiff, gL_2 hL, z]
          exact ⟨hY, fun k hk => h150 k, Or.inl ⟨S, [], hR, e0, fun j hj => by omega⟩⟩
      | succ r =>
        have hQ1 := gQ_y hQ hY
        show zrun (zEx (d + r + 15)) _ _ _ _ _ _
        simp +contextual (disch := (first | omega | assumption | decide)) only [↓zbrT, ↓zbrF, zw277_0, zw277_1, zw277_2, zw277_3, zw277_4, zw277_6, zw277_7, zw277_8, zw277_9, zw277_10, zw277_11, zw277_12, zr_1, zr_3, zr_4, zr_7, zr_10, zr_12, zr_16, zr_21, zr_26, zr_46, zr_53, zr_54, zr_55, zr_56, zr_58, zr_61, zr_62, zr_68, zr_73, zr_76, zlg_0, zlg_s, zls_0, zls_1, zls_s, zkl_i, zkl_r, zkl_l, zkl_n, zrc_1, zrc_s, zcat_n, zcat_i, zcat_l, zcat_r, zkd_131, zkd_138, zkd_150, zln_138, zln_150, zrf_131_17, zrf_131_40, Int.cast_ofNat_Int, Int.reduceAdd, zbd, zw_id, zmu_same, zmu_c, zmu_i, false_and, and_false, true_and, and_true, true_or, or_true, false_or, or_false, Option.toList, List.nil_append, List.cons_append, zif0, zif1, zif01, zem1, zem2, Int.reduceEq, Int.reduceLT, Int.reduceLE, Int.reduceNeg, Int.reduceSub, Int.reduceMul, if_true, if_false, not_false_eq_true, not_true_eq_false, true_implies, false_implies, Classical.not_not, Nat.reduceAdd, Nat.reduceLeDiff]
        refine zfor (V 0 5) (fun g lc m' => -1 ≤ g ∧ lc = [some (.inr (.inr 131)), some (.inl i), some (.inl n), some (.inl g)] ∧ gY m m' ∧ (∀ k, k < i → m' 150 k = m 150 k) ∧ gFo (gFg V r S) (g + 1).toNat = none) ?_ ?_ (i := -1) (by omega) ?_
        · rintro g lc m' hgN ⟨h0, rfl, hY2, hk2, hn⟩ kk
          have hM2 := (gQ_y hQ hY2).2.2.1
          have h5 : 0 ≤ m' 138 5 ∧ m' 138 5 ≤ 8 := by rw [gM_5 hM2]; omega
          have eg : (((g + 1).toNat : Nat) : Int) - 1 = g := by omega
          have es := gFo_s hn
          rw [show (g + 1).toNat + 1 = (g + 1 + 1).toNat by omega] at es
          have go : (g = -1 ∨ (0 ≤ g ∧ g < V 0 5)) → zWP (zEx (d + r + 15)) 277 9 [some (.inr (.inr 131)), some (.inl i), some (.inl n), some (.inl g)] [] m' (fun r' m' => gY m m' ∧ (∀ k, k < i → m' 150 k = m 150 k) ∧ ((∃ S t, gRw V l (gSn V) = some S ∧ gFs V (r + 1) S = some t ∧ r' = some (.inl 1) ∧ ∀ j : Nat, j < r + 1 → m' 150 (i + j) = t.getD j 0) ∨ ((∀ S, gRw V l (gSn V) = some S → gFs V (r + 1) S = none) ∧ r' = some (.inl 0)))) := by
            intro hgg
            have hQ3 : gQ V (zmu m' 150 i g) := gQ_y hQ (gY_tr hY2 (gY_c (by decide)))
            have er := gRw_app (V := V) (g := g) l (gSn V)
            rw [hR] at er
            have er' : gRw V (l ++ [g]) (gSn V) = if gMp V S g = 1 then some (gNi V S g) else none := er
            have hp3 : gPw (l ++ [g]) (zmu m' 150 i g) := fun j hj => by
              rw [List.length_append] at hj
              by_cases cj : (j : Int) = i
              · rw [cj, zmu_same, show j = l.length by omega]; simp
              · have : [g].length = 1 := rfl
                rw [zmu_i cj, hk2 j (by omega), gGa (by omega)]
                exact hp j (by omega)
            simp +contextual (disch := (first | omega | assumption | decide)) only [↓zbrT, ↓zbrF, zw277_0, zw277_1, zw277_2, zw277_3, zw277_4, zw277_6, zw277_7, zw277_8, zw277_9, zw277_10, zw277_11, zw277_12, zr_1, zr_3, zr_4, zr_7, zr_10, zr_12, zr_16, zr_21, zr_26, zr_46, zr_53, zr_54, zr_55, zr_56, zr_58, zr_61, zr_62, zr_68, zr_73, zr_76, zlg_0, zlg_s, zls_0, zls_1, zls_s, zkl_i, zkl_r, zkl_l, zkl_n, zrc_1, zrc_s, zcat_n, zcat_i, zcat_l, zcat_r, zkd_131, zkd_138, zkd_150, zln_138, zln_150, zrf_131_17, zrf_131_40, Int.cast_ofNat_Int, Int.reduceAdd, zbd, zw_id, zmu_same, zmu_c, zmu_i, false_and, and_false, true_and, and_true, true_or, or_true, false_or, or_false, Option.toList, List.nil_append, List.cons_append, zif0, zif1, zif01, zem1, zem2, Int.reduceEq, Int.reduceLT, Int.reduceLE, Int.reduceNeg, Int.reduceSub, Int.reduceMul, if_true, if_false, not_false_eq_true, not_true_eq_false, true_implies, false_implies, Classical.not_not, Nat.reduceAdd, Nat.reduceLeDiff]
            refine gK (gz277 (V := V) r (d := d) (m := zmu m' 150 i g) (i := i + 1) (n := n) (l := l ++ [g]) hQ3 (by rw [List.length_append]; show ((l.length + 1 : Nat) : Int) = i + 1 ∧ i + 1 + (r : Int) = n ∧ n ≤ 4; omega) hp3 (fun x hx => by
              rcases List.mem_append.mp hx with hx | hx
              · exact hg x hx
              · cases hx with
                | head => exact hgg
                | tail _ hx => cases hx)) rfl rfl (Nat.le_of_ble_eq_true rfl) ?_
            rintro r4 m4 ⟨hY4, hk4, hor⟩
            have hY5 : gY m m4 := gY_tr (gY_tr hY2 (gY_c (by decide))) hY4
            have hk5 : ∀ k, k < i → m4 150 k = m 150 k := fun k hk => by rw [hk4 k (by omega), zmu_i (by omega)]; exact hk2 k hk
            have e4 : m4 150 i = g := by rw [hk4 i (by omega), zmu_same]
            rcases hor with ⟨S', t, t1, t2, rfl, t3⟩ | ⟨t1, rfl⟩
            · rw [er'] at t1
              have z : gMp V S g = 1 := by
                by_cases c : gMp V S g = 1
                · exact c
                · rw [if_neg c] at t1; cases t1
              rw [if_pos z] at t1
              have : gNi V S g = S' := Option.some.inj t1
              subst this
              have f1 : gFg V r S (g + 1).toNat = some (g :: t) := by unfold gFg; rw [eg, if_pos z, t2]
              have ff : gFs V (r + 1) S = some (g :: t) := by rw [gFs_s]; exact gFo_at hn f1 _ (by omega)
              simp +contextual (disch := (first | omega | assumption | decide)) only [↓zbrT, ↓zbrF, zw277_0, zw277_1, zw277_2, zw277_3, zw277_4, zw277_6, zw277_7, zw277_8, zw277_9, zw277_10, zw277_11, zw277_12, zr_1, zr_3, zr_4, zr_7, zr_10, zr_12, zr_16, zr_21, zr_26, zr_46, zr_53, zr_54, zr_55, zr_56, zr_58, zr_61, zr_62, zr_68, zr_73, zr_76, zlg_0, zlg_s, zls_0, zls_1, zls_s, zkl_i, zkl_r, zkl_l, zkl_n, zrc_1, zrc_s, zcat_n, zcat_i, zcat_l, zcat_r, zkd_131, zkd_138, zkd_150, zln_138, zln_150, zrf_131_17, zrf_131_40, Int.cast_ofNat_Int, Int.reduceAdd, zbd, zw_id, zmu_same, zmu_c, zmu_i, false_and, and_false, true_and, and_true, true_or, or_true, false_or, or_false, Option.toList, List.nil_append, List.cons_append, zif0, zif1, zif01, zem1, zem2, Int.reduceEq, Int.reduceLT, Int.reduceLE, Int.reduceNeg, Int.reduceSub, Int.reduceMul, if_true, if_false, not_false_eq_true, not_true_eq_false, true_implies, false_implies, Classical.not_not, Nat.reduceAdd, Nat.reduceLeDiff]
              refine ⟨hY5, hk5, Or.inl ⟨S, g :: t, hR, ff, fun j hj => ?_⟩⟩
              cases j with
              | zero => rw [show i + ((0 : Nat) : Int) = i by omega]; exact e4
              | succ j =>
                rw [List.getD_cons_succ, show i + ((j + 1 : Nat) : Int) = i + 1 + (j : Int) by omega]
                exact t3 j (by omega)
            · have f0 : gFg V r S (g + 1).toNat = none := by
                unfold gFg
                rw [eg]
                by_cases z : gMp V S g = 1
                · rw [if_pos z, t1 (gNi V S g) (by rw [er', if_pos z])]
                · rw [if_neg z]
              simp +contextual (disch := (first | omega | assumption | decide)) only [↓zbrT, ↓zbrF, zw277_0, zw277_1, zw277_2, zw277_3, zw277_4, zw277_6, zw277_7, zw277_8, zw277_9, zw277_10, zw277_11, zw277_12, zr_1, zr_3, zr_4, zr_7, zr_10, zr_12, zr_16, zr_21, zr_26, zr_46, zr_53, zr_54, zr_55, zr_56, zr_58, zr_61, zr_62, zr_68, zr_73, zr_76, zlg_0, zlg_s, zls_0, zls_1, zls_s, zkl_i, zkl_r, zkl_l, zkl_n, zrc_1, zrc_s, zcat_n, zcat_i, zcat_l, zcat_r, zkd_131, zkd_138, zkd_150, zln_138, zln_150, zrf_131_17, zrf_131_40, Int.cast_ofNat_Int, Int.reduceAdd, zbd, zw_id, zmu_same, zmu_c, zmu_i, false_and, and_false, true_and, and_true, true_or, or_true, false_or, or_false, Option.toList, List.nil_append, List.cons_append, zif0, zif1, zif01, zem1, zem2, Int.reduceEq, Int.reduceLT, Int.reduceLE, Int.reduceNeg, Int.reduceSub, Int.reduceMul, if_true, if_false, not_false_eq_true, not_true_eq_false, true_implies, false_implies, Classical.not_not, Nat.reduceAdd, Nat.reduceLeDiff]
              exact kk _ _ ⟨by omega, rfl, hY5, hk5, by rw [es]; exact f0⟩
          rw [zw277_5]
          by_cases c0 : g = -1
          · subst c0
            simp +contextual (disch := (first | omega | assumption | decide)) only [↓zbrT, ↓zbrF, zw277_0, zw277_1, zw277_2, zw277_3, zw277_4, zw277_6, zw277_7, zw277_8, zw277_10, zw277_11, zw277_12, zr_1, zr_3, zr_4, zr_7, zr_10, zr_12, zr_16, zr_21, zr_26, zr_46, zr_53, zr_54, zr_55, zr_56, zr_58, zr_61, zr_62, zr_68, zr_73, zr_76, zlg_0, zlg_s, zls_0, zls_1, zls_s, zkl_i, zkl_r, zkl_l, zkl_n, zrc_1, zrc_s, zcat_n, zcat_i, zcat_l, zcat_r, zkd_131, zkd_138, zkd_150, zln_138, zln_150, zrf_131_17, zrf_131_40, Int.cast_ofNat_Int, Int.reduceAdd, zbd, zw_id, zmu_same, zmu_c, zmu_i, false_and, and_false, true_and, and_true, true_or, or_true, false_or, or_false, Option.toList, List.nil_append, List.cons_append, zif0, zif1, zif01, zem1, zem2, Int.reduceEq, Int.reduceLT, Int.reduceLE, Int.reduceNeg, Int.reduceSub, Int.reduceMul, if_true, if_false, not_false_eq_true, not_true_eq_false, true_implies, false_implies, Classical.not_not, Nat.reduceAdd, Nat.reduceLeDiff, gM_0 hM2, gM_1 hM2, gM_2 hM2, gM_3 hM2, gM_4 hM2, gM_5 hM2, gM_6 hM2, gM_7 hM2, gM_8 hM2, gM_9 hM2, gM_10 hM2, gM_r0 hM2, gM_r1 hM2, gM_r2 hM2, gM_r3 hM2, gM_f0 hM2, gM_f1 hM2, gM_f2 hM2, gM_f3 hM2, gM_f4 hM2]
            exact go (Or.inl rfl)
          · have gN : 0 ≤ g ∧ g < V 0 5 := by omega
            have e3 := gM_r3 hM2 gN.1 gN.2
            by_cases c1 : 0 < vT V g
            · have cc : (0 ≤ g ∧ g ≤ V 0 5 - 1) ∧ 0 < vT V g := ⟨by omega, c1⟩
              simp +contextual (disch := (first | omega | assumption | decide)) only [↓zbrT, ↓zbrF, zw277_0, zw277_1, zw277_2, zw277_3, zw277_4, zw277_6, zw277_7, zw277_8, zw277_10, zw277_11, zw277_12, zr_1, zr_3, zr_4, zr_7, zr_10, zr_12, zr_16, zr_21, zr_26, zr_46, zr_53, zr_54, zr_55, zr_56, zr_58, zr_61, zr_62, zr_68, zr_73, zr_76, zlg_0, zlg_s, zls_0, zls_1, zls_s, zkl_i, zkl_r, zkl_l, zkl_n, zrc_1, zrc_s, zcat_n, zcat_i, zcat_l, zcat_r, zkd_131, zkd_138, zkd_150, zln_138, zln_150, zrf_131_17, zrf_131_40, Int.cast_ofNat_Int, Int.reduceAdd, zbd, zw_id, zmu_same, zmu_c, zmu_i, false_and, and_false, true_and, and_true, true_or, or_true, false_or, or_false, Option.toList, List.nil_append, List.cons_append, zif0, zif1, zif01, zem1, zem2, Int.reduceEq, Int.reduceLT, Int.reduceLE, Int.reduceNeg, Int.reduceSub, Int.reduceMul, if_true, if_false, not_false_eq_true, not_true_eq_false, true_implies, false_implies, Classical.not_not, Nat.reduceAdd, Nat.reduceLeDiff, gM_0 hM2, gM_1 hM2, gM_2 hM2, gM_3 hM2, gM_4 hM2, gM_5 hM2, gM_6 hM2, gM_7 hM2, gM_8 hM2, gM_9 hM2, gM_10 hM2, gM_r0 hM2, gM_r1 hM2, gM_r2 hM2, gM_r3 hM2, gM_f0 hM2, gM_f1 hM2, gM_f2 hM2, gM_f3 hM2, gM_f4 hM2, c0, zq204 h5, if_pos cc]
              exact go (Or.inr gN)
            · have cc : ¬ ((0 ≤ g ∧ g ≤ V 0 5 - 1) ∧ 0 < vT V g) := fun z => c1 z.2
              have f0 : gFg V r S (g + 1).toNat = none := by
                unfold gFg
                rw [eg, if_neg]
                intro z
                have lg := (gMp_lg z).1
                rcases lg with y | y
                · exact c0 y
                · exact c1 (ok.1.2.2.2.2.2.2.1 g y.1 y.2.1 y.2.2).2
              simp +contextual (disch := (first | omega | assumption | decide)) only [↓zbrT, ↓zbrF, zw277_0, zw277_1, zw277_2, zw277_3, zw277_4, zw277_6, zw277_7, zw277_8, zw277_10, zw277_11, zw277_12, zr_1, zr_3, zr_4, zr_7, zr_10, zr_12, zr_16, zr_21, zr_26, zr_46, zr_53, zr_54, zr_55, zr_56, zr_58, zr_61, zr_62, zr_68, zr_73, zr_76, zlg_0, zlg_s, zls_0, zls_1, zls_s, zkl_i, zkl_r, zkl_l, zkl_n, zrc_1, zrc_s, zcat_n, zcat_i, zcat_l, zcat_r, zkd_131, zkd_138, zkd_150, zln_138, zln_150, zrf_131_17, zrf_131_40, Int.cast_ofNat_Int, Int.reduceAdd, zbd, zw_id, zmu_same, zmu_c, zmu_i, false_and, and_false, true_and, and_true, true_or, or_true, false_or, or_false, Option.toList, List.nil_append, List.cons_append, zif0, zif1, zif01, zem1, zem2, Int.reduceEq, Int.reduceLT, Int.reduceLE, Int.reduceNeg, Int.reduceSub, Int.reduceMul, if_true, if_false, not_false_eq_true, not_true_eq_false, true_implies, false_implies, Classical.not_not, Nat.reduceAdd, Nat.reduceLeDiff, gM_0 hM2, gM_1 hM2, gM_2 hM2, gM_3 hM2, gM_4 hM2, gM_5 hM2, gM_6 hM2, gM_7 hM2, gM_8 hM2, gM_9 hM2, gM_10 hM2, gM_r0 hM2, gM_r1 hM2, gM_r2 hM2, gM_r3 hM2, gM_f0 hM2, gM_f1 hM2, gM_f2 hM2, gM_f3 hM2, gM_f4 hM2, c0, zq204 h5, if_neg cc]
              exact kk _ _ ⟨by omega, rfl, hY2, hk2, by rw [es]; exact f0⟩
        · rintro lc m' ⟨h0, rfl, hY2, hk2, hn⟩
          have hM2 := (gQ_y hQ hY2).2.2.1
          have ff : gFs V (r + 1) S = none := by rw [gFs_s, show (V 0 5).toNat + 1 = (V 0 5 + 1).toNat by omega]; exact hn
          rw [zw277_5]
          simp +contextual (disch := (first | omega | assumption | decide)) only [↓zbrT, ↓zbrF, zw277_0, zw277_1, zw277_2, zw277_3, zw277_4, zw277_6, zw277_7, zw277_8, zw277_9, zw277_10, zw277_11, zw277_12, zr_1, zr_3, zr_4, zr_7, zr_10, zr_12, zr_16, zr_21, zr_26, zr_46, zr_53, zr_54, zr_55, zr_56, zr_58, zr_61, zr_62, zr_68, zr_73, zr_76, zlg_0, zlg_s, zls_0, zls_1, zls_s, zkl_i, zkl_r, zkl_l, zkl_n, zrc_1, zrc_s, zcat_n, zcat_i, zcat_l, zcat_r, zkd_131, zkd_138, zkd_150, zln_138, zln_150, zrf_131_17, zrf_131_40, Int.cast_ofNat_Int, Int.reduceAdd, zbd, zw_id, zmu_same, zmu_c, zmu_i, false_and, and_false, true_and, and_true, true_or, or_true, false_or, or_false, Option.toList, List.nil_append, List.cons_append, zif0, zif1, zif01, zem1, zem2, Int.reduceEq, Int.reduceLT, Int.reduceLE, Int.reduceNeg, Int.reduceSub, Int.reduceMul, if_true, if_false, not_false_eq_true, not_true_eq_false, true_implies, false_implies, Classical.not_not, Nat.reduceAdd, Nat.reduceLeDiff, gM_0 hM2, gM_1 hM2, gM_2 hM2, gM_3 hM2, gM_4 hM2, gM_5 hM2, gM_6 hM2, gM_7 hM2, gM_8 hM2, gM_9 hM2, gM_10 hM2, gM_r0 hM2, gM_r1 hM2, gM_r2 hM2, gM_r3 hM2, gM_f0 hM2, gM_f1 hM2, gM_f2 hM2, gM_f3 hM2, gM_f4 hM2]
          refine ⟨hY2, hk2, Or.inr (fun S' hS' => ?_)⟩
          rw [hR] at hS'
          cases hS'
          exact ff
        · exact ⟨by decide, rfl, hY, fun k hk => h150 k, rfl⟩
    · simp +contextual (disch := (first | omega | assumption | decide)) only [↓zbrT, ↓zbrF, zw277_0, zw277_1, zw277_2, zw277_3, zw277_4, zw277_6, zw277_7, zw277_8, zw277_9, zw277_10, zw277_11, zw277_12, zr_1, zr_3, zr_4, zr_7, zr_10, zr_12, zr_16, zr_21, zr_26, zr_46, zr_53, zr_54, zr_55, zr_56, zr_58, zr_61, zr_62, zr_68, zr_73, zr_76, zlg_0, zlg_s, zls_0, zls_1, zls_s, zkl_i, zkl_r, zkl_l, zkl_n, zrc_1, zrc_s, zcat_n, zcat_i, zcat_l, zcat_r, zkd_131, zkd_138, zkd_150, zln_138, zln_150, zrf_131_17, zrf_131_40, Int.cast_ofNat_Int, Int.reduceAdd, zbd, zw_id, zmu_same, zmu_c, zmu_i, false_and, and_false, true_and, and_true, true_or, or_true, false_or, or_false, Option.toList, List.nil_append, List.cons_append, zif0, zif1, zif01, zem1, zem2, Int.reduceEq, Int.reduceLT, Int.reduceLE, Int.reduceNeg, Int.reduceSub, Int.reduceMul, if_true, if_false, not_false_eq_true, not_true_eq_false, true_implies, false_implies, Classical.not_not, Nat.reduceAdd, Nat.reduceLeDiff]
      refine ⟨hY, fun k hk => h150 k, Or.inr (fun S' hS' => ?_)⟩
      rw [hR] at hS'; cases hS'
theorem gz278 {d : Nat} {m : zMm} {V : zMm} (hQ : gQ V m) : zC (d + 20) 278 [.inr (.inr 131)] m (fun r' m' => r' = some (.inl (gFw V)) ∧ gY m m' ∧ ∀ i : Nat, (i : Int) < gFw V → m' 150 i = (gPn V).getD i 0) := by
  refine ze278 ?_
  simp +contextual (disch := (first | omega | assumption | decide)) only [↓zbrT, ↓zbrF, zw278_0, zw278_2, zw278_3, zw278_4, zw278_5, zr_1, zr_3, zr_4, zr_7, zr_53, zr_54, zr_59, zr_61, zr_68, zr_70, zr_73, zlg_0, zlg_s, zls_0, zls_1, zls_s, zkl_i, zkl_r, zkl_l, zkl_n, zrc_1, zrc_s, zcat_n, zcat_i, zcat_l, zcat_r, zkd_131, Int.cast_ofNat_Int, Int.reduceAdd, zw_id, false_and, and_false, true_and, and_true, true_or, or_true, false_or, or_false, Option.toList, List.nil_append, List.cons_append, zif0, zif1, zif01, zem1, zem2, Int.reduceEq, Int.reduceLT, Int.reduceLE, Int.reduceNeg, Int.reduceSub, Int.reduceMul, if_true, if_false, not_false_eq_true, not_true_eq_false, true_implies, false_implies, Classical.not_not, Nat.reduceAdd, Nat.reduceLeDiff]
  refine zfor 5 (fun j lc m' => 0 ≤ j ∧ lc = [some (.inr (.inr 131)), some (.inl j)] ∧ gY m m' ∧ ∀ k : Nat, (k : Int) < j → gFs V k (gSn V) = none) ?_ ?_ (i := 0) (by decide) ?_
  · rintro j lc m' hj ⟨h0, rfl, hY, hn⟩ kk
    obtain ⟨r, hr⟩ : ∃ r : Nat, j = r := ⟨j.toNat, by omega⟩
    subst hr
    rw [zw278_1]
    simp +contextual (disch := (first | omega | assumption | decide)) only [↓zbrT, ↓zbrF, zw278_0, zw278_2, zw278_3, zw278_4, zw278_5, zr_1, zr_3, zr_4, zr_7, zr_53, zr_54, zr_59, zr_61, zr_68, zr_70, zr_73, zlg_0, zlg_s, zls_0, zls_1, zls_s, zkl_i, zkl_r, zkl_l, zkl_n, zrc_1, zrc_s, zcat_n, zcat_i, zcat_l, zcat_r, zkd_131, Int.cast_ofNat_Int, Int.reduceAdd, zw_id, false_and, and_false, true_and, and_true, true_or, or_true, false_or, or_false, Option.toList, List.nil_append, List.cons_append, zif0, zif1, zif01, zem1, zem2, Int.reduceEq, Int.reduceLT, Int.reduceLE, Int.reduceNeg, Int.reduceSub, Int.reduceMul, if_true, if_false, not_false_eq_true, not_true_eq_false, true_implies, false_implies, Classical.not_not, Nat.reduceAdd, Nat.reduceLeDiff]
    refine gK (zC_le (d' := d + 19) (by omega) (gz277 (V := V) r (d := d) (m := m') (i := 0) (n := r) (l := []) (gQ_y hQ hY) (by show ((0 : Nat) : Int) = 0 ∧ 0 + (r : Int) = r ∧ (r : Int) ≤ 4; omega) (fun i hi => absurd hi (by simp)) (fun g hg => by cases hg))) rfl rfl (Nat.le_of_ble_eq_true rfl) ?_
    rintro r4 m4 ⟨hY4, hk4, hor⟩
    rcases hor with ⟨S', t, t1, t2, rfl, t3⟩ | ⟨t1, rfl⟩
    · have : gSn V = S' := Option.some.inj t1
      subst this
      have at' := gFw_at (fun k hk' => hn k (by omega)) t2 (by omega)
      simp +contextual (disch := (first | omega | assumption | decide)) only [↓zbrT, ↓zbrF, zw278_0, zw278_2, zw278_3, zw278_4, zw278_5, zr_1, zr_3, zr_4, zr_7, zr_53, zr_54, zr_59, zr_61, zr_68, zr_70, zr_73, zlg_0, zlg_s, zls_0, zls_1, zls_s, zkl_i, zkl_r, zkl_l, zkl_n, zrc_1, zrc_s, zcat_n, zcat_i, zcat_l, zcat_r, zkd_131, Int.cast_ofNat_Int, Int.reduceAdd, zw_id, false_and, and_false, true_and, and_true, true_or, or_true, false_or, or_false, Option.toList, List.nil_append, List.cons_append, zif0, zif1, zif01, zem1, zem2, Int.reduceEq, Int.reduceLT, Int.reduceLE, Int.reduceNeg, Int.reduceSub, Int.reduceMul, if_true, if_false, not_false_eq_true, not_true_eq_false, true_implies, false_implies, Classical.not_not, Nat.reduceAdd, Nat.reduceLeDiff]
      refine ⟨by rw [at'.1], gY_tr hY hY4, fun i hi => ?_⟩
      rw [at'.1] at hi
      have := t3 i (by omega)
      rw [at'.2, ← this, show (0 : Int) + i = i by omega]
    · have f0 := t1 (gSn V) rfl
      simp +contextual (disch := (first | omega | assumption | decide)) only [↓zbrT, ↓zbrF, zw278_0, zw278_2, zw278_3, zw278_4, zw278_5, zr_1, zr_3, zr_4, zr_7, zr_53, zr_54, zr_59, zr_61, zr_68, zr_70, zr_73, zlg_0, zlg_s, zls_0, zls_1, zls_s, zkl_i, zkl_r, zkl_l, zkl_n, zrc_1, zrc_s, zcat_n, zcat_i, zcat_l, zcat_r, zkd_131, Int.cast_ofNat_Int, Int.reduceAdd, zw_id, false_and, and_false, true_and, and_true, true_or, or_true, false_or, or_false, Option.toList, List.nil_append, List.cons_append, zif0, zif1, zif01, zem1, zem2, Int.reduceEq, Int.reduceLT, Int.reduceLE, Int.reduceNeg, Int.reduceSub, Int.reduceMul, if_true, if_false, not_false_eq_true, not_true_eq_false, true_implies, false_implies, Classical.not_not, Nat.reduceAdd, Nat.reduceLeDiff]
      refine kk _ _ ⟨by omega, rfl, gY_tr hY hY4, fun k hk' => ?_⟩
      by_cases e : k = r
      · rw [e]; exact f0
      · exact hn k (by omega)
  · rintro lc m' ⟨h0, rfl, hY, hn⟩
    have e := gFw_no (fun j hj => hn j (by omega))
    rw [zw278_1]
    simp +contextual (disch := (first | omega | assumption | decide)) only [↓zbrT, ↓zbrF, zw278_0, zw278_2, zw278_3, zw278_4, zw278_5, zr_1, zr_3, zr_4, zr_7, zr_53, zr_54, zr_59, zr_61, zr_68, zr_70, zr_73, zlg_0, zlg_s, zls_0, zls_1, zls_s, zkl_i, zkl_r, zkl_l, zkl_n, zrc_1, zrc_s, zcat_n, zcat_i, zcat_l, zcat_r, zkd_131, Int.cast_ofNat_Int, Int.reduceAdd, zw_id, false_and, and_false, true_and, and_true, true_or, or_true, false_or, or_false, Option.toList, List.nil_append, List.cons_append, zif0, zif1, zif01, zem1, zem2, Int.reduceEq, Int.reduceLT, Int.reduceLE, Int.reduceNeg, Int.reduceSub, Int.reduceMul, if_true, if_false, not_false_eq_true, not_true_eq_false, true_implies, false_implies, Classical.not_not, Nat.reduceAdd, Nat.reduceLeDiff]
    exact ⟨by rw [e], hY, fun i hi => by omega⟩
  · exact ⟨by decide, rfl, gY_refl, fun k hk => by omega⟩
theorem gz279 {d : Nat} {m : zMm} {V : zMm} (hQ : gQ V m) : zC (d + 21) 279 [.inr (.inr 131)] m (fun r' m' => r' = some (.inl (sp136 V)) ∧ gY m m') := by
  refine ze279 ?_
  have hb := hQ.1.1
  have hY0 : gY m (zmu m 131 0 0) := gY_u (by decide)
  have hQ0 := gQ_y hQ hY0
  have h5 : 0 ≤ zmu m 131 0 0 138 5 ∧ zmu m 131 0 0 138 5 ≤ 8 := by rw [gM_5 hQ0.2.2.1]; omega
  have h6 : 0 ≤ zmu m 131 0 0 138 6 ∧ zmu m 131 0 0 138 6 ≤ 6 := by rw [gM_6 hQ0.2.2.1]; omega
  have h0 : 0 ≤ zmu m 131 0 0 138 0 ∧ zmu m 131 0 0 138 0 ≤ 6 := by rw [gM_0 hQ0.2.2.1]; omega
  unfold sp136
  by_cases c1 : V 0 10 = 0
  · rw [if_pos c1]
    simp +contextual (disch := (first | omega | assumption | decide)) only [↓zbrT, ↓zbrF, zw279_0, zw279_1, zw279_2, zw279_3, zr_3, zr_7, zr_13, zr_54, zr_61, zr_68, zr_70, zr_73, zlg_0, zlg_s, zrc_1, zrc_s, zcat_n, zcat_i, zcat_l, zcat_r, zkd_131, Int.cast_ofNat_Int, Int.reduceAdd, zmu_same, zmu_c, zmu_i, false_and, and_false, true_and, and_true, true_or, or_true, false_or, or_false, Option.toList, List.nil_append, List.cons_append, zif0, zif1, zif01, zem1, zem2, Int.reduceEq, Int.reduceLT, Int.reduceLE, Int.reduceNeg, Int.reduceSub, Int.reduceMul, if_true, if_false, not_false_eq_true, not_true_eq_false, true_implies, false_implies, Classical.not_not, Nat.reduceAdd, Nat.reduceLeDiff, zq202, gM_0 hQ.2.2.1, gM_1 hQ.2.2.1, gM_2 hQ.2.2.1, gM_3 hQ.2.2.1, gM_4 hQ.2.2.1, gM_5 hQ.2.2.1, gM_6 hQ.2.2.1, gM_7 hQ.2.2.1, gM_8 hQ.2.2.1, gM_9 hQ.2.2.1, gM_10 hQ.2.2.1, gM_r0 hQ.2.2.1, gM_r1 hQ.2.2.1, gM_r2 hQ.2.2.1, gM_r3 hQ.2.2.1, gM_f0 hQ.2.2.1, gM_f1 hQ.2.2.1, gM_f2 hQ.2.2.1, gM_f3 hQ.2.2.1, gM_f4 hQ.2.2.1]
    (first | exact hY0 | exact ⟨rfl, hY0⟩)
  · rw [if_neg c1]
    simp +contextual (disch := (first | omega | assumption | decide)) only [↓zbrT, ↓zbrF, zw279_0, zw279_1, zw279_2, zw279_3, zr_3, zr_7, zr_13, zr_54, zr_61, zr_68, zr_70, zr_73, zlg_0, zlg_s, zrc_1, zrc_s, zcat_n, zcat_i, zcat_l, zcat_r, zkd_131, Int.cast_ofNat_Int, Int.reduceAdd, zmu_same, zmu_c, zmu_i, false_and, and_false, true_and, and_true, true_or, or_true, false_or, or_false, Option.toList, List.nil_append, List.cons_append, zif0, zif1, zif01, zem1, zem2, Int.reduceEq, Int.reduceLT, Int.reduceLE, Int.reduceNeg, Int.reduceSub, Int.reduceMul, if_true, if_false, not_false_eq_true, not_true_eq_false, true_implies, false_implies, Classical.not_not, Nat.reduceAdd, Nat.reduceLeDiff, zq202, gM_0 hQ.2.2.1, gM_1 hQ.2.2.1, gM_2 hQ.2.2.1, gM_3 hQ.2.2.1, gM_4 hQ.2.2.1, gM_5 hQ.2.2.1, gM_6 hQ.2.2.1, gM_7 hQ.2.2.1, gM_8 hQ.2.2.1, gM_9 hQ.2.2.1, gM_10 hQ.2.2.1, gM_r0 hQ.2.2.1, gM_r1 hQ.2.2.1, gM_r2 hQ.2.2.1, gM_r3 hQ.2.2.1, gM_f0 hQ.2.2.1, gM_f1 hQ.2.2.1, gM_f2 hQ.2.2.1, gM_f3 hQ.2.2.1, gM_f4 hQ.2.2.1]
    refine gK (gz278 hQ0) rfl rfl (Nat.le_of_ble_eq_true rfl) ?_
    rintro _ m1 ⟨rfl, hY, _⟩
    (try simp +contextual (disch := (first | omega | assumption | decide)) only [↓zbrT, ↓zbrF, zw279_0, zw279_1, zw279_2, zw279_3, zr_3, zr_7, zr_13, zr_54, zr_61, zr_68, zr_70, zr_73, zlg_0, zlg_s, zrc_1, zrc_s, zcat_n, zcat_i, zcat_l, zcat_r, zkd_131, Int.cast_ofNat_Int, Int.reduceAdd, zmu_same, zmu_c, zmu_i, false_and, and_false, true_and, and_true, true_or, or_true, false_or, or_false, Option.toList, List.nil_append, List.cons_append, zif0, zif1, zif01, zem1, zem2, Int.reduceEq, Int.reduceLT, Int.reduceLE, Int.reduceNeg, Int.reduceSub, Int.reduceMul, if_true, if_false, not_false_eq_true, not_true_eq_false, true_implies, false_implies, Classical.not_not, Nat.reduceAdd, Nat.reduceLeDiff])
    have fin := gY_tr hY0 hY
    (first | exact fin | exact ⟨rfl, fin⟩)
theorem gz280 {d : Nat} {m : zMm} {i : Int} {V : zMm} (hQ : gQ V m) : zC (d + 21) 280 [.inr (.inr 131), .inl i] m (fun r' m' => r' = some (.inl (sp137 V i)) ∧ gY m m') := by
  refine ze280 ?_
  have hb := hQ.1.1
  have hY0 : gY m (zmu m 131 0 0) := gY_u (by decide)
  have hQ0 := gQ_y hQ hY0
  have h5 : 0 ≤ zmu m 131 0 0 138 5 ∧ zmu m 131 0 0 138 5 ≤ 8 := by rw [gM_5 hQ0.2.2.1]; omega
  have h6 : 0 ≤ zmu m 131 0 0 138 6 ∧ zmu m 131 0 0 138 6 ≤ 6 := by rw [gM_6 hQ0.2.2.1]; omega
  have h0 : 0 ≤ zmu m 131 0 0 138 0 ∧ zmu m 131 0 0 138 0 ≤ 6 := by rw [gM_0 hQ0.2.2.1]; omega
  have fb := gFw_bd (V := V)
  unfold sp137
  by_cases c1 : V 0 10 = 0
  · rw [if_pos c1]
    simp +contextual (disch := (first | omega | assumption | decide)) only [↓zbrT, ↓zbrF, zw280_0, zw280_1, zw280_2, zw280_3, zw280_4, zw280_5, zr_1, zr_3, zr_4, zr_7, zr_8, zr_12, zr_13, zr_16, zr_27, zr_46, zr_54, zr_61, zr_62, zr_68, zr_69, zr_70, zr_73, zlg_0, zlg_s, zls_0, zls_1, zls_s, zkl_i, zkl_r, zkl_l, zkl_n, zrc_1, zrc_s, zcat_n, zcat_i, zcat_l, zcat_r, zkd_131, zkd_150, zln_150, zrf_131_40, Int.cast_ofNat_Int, Int.reduceAdd, zbd, zw_id, zmu_same, zmu_c, zmu_i, false_and, and_false, true_and, and_true, true_or, or_true, false_or, or_false, Option.toList, List.nil_append, List.cons_append, zif0, zif1, zif01, zem1, zem2, Int.reduceEq, Int.reduceLT, Int.reduceLE, Int.reduceNeg, Int.reduceSub, Int.reduceMul, if_true, if_false, not_false_eq_true, not_true_eq_false, true_implies, false_implies, Classical.not_not, Nat.reduceAdd, Nat.reduceLeDiff, zq202, gM_0 hQ.2.2.1, gM_1 hQ.2.2.1, gM_2 hQ.2.2.1, gM_3 hQ.2.2.1, gM_4 hQ.2.2.1, gM_5 hQ.2.2.1, gM_6 hQ.2.2.1, gM_7 hQ.2.2.1, gM_8 hQ.2.2.1, gM_9 hQ.2.2.1, gM_10 hQ.2.2.1, gM_r0 hQ.2.2.1, gM_r1 hQ.2.2.1, gM_r2 hQ.2.2.1, gM_r3 hQ.2.2.1, gM_f0 hQ.2.2.1, gM_f1 hQ.2.2.1, gM_f2 hQ.2.2.1, gM_f3 hQ.2.2.1, gM_f4 hQ.2.2.1]
    (first | exact hY0 | exact ⟨rfl, hY0⟩)
  · rw [if_neg c1]
    simp +contextual (disch := (first | omega | assumption | decide)) only [↓zbrT, ↓zbrF, zw280_0, zw280_1, zw280_2, zw280_3, zw280_4, zw280_5, zr_1, zr_3, zr_4, zr_7, zr_8, zr_12, zr_13, zr_16, zr_27, zr_46, zr_54, zr_61, zr_62, zr_68, zr_69, zr_70, zr_73, zlg_0, zlg_s, zls_0, zls_1, zls_s, zkl_i, zkl_r, zkl_l, zkl_n, zrc_1, zrc_s, zcat_n, zcat_i, zcat_l, zcat_r, zkd_131, zkd_150, zln_150, zrf_131_40, Int.cast_ofNat_Int, Int.reduceAdd, zbd, zw_id, zmu_same, zmu_c, zmu_i, false_and, and_false, true_and, and_true, true_or, or_true, false_or, or_false, Option.toList, List.nil_append, List.cons_append, zif0, zif1, zif01, zem1, zem2, Int.reduceEq, Int.reduceLT, Int.reduceLE, Int.reduceNeg, Int.reduceSub, Int.reduceMul, if_true, if_false, not_false_eq_true, not_true_eq_false, true_implies, false_implies, Classical.not_not, Nat.reduceAdd, Nat.reduceLeDiff, zq202, gM_0 hQ.2.2.1, gM_1 hQ.2.2.1, gM_2 hQ.2.2.1, gM_3 hQ.2.2.1, gM_4 hQ.2.2.1, gM_5 hQ.2.2.1, gM_6 hQ.2.2.1, gM_7 hQ.2.2.1, gM_8 hQ.2.2.1, gM_9 hQ.2.2.1, gM_10 hQ.2.2.1, gM_r0 hQ.2.2.1, gM_r1 hQ.2.2.1, gM_r2 hQ.2.2.1, gM_r3 hQ.2.2.1, gM_f0 hQ.2.2.1, gM_f1 hQ.2.2.1, gM_f2 hQ.2.2.1, gM_f3 hQ.2.2.1, gM_f4 hQ.2.2.1]
    refine gK (gz278 hQ0) rfl rfl (Nat.le_of_ble_eq_true rfl) ?_
    rintro _ m1 ⟨rfl, hY, hp⟩
    have fin := gY_tr hY0 hY
    by_cases c2 : 0 ≤ i ∧ i < gFw V
    · rw [if_pos c2]
      have e := hp i.toNat (by omega)
      rw [show ((i.toNat : Nat) : Int) = i by omega] at e
      simp +contextual (disch := (first | omega | assumption | decide)) only [↓zbrT, ↓zbrF, zw280_0, zw280_1, zw280_2, zw280_3, zw280_4, zw280_5, zr_1, zr_3, zr_4, zr_7, zr_8, zr_12, zr_13, zr_16, zr_27, zr_46, zr_54, zr_61, zr_62, zr_68, zr_69, zr_70, zr_73, zlg_0, zlg_s, zls_0, zls_1, zls_s, zkl_i, zkl_r, zkl_l, zkl_n, zrc_1, zrc_s, zcat_n, zcat_i, zcat_l, zcat_r, zkd_131, zkd_150, zln_150, zrf_131_40, Int.cast_ofNat_Int, Int.reduceAdd, zbd, zw_id, zmu_same, zmu_c, zmu_i, false_and, and_false, true_and, and_true, true_or, or_true, false_or, or_false, Option.toList, List.nil_append, List.cons_append, zif0, zif1, zif01, zem1, zem2, Int.reduceEq, Int.reduceLT, Int.reduceLE, Int.reduceNeg, Int.reduceSub, Int.reduceMul, if_true, if_false, not_false_eq_true, not_true_eq_false, true_implies, false_implies, Classical.not_not, Nat.reduceAdd, Nat.reduceLeDiff, zq170, e]
      (first | exact fin | exact ⟨rfl, fin⟩)
    · rw [if_neg c2]
      simp +contextual (disch := (first | omega | assumption | decide)) only [↓zbrT, ↓zbrF, zw280_0, zw280_1, zw280_2, zw280_3, zw280_4, zw280_5, zr_1, zr_3, zr_4, zr_7, zr_8, zr_12, zr_13, zr_16, zr_27, zr_46, zr_54, zr_61, zr_62, zr_68, zr_69, zr_70, zr_73, zlg_0, zlg_s, zls_0, zls_1, zls_s, zkl_i, zkl_r, zkl_l, zkl_n, zrc_1, zrc_s, zcat_n, zcat_i, zcat_l, zcat_r, zkd_131, zkd_150, zln_150, zrf_131_40, Int.cast_ofNat_Int, Int.reduceAdd, zbd, zw_id, zmu_same, zmu_c, zmu_i, false_and, and_false, true_and, and_true, true_or, or_true, false_or, or_false, Option.toList, List.nil_append, List.cons_append, zif0, zif1, zif01, zem1, zem2, Int.reduceEq, Int.reduceLT, Int.reduceLE, Int.reduceNeg, Int.reduceSub, Int.reduceMul, if_true, if_false, not_false_eq_true, not_true_eq_false, true_implies, false_implies, Classical.not_not, Nat.reduceAdd, Nat.reduceLeDiff, zq170]
      (first | exact fin | exact ⟨rfl, fin⟩)
