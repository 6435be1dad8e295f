/-! ===== nightGoes ===== -/
/-- the longest so far -/
def gLj (V : zMm) (S : Int → Int) (g j L : Int) : Prop := (L = -1 ∧ ∀ r, 0 ≤ r → r < j → gFl V S g r = 0) ∨ ((0 ≤ L ∧ L < j) ∧ (L < V 0 5 ∧ 0 < vT V L ∧ zbit (gS1 S g) L = 0) ∧ 1 ≤ gFl V S g L ∧ (∀ r, 0 ≤ r → r < j → gFl V S g r ≤ gFl V S g L) ∧ (∀ r, 0 ≤ r → r < L → gFl V S g r < gFl V S g L))
theorem gLj_end {V : zMm} {S : Int → Int} {g L : Int} (hV : gOk V) (hk : gSok V S) (hg : gLg S g) (h : gLj V S g (V 0 5) L) : (L = -1 ∧ gFl V S g (gLn V S g) = 0) ∨ L = gLn V S g := by
  have hb := hV.1
  have bL : 0 ≤ gLn V S g ∧ gLn V S g ≤ 7 := gMx_bd (gFl V S g) 7
  have mx := gMx_max (f := gFl V S g) 7
  have z0 : ∀ r, V 0 5 ≤ r → r < 8 → gFl V S g r = 0 := fun r a b => (gFl_bd hk hg (by omega) b).2.2 (Or.inr (by omega))
  rcases h with ⟨h1, h2⟩ | ⟨h1, h2, h3, h4, h5⟩
  · left
    refine ⟨h1, ?_⟩
    by_cases c : gLn V S g < V 0 5
    · exact h2 _ bL.1 c
    · exact z0 _ (by omega) (by omega)
  · right
    have m1 : gFl V S g L ≤ gFl V S g (gLn V S g) := mx.1 L h1.1 (by omega)
    by_cases c : L < gLn V S g
    · have a1 : gFl V S g L < gFl V S g (gLn V S g) := mx.2 L h1.1 c
      by_cases c2 : gLn V S g < V 0 5
      · have := h4 _ bL.1 c2; omega
      · have := z0 _ (by omega : V 0 5 ≤ gLn V S g) (by omega)
        omega
    · by_cases c2 : gLn V S g < L
      · have := h5 _ bL.1 c2; omega
      · omega
def gdn (m : zMm) (V : zMm) (s j : Int) : zMm := fun c i => if c = 146 ∧ 0 ≤ i ∧ i < j ∧ 0 < vT V i ∧ zbit s i = 0 then m 146 i + 1 else m c i
theorem gz221 {d : Nat} {m : zMm} {g : Int} {V : zMm} {S : Int → Int} (hV : gOk V) (hM : gMo V m) (hF : gFr V m) (hS : gMs V S m) (hk : gSok V S) (hg : gLg S g) (hn : S 0 < 1000) : zC (d + 12) 221 [.inr (.inr 131), .inl g] m (fun r' m' => r' = some (.inl (gTk V (gS1 S g))) ∧ gMs V (gNi V S g) m' ∧ gFr V m' ∧ gEn m m') := by
  refine ze221 ?_
  have hb := hV.1
  have b0 := hk.1
  have bp := hk.2.1
  have b5 := hk.2.2.2.2.2.1
  have b1 := gS1_bd hk hg
  have bT := gTk_bd hV (s := gS1 S g)
  obtain ⟨e4, e1, e0, e5, e3, e2⟩ := hS.1
  have half : ∀ m1 x2 x3, gMo V m1 → gFr V m1 → (m1 131 28 = gS1 S g ∧ m1 131 29 = S 1 ∧ m1 131 30 = S 0 ∧ m1 131 31 = S 5 ∧ m1 131 32 = (if g = -1 then S 3 else min (vA V g) (vB V g)) ∧ m1 131 33 = S 2) → (∀ r, 0 ≤ r → r < V 0 5 → 0 < vT V r → zbit (gS1 S g) r = 0 → m1 146 r = S (6 + r)) → gEn m m1 → zWP (zEx (d + 11)) 221 5 [some (.inr (.inr 131)), some (.inl g), x2, x3] [] m1 (fun r' m' => r' = some (.inl (gTk V (gS1 S g))) ∧ gMs V (gNi V S g) m' ∧ gFr V m' ∧ gEn m m') := by
    intro m1 x2 x3 hM1 hF1 ⟨q4, q1, q0, q5, q3, q2⟩ hd hE1
    simp +contextual (disch := (first | omega | assumption | decide)) only [↓zbrT, ↓zbrF, zw221_0, zw221_1, zw221_2, zw221_3, zw221_4, zw221_5, zw221_7, zw221_8, zw221_9, zw221_10, zw221_11, zw221_12, zw221_13, zw221_14, zw221_15, zw221_16, zw221_17, zw221_18, zw221_19, zw221_20, zr_1, zr_3, zr_4, zr_7, zr_10, zr_12, zr_13, zr_15, zr_16, zr_21, zr_26, zr_27, zr_28, zr_31, zr_32, zr_33, zr_34, zr_46, zr_50, zr_50b, zr_51, zr_53, zr_54, zr_55, zr_57, zr_58, zr_60, zr_61, zr_64, zr_68, zr_69, zr_70, zr_73, zlg_0, zlg_s, zls_0, zls_1, zls_s, zkl_i, zkl_r, zkl_l, zkl_n, zrc_1, zrc_s, zcat_n, zcat_i, zcat_l, zcat_r, zkd_131, zkd_138, zkd_139, zkd_146, zln_138, zln_139, zln_146, zrf_131_17, zrf_131_18, zrf_131_34, Int.cast_ofNat_Int, Int.reduceAdd, zbd, zw_id, zmu_same, zmu_c, zmu_i, false_and, and_false, true_and, and_true, true_or, or_true, false_or, or_false, Option.toList, List.nil_append, List.cons_append, zif0, zif1, zif01, zem1, zem2, Int.reduceEq, Int.reduceLT, Int.reduceLE, Int.reduceNeg, Int.reduceSub, Int.reduceMul, if_true, if_false, not_false_eq_true, not_true_eq_false, true_implies, false_implies, Classical.not_not, Nat.reduceAdd, Nat.reduceLeDiff, q0]
    refine zfor (V 0 5) (fun j lc m' => 0 ≤ j ∧ (∃ L, lc = [some (.inr (.inr 131)), some (.inl g), some (.inl L), some (.inl j)] ∧ gLj V S g j L) ∧ m' = gdn (zmu m1 131 30 (S 0 + 1)) V (gS1 S g) j) ?_ ?_ (i := 0) (by omega) ?_
    · rintro j lc m' hj ⟨h0, ⟨L, rfl, hL⟩, rfl⟩ kk
      have hM2 : gMo V (gdn (zmu m1 131 30 (S 0 + 1)) V (gS1 S g) j) := gMo_of hM1 (fun c i a b => by unfold gdn; rw [if_neg (by omega), zmu_c (by omega)])
      have h5 : 0 ≤ gdn (zmu m1 131 30 (S 0 + 1)) V (gS1 S g) j 138 5 ∧ gdn (zmu m1 131 30 (S 0 + 1)) V (gS1 S g) j 138 5 ≤ 8 := by rw [gM_5 hM2]; omega
      have g4 : gdn (zmu m1 131 30 (S 0 + 1)) V (gS1 S g) j 131 28 = gS1 S g := by unfold gdn; rw [if_neg (by omega), zmu_i (by decide), q4]
      have fj := gFl_bd (V := V) hk hg h0 (by omega : j < 8)
      rw [zw221_6]
      by_cases c : 0 < vT V j
      · have cc : (0 ≤ j ∧ j ≤ V 0 5 - 1) ∧ 0 < vT V j := ⟨⟨h0, by omega⟩, c⟩
        by_cases cz : zbit (gS1 S g) j = 0
        · have ed : gdn (zmu m1 131 30 (S 0 + 1)) V (gS1 S g) j 146 j = S (6 + j) := by
            unfold gdn
            rw [if_neg (by omega), zmu_c (by decide)]; exact hd j h0 hj c cz
          have ef : gFl V S g j = S (6 + j) + 1 := by unfold gFl; rw [if_pos ⟨hj, c, cz⟩]
          have bj := hk.2.2.2.2.2.2.2 j h0 (by omega)
          have em : zmu (gdn (zmu m1 131 30 (S 0 + 1)) V (gS1 S g) j) 146 j (S (6 + j) + 1) = gdn (zmu m1 131 30 (S 0 + 1)) V (gS1 S g) (j + 1) := by
            funext c' i
            by_cases ci : c' = 146 ∧ i = j
            · obtain ⟨rfl, rfl⟩ := ci
              rw [zmu_same]
              unfold gdn
              rw [if_pos ⟨rfl, h0, by omega, c, cz⟩, zmu_c (by decide), hd _ h0 hj c cz]
            · unfold zmu gdn
              rw [if_neg ci]
              by_cases ca : c' = 146 ∧ 0 ≤ i ∧ i < j ∧ 0 < vT V i ∧ zbit (gS1 S g) i = 0
              · rw [if_pos ca, if_pos ⟨ca.1, ca.2.1, by omega, ca.2.2.2⟩]
              · rw [if_neg ca, if_neg (fun z => ca ⟨z.1, z.2.1, by omega, z.2.2.2⟩)]
          by_cases cl : L = -1
          · simp +contextual (disch := (first | omega | assumption | decide)) only [↓zbrT, ↓zbrF, zw221_0, zw221_1, zw221_2, zw221_3, zw221_4, zw221_5, zw221_7, zw221_8, zw221_9, zw221_10, zw221_11, zw221_12, zw221_13, zw221_14, zw221_15, zw221_16, zw221_17, zw221_18, zw221_19, zw221_20, zr_1, zr_3, zr_4, zr_7, zr_10, zr_12, zr_13, zr_15, zr_16, zr_21, zr_26, zr_27, zr_28, zr_31, zr_32, zr_33, zr_34, zr_46, zr_50, zr_50b, zr_51, zr_53, zr_54, zr_55, zr_57, zr_58, zr_60, zr_61, zr_64, zr_68, zr_69, zr_70, zr_73, zlg_0, zlg_s, zls_0, zls_1, zls_s, zkl_i, zkl_r, zkl_l, zkl_n, zrc_1, zrc_s, zcat_n, zcat_i, zcat_l, zcat_r, zkd_131, zkd_138, zkd_139, zkd_146, zln_138, zln_139, zln_146, zrf_131_17, zrf_131_18, zrf_131_34, Int.cast_ofNat_Int, Int.reduceAdd, zbd, zw_id, zmu_same, zmu_c, zmu_i, false_and, and_false, true_and, and_true, true_or, or_true, false_or, or_false, Option.toList, List.nil_append, List.cons_append, zif0, zif1, zif01, zem1, zem2, Int.reduceEq, Int.reduceLT, Int.reduceLE, Int.reduceNeg, Int.reduceSub, Int.reduceMul, if_true, if_false, not_false_eq_true, not_true_eq_false, true_implies, false_implies, Classical.not_not, Nat.reduceAdd, Nat.reduceLeDiff, gM_0 hM2, gM_1 hM2, gM_2 hM2, gM_3 hM2, gM_4 hM2, gM_5 hM2, gM_6 hM2, gM_7 hM2, gM_8 hM2, gM_9 hM2, gM_10 hM2, gM_r0 hM2, gM_r1 hM2, gM_r2 hM2, gM_r3 hM2, gM_f0 hM2, gM_f1 hM2, gM_f2 hM2, gM_f3 hM2, gM_f4 hM2, zq204 h5, if_pos cc, g4, zq207, cz, ed, cl]
            rw [em]
            refine kk _ _ ⟨by omega, ⟨j, rfl, ?_⟩, rfl⟩
            rcases hL with ⟨_, hL⟩ | ⟨hL, _⟩
            · refine Or.inr ⟨⟨h0, by omega⟩, ⟨hj, c, cz⟩, by omega, fun r a b => ?_, fun r a b => ?_⟩
              · by_cases z : r = j
                · rw [z]; exact Int.le_refl _
                · have := hL r a (by omega); omega
              · have := hL r a b; omega
            · omega
          · have hL' : ((0 ≤ L ∧ L < j) ∧ (L < V 0 5 ∧ 0 < vT V L ∧ zbit (gS1 S g) L = 0) ∧ 1 ≤ gFl V S g L ∧ (∀ r, 0 ≤ r → r < j → gFl V S g r ≤ gFl V S g L) ∧ (∀ r, 0 ≤ r → r < L → gFl V S g r < gFl V S g L)) := by
              rcases hL with ⟨hL, _⟩ | hL
              · exact absurd hL cl
              · exact hL
            obtain ⟨l1, l2, l3, l4, l5⟩ := hL'
            have eL : gdn (zmu m1 131 30 (S 0 + 1)) V (gS1 S g) j 146 L = gFl V S g L := by
              unfold gdn
              rw [if_pos ⟨rfl, l1.1, l1.2, l2.2.1, l2.2.2⟩, zmu_c (by decide), hd L l1.1 l2.1 l2.2.1 l2.2.2]
              unfold gFl
              rw [if_pos l2]
            by_cases cm : gFl V S g L < S (6 + j) + 1
            · simp +contextual (disch := (first | omega | assumption | decide)) only [↓zbrT, ↓zbrF, zw221_0, zw221_1, zw221_2, zw221_3, zw221_4, zw221_5, zw221_7, zw221_8, zw221_9, zw221_10, zw221_11, zw221_12, zw221_13, zw221_14, zw221_15, zw221_16, zw221_17, zw221_18, zw221_19, zw221_20, zr_1, zr_3, zr_4, zr_7, zr_10, zr_12, zr_13, zr_15, zr_16, zr_21, zr_26, zr_27, zr_28, zr_31, zr_32, zr_33, zr_34, zr_46, zr_50, zr_50b, zr_51, zr_53, zr_54, zr_55, zr_57, zr_58, zr_60, zr_61, zr_64, zr_68, zr_69, zr_70, zr_73, zlg_0, zlg_s, zls_0, zls_1, zls_s, zkl_i, zkl_r, zkl_l, zkl_n, zrc_1, zrc_s, zcat_n, zcat_i, zcat_l, zcat_r, zkd_131, zkd_138, zkd_139, zkd_146, zln_138, zln_139, zln_146, zrf_131_17, zrf_131_18, zrf_131_34, Int.cast_ofNat_Int, Int.reduceAdd, zbd, zw_id, zmu_same, zmu_c, zmu_i, false_and, and_false, true_and, and_true, true_or, or_true, false_or, or_false, Option.toList, List.nil_append, List.cons_append, zif0, zif1, zif01, zem1, zem2, Int.reduceEq, Int.reduceLT, Int.reduceLE, Int.reduceNeg, Int.reduceSub, Int.reduceMul, if_true, if_false, not_false_eq_true, not_true_eq_false, true_implies, false_implies, Classical.not_not, Nat.reduceAdd, Nat.reduceLeDiff, gM_0 hM2, gM_1 hM2, gM_2 hM2, gM_3 hM2, gM_4 hM2, gM_5 hM2, gM_6 hM2, gM_7 hM2, gM_8 hM2, gM_9 hM2, gM_10 hM2, gM_r0 hM2, gM_r1 hM2, gM_r2 hM2, gM_r3 hM2, gM_f0 hM2, gM_f1 hM2, gM_f2 hM2, gM_f3 hM2, gM_f4 hM2, zq204 h5, if_pos cc, g4, zq207, cz, ed, cl, eL]
              rw [em]
              refine kk _ _ ⟨by omega, ⟨j, rfl, ?_⟩, rfl⟩
              refine Or.inr ⟨⟨h0, by omega⟩, ⟨hj, c, cz⟩, by omega, fun r a b => ?_, fun r a b => ?_⟩
              · by_cases z : r = j
                · rw [z]; exact Int.le_refl _
                · have := l4 r a (by omega); omega
              · have := l4 r a b; omega
            · simp +contextual (disch := (first | omega | assumption | decide)) only [↓zbrT, ↓zbrF, zw221_0, zw221_1, zw221_2, zw221_3, zw221_4, zw221_5, zw221_7, zw221_8, zw221_9, zw221_10, zw221_11, zw221_12, zw221_13, zw221_14, zw221_15, zw221_16, zw221_17, zw221_18, zw221_19, zw221_20, zr_1, zr_3, zr_4, zr_7, zr_10, zr_12, zr_13, zr_15, zr_16, zr_21, zr_26, zr_27, zr_28, zr_31, zr_32, zr_33, zr_34, zr_46, zr_50, zr_50b, zr_51, zr_53, zr_54, zr_55, zr_57, zr_58, zr_60, zr_61, zr_64, zr_68, zr_69, zr_70, zr_73, zlg_0, zlg_s, zls_0, zls_1, zls_s, zkl_i, zkl_r, zkl_l, zkl_n, zrc_1, zrc_s, zcat_n, zcat_i, zcat_l, zcat_r, zkd_131, zkd_138, zkd_139, zkd_146, zln_138, zln_139, zln_146, zrf_131_17, zrf_131_18, zrf_131_34, Int.cast_ofNat_Int, Int.reduceAdd, zbd, zw_id, zmu_same, zmu_c, zmu_i, false_and, and_false, true_and, and_true, true_or, or_true, false_or, or_false, Option.toList, List.nil_append, List.cons_append, zif0, zif1, zif01, zem1, zem2, Int.reduceEq, Int.reduceLT, Int.reduceLE, Int.reduceNeg, Int.reduceSub, Int.reduceMul, if_true, if_false, not_false_eq_true, not_true_eq_false, true_implies, false_implies, Classical.not_not, Nat.reduceAdd, Nat.reduceLeDiff, gM_0 hM2, gM_1 hM2, gM_2 hM2, gM_3 hM2, gM_4 hM2, gM_5 hM2, gM_6 hM2, gM_7 hM2, gM_8 hM2, gM_9 hM2, gM_10 hM2, gM_r0 hM2, gM_r1 hM2, gM_r2 hM2, gM_r3 hM2, gM_f0 hM2, gM_f1 hM2, gM_f2 hM2, gM_f3 hM2, gM_f4 hM2, zq204 h5, if_pos cc, g4, zq207, cz, ed, cl, eL]
              rw [em]
              refine kk _ _ ⟨by omega, ⟨L, rfl, ?_⟩, rfl⟩
              refine Or.inr ⟨⟨l1.1, by omega⟩, l2, l3, fun r a b => ?_, l5⟩
              by_cases z : r = j
              · rw [z]; omega
              · exact l4 r a (by omega)
        · have cz1 : zbit (gS1 S g) j = 1 := by have := zbit_01 (gS1 S g) j; omega
          simp +contextual (disch := (first | omega | assumption | decide)) only [↓zbrT, ↓zbrF, zw221_0, zw221_1, zw221_2, zw221_3, zw221_4, zw221_5, zw221_7, zw221_8, zw221_9, zw221_10, zw221_11, zw221_12, zw221_13, zw221_14, zw221_15, zw221_16, zw221_17, zw221_18, zw221_19, zw221_20, zr_1, zr_3, zr_4, zr_7, zr_10, zr_12, zr_13, zr_15, zr_16, zr_21, zr_26, zr_27, zr_28, zr_31, zr_32, zr_33, zr_34, zr_46, zr_50, zr_50b, zr_51, zr_53, zr_54, zr_55, zr_57, zr_58, zr_60, zr_61, zr_64, zr_68, zr_69, zr_70, zr_73, zlg_0, zlg_s, zls_0, zls_1, zls_s, zkl_i, zkl_r, zkl_l, zkl_n, zrc_1, zrc_s, zcat_n, zcat_i, zcat_l, zcat_r, zkd_131, zkd_138, zkd_139, zkd_146, zln_138, zln_139, zln_146, zrf_131_17, zrf_131_18, zrf_131_34, Int.cast_ofNat_Int, Int.reduceAdd, zbd, zw_id, zmu_same, zmu_c, zmu_i, false_and, and_false, true_and, and_true, true_or, or_true, false_or, or_false, Option.toList, List.nil_append, List.cons_append, zif0, zif1, zif01, zem1, zem2, Int.reduceEq, Int.reduceLT, Int.reduceLE, Int.reduceNeg, Int.reduceSub, Int.reduceMul, if_true, if_false, not_false_eq_true, not_true_eq_false, true_implies, false_implies, Classical.not_not, Nat.reduceAdd, Nat.reduceLeDiff, gM_0 hM2, gM_1 hM2, gM_2 hM2, gM_3 hM2, gM_4 hM2, gM_5 hM2, gM_6 hM2, gM_7 hM2, gM_8 hM2, gM_9 hM2, gM_10 hM2, gM_r0 hM2, gM_r1 hM2, gM_r2 hM2, gM_r3 hM2, gM_f0 hM2, gM_f1 hM2, gM_f2 hM2, gM_f3 hM2, gM_f4 hM2, zq204 h5, if_pos cc, g4, zq207, cz1]
          have em : gdn (zmu m1 131 30 (S 0 + 1)) V (gS1 S g) j = gdn (zmu m1 131 30 (S 0 + 1)) V (gS1 S g) (j + 1) := by
            funext c' i
            unfold gdn
            by_cases ca : c' = 146 ∧ 0 ≤ i ∧ i < j ∧ 0 < vT V i ∧ zbit (gS1 S g) i = 0
            · rw [if_pos ca, if_pos ⟨ca.1, ca.2.1, by omega, ca.2.2.2⟩]
            · rw [if_neg ca, if_neg (fun z => ca ⟨z.1, z.2.1, by
                by_cases y : i = j
                · rw [y] at z; exact absurd z.2.2.2.2 cz
                · omega, z.2.2.2⟩)]
          have fz : gFl V S g j = 0 := fj.2.2 (Or.inl cz1)
          refine kk _ _ ⟨by omega, ⟨L, rfl, ?_⟩, em⟩
          rcases hL with ⟨l0, hL⟩ | ⟨l1, l2, l3, l4, l5⟩
          · refine Or.inl ⟨l0, fun r a b => ?_⟩
            by_cases z : r = j
            · rw [z]; exact fz
            · exact hL r a (by omega)
          · refine Or.inr ⟨⟨l1.1, by omega⟩, l2, l3, fun r a b => ?_, l5⟩
            by_cases z : r = j
            · rw [z]; omega
            · exact l4 r a (by omega)
      · have cc : ¬ ((0 ≤ j ∧ j ≤ V 0 5 - 1) ∧ 0 < vT V j) := fun z => c z.2
        simp +contextual (disch := (first | omega | assumption | decide)) only [↓zbrT, ↓zbrF, zw221_0, zw221_1, zw221_2, zw221_3, zw221_4, zw221_5, zw221_7, zw221_8, zw221_9, zw221_10, zw221_11, zw221_12, zw221_13, zw221_14, zw221_15, zw221_16, zw221_17, zw221_18, zw221_19, zw221_20, zr_1, zr_3, zr_4, zr_7, zr_10, zr_12, zr_13, zr_15, zr_16, zr_21, zr_26, zr_27, zr_28, zr_31, zr_32, zr_33, zr_34, zr_46, zr_50, zr_50b, zr_51, zr_53, zr_54, zr_55, zr_57, zr_58, zr_60, zr_61, zr_64, zr_68, zr_69, zr_70, zr_73, zlg_0, zlg_s, zls_0, zls_1, zls_s, zkl_i, zkl_r, zkl_l, zkl_n, zrc_1, zrc_s, zcat_n, zcat_i, zcat_l, zcat_r, zkd_131, zkd_138, zkd_139, zkd_146, zln_138, zln_139, zln_146, zrf_131_17, zrf_131_18, zrf_131_34, Int.cast_ofNat_Int, Int.reduceAdd, zbd, zw_id, zmu_same, zmu_c, zmu_i, false_and, and_false, true_and, and_true, true_or, or_true, false_or, or_false, Option.toList, List.nil_append, List.cons_append, zif0, zif1, zif01, zem1, zem2, Int.reduceEq, Int.reduceLT, Int.reduceLE, Int.reduceNeg, Int.reduceSub, Int.reduceMul, if_true, if_false, not_false_eq_true, not_true_eq_false, true_implies, false_implies, Classical.not_not, Nat.reduceAdd, Nat.reduceLeDiff, gM_0 hM2, gM_1 hM2, gM_2 hM2, gM_3 hM2, gM_4 hM2, gM_5 hM2, gM_6 hM2, gM_7 hM2, gM_8 hM2, gM_9 hM2, gM_10 hM2, gM_r0 hM2, gM_r1 hM2, gM_r2 hM2, gM_r3 hM2, gM_f0 hM2, gM_f1 hM2, gM_f2 hM2, gM_f3 hM2, gM_f4 hM2, zq204 h5, if_neg cc]
        have em : gdn (zmu m1 131 30 (S 0 + 1)) V (gS1 S g) j = gdn (zmu m1 131 30 (S 0 + 1)) V (gS1 S g) (j + 1) := by
          funext c' i
          unfold gdn
          by_cases ca : c' = 146 ∧ 0 ≤ i ∧ i < j ∧ 0 < vT V i ∧ zbit (gS1 S g) i = 0
          · rw [if_pos ca, if_pos ⟨ca.1, ca.2.1, by omega, ca.2.2.2⟩]
          · rw [if_neg ca, if_neg (fun z => ca ⟨z.1, z.2.1, by
              by_cases y : i = j
              · rw [y] at z; exact absurd z.2.2.2.1 c
              · omega, z.2.2.2⟩)]
        have fz : gFl V S g j = 0 := fj.2.2 (Or.inr (fun z => c z.2))
        refine kk _ _ ⟨by omega, ⟨L, rfl, ?_⟩, em⟩
        rcases hL with ⟨l0, hL⟩ | ⟨l1, l2, l3, l4, l5⟩
        · refine Or.inl ⟨l0, fun r a b => ?_⟩
          by_cases z : r = j
          · rw [z]; exact fz
          · exact hL r a (by omega)
        · refine Or.inr ⟨⟨l1.1, by omega⟩, l2, l3, fun r a b => ?_, l5⟩
          by_cases z : r = j
          · rw [z]; omega
          · exact l4 r a (by omega)
    · rintro lc m' ⟨h0, ⟨L, rfl, hL⟩, rfl⟩
      have hend := gLj_end hV hk hg hL
      have g131 : ∀ i, gdn (zmu m1 131 30 (S 0 + 1)) V (gS1 S g) (V 0 5) 131 i = zmu m1 131 30 (S 0 + 1) 131 i := fun i => by unfold gdn; rw [if_neg (by omega)]
      have t4 : gdn (zmu m1 131 30 (S 0 + 1)) V (gS1 S g) (V 0 5) 131 28 = gS1 S g := by rw [g131, zmu_i (by decide), q4]
      have t1 : gdn (zmu m1 131 30 (S 0 + 1)) V (gS1 S g) (V 0 5) 131 29 = S 1 := by rw [g131, zmu_i (by decide), q1]
      have t0 : gdn (zmu m1 131 30 (S 0 + 1)) V (gS1 S g) (V 0 5) 131 30 = S 0 + 1 := by rw [g131, zmu_same]
      have t5 : gdn (zmu m1 131 30 (S 0 + 1)) V (gS1 S g) (V 0 5) 131 31 = S 5 := by rw [g131, zmu_i (by decide), q5]
      have t3 : gdn (zmu m1 131 30 (S 0 + 1)) V (gS1 S g) (V 0 5) 131 32 = if g = -1 then S 3 else min (vA V g) (vB V g) := by rw [g131, zmu_i (by decide), q3]
      have t2 : gdn (zmu m1 131 30 (S 0 + 1)) V (gS1 S g) (V 0 5) 131 33 = S 2 := by rw [g131, zmu_i (by decide), q2]
      have td : ∀ r, 0 ≤ r → r < V 0 5 → 0 < vT V r → zbit (gS1 S g) r = 0 → gdn (zmu m1 131 30 (S 0 + 1)) V (gS1 S g) (V 0 5) 146 r = gFl V S g r := fun r a b c e => by
        unfold gdn
        rw [if_pos ⟨rfl, a, b, c, e⟩, zmu_c (by decide), hd r a b c e]
        unfold gFl
        rw [if_pos ⟨b, c, e⟩]
      have hM2 : gMo V (gdn (zmu m1 131 30 (S 0 + 1)) V (gS1 S g) (V 0 5)) := gMo_of hM1 (fun c i a b => by unfold gdn; rw [if_neg (by omega), zmu_c (by omega)])
      have hF2 : gFr V (gdn (zmu m1 131 30 (S 0 + 1)) V (gS1 S g) (V 0 5)) := gFr_of hF1 (fun i => by unfold gdn; rw [if_neg (by omega), zmu_c (by decide)])
      have hE2 : gEn m (gdn (zmu m1 131 30 (S 0 + 1)) V (gS1 S g) (V 0 5)) := fun c i hc => by
        unfold gdn zmu
        rw [if_neg (by omega), if_neg (by omega)]; exact hE1 c i hc
      generalize gdn (zmu m1 131 30 (S 0 + 1)) V (gS1 S g) (V 0 5) = m2 at g131 t4 t1 t0 t5 t3 t2 td hM2 hF2 hE2 ⊢
      rw [zw221_6]
      simp +contextual (disch := (first | omega | assumption | decide)) only [↓zbrT, ↓zbrF, zw221_0, zw221_1, zw221_2, zw221_3, zw221_4, zw221_5, zw221_7, zw221_8, zw221_9, zw221_10, zw221_11, zw221_12, zw221_13, zw221_14, zw221_15, zw221_16, zw221_17, zw221_18, zw221_19, zw221_20, zr_1, zr_3, zr_4, zr_7, zr_10, zr_12, zr_13, zr_15, zr_16, zr_21, zr_26, zr_27, zr_28, zr_31, zr_32, zr_33, zr_34, zr_46, zr_50, zr_50b, zr_51, zr_53, zr_54, zr_55, zr_57, zr_58, zr_60, zr_61, zr_64, zr_68, zr_69, zr_70, zr_73, zlg_0, zlg_s, zls_0, zls_1, zls_s, zkl_i, zkl_r, zkl_l, zkl_n, zrc_1, zrc_s, zcat_n, zcat_i, zcat_l, zcat_r, zkd_131, zkd_138, zkd_139, zkd_146, zln_138, zln_139, zln_146, zrf_131_17, zrf_131_18, zrf_131_34, Int.cast_ofNat_Int, Int.reduceAdd, zbd, zw_id, zmu_same, zmu_c, zmu_i, false_and, and_false, true_and, and_true, true_or, or_true, false_or, or_false, Option.toList, List.nil_append, List.cons_append, zif0, zif1, zif01, zem1, zem2, Int.reduceEq, Int.reduceLT, Int.reduceLE, Int.reduceNeg, Int.reduceSub, Int.reduceMul, if_true, if_false, not_false_eq_true, not_true_eq_false, true_implies, false_implies, Classical.not_not, Nat.reduceAdd, Nat.reduceLeDiff, gM_0 hM2, gM_1 hM2, gM_2 hM2, gM_3 hM2, gM_4 hM2, gM_5 hM2, gM_6 hM2, gM_7 hM2, gM_8 hM2, gM_9 hM2, gM_10 hM2, gM_r0 hM2, gM_r1 hM2, gM_r2 hM2, gM_r3 hM2, gM_f0 hM2, gM_f1 hM2, gM_f2 hM2, gM_f3 hM2, gM_f4 hM2, t4]
      refine gK (gz214 hV hM2 b1) rfl rfl (Nat.le_of_ble_eq_true rfl) ?_
      rintro _ m3 ⟨rfl, hW⟩
      have hM3 := gEw_mo hW hM2
      have hF3 := gFr_w hW hF2
      have hE3 := gEn_tr hE2 (gEn_w hW)
      have u4 : m3 131 28 = gS1 S g := by rw [hW 131 28 (by decide), t4]
      have u1 : m3 131 29 = S 1 := by rw [hW 131 29 (by decide), t1]
      have u0 : m3 131 30 = S 0 + 1 := by rw [hW 131 30 (by decide), t0]
      have u5 : m3 131 31 = S 5 := by rw [hW 131 31 (by decide), t5]
      have u3 : m3 131 32 = if g = -1 then S 3 else min (vA V g) (vB V g) := by rw [hW 131 32 (by decide), t3]
      have u2 : m3 131 33 = S 2 := by rw [hW 131 33 (by decide), t2]
      have ud : ∀ r, 0 ≤ r → r < V 0 5 → 0 < vT V r → zbit (gS1 S g) r = 0 → m3 146 r = gFl V S g r := fun r a b c e => by rw [hW 146 r (by omega)]; exact td r a b c e
      have f3 : ∀ x y z w, (∀ i, zmu (zmu (zmu m3 131 29 x) 131 y z) 131 w z 145 i = m3 145 i) := fun x y z w i => by rw [zmu_c (by decide), zmu_c (by decide), zmu_c (by decide)]
      by_cases cw : S 1 + gTk V (gS1 S g) < V 0 2
      · simp +contextual (disch := (first | omega | assumption | decide)) only [↓zbrT, ↓zbrF, zw221_0, zw221_1, zw221_2, zw221_3, zw221_4, zw221_5, zw221_7, zw221_8, zw221_9, zw221_10, zw221_11, zw221_12, zw221_13, zw221_14, zw221_15, zw221_16, zw221_17, zw221_18, zw221_19, zw221_20, zr_1, zr_3, zr_4, zr_7, zr_10, zr_12, zr_13, zr_15, zr_16, zr_21, zr_26, zr_27, zr_28, zr_31, zr_32, zr_33, zr_34, zr_46, zr_50, zr_50b, zr_51, zr_53, zr_54, zr_55, zr_57, zr_58, zr_60, zr_61, zr_64, zr_68, zr_69, zr_70, zr_73, zlg_0, zlg_s, zls_0, zls_1, zls_s, zkl_i, zkl_r, zkl_l, zkl_n, zrc_1, zrc_s, zcat_n, zcat_i, zcat_l, zcat_r, zkd_131, zkd_138, zkd_139, zkd_146, zln_138, zln_139, zln_146, zrf_131_17, zrf_131_18, zrf_131_34, Int.cast_ofNat_Int, Int.reduceAdd, zbd, zw_id, zmu_same, zmu_c, zmu_i, false_and, and_false, true_and, and_true, true_or, or_true, false_or, or_false, Option.toList, List.nil_append, List.cons_append, zif0, zif1, zif01, zem1, zem2, Int.reduceEq, Int.reduceLT, Int.reduceLE, Int.reduceNeg, Int.reduceSub, Int.reduceMul, if_true, if_false, not_false_eq_true, not_true_eq_false, true_implies, false_implies, Classical.not_not, Nat.reduceAdd, Nat.reduceLeDiff, gM_0 hM3, gM_1 hM3, gM_2 hM3, gM_3 hM3, gM_4 hM3, gM_5 hM3, gM_6 hM3, gM_7 hM3, gM_8 hM3, gM_9 hM3, gM_10 hM3, gM_r0 hM3, gM_r1 hM3, gM_r2 hM3, gM_r3 hM3, gM_f0 hM3, gM_f1 hM3, gM_f2 hM3, gM_f3 hM3, gM_f4 hM3, u1]
        rw [gNi_up cw]
        refine ⟨⟨?_, fun r a b c e => ?_⟩, gFr_of hF3 (fun i => by rw [zmu_c (by decide), zmu_c (by decide), zmu_c (by decide)]), fun c i hc => ?_⟩
        · simp only [zmu, true_and]
          refine ⟨?_, ?_, ?_, ?_, ?_, ?_⟩ <;> simp only [Int.reduceEq, if_true, if_false] <;> assumption
        · dsimp only
          rw [zmu_c (by decide), zmu_c (by decide), zmu_c (by decide), if_neg (by omega), if_neg (by omega), gBk_f a (by omega)]
          exact ud r a b c e
        · unfold zmu
          rw [if_neg (by omega), if_neg (by omega), if_neg (by omega)]
          exact hE3 c i hc
      · have plain : ∀ m4, m4 = zmu m3 131 29 (S 1 + (gTk V (gS1 S g) - V 0 2)) → ¬ (V 0 3 ≤ S 1 + gTk V (gS1 S g) - V 0 2 ∧ 2 ≤ gFl V S g (gLn V S g)) → gMs V (gNi V S g) m4 ∧ gFr V m4 ∧ gEn m m4 := by
          intro m4 e c2
          rw [e, gNi_no cw c2]
          refine ⟨⟨?_, fun r a b c e => ?_⟩, gFr_of hF3 (fun i => by rw [zmu_c (by decide)]), fun c i hc => ?_⟩
          · simp only [zmu, true_and]
            refine ⟨?_, ?_, ?_, ?_, ?_, ?_⟩ <;> simp only [Int.reduceEq, if_true, if_false] <;> (first | assumption | omega)
          · dsimp only
            rw [zmu_c (by decide), if_neg (by omega), gBk_f a (by omega)]
            exact ud r a b c e
          · unfold zmu
            rw [if_neg (by omega)]
            exact hE3 c i hc
        by_cases cb : V 0 3 ≤ S 1 + gTk V (gS1 S g) - V 0 2
        · by_cases cl : L = -1
          · have c2 : ¬ (V 0 3 ≤ S 1 + gTk V (gS1 S g) - V 0 2 ∧ 2 ≤ gFl V S g (gLn V S g)) := by
              rcases hend with ⟨_, z⟩ | z
              · omega
              · have : 0 ≤ gLn V S g := (gMx_bd (gFl V S g) 7).1
                omega
            simp +contextual (disch := (first | omega | assumption | decide)) only [↓zbrT, ↓zbrF, zw221_0, zw221_1, zw221_2, zw221_3, zw221_4, zw221_5, zw221_7, zw221_8, zw221_9, zw221_10, zw221_11, zw221_12, zw221_13, zw221_14, zw221_15, zw221_16, zw221_17, zw221_18, zw221_19, zw221_20, zr_1, zr_3, zr_4, zr_7, zr_10, zr_12, zr_13, zr_15, zr_16, zr_21, zr_26, zr_27, zr_28, zr_31, zr_32, zr_33, zr_34, zr_46, zr_50, zr_50b, zr_51, zr_53, zr_54, zr_55, zr_57, zr_58, zr_60, zr_61, zr_64, zr_68, zr_69, zr_70, zr_73, zlg_0, zlg_s, zls_0, zls_1, zls_s, zkl_i, zkl_r, zkl_l, zkl_n, zrc_1, zrc_s, zcat_n, zcat_i, zcat_l, zcat_r, zkd_131, zkd_138, zkd_139, zkd_146, zln_138, zln_139, zln_146, zrf_131_17, zrf_131_18, zrf_131_34, Int.cast_ofNat_Int, Int.reduceAdd, zbd, zw_id, zmu_same, zmu_c, zmu_i, false_and, and_false, true_and, and_true, true_or, or_true, false_or, or_false, Option.toList, List.nil_append, List.cons_append, zif0, zif1, zif01, zem1, zem2, Int.reduceEq, Int.reduceLT, Int.reduceLE, Int.reduceNeg, Int.reduceSub, Int.reduceMul, if_true, if_false, not_false_eq_true, not_true_eq_false, true_implies, false_implies, Classical.not_not, Nat.reduceAdd, Nat.reduceLeDiff, gM_0 hM3, gM_1 hM3, gM_2 hM3, gM_3 hM3, gM_4 hM3, gM_5 hM3, gM_6 hM3, gM_7 hM3, gM_8 hM3, gM_9 hM3, gM_10 hM3, gM_r0 hM3, gM_r1 hM3, gM_r2 hM3, gM_r3 hM3, gM_f0 hM3, gM_f1 hM3, gM_f2 hM3, gM_f3 hM3, gM_f4 hM3, u1, cl]
            exact plain _ rfl c2
          · have eL : L = gLn V S g := by
              rcases hend with ⟨z, _⟩ | z
              · exact absurd z cl
              · exact z
            have hL' : (0 ≤ L ∧ L < V 0 5) ∧ (L < V 0 5 ∧ 0 < vT V L ∧ zbit (gS1 S g) L = 0) := by
              rcases hL with ⟨hL, _⟩ | hL
              · exact absurd hL cl
              · exact ⟨hL.1, hL.2.1⟩
            have vL := ud L hL'.1.1 hL'.1.2 hL'.2.2.1 hL'.2.2.2
            by_cases c3 : 2 ≤ gFl V S g L
            · simp +contextual (disch := (first | omega | assumption | decide)) only [↓zbrT, ↓zbrF, zw221_0, zw221_1, zw221_2, zw221_3, zw221_4, zw221_5, zw221_7, zw221_8, zw221_9, zw221_10, zw221_11, zw221_12, zw221_13, zw221_14, zw221_15, zw221_16, zw221_17, zw221_18, zw221_19, zw221_20, zr_1, zr_3, zr_4, zr_7, zr_10, zr_12, zr_13, zr_15, zr_16, zr_21, zr_26, zr_27, zr_28, zr_31, zr_32, zr_33, zr_34, zr_46, zr_50, zr_50b, zr_51, zr_53, zr_54, zr_55, zr_57, zr_58, zr_60, zr_61, zr_64, zr_68, zr_69, zr_70, zr_73, zlg_0, zlg_s, zls_0, zls_1, zls_s, zkl_i, zkl_r, zkl_l, zkl_n, zrc_1, zrc_s, zcat_n, zcat_i, zcat_l, zcat_r, zkd_131, zkd_138, zkd_139, zkd_146, zln_138, zln_139, zln_146, zrf_131_17, zrf_131_18, zrf_131_34, Int.cast_ofNat_Int, Int.reduceAdd, zbd, zw_id, zmu_same, zmu_c, zmu_i, false_and, and_false, true_and, and_true, true_or, or_true, false_or, or_false, Option.toList, List.nil_append, List.cons_append, zif0, zif1, zif01, zem1, zem2, Int.reduceEq, Int.reduceLT, Int.reduceLE, Int.reduceNeg, Int.reduceSub, Int.reduceMul, if_true, if_false, not_false_eq_true, not_true_eq_false, true_implies, false_implies, Classical.not_not, Nat.reduceAdd, Nat.reduceLeDiff, gM_0 hM3, gM_1 hM3, gM_2 hM3, gM_3 hM3, gM_4 hM3, gM_5 hM3, gM_6 hM3, gM_7 hM3, gM_8 hM3, gM_9 hM3, gM_10 hM3, gM_r0 hM3, gM_r1 hM3, gM_r2 hM3, gM_r3 hM3, gM_f0 hM3, gM_f1 hM3, gM_f2 hM3, gM_f3 hM3, gM_f4 hM3, u1, cl, vL, u4, u5, zshl_1]
              rw [gNi_re cw (by rw [← eL]; exact ⟨cb, c3⟩), ← eL]
              refine ⟨⟨?_, fun r a b c e => ?_⟩, gFr_of hF3 (fun i => by rw [zmu_c (by decide), zmu_c (by decide), zmu_c (by decide), zmu_c (by decide)]), fun c i hc => ?_⟩
              · simp only [zmu, true_and]
                have n0 : ¬ ((0 : Int) = 6 + L) := by omega
                have n2 : ¬ ((2 : Int) = 6 + L) := by omega
                have n3 : ¬ ((3 : Int) = 6 + L) := by omega
                refine ⟨?_, ?_, ?_, ?_, ?_, ?_⟩ <;> simp only [Int.reduceEq, if_true, if_false, n0, n2, n3] <;> (first | assumption | omega)
              · dsimp only at e ⊢
                simp only [Int.reduceEq, if_true, if_false] at e
                have bL8 : 0 ≤ L ∧ L < 8 := by omega
                rw [zbit_or b1 (p2_bd bL8) a, zbit_p2 bL8 ⟨a, by omega⟩] at e
                have rL : r ≠ L := by
                  intro z
                  rw [if_pos z, if_pos (Or.inr rfl)] at e; omega
                have rz : zbit (gS1 S g) r = 0 := by
                  rcases zbit_01 (gS1 S g) r with z | z
                  · exact z
                  · rw [if_pos (Or.inl z)] at e; omega
                rw [zmu_c (by decide), zmu_c (by decide), zmu_c (by decide), zmu_c (by decide), if_neg (by omega), if_neg (by omega), if_neg (by omega), if_neg (by omega), gBk_f a (by omega)]
                exact ud r a b c rz
              · unfold zmu
                rw [if_neg (by omega), if_neg (by omega), if_neg (by omega), if_neg (by omega)]
                exact hE3 c i hc
            · have c2 : ¬ (V 0 3 ≤ S 1 + gTk V (gS1 S g) - V 0 2 ∧ 2 ≤ gFl V S g (gLn V S g)) := by rw [← eL]; omega
              simp +contextual (disch := (first | omega | assumption | decide)) only [↓zbrT, ↓zbrF, zw221_0, zw221_1, zw221_2, zw221_3, zw221_4, zw221_5, zw221_7, zw221_8, zw221_9, zw221_10, zw221_11, zw221_12, zw221_13, zw221_14, zw221_15, zw221_16, zw221_17, zw221_18, zw221_19, zw221_20, zr_1, zr_3, zr_4, zr_7, zr_10, zr_12, zr_13, zr_15, zr_16, zr_21, zr_26, zr_27, zr_28, zr_31, zr_32, zr_33, zr_34, zr_46, zr_50, zr_50b, zr_51, zr_53, zr_54, zr_55, zr_57, zr_58, zr_60, zr_61, zr_64, zr_68, zr_69, zr_70, zr_73, zlg_0, zlg_s, zls_0, zls_1, zls_s, zkl_i, zkl_r, zkl_l, zkl_n, zrc_1, zrc_s, zcat_n, zcat_i, zcat_l, zcat_r, zkd_131, zkd_138, zkd_139, zkd_146, zln_138, zln_139, zln_146, zrf_131_17, zrf_131_18, zrf_131_34, Int.cast_ofNat_Int, Int.reduceAdd, zbd, zw_id, zmu_same, zmu_c, zmu_i, false_and, and_false, true_and, and_true, true_or, or_true, false_or, or_false, Option.toList, List.nil_append, List.cons_append, zif0, zif1, zif01, zem1, zem2, Int.reduceEq, Int.reduceLT, Int.reduceLE, Int.reduceNeg, Int.reduceSub, Int.reduceMul, if_true, if_false, not_false_eq_true, not_true_eq_false, true_implies, false_implies, Classical.not_not, Nat.reduceAdd, Nat.reduceLeDiff, gM_0 hM3, gM_1 hM3, gM_2 hM3, gM_3 hM3, gM_4 hM3, gM_5 hM3, gM_6 hM3, gM_7 hM3, gM_8 hM3, gM_9 hM3, gM_10 hM3, gM_r0 hM3, gM_r1 hM3, gM_r2 hM3, gM_r3 hM3, gM_f0 hM3, gM_f1 hM3, gM_f2 hM3, gM_f3 hM3, gM_f4 hM3, u1, cl, vL]
              exact plain _ rfl c2
        · simp +contextual (disch := (first | omega | assumption | decide)) only [↓zbrT, ↓zbrF, zw221_0, zw221_1, zw221_2, zw221_3, zw221_4, zw221_5, zw221_7, zw221_8, zw221_9, zw221_10, zw221_11, zw221_12, zw221_13, zw221_14, zw221_15, zw221_16, zw221_17, zw221_18, zw221_19, zw221_20, zr_1, zr_3, zr_4, zr_7, zr_10, zr_12, zr_13, zr_15, zr_16, zr_21, zr_26, zr_27, zr_28, zr_31, zr_32, zr_33, zr_34, zr_46, zr_50, zr_50b, zr_51, zr_53, zr_54, zr_55, zr_57, zr_58, zr_60, zr_61, zr_64, zr_68, zr_69, zr_70, zr_73, zlg_0, zlg_s, zls_0, zls_1, zls_s, zkl_i, zkl_r, zkl_l, zkl_n, zrc_1, zrc_s, zcat_n, zcat_i, zcat_l, zcat_r, zkd_131, zkd_138, zkd_139, zkd_146, zln_138, zln_139, zln_146, zrf_131_17, zrf_131_18, zrf_131_34, Int.cast_ofNat_Int, Int.reduceAdd, zbd, zw_id, zmu_same, zmu_c, zmu_i, false_and, and_false, true_and, and_true, true_or, or_true, false_or, or_false, Option.toList, List.nil_append, List.cons_append, zif0, zif1, zif01, zem1, zem2, Int.reduceEq, Int.reduceLT, Int.reduceLE, Int.reduceNeg, Int.reduceSub, Int.reduceMul, if_true, if_false, not_false_eq_true, not_true_eq_false, true_implies, false_implies, Classical.not_not, Nat.reduceAdd, Nat.reduceLeDiff, gM_0 hM3, gM_1 hM3, gM_2 hM3, gM_3 hM3, gM_4 hM3, gM_5 hM3, gM_6 hM3, gM_7 hM3, gM_8 hM3, gM_9 hM3, gM_10 hM3, gM_r0 hM3, gM_r1 hM3, gM_r2 hM3, gM_r3 hM3, gM_f0 hM3, gM_f1 hM3, gM_f2 hM3, gM_f3 hM3, gM_f4 hM3, u1]
          exact plain _ rfl (fun z => cb z.1)
    · refine ⟨by decide, ⟨-1, rfl, Or.inl ⟨rfl, fun r a b => by omega⟩⟩, ?_⟩
      funext c i
      unfold gdn
      rw [if_neg (by omega)]
  by_cases c1 : g = -1
  · simp +contextual (disch := (first | omega | assumption | decide)) only [↓zbrT, ↓zbrF, zw221_0, zw221_1, zw221_2, zw221_3, zw221_4, zw221_7, zw221_8, zw221_9, zw221_10, zw221_11, zw221_12, zw221_13, zw221_14, zw221_15, zw221_16, zw221_17, zw221_18, zw221_19, zw221_20, zr_1, zr_3, zr_4, zr_7, zr_10, zr_12, zr_13, zr_15, zr_16, zr_21, zr_26, zr_27, zr_28, zr_31, zr_32, zr_33, zr_34, zr_46, zr_50, zr_50b, zr_51, zr_53, zr_54, zr_55, zr_57, zr_58, zr_60, zr_61, zr_64, zr_68, zr_69, zr_70, zr_73, zlg_0, zlg_s, zls_0, zls_1, zls_s, zkl_i, zkl_r, zkl_l, zkl_n, zrc_1, zrc_s, zcat_n, zcat_i, zcat_l, zcat_r, zkd_131, zkd_138, zkd_139, zkd_146, zln_138, zln_139, zln_146, zrf_131_17, zrf_131_18, zrf_131_34, Int.cast_ofNat_Int, Int.reduceAdd, zbd, zw_id, zmu_same, zmu_c, zmu_i, false_and, and_false, true_and, and_true, true_or, or_true, false_or, or_false, Option.toList, List.nil_append, List.cons_append, zif0, zif1, zif01, zem1, zem2, Int.reduceEq, Int.reduceLT, Int.reduceLE, Int.reduceNeg, Int.reduceSub, Int.reduceMul, if_true, if_false, not_false_eq_true, not_true_eq_false, true_implies, false_implies, Classical.not_not, Nat.reduceAdd, Nat.reduceLeDiff, c1]
    have eg : gS1 S g = S 4 := by unfold gS1; rw [if_pos c1]
    have := half m none none hM hF ⟨by rw [eg]; exact e4, e1, e0, e5, by rw [if_pos c1]; exact e3, e2⟩ (fun r a b c e => by rw [eg] at e; exact hS.2 r a b c e) gEn_refl
    rw [c1] at this
    exact this
  · have yb : 0 ≤ g ∧ g < 8 ∧ zbit (S 4) g = 1 := by unfold gLg at hg; omega
    have gr := hk.2.2.2.2.2.2.1 g yb.1 yb.2.1 yb.2.2
    have bg := hV.2.1 g yb.1 gr.1
    have eg : gS1 S g = zand (S 4) (zxor (2 ^ g.toNat) (-1)) := by unfold gS1; rw [if_neg c1]
    have fin : ∀ p, p = min (vA V g) (vB V g) → zWP (zEx (d + 11)) 221 5 [some (.inr (.inr 131)), some (.inl g), none, none] [] (zmu (zmu (zmu m 131 28 (gS1 S g)) 146 g 0) 131 32 p) (fun r' m' => r' = some (.inl (gTk V (gS1 S g))) ∧ gMs V (gNi V S g) m' ∧ gFr V m' ∧ gEn m m') := by
      intro p hp
      refine half _ none none (gMo_of hM (fun c i a b => by rw [zmu_c (by omega), zmu_c (by omega), zmu_c (by omega)])) (gFr_of hF (fun i => by rw [zmu_c (by decide), zmu_c (by decide), zmu_c (by decide)])) ?_ (fun r a b c e => ?_) (fun c i hc => ?_)
      · rw [if_neg c1]
        simp only [zmu, true_and]
        refine ⟨?_, ?_, ?_, ?_, ?_, ?_⟩ <;> simp only [Int.reduceEq, if_true, if_false, false_and] <;> assumption
      · rw [zmu_c (by decide), zmu_ci]
        by_cases z : r = g
        · rw [if_pos z, z]
          exact ((hk.2.2.2.2.2.2.2 g yb.1 yb.2.1).2.2 (Or.inl yb.2.2)).symm
        · rw [if_neg z, zmu_c (by decide)]
          refine hS.2 r a b c ?_
          rw [gS1_bit hk hg a (by omega)] at e
          rcases zbit_01 (S 4) r with y | y
          · exact y
          · rw [if_pos ⟨y, z⟩] at e; omega
      · unfold zmu
        rw [if_neg (by omega), if_neg (by omega), if_neg (by omega)]
    by_cases c2 : vA V g < vB V g
    · simp +contextual (disch := (first | omega | assumption | decide)) only [↓zbrT, ↓zbrF, zw221_0, zw221_1, zw221_2, zw221_3, zw221_4, zw221_7, zw221_8, zw221_9, zw221_10, zw221_11, zw221_12, zw221_13, zw221_14, zw221_15, zw221_16, zw221_17, zw221_18, zw221_19, zw221_20, zr_1, zr_3, zr_4, zr_7, zr_10, zr_12, zr_13, zr_15, zr_16, zr_21, zr_26, zr_27, zr_28, zr_31, zr_32, zr_33, zr_34, zr_46, zr_50, zr_50b, zr_51, zr_53, zr_54, zr_55, zr_57, zr_58, zr_60, zr_61, zr_64, zr_68, zr_69, zr_70, zr_73, zlg_0, zlg_s, zls_0, zls_1, zls_s, zkl_i, zkl_r, zkl_l, zkl_n, zrc_1, zrc_s, zcat_n, zcat_i, zcat_l, zcat_r, zkd_131, zkd_138, zkd_139, zkd_146, zln_138, zln_139, zln_146, zrf_131_17, zrf_131_18, zrf_131_34, Int.cast_ofNat_Int, Int.reduceAdd, zbd, zw_id, zmu_same, zmu_c, zmu_i, false_and, and_false, true_and, and_true, true_or, or_true, false_or, or_false, Option.toList, List.nil_append, List.cons_append, zif0, zif1, zif01, zem1, zem2, Int.reduceEq, Int.reduceLT, Int.reduceLE, Int.reduceNeg, Int.reduceSub, Int.reduceMul, if_true, if_false, not_false_eq_true, not_true_eq_false, true_implies, false_implies, Classical.not_not, Nat.reduceAdd, Nat.reduceLeDiff, c1, e4, zshl_1, ← eg, gM_0 hM, gM_1 hM, gM_2 hM, gM_3 hM, gM_4 hM, gM_5 hM, gM_6 hM, gM_7 hM, gM_8 hM, gM_9 hM, gM_10 hM, gM_r0 hM, gM_r1 hM, gM_r2 hM, gM_r3 hM, gM_f0 hM, gM_f1 hM, gM_f2 hM, gM_f3 hM, gM_f4 hM]
      exact fin _ (by omega)
    · simp +contextual (disch := (first | omega | assumption | decide)) only [↓zbrT, ↓zbrF, zw221_0, zw221_1, zw221_2, zw221_3, zw221_4, zw221_7, zw221_8, zw221_9, zw221_10, zw221_11, zw221_12, zw221_13, zw221_14, zw221_15, zw221_16, zw221_17, zw221_18, zw221_19, zw221_20, zr_1, zr_3, zr_4, zr_7, zr_10, zr_12, zr_13, zr_15, zr_16, zr_21, zr_26, zr_27, zr_28, zr_31, zr_32, zr_33, zr_34, zr_46, zr_50, zr_50b, zr_51, zr_53, zr_54, zr_55, zr_57, zr_58, zr_60, zr_61, zr_64, zr_68, zr_69, zr_70, zr_73, zlg_0, zlg_s, zls_0, zls_1, zls_s, zkl_i, zkl_r, zkl_l, zkl_n, zrc_1, zrc_s, zcat_n, zcat_i, zcat_l, zcat_r, zkd_131, zkd_138, zkd_139, zkd_146, zln_138, zln_139, zln_146, zrf_131_17, zrf_131_18, zrf_131_34, Int.cast_ofNat_Int, Int.reduceAdd, zbd, zw_id, zmu_same, zmu_c, zmu_i, false_and, and_false, true_and, and_true, true_or, or_true, false_or, or_false, Option.toList, List.nil_append, List.cons_append, zif0, zif1, zif01, zem1, zem2, Int.reduceEq, Int.reduceLT, Int.reduceLE, Int.reduceNeg, Int.reduceSub, Int.reduceMul, if_true, if_false, not_false_eq_true, not_true_eq_false, true_implies, false_implies, Classical.not_not, Nat.reduceAdd, Nat.reduceLeDiff, c1, e4, zshl_1, ← eg, gM_0 hM, gM_1 hM, gM_2 hM, gM_3 hM, gM_4 hM, gM_5 hM, gM_6 hM, gM_7 hM, gM_8 hM, gM_9 hM, gM_10 hM, gM_r0 hM, gM_r1 hM, gM_r2 hM, gM_r3 hM, gM_f0 hM, gM_f1 hM, gM_f2 hM, gM_f3 hM, gM_f4 hM]
      exact fin _ (by omega)
