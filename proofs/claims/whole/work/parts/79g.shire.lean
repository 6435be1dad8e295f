/-! ===== the model's loop over lines, shire ===== -/
theorem gR199 {d : Nat} {T : zMm} (hk : gTo1 T) {Q : Option zV → zMm → Prop} : ∀ (n : Nat) (s : Int × Int × Int) (D m : zMm), gPd T s m → (s.2.1 = 0 → gS4 D m ∧ gDk D ∧ D 0 10 ≤ s.1 ∧ T 0 0 - s.1 < n) → (∀ m', gPd T (pRun T n s D).1 m' → ((pRun T n s D).1.2.1 = 0 → gS4 (pRun T n s D).2 m') → gFm4 m m' → zWP (zEx (d + 6)) 199 9 [some (.inr (.inr 131))] [] m' Q) → zWP (zEx (d + 6)) 199 1 [some (.inr (.inr 131))] [] m Q
  | n, s, D, m, hp, h, hQ => by
    have hb := hk.1
    have q8 := hp.2.1.2.1
    have f1 := hp.2.2.1
    have hq := hp.2.2.2.2
    rw [zw199_1]
    by_cases c0 : s.2.1 = 0
    · have g := h c0
      have b := g.2.1.1.1
      have t1 : m 131 12 = 0 := by rw [f1, c0]
      by_cases c1 : gKi T s.1 = 0
      · have e : pRun T n s D = (s, D) := by
          cases n with
          | zero => rfl
          | succ n => unfold pRun; rw [if_neg (fun z => z.2 c1)]
        rw [e] at hQ
        rw [c1] at q8
        simp +contextual (disch := (first | omega | assumption | decide)) only [↓zbrT, ↓zbrF, zw199_0, zw199_2, zw199_3, zw199_4, zw199_5, zw199_6, zw199_7, zw199_8, zw199_10, zw199_11, zr_3, zr_7, zr_8, zr_10, zr_12, zr_13, zr_16, zr_21, zr_26, zr_51, zr_54, zr_61, zr_62, zr_68, zr_70, zr_73, zlg_0, zlg_s, zrc_1, zrc_s, zcat_n, zcat_i, zcat_l, zcat_r, zkd_131, zkd_137, zln_137, zrf_131_16, Int.cast_ofNat_Int, Int.reduceAdd, zbd, zw_id, zmu_same, zmu_c, zmu_i, false_and, and_false, true_and, and_true, true_or, or_true, false_or, or_false, Option.toList, List.nil_append, List.cons_append, zif0, zif1, zif01, zem1, zem2, Int.reduceEq, Int.reduceLT, Int.reduceLE, Int.reduceNeg, Int.reduceSub, Int.reduceMul, if_true, if_false, not_false_eq_true, not_true_eq_false, true_implies, false_implies, Classical.not_not, Nat.reduceAdd, Nat.reduceLeDiff, zq181, if_pos t1, q8]
        exact hQ m hp (fun _ => g.1) gFm4_refl
      · have lt := gKi_lt hq.2 c1
        cases n with
        | zero => omega
        | succ n =>
          have e : pRun T (n + 1) s D = pRun T n (pS1 T s D) (dS1 T s D) := by
            show (if s.2.1 = 0 ∧ gKi T s.1 ≠ 0 then pRun T n (pS1 T s D) (dS1 T s D) else (s, D)) = _
            rw [if_pos ⟨c0, c1⟩]
          rw [e] at hQ
          rw [← q8] at c1
          have e4 := g.1.1.2.2.2.2.2.2.2.2.2.2
          have l := pSg_g (pL_1 (D := D) hq.2).2
          have go : ∀ m1, gPd T (pL T s D) m1 → ((pL T s D).2.1 = 0 → gS4 (dL T s D) m1) → gFm4 m m1 → zWP (zEx (d + 6)) 199 6 [some (.inr (.inr 131))] [] m1 Q := fun m1 p1 g1 k1 => by
            have b1 := p1.2.2.1
            by_cases c2 : (pL T s D).2.1 = 0
            · have t2 : m1 131 12 = 0 := by rw [b1, c2]
              simp +contextual (disch := (first | omega | assumption | decide)) only [↓zbrT, ↓zbrF, zw199_0, zw199_2, zw199_3, zw199_4, zw199_5, zw199_6, zw199_7, zw199_8, zw199_10, zw199_11, zr_3, zr_7, zr_8, zr_10, zr_12, zr_13, zr_16, zr_21, zr_26, zr_51, zr_54, zr_61, zr_62, zr_68, zr_70, zr_73, zlg_0, zlg_s, zrc_1, zrc_s, zcat_n, zcat_i, zcat_l, zcat_r, zkd_131, zkd_137, zln_137, zrf_131_16, Int.cast_ofNat_Int, Int.reduceAdd, zbd, zw_id, zmu_same, zmu_c, zmu_i, false_and, and_false, true_and, and_true, true_or, or_true, false_or, or_false, Option.toList, List.nil_append, List.cons_append, zif0, zif1, zif01, zem1, zem2, Int.reduceEq, Int.reduceLT, Int.reduceLE, Int.reduceNeg, Int.reduceSub, Int.reduceMul, if_true, if_false, not_false_eq_true, not_true_eq_false, true_implies, false_implies, Classical.not_not, Nat.reduceAdd, Nat.reduceLeDiff, zq181, if_pos t2]
              refine gK (gz188 hk p1) rfl rfl (Nat.le_of_ble_eq_true rfl) ?_
              rintro _ m2 ⟨rfl, p2, k2⟩
              have g2 := gS4_n (g1 c2) k2
              have l4 : m2 137 4 = D 0 10 := by rw [g2.1.2.2.2.2.2.2.2.2.2.2, dL_f.2]
              have g3 : gS4 (dS1 T s D) (zmu m2 137 4 (D 0 10 + 1)) := gS4_l g2
              have p3 : gPd T (pS1 T s D) (zmu m2 137 4 (D 0 10 + 1)) := gPd_u p2 (by decide)
              simp +contextual (disch := (first | omega | assumption | decide)) only [↓zbrT, ↓zbrF, zw199_0, zw199_2, zw199_3, zw199_4, zw199_5, zw199_6, zw199_7, zw199_8, zw199_10, zw199_11, zr_3, zr_7, zr_8, zr_10, zr_12, zr_13, zr_16, zr_21, zr_26, zr_51, zr_54, zr_61, zr_62, zr_68, zr_70, zr_73, zlg_0, zlg_s, zrc_1, zrc_s, zcat_n, zcat_i, zcat_l, zcat_r, zkd_131, zkd_137, zln_137, zrf_131_16, Int.cast_ofNat_Int, Int.reduceAdd, zbd, zw_id, zmu_same, zmu_c, zmu_i, false_and, and_false, true_and, and_true, true_or, or_true, false_or, or_false, Option.toList, List.nil_append, List.cons_append, zif0, zif1, zif01, zem1, zem2, Int.reduceEq, Int.reduceLT, Int.reduceLE, Int.reduceNeg, Int.reduceSub, Int.reduceMul, if_true, if_false, not_false_eq_true, not_true_eq_false, true_implies, false_implies, Classical.not_not, Nat.reduceAdd, Nat.reduceLeDiff, l4]
              refine gR199 hk n (pS1 T s D) (dS1 T s D) _ p3 (fun z => ?_) (fun m' a1 a2 a3 => hQ m' a1 a2 (gFm4_tr k1 (gFm4_tr (gFm4_n k2) (gFm4_tr (gFm4_u (by omega)) a3))))
              have := dS_ok g.2.1 hb.2 hq.2 g.2.2.1 z
              have y : (pS1 T s D).1 ≤ T 0 0 := p3.2.2.2.2.2
              have w : s.1 + 1 ≤ (pS1 T s D).1 := by
                have := (pL_1 (D := D) hq.2).1
                have := (l.2 z).2
                unfold pS1
                omega
              exact ⟨g3, this.1, this.2, by omega⟩
            · have t2 : ¬ m1 131 12 = 0 := by rw [b1]; exact c2
              have es : pS1 T s D = pL T s D := by
                unfold pS1 pSg
                rw [if_neg (fun z => c2 z.1), pBl_b c2]
              simp +contextual (disch := (first | omega | assumption | decide)) only [↓zbrT, ↓zbrF, zw199_0, zw199_2, zw199_3, zw199_4, zw199_5, zw199_6, zw199_7, zw199_8, zw199_10, zw199_11, zr_3, zr_7, zr_8, zr_10, zr_12, zr_13, zr_16, zr_21, zr_26, zr_51, zr_54, zr_61, zr_62, zr_68, zr_70, zr_73, zlg_0, zlg_s, zrc_1, zrc_s, zcat_n, zcat_i, zcat_l, zcat_r, zkd_131, zkd_137, zln_137, zrf_131_16, Int.cast_ofNat_Int, Int.reduceAdd, zbd, zw_id, zmu_same, zmu_c, zmu_i, false_and, and_false, true_and, and_true, true_or, or_true, false_or, or_false, Option.toList, List.nil_append, List.cons_append, zif0, zif1, zif01, zem1, zem2, Int.reduceEq, Int.reduceLT, Int.reduceLE, Int.reduceNeg, Int.reduceSub, Int.reduceMul, if_true, if_false, not_false_eq_true, not_true_eq_false, true_implies, false_implies, Classical.not_not, Nat.reduceAdd, Nat.reduceLeDiff, zq181, if_neg t2]
              refine gR199 hk n (pS1 T s D) (dS1 T s D) _ (by rw [es]; exact gPd_u p1 (by decide)) (fun z => ?_) (fun m' a1 a2 a3 => hQ m' a1 a2 (gFm4_tr k1 (gFm4_tr (gFm4_u (by omega)) a3)))
              rw [es] at z
              exact absurd z c2
          by_cases c3 : D 0 10 = 0
          · have e4' : m 137 4 = 0 := by rw [e4, c3]
            simp +contextual (disch := (first | omega | assumption | decide)) only [↓zbrT, ↓zbrF, zw199_0, zw199_2, zw199_3, zw199_5, zw199_7, zw199_8, zw199_10, zw199_11, zr_3, zr_7, zr_8, zr_10, zr_12, zr_13, zr_16, zr_21, zr_26, zr_51, zr_54, zr_61, zr_62, zr_68, zr_70, zr_73, zlg_0, zlg_s, zrc_1, zrc_s, zcat_n, zcat_i, zcat_l, zcat_r, zkd_131, zkd_137, zln_137, zrf_131_16, Int.cast_ofNat_Int, Int.reduceAdd, zbd, zw_id, zmu_same, zmu_c, zmu_i, false_and, and_false, true_and, and_true, true_or, or_true, false_or, or_false, Option.toList, List.nil_append, List.cons_append, zif0, zif1, zif01, zem1, zem2, Int.reduceEq, Int.reduceLT, Int.reduceLE, Int.reduceNeg, Int.reduceSub, Int.reduceMul, if_true, if_false, not_false_eq_true, not_true_eq_false, true_implies, false_implies, Classical.not_not, Nat.reduceAdd, Nat.reduceLeDiff, zq181, if_pos t1, c1, e4']
            exact gHeadm hk hp g.1 c3 go
          · have e4' : ¬ m 137 4 = 0 := by rw [e4]; exact c3
            simp +contextual (disch := (first | omega | assumption | decide)) only [↓zbrT, ↓zbrF, zw199_0, zw199_2, zw199_3, zw199_5, zw199_7, zw199_8, zw199_10, zw199_11, zr_3, zr_7, zr_8, zr_10, zr_12, zr_13, zr_16, zr_21, zr_26, zr_51, zr_54, zr_61, zr_62, zr_68, zr_70, zr_73, zlg_0, zlg_s, zrc_1, zrc_s, zcat_n, zcat_i, zcat_l, zcat_r, zkd_131, zkd_137, zln_137, zrf_131_16, Int.cast_ofNat_Int, Int.reduceAdd, zbd, zw_id, zmu_same, zmu_c, zmu_i, false_and, and_false, true_and, and_true, true_or, or_true, false_or, or_false, Option.toList, List.nil_append, List.cons_append, zif0, zif1, zif01, zem1, zem2, Int.reduceEq, Int.reduceLT, Int.reduceLE, Int.reduceNeg, Int.reduceSub, Int.reduceMul, if_true, if_false, not_false_eq_true, not_true_eq_false, true_implies, false_implies, Classical.not_not, Nat.reduceAdd, Nat.reduceLeDiff, zq181, if_pos t1, c1, e4']
            refine gK (gz197 hk hp c0 g.1 c3 b.1 (show 0 ≤ D 0 5 ∧ D 0 5 ≤ 8 by omega) (show 0 ≤ D 0 6 ∧ D 0 6 ≤ 6 by omega)) rfl rfl (Nat.le_of_ble_eq_true rfl) ?_
            rintro _ m1 ⟨rfl, p1, g1, k1⟩
            simp +contextual (disch := (first | omega | assumption | decide)) only [↓zbrT, ↓zbrF, zw199_0, zw199_2, zw199_3, zw199_5, zw199_7, zw199_8, zw199_10, zw199_11, zr_3, zr_7, zr_8, zr_10, zr_12, zr_13, zr_16, zr_21, zr_26, zr_51, zr_54, zr_61, zr_62, zr_68, zr_70, zr_73, zlg_0, zlg_s, zrc_1, zrc_s, zcat_n, zcat_i, zcat_l, zcat_r, zkd_131, zkd_137, zln_137, zrf_131_16, Int.cast_ofNat_Int, Int.reduceAdd, zbd, zw_id, zmu_same, zmu_c, zmu_i, false_and, and_false, true_and, and_true, true_or, or_true, false_or, or_false, Option.toList, List.nil_append, List.cons_append, zif0, zif1, zif01, zem1, zem2, Int.reduceEq, Int.reduceLT, Int.reduceLE, Int.reduceNeg, Int.reduceSub, Int.reduceMul, if_true, if_false, not_false_eq_true, not_true_eq_false, true_implies, false_implies, Classical.not_not, Nat.reduceAdd, Nat.reduceLeDiff]
            exact go m1 p1 g1 k1
    · have e : pRun T n s D = (s, D) := by
        cases n with
        | zero => rfl
        | succ n => unfold pRun; rw [if_neg (fun z => c0 z.1)]
      rw [e] at hQ
      have t1 : ¬ m 131 12 = 0 := by rw [f1]; exact c0
      simp +contextual (disch := (first | omega | assumption | decide)) only [↓zbrT, ↓zbrF, zw199_0, zw199_2, zw199_3, zw199_4, zw199_5, zw199_6, zw199_7, zw199_8, zw199_10, zw199_11, zr_3, zr_7, zr_8, zr_10, zr_12, zr_13, zr_16, zr_21, zr_26, zr_51, zr_54, zr_61, zr_62, zr_68, zr_70, zr_73, zlg_0, zlg_s, zrc_1, zrc_s, zcat_n, zcat_i, zcat_l, zcat_r, zkd_131, zkd_137, zln_137, zrf_131_16, Int.cast_ofNat_Int, Int.reduceAdd, zbd, zw_id, zmu_same, zmu_c, zmu_i, false_and, and_false, true_and, and_true, true_or, or_true, false_or, or_false, Option.toList, List.nil_append, List.cons_append, zif0, zif1, zif01, zem1, zem2, Int.reduceEq, Int.reduceLT, Int.reduceLE, Int.reduceNeg, Int.reduceSub, Int.reduceMul, if_true, if_false, not_false_eq_true, not_true_eq_false, true_implies, false_implies, Classical.not_not, Nat.reduceAdd, Nat.reduceLeDiff, zq181, if_neg t1]
      exact hQ m hp (fun z => absurd z c0) gFm4_refl
theorem gTz_m {T m : zMm} (h0 : m 131 6 = 0) (h1 : m 131 14 = (pR0 T).1.2.1) (h2 : m 131 15 = (pR0 T).1.2.2) : gTm (gTz T) m := by
  have e0 : gTz T 0 0 = 0 := by
    unfold gTz
    simp (disch := decide) only [zmu_i, zmu_same]
  have e1 : gTz T 0 1 = (pR0 T).1.2.1 := by
    unfold gTz
    simp (disch := decide) only [zmu_i, zmu_same]
  have e2 : gTz T 0 2 = (pR0 T).1.2.2 := by
    unfold gTz
    simp (disch := decide) only [zmu_i, zmu_same]
  exact ⟨by rw [e0]; exact h0, by rw [e1]; exact h1, by rw [e2]; exact h2, fun i a b => by rw [e0] at b; omega⟩
def gFov (m m' : zMm) : Prop := ∀ c i, ¬ (c = 131 ∧ (i = 6 ∨ i = 14 ∨ i = 15)) → m' c i = m c i
theorem gz190 {d : Nat} {m : zMm}  : zC (d + 1) 190 [.inr (.inr 131)] m (fun r' m' => r' = none ∧ (m' 131 6 = 0 ∧ m' 131 14 = m 131 12 ∧ m' 131 15 = if m 131 12 = 0 then -1 else m 131 13) ∧ gFov m m') := by
  refine ze190 ?_
  by_cases c : m 131 12 = 0
  · rw [if_pos c]
    simp +contextual (disch := (first | omega | assumption | decide)) only [↓zbrT, ↓zbrF, zw190_0, zw190_1, zw190_2, zw190_3, zr_3, zr_7, zr_10, zr_13, zr_54, zr_62, zr_72, zr_73, zlg_0, zlg_s, zkd_131, Int.cast_ofNat_Int, Int.reduceAdd, zmu_same, zmu_c, zmu_i, false_and, and_false, true_and, and_true, true_or, or_true, false_or, or_false, Option.toList, List.nil_append, List.cons_append, zif0, zif1, zif01, zem1, zem2, Int.reduceEq, Int.reduceLT, Int.reduceLE, Int.reduceNeg, Int.reduceSub, Int.reduceMul, if_true, if_false, not_false_eq_true, not_true_eq_false, true_implies, false_implies, Classical.not_not, Nat.reduceAdd, Nat.reduceLeDiff, c]
    intro c i hc
    rw [zmu_o (by omega), zmu_o (by omega), zmu_o (by omega)]
  · rw [if_neg c]
    simp +contextual (disch := (first | omega | assumption | decide)) only [↓zbrT, ↓zbrF, zw190_0, zw190_1, zw190_2, zw190_3, zr_3, zr_7, zr_10, zr_13, zr_54, zr_62, zr_72, zr_73, zlg_0, zlg_s, zkd_131, Int.cast_ofNat_Int, Int.reduceAdd, zmu_same, zmu_c, zmu_i, false_and, and_false, true_and, and_true, true_or, or_true, false_or, or_false, Option.toList, List.nil_append, List.cons_append, zif0, zif1, zif01, zem1, zem2, Int.reduceEq, Int.reduceLT, Int.reduceLE, Int.reduceNeg, Int.reduceSub, Int.reduceMul, if_true, if_false, not_false_eq_true, not_true_eq_false, true_implies, false_implies, Classical.not_not, Nat.reduceAdd, Nat.reduceLeDiff, c]
    intro c i hc
    rw [zmu_o (by omega), zmu_o (by omega), zmu_o (by omega)]
def gZs (m m' : zMm) : Prop := ∀ c i, (c < 131 ∨ c = 132 ∨ c = 133 ∨ c = 134 ∨ c = 136 ∨ c = 142 ∨ (c = 137 ∧ 1 ≤ i ∧ i < 4) ∨ (c = 138 ∧ 10 ≤ i ∧ i < 40) ∨ (c = 139 ∧ 32 ≤ i ∧ i < 128) ∨ (c = 140 ∧ 30 ≤ i ∧ i < 120) ∨ (c = 141 ∧ 40 ≤ i)) → m' c i = m c i
theorem gz199 {d : Nat} {m : zMm} {V V1 T : zMm} (hQ : gQ V m) (hk : gTo1 T) (ht : gTm T m) (h1 : gV1 V ((pR0 T).1.2.1 = 0) (pR0 T).2 V1) : zC (d + 7) 199 [.inr (.inr 131)] m (fun r' m' => r' = some (.inl (sp71 T)) ∧ gQ V1 m' ∧ gTm (gTz T) m' ∧ gZs m m') := by
  refine ze199 ?_
  have hb := hk.1
  have ht' : gTn T (zmu m 131 0 0) := ⟨by rw [zmu_i (by decide)]; exact ht.1, fun i a b => by rw [zmu_c (by decide)]; exact ht.2.2.2 i a b⟩
  simp +contextual (disch := (first | omega | assumption | decide)) only [↓zbrT, ↓zbrF, zw199_0, zw199_2, zw199_3, zw199_4, zw199_5, zw199_6, zw199_7, zw199_8, zw199_9, zw199_10, zw199_11, zr_3, zr_7, zr_8, zr_10, zr_12, zr_13, zr_16, zr_21, zr_26, zr_51, zr_54, zr_61, zr_62, zr_68, zr_70, zr_73, zlg_0, zlg_s, zrc_1, zrc_s, zcat_n, zcat_i, zcat_l, zcat_r, zkd_131, zkd_137, zln_137, zrf_131_16, Int.cast_ofNat_Int, Int.reduceAdd, zbd, zw_id, zmu_same, zmu_c, zmu_i, false_and, and_false, true_and, and_true, true_or, or_true, false_or, or_false, Option.toList, List.nil_append, List.cons_append, zif0, zif1, zif01, zem1, zem2, Int.reduceEq, Int.reduceLT, Int.reduceLE, Int.reduceNeg, Int.reduceSub, Int.reduceMul, if_true, if_false, not_false_eq_true, not_true_eq_false, true_implies, false_implies, Classical.not_not, Nat.reduceAdd, Nat.reduceLeDiff]
  refine gK (gz198) rfl rfl (Nat.le_of_ble_eq_true rfl) ?_
  rintro _ m1 ⟨rfl, g1, k1⟩
  have t1 : gTn T m1 := gTn_of ht' (k1 131 6 (by omega)) (fun i => k1 136 i (by omega))
  simp +contextual (disch := (first | omega | assumption | decide)) only [↓zbrT, ↓zbrF, zw199_0, zw199_2, zw199_3, zw199_4, zw199_5, zw199_6, zw199_7, zw199_8, zw199_9, zw199_10, zw199_11, zr_3, zr_7, zr_8, zr_10, zr_12, zr_13, zr_16, zr_21, zr_26, zr_51, zr_54, zr_61, zr_62, zr_68, zr_70, zr_73, zlg_0, zlg_s, zrc_1, zrc_s, zcat_n, zcat_i, zcat_l, zcat_r, zkd_131, zkd_137, zln_137, zrf_131_16, Int.cast_ofNat_Int, Int.reduceAdd, zbd, zw_id, zmu_same, zmu_c, zmu_i, false_and, and_false, true_and, and_true, true_or, or_true, false_or, or_false, Option.toList, List.nil_append, List.cons_append, zif0, zif1, zif01, zem1, zem2, Int.reduceEq, Int.reduceLT, Int.reduceLE, Int.reduceNeg, Int.reduceSub, Int.reduceMul, if_true, if_false, not_false_eq_true, not_true_eq_false, true_implies, false_implies, Classical.not_not, Nat.reduceAdd, Nat.reduceLeDiff]
  refine gK (gz189 hk t1) rfl rfl (Nat.le_of_ble_eq_true rfl) ?_
  rintro _ m2 ⟨rfl, p2, k2⟩
  simp +contextual (disch := (first | omega | assumption | decide)) only [↓zbrT, ↓zbrF, zw199_0, zw199_2, zw199_3, zw199_4, zw199_5, zw199_6, zw199_7, zw199_8, zw199_9, zw199_10, zw199_11, zr_3, zr_7, zr_8, zr_10, zr_12, zr_13, zr_16, zr_21, zr_26, zr_51, zr_54, zr_61, zr_62, zr_68, zr_70, zr_73, zlg_0, zlg_s, zrc_1, zrc_s, zcat_n, zcat_i, zcat_l, zcat_r, zkd_131, zkd_137, zln_137, zrf_131_16, Int.cast_ofNat_Int, Int.reduceAdd, zbd, zw_id, zmu_same, zmu_c, zmu_i, false_and, and_false, true_and, and_true, true_or, or_true, false_or, or_false, Option.toList, List.nil_append, List.cons_append, zif0, zif1, zif01, zem1, zem2, Int.reduceEq, Int.reduceLT, Int.reduceLE, Int.reduceNeg, Int.reduceSub, Int.reduceMul, if_true, if_false, not_false_eq_true, not_true_eq_false, true_implies, false_implies, Classical.not_not, Nat.reduceAdd, Nat.reduceLeDiff]
  refine gR199 hk 901 (0, 0, -1) gD0 m2 p2 (fun _ => ⟨gS4_n g1 k2, gD0_k, Int.le_refl _, by show T 0 0 - 0 < ((901 : Nat) : Int); omega⟩) (fun m3 p3 g3 k3 => ?_)
  replace p3 : gPd T (pR0 T).1 m3 := p3
  replace g3 : (pR0 T).1.2.1 = 0 → gS4 (pR0 T).2 m3 := g3
  have fr : ∀ c i, ¬ (c = 131 ∧ (i = 0 ∨ (7 ≤ i ∧ i ≤ 13))) ∧ ¬ (c = 137 ∧ i = 4) ∧ ¬ (c = 138 ∧ 40 ≤ i ∧ i < 50) ∧ ¬ (c = 139 ∧ 128 ≤ i ∧ i < 160) ∧ ¬ (c = 140 ∧ 120 ≤ i ∧ i < 150) → m3 c i = m c i := fun c i hc => by
    rw [k3 c i (by omega), k2 c i (by omega), k1 c i (by omega), zmu_o (by omega)]
  have b3 := p3.2.2.1
  unfold sp71
  simp +contextual (disch := (first | omega | assumption | decide)) only [↓zbrT, ↓zbrF, zw199_0, zw199_2, zw199_3, zw199_4, zw199_5, zw199_6, zw199_7, zw199_8, zw199_9, zw199_10, zw199_11, zr_3, zr_7, zr_8, zr_10, zr_12, zr_13, zr_16, zr_21, zr_26, zr_51, zr_54, zr_61, zr_62, zr_68, zr_70, zr_73, zlg_0, zlg_s, zrc_1, zrc_s, zcat_n, zcat_i, zcat_l, zcat_r, zkd_131, zkd_137, zln_137, zrf_131_16, Int.cast_ofNat_Int, Int.reduceAdd, zbd, zw_id, zmu_same, zmu_c, zmu_i, false_and, and_false, true_and, and_true, true_or, or_true, false_or, or_false, Option.toList, List.nil_append, List.cons_append, zif0, zif1, zif01, zem1, zem2, Int.reduceEq, Int.reduceLT, Int.reduceLE, Int.reduceNeg, Int.reduceSub, Int.reduceMul, if_true, if_false, not_false_eq_true, not_true_eq_false, true_implies, false_implies, Classical.not_not, Nat.reduceAdd, Nat.reduceLeDiff]
  refine gK (gz190) rfl rfl (Nat.le_of_ble_eq_true rfl) ?_
  rintro _ m4 ⟨rfl, ⟨o6, o14, o15⟩, k4⟩
  have o12 : m4 131 12 = (pR0 T).1.2.1 := by rw [k4 131 12 (by omega)]; exact b3
  have tz : gTm (gTz T) m4 := gTz_m o6 (by rw [o14, b3]) (by
    rw [o15, b3]
    by_cases c : (pR0 T).1.2.1 = 0
    · rw [if_pos c, pR0_p c]
    · rw [if_neg c]; exact p3.2.2.2.1)
  by_cases c : (pR0 T).1.2.1 = 0
  · rw [if_pos c, h1.1 c]
    rw [c] at o12
    have dk := pR0_ok hk c
    have s4 : gSec 4 (pR0 T).2 m4 := gSec_of (gS4_sec (g3 c) dk.2.1) dk.1 (fun c i hc => k4 c i (by omega))
    have s0 : gSec 0 (pR0 T).2 (gcsm m4 4 0) := gSec_cp s4 dk.1
    have hAc : gAc (pR0 T).2 := fun k z => by rw [dk.2.1] at z; omega
    have e10 : gcsm m4 4 0 137 0 = (pR0 T).2 0 10 := s0.1.2.2.2.2.2.2.2.2.2.2
    simp +contextual (disch := (first | omega | assumption | decide)) only [↓zbrT, ↓zbrF, zw199_0, zw199_2, zw199_3, zw199_4, zw199_5, zw199_6, zw199_7, zw199_8, zw199_9, zw199_10, zw199_11, zr_3, zr_7, zr_8, zr_10, zr_12, zr_13, zr_16, zr_21, zr_26, zr_51, zr_54, zr_61, zr_62, zr_68, zr_70, zr_73, zlg_0, zlg_s, zrc_1, zrc_s, zcat_n, zcat_i, zcat_l, zcat_r, zkd_131, zkd_137, zln_137, zrf_131_16, Int.cast_ofNat_Int, Int.reduceAdd, zbd, zw_id, zmu_same, zmu_c, zmu_i, false_and, and_false, true_and, and_true, true_or, or_true, false_or, or_false, Option.toList, List.nil_append, List.cons_append, zif0, zif1, zif01, zem1, zem2, Int.reduceEq, Int.reduceLT, Int.reduceLE, Int.reduceNeg, Int.reduceSub, Int.reduceMul, if_true, if_false, not_false_eq_true, not_true_eq_false, true_implies, false_implies, Classical.not_not, Nat.reduceAdd, Nat.reduceLeDiff, o12, zq201 (a := 4) (b := 0) (by decide) (by decide) (by decide), e10]
    have s1 := gSec_0.mp s0
    refine ⟨⟨dk.1, hAc, s1.1, s1.2⟩, gTm_of tz (fun c i hc => gcs_o (by omega)), fun c i hc => ?_⟩
    rw [gcs_o (by omega), k4 c i (by omega), fr c i (by omega)]
  · rw [if_neg c, h1.2 c]
    rw [← o12] at c
    simp +contextual (disch := (first | omega | assumption | decide)) only [↓zbrT, ↓zbrF, zw199_0, zw199_2, zw199_3, zw199_4, zw199_5, zw199_6, zw199_7, zw199_8, zw199_9, zw199_10, zw199_11, zr_3, zr_7, zr_8, zr_10, zr_12, zr_13, zr_16, zr_21, zr_26, zr_51, zr_54, zr_61, zr_62, zr_68, zr_70, zr_73, zlg_0, zlg_s, zrc_1, zrc_s, zcat_n, zcat_i, zcat_l, zcat_r, zkd_131, zkd_137, zln_137, zrf_131_16, Int.cast_ofNat_Int, Int.reduceAdd, zbd, zw_id, zmu_same, zmu_c, zmu_i, false_and, and_false, true_and, and_true, true_or, or_true, false_or, or_false, Option.toList, List.nil_append, List.cons_append, zif0, zif1, zif01, zem1, zem2, Int.reduceEq, Int.reduceLT, Int.reduceLE, Int.reduceNeg, Int.reduceSub, Int.reduceMul, if_true, if_false, not_false_eq_true, not_true_eq_false, true_implies, false_implies, Classical.not_not, Nat.reduceAdd, Nat.reduceLeDiff, c]
    have s0 : gSec 0 V m := gSec_0.mpr ⟨hQ.2.2.1, hQ.2.2.2⟩
    have s1 := gSec_0.mp (gSec_of s0 hQ.1 (m' := m4) (fun c i hc => by rw [k4 c i (by omega), fr c i (by omega)]))
    exact ⟨⟨hQ.1, hQ.2.1, s1.1, s1.2⟩, tz, fun c i hc => by rw [k4 c i (by omega), fr c i (by omega)]⟩
