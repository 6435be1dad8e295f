/-! ===== image, back ===== -/
theorem zq34 {d : Nat} {m : zMm} {S O : Int} {rest : List zV} {k : List zV → zMm → Prop} (hS : gS S) (hO : gS O) (hne : S ≠ O) (h1 : 0 ≤ m O 8 ∧ m O 8 ≤ 8) (h2 : 0 ≤ m O 9 ∧ m O 9 ≤ 6) : zcl (zEx (d + 2)) 34 2 (.inr (.inr O) :: .inr (.inr S) :: rest) m k = (zcat rest ≤ 8 ∧ k rest (gcps m S O (m O 8) (m O 9))) := zcl_eq (as := [.inr (.inr S), .inr (.inr O)]) (r := none) (ga34 hS hO hne h1 h2) rfl rfl
def gIc (I : Int) : Prop := I = 66 ∨ I = 85 ∨ I = 104
theorem gIc_0 : gIc 66 := Or.inl rfl
theorem gIc_1 : gIc 85 := Or.inr (Or.inl rfl)
theorem gIc_2 : gIc 104 := Or.inr (Or.inr rfl)
theorem gS_21 : gS 21 := Or.inr (Or.inl rfl)
theorem gS_i {I : Int} (h : gIc I) : gS (I + 1) := by unfold gS gIc at *; omega
/-- the memory behind keep -/
def gkp (m : zMm) (I n : Int) : zMm := zmu (gcpy (zmu (gcps m (I + 1) 21 (m 21 8) (m 21 9)) I 2 n) 42 0 (I + 18) 0 40) I 3 1
theorem gMin40 : min (40 : Int) 40 = 40 := by decide
theorem ga26 {d : Nat} {m : zMm} {I n : Int} (h : gIc I) (h1 : 0 ≤ m 21 8 ∧ m 21 8 ≤ 8) (h2 : 0 ≤ m 21 9 ∧ m 21 9 ≤ 6) : zEx (d + 3) 26 [.inr (.inr I), .inr (.inr 21), .inr (.inr 42), .inl n] m none (gkp m I n) := by
  refine zC_eq.mp (ze26 ?_)
  rcases h with rfl | rfl | rfl
  · simp +contextual (disch := (first | omega | assumption | decide)) only [zw26_0, zr_1, zr_3, zr_7, zr_12, zr_13, zr_15, zr_25, zr_68, zr_69, zr_72, zlg_0, zlg_s, zrc_1, zrc_s, zcat_n, zcat_i, zcat_l, zcat_r, zkd_103, zkd_104, zkd_105, zkd_122, zkd_21, zkd_3, zkd_66, zkd_67, zkd_84, zkd_85, zkd_86, zkd_a64, zkd_a64_0, zkd_a64_1, zln_103, zln_122, zln_84, zln_a64_1, zrf_104_0, zrf_104_1, zrf_66_0, zrf_66_1, zrf_85_0, zrf_85_1, zrf_a64_0, zrf_a64_1, Int.cast_ofNat_Int, Int.reduceAdd, zmu_same, zmu_c, zmu_i, false_and, and_false, true_and, and_true, true_or, or_true, false_or, or_false, Option.toList, List.nil_append, List.cons_append, zif0, zif1, zif01, zem1, zem2, Int.reduceEq, Int.reduceLT, Int.reduceLE, Int.reduceNeg, Int.reduceSub, Int.reduceMul, if_true, if_false, not_false_eq_true, not_true_eq_false, true_implies, false_implies, Classical.not_not, Nat.reduceAdd, Nat.reduceLeDiff, zq34 (S := 67) (gS_i (I := 66) gIc_0) gS_21 (by decide) h1 h2, zq2, zkd_42, zln_42, gMin40, zq1000 (a := 42) (c := 84) (i := 0) (k0 := 0) (n := 40) rfl (Or.inl rfl) (by decide)]
    rfl
  · simp +contextual (disch := (first | omega | assumption | decide)) only [zw26_0, zr_1, zr_3, zr_7, zr_12, zr_13, zr_15, zr_25, zr_68, zr_69, zr_72, zlg_0, zlg_s, zrc_1, zrc_s, zcat_n, zcat_i, zcat_l, zcat_r, zkd_103, zkd_104, zkd_105, zkd_122, zkd_21, zkd_3, zkd_66, zkd_67, zkd_84, zkd_85, zkd_86, zkd_a64, zkd_a64_0, zkd_a64_1, zln_103, zln_122, zln_84, zln_a64_1, zrf_104_0, zrf_104_1, zrf_66_0, zrf_66_1, zrf_85_0, zrf_85_1, zrf_a64_0, zrf_a64_1, Int.cast_ofNat_Int, Int.reduceAdd, zmu_same, zmu_c, zmu_i, false_and, and_false, true_and, and_true, true_or, or_true, false_or, or_false, Option.toList, List.nil_append, List.cons_append, zif0, zif1, zif01, zem1, zem2, Int.reduceEq, Int.reduceLT, Int.reduceLE, Int.reduceNeg, Int.reduceSub, Int.reduceMul, if_true, if_false, not_false_eq_true, not_true_eq_false, true_implies, false_implies, Classical.not_not, Nat.reduceAdd, Nat.reduceLeDiff, zq34 (S := 86) (gS_i (I := 85) gIc_1) gS_21 (by decide) h1 h2, zq2, zkd_42, zln_42, gMin40, zq1000 (a := 42) (c := 103) (i := 0) (k0 := 0) (n := 40) rfl (Or.inl rfl) (by decide)]
    rfl
  · simp +contextual (disch := (first | omega | assumption | decide)) only [zw26_0, zr_1, zr_3, zr_7, zr_12, zr_13, zr_15, zr_25, zr_68, zr_69, zr_72, zlg_0, zlg_s, zrc_1, zrc_s, zcat_n, zcat_i, zcat_l, zcat_r, zkd_103, zkd_104, zkd_105, zkd_122, zkd_21, zkd_3, zkd_66, zkd_67, zkd_84, zkd_85, zkd_86, zkd_a64, zkd_a64_0, zkd_a64_1, zln_103, zln_122, zln_84, zln_a64_1, zrf_104_0, zrf_104_1, zrf_66_0, zrf_66_1, zrf_85_0, zrf_85_1, zrf_a64_0, zrf_a64_1, Int.cast_ofNat_Int, Int.reduceAdd, zmu_same, zmu_c, zmu_i, false_and, and_false, true_and, and_true, true_or, or_true, false_or, or_false, Option.toList, List.nil_append, List.cons_append, zif0, zif1, zif01, zem1, zem2, Int.reduceEq, Int.reduceLT, Int.reduceLE, Int.reduceNeg, Int.reduceSub, Int.reduceMul, if_true, if_false, not_false_eq_true, not_true_eq_false, true_implies, false_implies, Classical.not_not, Nat.reduceAdd, Nat.reduceLeDiff, zq34 (S := 105) (gS_i (I := 104) gIc_2) gS_21 (by decide) h1 h2, zq2, zkd_42, zln_42, gMin40, zq1000 (a := 42) (c := 122) (i := 0) (k0 := 0) (n := 40) rfl (Or.inl rfl) (by decide)]
    rfl
theorem zq26 {d : Nat} {m : zMm} {I n : Int} {rest : List zV} {k : List zV → zMm → Prop} (h : gIc I) (h1 : 0 ≤ m 21 8 ∧ m 21 8 ≤ 8) (h2 : 0 ≤ m 21 9 ∧ m 21 9 ≤ 6) : zcl (zEx (d + 3)) 26 4 (.inl n :: .inr (.inr 42) :: .inr (.inr 21) :: .inr (.inr I) :: rest) m k = (zcat rest ≤ 8 ∧ k rest (gkp m I n)) := zcl_eq (as := [.inr (.inr I), .inr (.inr 21), .inr (.inr 42), .inl n]) (r := none) (ga26 h h1 h2) rfl rfl
/-- a shire of the class holds V -/
def gCS (S : Int) (V m : zMm) : Prop :=
  (m S 0 = V 0 10 ∧ m S 1 = V 0 0 ∧ m S 2 = V 0 1 ∧ m S 3 = V 0 2 ∧ m S 4 = V 0 3 ∧ m S 5 = V 0 4 ∧ m S 6 = V 0 7 ∧ m S 7 = V 0 8 ∧ m S 8 = V 0 5 ∧ m S 9 = V 0 6) ∧
  (∀ r, 0 ≤ r → r < V 0 5 → m (S + 3 + r) 0 = vA V r ∧ m (S + 3 + r) 1 = vB V r ∧ m (S + 3 + r) 2 = vM V r ∧ m (S + 3 + r) 3 = vT V r) ∧
  (∀ f, 0 ≤ f → f < V 0 6 → m (S + 11 + f) 0 = vF V f 0 ∧ m (S + 11 + f) 1 = vF V f 1 ∧ m (S + 11 + f) 2 = vF V f 2 ∧ m (S + 11 + f) 3 = vF V f 3 ∧ m (S + 11 + f) 4 = vF V f 4)
theorem gCS_21 {V m : zMm} : gCS 21 V m ↔ gCV V m := by
  have e1 : ∀ r : Int, 21 + 3 + r = 24 + r := fun r => by omega
  have e2 : ∀ r : Int, 21 + 11 + r = 32 + r := fun r => by omega
  unfold gCS gCV
  simp only [e1, e2]
theorem gCS_of {S : Int} {V m m' : zMm} (h : gCS S V m) (hk : gOk V) (h1 : ∀ c i, S ≤ c → c ≤ S + 16 → m' c i = m c i) : gCS S V m' := by
  have b := hk.1
  refine ⟨?_, fun r h2 h3 => ?_, fun f h2 h3 => ?_⟩
  · simp only [h1 S _ (by omega) (by omega)]; exact h.1
  · simp only [h1 (S + 3 + r) _ (by omega) (by omega)]; exact h.2.1 r h2 h3
  · simp only [h1 (S + 11 + f) _ (by omega) (by omega)]; exact h.2.2 f h2 h3
/-- copied from O to S -/
theorem gCS_cp {S O : Int} {V m : zMm} (h : gCS O V m) (hk : gOk V) (hd : S + 17 ≤ O ∨ O + 17 ≤ S) : gCS S V (gcps m S O (m O 8) (m O 9)) := by
  have b := hk.1
  have e8 : m O 8 = V 0 5 := h.1.2.2.2.2.2.2.2.2.1
  have e9 : m O 9 = V 0 6 := h.1.2.2.2.2.2.2.2.2.2
  rw [e8, e9]
  have r0 : ∀ i, 0 ≤ i → i < 10 → gcps m S O (V 0 5) (V 0 6) S i = m O i := fun i a c => by
    unfold gcps
    rw [if_pos ⟨rfl, a, c⟩]
  have r1 : ∀ r i, 0 ≤ r → r < V 0 5 → 0 ≤ i → i < 4 → gcps m S O (V 0 5) (V 0 6) (S + 3 + r) i = m (O + 3 + r) i := fun r i a c e f => by
    unfold gcps
    rw [if_neg (by omega), if_pos (by omega), show S + 3 + r - S + O = O + 3 + r by omega]
  have r2 : ∀ r i, 0 ≤ r → r < V 0 6 → 0 ≤ i → i < 5 → gcps m S O (V 0 5) (V 0 6) (S + 11 + r) i = m (O + 11 + r) i := fun r i a c e f => by
    unfold gcps
    rw [if_neg (by omega), if_neg (by omega), if_pos (by omega), show S + 11 + r - S + O = O + 11 + r by omega]
  refine ⟨?_, fun r a c => ?_, fun f a c => ?_⟩
  · rw [r0 0 (by decide) (by decide), r0 1 (by decide) (by decide), r0 2 (by decide) (by decide), r0 3 (by decide) (by decide), r0 4 (by decide) (by decide), r0 5 (by decide) (by decide), r0 6 (by decide) (by decide), r0 7 (by decide) (by decide), r0 8 (by decide) (by decide), r0 9 (by decide) (by decide)]; exact h.1
  · rw [r1 r 0 a c (by decide) (by decide), r1 r 1 a c (by decide) (by decide), r1 r 2 a c (by decide) (by decide), r1 r 3 a c (by decide) (by decide)]; exact h.2.1 r a c
  · rw [r2 f 0 a c (by decide) (by decide), r2 f 1 a c (by decide) (by decide), r2 f 2 a c (by decide) (by decide), r2 f 3 a c (by decide) (by decide), r2 f 4 a c (by decide) (by decide)]; exact h.2.2 f a c
theorem gcps_o {m : zMm} {S O a b c i : Int} (ha : a ≤ 8) (hb : b ≤ 6) (h : c < S ∨ S + 16 < c) : gcps m S O a b c i = m c i := by
  unfold gcps
  rw [if_neg (by omega), if_neg (by omega), if_neg (by omega)]
/-- an image of the class holds V -/
def gIm (V : zMm) (I : Int) (m : zMm) : Prop := gOk V ∧ gAc V ∧ gCS (I + 1) V m ∧ m I 2 = V 0 9 ∧ ∀ j, 0 ≤ j → j < V 0 9 → m (I + 18) j = V 3 j
theorem gIm_of {V m m' : zMm} {I : Int} (h : gIm V I m) (h1 : ∀ c i, I ≤ c → c ≤ I + 18 → m' c i = m c i) : gIm V I m' := ⟨h.1, h.2.1, gCS_of h.2.2.1 h.1 (fun c i a b => h1 c i (by omega) (by omega)), by rw [h1 I 2 (by omega) (by omega)]; exact h.2.2.2.1, fun j a b => by rw [h1 (I + 18) j (by omega) (by omega)]; exact h.2.2.2.2 j a b⟩
theorem gkp_im {V m : zMm} {I : Int} (hI : gI V m) (h : gIc I) : gIm V I (gkp m I (V 0 9)) ∧ gkp m I (V 0 9) I 3 = 1 ∧ ∀ c i, c < I ∨ I + 18 < c → gkp m I (V 0 9) c i = m c i := by
  have hb := hI.1.1.1
  have e8 := gA_8 hI.1.2.1
  have e9 := gA_9 hI.1.2.1
  have hc := gCS_cp (S := I + 1) (gCS_21.mpr hI.1.2.1) hI.1.1 (by unfold gIc at h; omega)
  unfold gIc at h
  refine ⟨⟨hI.1.1, hI.2.1, gCS_of hc hI.1.1 (fun c i a b => ?_), ?_, fun j a b => ?_⟩, ?_, fun c i hc => ?_⟩
  · unfold gkp gcpy
    rw [zmu_c (by omega), if_neg (by omega), zmu_c (by omega)]
  · unfold gkp gcpy
    rw [zmu_i (by decide), if_neg (by omega), zmu_same]
  · unfold gkp gcpy
    rw [zmu_c (by omega), if_pos (by omega), zmu_c (by omega), gcps_o (by omega) (by omega) (by omega), show 0 + (j - 0) = j by omega]
    exact hI.2.2.1.2 j a b
  · unfold gkp
    rw [zmu_same]
  · unfold gkp gcpy
    rw [zmu_c (by omega), if_neg (by omega), zmu_c (by omega), gcps_o (by omega) (by omega) (by omega)]
def sp165 (k : Int) : Int := if 0 ≤ k ∧ k ≤ 2 then 0 else -2
theorem gz165 {d : Nat} {m : zMm} {k : Int} {V : zMm} (hI : gI V m) : zC (d + 4) 165 [.inr (.inr 0), .inl k] m (fun r' m' => r' = some (.inl (sp165 k)) ∧ (0 ≤ k ∧ k ≤ 2 → gIm V (66 + 19 * k) m' ∧ m' (66 + 19 * k) 3 = 1) ∧ ∀ c i, ¬ (0 ≤ k ∧ k ≤ 2) ∨ c < 66 + 19 * k ∨ 84 + 19 * k < c → m' c i = m c i) := by
  refine ze165 ?_
  have hb := hI.1.1.1
  have e8 := gA_8 hI.1.2.1
  have e9 := gA_9 hI.1.2.1
  have b8 : 0 ≤ m 21 8 ∧ m 21 8 ≤ 8 := by omega
  have b9 : 0 ≤ m 21 9 ∧ m 21 9 ≤ 6 := by omega
  unfold sp165
  by_cases c1 : 0 ≤ k ∧ k ≤ 2
  · rw [if_pos c1]
    have h3 : k = 0 ∨ k = 1 ∨ k = 2 := by omega
    rcases h3 with rfl | rfl | rfl
    · have h := gkp_im hI (I := 66) gIc_0
      simp +contextual (disch := (first | omega | assumption | decide)) only [↓zbrT, ↓zbrF, zw165_0, zw165_1, zw165_2, zr_1, zr_3, zr_7, zr_10, zr_12, zr_20, zr_62, zr_68, zr_69, zr_70, zlg_0, zlg_s, zrc_1, zrc_s, zcat_n, zcat_i, zcat_l, zcat_r, zkd_0, zkd_104, zkd_21, zkd_42, zkd_64, zkd_66, zkd_85, zkd_a64, zln_42, zln_64, zrf_0_11, zrf_0_3, zrf_0_4, zrf_a64, Int.cast_ofNat_Int, Int.reduceAdd, zbd, false_and, and_false, true_and, and_true, true_or, or_true, false_or, or_false, Option.toList, List.nil_append, List.cons_append, zif0, zif1, zif01, zem1, zem2, Int.reduceEq, Int.reduceLT, Int.reduceLE, Int.reduceNeg, Int.reduceSub, Int.reduceMul, if_true, if_false, not_false_eq_true, not_true_eq_false, true_implies, false_implies, Classical.not_not, Nat.reduceAdd, Nat.reduceLeDiff, zq80, if_pos c1, gA_0 hI.1.2.1, gA_1 hI.1.2.1, gA_2 hI.1.2.1, gA_3 hI.1.2.1, gA_4 hI.1.2.1, gA_5 hI.1.2.1, gA_6 hI.1.2.1, gA_7 hI.1.2.1, gA_8 hI.1.2.1, gA_9 hI.1.2.1, gA_r0 hI.1.2.1, gA_r1 hI.1.2.1, gA_r2 hI.1.2.1, gA_r3 hI.1.2.1, gA_f0 hI.1.2.1, gA_f1 hI.1.2.1, gA_f2 hI.1.2.1, gA_f3 hI.1.2.1, gA_f4 hI.1.2.1, gA_d hI.1, gI_s0 hI, gI_s1 hI, gI_s2 hI, gI_s3 hI, gI_s4 hI, gI_s5 hI, gI_n hI, zq26 (I := 66) gIc_0 b8 b9]
      exact ⟨⟨h.1, h.2.1⟩, h.2.2⟩
    · have h := gkp_im hI (I := 85) gIc_1
      simp +contextual (disch := (first | omega | assumption | decide)) only [↓zbrT, ↓zbrF, zw165_0, zw165_1, zw165_2, zr_1, zr_3, zr_7, zr_10, zr_12, zr_20, zr_62, zr_68, zr_69, zr_70, zlg_0, zlg_s, zrc_1, zrc_s, zcat_n, zcat_i, zcat_l, zcat_r, zkd_0, zkd_104, zkd_21, zkd_42, zkd_64, zkd_66, zkd_85, zkd_a64, zln_42, zln_64, zrf_0_11, zrf_0_3, zrf_0_4, zrf_a64, Int.cast_ofNat_Int, Int.reduceAdd, zbd, false_and, and_false, true_and, and_true, true_or, or_true, false_or, or_false, Option.toList, List.nil_append, List.cons_append, zif0, zif1, zif01, zem1, zem2, Int.reduceEq, Int.reduceLT, Int.reduceLE, Int.reduceNeg, Int.reduceSub, Int.reduceMul, if_true, if_false, not_false_eq_true, not_true_eq_false, true_implies, false_implies, Classical.not_not, Nat.reduceAdd, Nat.reduceLeDiff, zq80, if_pos c1, gA_0 hI.1.2.1, gA_1 hI.1.2.1, gA_2 hI.1.2.1, gA_3 hI.1.2.1, gA_4 hI.1.2.1, gA_5 hI.1.2.1, gA_6 hI.1.2.1, gA_7 hI.1.2.1, gA_8 hI.1.2.1, gA_9 hI.1.2.1, gA_r0 hI.1.2.1, gA_r1 hI.1.2.1, gA_r2 hI.1.2.1, gA_r3 hI.1.2.1, gA_f0 hI.1.2.1, gA_f1 hI.1.2.1, gA_f2 hI.1.2.1, gA_f3 hI.1.2.1, gA_f4 hI.1.2.1, gA_d hI.1, gI_s0 hI, gI_s1 hI, gI_s2 hI, gI_s3 hI, gI_s4 hI, gI_s5 hI, gI_n hI, zq26 (I := 85) gIc_1 b8 b9]
      exact ⟨⟨h.1, h.2.1⟩, h.2.2⟩
    · have h := gkp_im hI (I := 104) gIc_2
      simp +contextual (disch := (first | omega | assumption | decide)) only [↓zbrT, ↓zbrF, zw165_0, zw165_1, zw165_2, zr_1, zr_3, zr_7, zr_10, zr_12, zr_20, zr_62, zr_68, zr_69, zr_70, zlg_0, zlg_s, zrc_1, zrc_s, zcat_n, zcat_i, zcat_l, zcat_r, zkd_0, zkd_104, zkd_21, zkd_42, zkd_64, zkd_66, zkd_85, zkd_a64, zln_42, zln_64, zrf_0_11, zrf_0_3, zrf_0_4, zrf_a64, Int.cast_ofNat_Int, Int.reduceAdd, zbd, false_and, and_false, true_and, and_true, true_or, or_true, false_or, or_false, Option.toList, List.nil_append, List.cons_append, zif0, zif1, zif01, zem1, zem2, Int.reduceEq, Int.reduceLT, Int.reduceLE, Int.reduceNeg, Int.reduceSub, Int.reduceMul, if_true, if_false, not_false_eq_true, not_true_eq_false, true_implies, false_implies, Classical.not_not, Nat.reduceAdd, Nat.reduceLeDiff, zq80, if_pos c1, gA_0 hI.1.2.1, gA_1 hI.1.2.1, gA_2 hI.1.2.1, gA_3 hI.1.2.1, gA_4 hI.1.2.1, gA_5 hI.1.2.1, gA_6 hI.1.2.1, gA_7 hI.1.2.1, gA_8 hI.1.2.1, gA_9 hI.1.2.1, gA_r0 hI.1.2.1, gA_r1 hI.1.2.1, gA_r2 hI.1.2.1, gA_r3 hI.1.2.1, gA_f0 hI.1.2.1, gA_f1 hI.1.2.1, gA_f2 hI.1.2.1, gA_f3 hI.1.2.1, gA_f4 hI.1.2.1, gA_d hI.1, gI_s0 hI, gI_s1 hI, gI_s2 hI, gI_s3 hI, gI_s4 hI, gI_s5 hI, gI_n hI, zq26 (I := 104) gIc_2 b8 b9]
      exact ⟨⟨h.1, h.2.1⟩, h.2.2⟩
  · rw [if_neg c1]
    simp +contextual (disch := (first | omega | assumption | decide)) only [↓zbrT, ↓zbrF, zw165_0, zw165_1, zw165_2, zr_1, zr_3, zr_7, zr_10, zr_12, zr_20, zr_62, zr_68, zr_69, zr_70, zlg_0, zlg_s, zrc_1, zrc_s, zcat_n, zcat_i, zcat_l, zcat_r, zkd_0, zkd_104, zkd_21, zkd_42, zkd_64, zkd_66, zkd_85, zkd_a64, zln_42, zln_64, zrf_0_11, zrf_0_3, zrf_0_4, zrf_a64, Int.cast_ofNat_Int, Int.reduceAdd, zbd, false_and, and_false, true_and, and_true, true_or, or_true, false_or, or_false, Option.toList, List.nil_append, List.cons_append, zif0, zif1, zif01, zem1, zem2, Int.reduceEq, Int.reduceLT, Int.reduceLE, Int.reduceNeg, Int.reduceSub, Int.reduceMul, if_true, if_false, not_false_eq_true, not_true_eq_false, true_implies, false_implies, Classical.not_not, Nat.reduceAdd, Nat.reduceLeDiff, zq80, if_neg c1]
    exact ⟨fun z => absurd z c1, fun _ _ _ => trivial⟩
theorem gJ_c {far : Int} {a b w a' b' w' : Int → Int} : ∀ (r : Nat) (p q : Int), (∀ j : Nat, j < r → a j = a' j ∧ b j = b' j ∧ w j = w' j) → gJ far a b w (fun _ => True) r p q = gJ far a' b' w' (fun _ => True) r p q
  | 0, _, _, _ => rfl
  | r + 1, p, q, h => by
    have e := h r (by omega)
    have i := fun p q => gJ_c (far := far) r p q (fun j hj => h j (by omega))
    show (if True ∧ ((p = a r ∧ q = b r) ∨ (p = b r ∧ q = a r)) then min (w r) (gJ far a b w (fun _ => True) r (a r) (b r)) else gJ far a b w (fun _ => True) r p q) = (if True ∧ ((p = a' r ∧ q = b' r) ∨ (p = b' r ∧ q = a' r)) then min (w' r) (gJ far a' b' w' (fun _ => True) r (a' r) (b' r)) else gJ far a' b' w' (fun _ => True) r p q)
    rw [i, i, e.1, e.2.1, e.2.2]
/-- the atlas behind survey -/
theorem gA_sv {V m : zMm} (hk : gOk V) (hv : gCV V m) : gRok m ∧ gA V (gSv m) ∧ ∀ c i, c ≠ 20 ∧ c ≠ 38 ∧ c ≠ 40 → gSv m c i = m c i := by
  have hb := hk.1
  have e1 := gA_1 hv
  have e8 := gA_8 hv
  have fr : ∀ c i, c ≠ 20 ∧ c ≠ 38 ∧ c ≠ 40 → gSv m c i = m c i := fun c i hc => by
    unfold gSv
    rw [gTb_o hc.2.1, gTab_o hc.2.1, gfor_o hc.2.2 (fun z => hc.1 z.1)]
  have eM : gMi m = gJ 268435456 (vA V) (vB V) (vM V) (fun _ => True) (V 0 5).toNat := by
    funext p q
    unfold gMi
    rw [e8]
    refine gJ_c _ p q (fun j hj => ?_)
    have := hv.2.1 j (by omega) (by omega)
    exact ⟨this.1, this.2.1, this.2.2.1⟩
  refine ⟨⟨by omega, by omega, fun r a b => ?_⟩, ⟨hk, gCV_of hv (fun c i a b => fr c i (by omega)) hk, fun p q a b c e => ?_, fun s a b => Or.inl ?_, fun s x a b c e f => ?_⟩, fr⟩
  · rw [e8] at b
    have := hk.2.1 r a b
    rw [gA_r0 hv a b, gA_r1 hv a b, gA_r2 hv a b, e1]
    omega
  · unfold gSv
    rw [e1, gTb_at ⟨a, b⟩ ⟨c, e⟩ (by omega), if_neg (by omega), eM]
    rfl
  · unfold gSv
    rw [gTb_o (by decide), gTab_o (by decide)]
    unfold gfor gfil
    rw [if_pos ⟨rfl, a, b⟩]
  · have : gSv m 20 5 = -1 := by
      unfold gSv
      rw [gTb_o (by decide), gTab_o (by decide)]
      unfold gfor gfil
      rw [if_neg (by omega), zmu_same]
    omega
theorem zq5 {d : Nat} {m : zMm} {rest : List zV} {k : List zV → zMm → Prop} (h : gRok m) : zcl (zEx (d + 3)) 5 1 (.inr (.inr 20) :: rest) m k = (zcat rest ≤ 8 ∧ k rest (gSv m)) := zcl_eq (as := [.inr (.inr 20)]) (r := none) (ga5 h) rfl rfl
/-- the memory behind the copies of back -/
def gbk (m : zMm) (I : Int) : zMm := gcpy (zmu (gcps m 21 (I + 1) (m (I + 1) 8) (m (I + 1) 9)) 0 5 (m I 2)) (I + 18) 0 42 0 40
theorem gbk_cv {V m : zMm} {I : Int} (h : gIc I) (hm : gIm V I m) : gCV V (gbk m I) ∧ gbk m I 0 5 = V 0 9 ∧ (∀ j, 0 ≤ j → j < V 0 9 → gbk m I 42 j = V 3 j) ∧ ∀ c i, c < 0 ∨ c = 1 ∨ c = 2 ∨ 64 ≤ c → gbk m I c i = m c i := by
  have hb := hm.1.1
  have e8 : m (I + 1) 8 = V 0 5 := hm.2.2.1.1.2.2.2.2.2.2.2.2.1
  have e9 : m (I + 1) 9 = V 0 6 := hm.2.2.1.1.2.2.2.2.2.2.2.2.2
  have hc := gCS_cp (S := 21) hm.2.2.1 hm.1 (by unfold gIc at h; omega)
  unfold gIc at h
  refine ⟨gCS_21.mp (gCS_of hc hm.1 (fun c i a b => ?_)), ?_, fun j a b => ?_, fun c i hc => ?_⟩
  · unfold gbk gcpy
    rw [if_neg (by omega), zmu_c (by omega)]
  · unfold gbk gcpy
    rw [if_neg (by omega), zmu_same]; exact hm.2.2.2.1
  · unfold gbk gcpy
    rw [if_pos (by omega), zmu_c (by omega), gcps_o (by omega) (by omega) (by omega), show 0 + (j - 0) = j by omega]
    exact hm.2.2.2.2 j a b
  · unfold gbk gcpy
    rw [if_neg (by omega), zmu_c (by omega), gcps_o (by omega) (by omega) (by omega)]
def sp166 (k K : Int) : Int := if 0 ≤ k ∧ k ≤ 2 then (if K = 0 then -6 else 0) else -2
theorem gz166 {d : Nat} {m : zMm} {k : Int} {V V1 W : zMm} (hI : gI V m) (hW : 0 ≤ k ∧ k ≤ 2 → m (66 + 19 * k) 3 ≠ 0 → gIm W (66 + 19 * k) m) (h1 : gV1 V ((0 ≤ k ∧ k ≤ 2) ∧ m (66 + 19 * k) 3 ≠ 0) W V1) : zC (d + 7) 166 [.inr (.inr 0), .inl k] m (fun r' m' => r' = some (.inl (sp166 k (m (66 + 19 * k) 3))) ∧ gI V1 m' ∧ gZ m m') := by
  refine ze166 ?_
  unfold sp166
  by_cases c1 : 0 ≤ k ∧ k ≤ 2
  · rw [if_pos c1]
    by_cases c2 : m (66 + 19 * k) 3 = 0
    · rw [if_pos c2, h1.2 (fun z => z.2 c2)]
      have h3 : k = 0 ∨ k = 1 ∨ k = 2 := by omega
      rcases h3 with rfl | rfl | rfl
      · replace c2 : m 66 3 = 0 := c2
        simp +contextual (disch := (first | omega | assumption | decide)) only [↓zbrT, ↓zbrF, zw166_0, zw166_1, zw166_2, zw166_3, zw166_4, zr_1, zr_3, zr_7, zr_10, zr_12, zr_13, zr_20, zr_62, zr_68, zr_69, zr_70, zlg_0, zlg_s, zrc_1, zrc_s, zcat_n, zcat_i, zcat_l, zcat_r, zkd_0, zkd_103, zkd_104, zkd_105, zkd_122, zkd_20, zkd_21, zkd_3, zkd_42, zkd_64, zkd_66, zkd_67, zkd_84, zkd_85, zkd_86, zkd_a64, zkd_a64_0, zkd_a64_1, zln_103, zln_122, zln_42, zln_64, zln_84, zln_a64_1, zrf_0_11, zrf_0_2, zrf_0_3, zrf_0_4, zrf_104_0, zrf_104_1, zrf_66_0, zrf_66_1, zrf_85_0, zrf_85_1, zrf_a64, zrf_a64_0, zrf_a64_1, Int.cast_ofNat_Int, Int.reduceAdd, zbd, zmu_same, zmu_c, zmu_i, false_and, and_false, true_and, and_true, true_or, or_true, false_or, or_false, Option.toList, List.nil_append, List.cons_append, zif0, zif1, zif01, zem1, zem2, Int.reduceEq, Int.reduceLT, Int.reduceLE, Int.reduceNeg, Int.reduceSub, Int.reduceMul, if_true, if_false, not_false_eq_true, not_true_eq_false, true_implies, false_implies, Classical.not_not, Nat.reduceAdd, Nat.reduceLeDiff, zq80, if_pos c1, c2]
        exact ⟨hI, gZ_refl⟩
      · replace c2 : m 85 3 = 0 := c2
        simp +contextual (disch := (first | omega | assumption | decide)) only [↓zbrT, ↓zbrF, zw166_0, zw166_1, zw166_2, zw166_3, zw166_4, zr_1, zr_3, zr_7, zr_10, zr_12, zr_13, zr_20, zr_62, zr_68, zr_69, zr_70, zlg_0, zlg_s, zrc_1, zrc_s, zcat_n, zcat_i, zcat_l, zcat_r, zkd_0, zkd_103, zkd_104, zkd_105, zkd_122, zkd_20, zkd_21, zkd_3, zkd_42, zkd_64, zkd_66, zkd_67, zkd_84, zkd_85, zkd_86, zkd_a64, zkd_a64_0, zkd_a64_1, zln_103, zln_122, zln_42, zln_64, zln_84, zln_a64_1, zrf_0_11, zrf_0_2, zrf_0_3, zrf_0_4, zrf_104_0, zrf_104_1, zrf_66_0, zrf_66_1, zrf_85_0, zrf_85_1, zrf_a64, zrf_a64_0, zrf_a64_1, Int.cast_ofNat_Int, Int.reduceAdd, zbd, zmu_same, zmu_c, zmu_i, false_and, and_false, true_and, and_true, true_or, or_true, false_or, or_false, Option.toList, List.nil_append, List.cons_append, zif0, zif1, zif01, zem1, zem2, Int.reduceEq, Int.reduceLT, Int.reduceLE, Int.reduceNeg, Int.reduceSub, Int.reduceMul, if_true, if_false, not_false_eq_true, not_true_eq_false, true_implies, false_implies, Classical.not_not, Nat.reduceAdd, Nat.reduceLeDiff, zq80, if_pos c1, c2]
        exact ⟨hI, gZ_refl⟩
      · replace c2 : m 104 3 = 0 := c2
        simp +contextual (disch := (first | omega | assumption | decide)) only [↓zbrT, ↓zbrF, zw166_0, zw166_1, zw166_2, zw166_3, zw166_4, zr_1, zr_3, zr_7, zr_10, zr_12, zr_13, zr_20, zr_62, zr_68, zr_69, zr_70, zlg_0, zlg_s, zrc_1, zrc_s, zcat_n, zcat_i, zcat_l, zcat_r, zkd_0, zkd_103, zkd_104, zkd_105, zkd_122, zkd_20, zkd_21, zkd_3, zkd_42, zkd_64, zkd_66, zkd_67, zkd_84, zkd_85, zkd_86, zkd_a64, zkd_a64_0, zkd_a64_1, zln_103, zln_122, zln_42, zln_64, zln_84, zln_a64_1, zrf_0_11, zrf_0_2, zrf_0_3, zrf_0_4, zrf_104_0, zrf_104_1, zrf_66_0, zrf_66_1, zrf_85_0, zrf_85_1, zrf_a64, zrf_a64_0, zrf_a64_1, Int.cast_ofNat_Int, Int.reduceAdd, zbd, zmu_same, zmu_c, zmu_i, false_and, and_false, true_and, and_true, true_or, or_true, false_or, or_false, Option.toList, List.nil_append, List.cons_append, zif0, zif1, zif01, zem1, zem2, Int.reduceEq, Int.reduceLT, Int.reduceLE, Int.reduceNeg, Int.reduceSub, Int.reduceMul, if_true, if_false, not_false_eq_true, not_true_eq_false, true_implies, false_implies, Classical.not_not, Nat.reduceAdd, Nat.reduceLeDiff, zq80, if_pos c1, c2]
        exact ⟨hI, gZ_refl⟩
    · rw [if_neg c2, h1.1 ⟨c1, c2⟩]
      have hm := hW c1 c2
      have hb := hm.1.1
      have hc : gIc (66 + 19 * k) := by unfold gIc; omega
      have q := gbk_cv hc hm
      have sv := gA_sv hm.1 q.1
      have hC : gCa W (gSv (gbk m (66 + 19 * k))) := ⟨by rw [sv.2.2 0 5 (by decide)]; exact q.2.1, fun j a b => by rw [sv.2.2 42 j (by decide)]; exact q.2.2.1 j a b⟩
      have e8 : m (66 + 19 * k + 1) 8 = W 0 5 := hm.2.2.1.1.2.2.2.2.2.2.2.2.1
      have e9 : m (66 + 19 * k + 1) 9 = W 0 6 := hm.2.2.1.1.2.2.2.2.2.2.2.2.2
      have b8 : 0 ≤ m (66 + 19 * k + 1) 8 ∧ m (66 + 19 * k + 1) 8 ≤ 8 := by omega
      have b9 : 0 ≤ m (66 + 19 * k + 1) 9 ∧ m (66 + 19 * k + 1) 9 ≤ 6 := by omega
      have go : zC (d + 6) 73 [.inr (.inr 0)] (gSv (gbk m (66 + 19 * k))) (fun r' m' => r' = none ∧ gI W m' ∧ gZ m m') := zC_im (gz73 sv.2.1 hm.2.1 hC) (fun r' m' ⟨a, hA2, hS2, h3, hE2⟩ => by
        refine ⟨a, ⟨hA2, hm.2.1, ⟨by rw [hE2 0 5 (by decide)]; exact hC.1, fun j a b => by rw [hE2 42 j (by omega)]; exact hC.2 j a b⟩, hS2, Or.inl h3⟩, fun c i hc => ?_⟩
        rw [hE2 c i (by omega), sv.2.2 c i (by omega)]; exact q.2.2.2 c i hc)
      clear hW h1 e8 e9
      have h3 : k = 0 ∨ k = 1 ∨ k = 2 := by omega
      rcases h3 with rfl | rfl | rfl
      · replace c2 : ¬ m 66 3 = 0 := c2
        have e2 : gcps m 21 67 (m 67 8) (m 67 9) 66 2 = m 66 2 := gcps_o b8.2 b9.2 (by omega)
        simp +contextual (disch := (first | omega | assumption | decide)) only [↓zbrT, ↓zbrF, zw166_0, zw166_1, zw166_2, zw166_3, zw166_4, zr_1, zr_3, zr_7, zr_10, zr_12, zr_13, zr_20, zr_62, zr_68, zr_69, zr_70, zlg_0, zlg_s, zrc_1, zrc_s, zcat_n, zcat_i, zcat_l, zcat_r, zkd_0, zkd_103, zkd_104, zkd_105, zkd_122, zkd_20, zkd_21, zkd_3, zkd_42, zkd_64, zkd_66, zkd_67, zkd_84, zkd_85, zkd_86, zkd_a64, zkd_a64_0, zkd_a64_1, zln_103, zln_122, zln_42, zln_64, zln_84, zln_a64_1, zrf_0_11, zrf_0_2, zrf_0_3, zrf_0_4, zrf_104_0, zrf_104_1, zrf_66_0, zrf_66_1, zrf_85_0, zrf_85_1, zrf_a64, zrf_a64_0, zrf_a64_1, Int.cast_ofNat_Int, Int.reduceAdd, zbd, zmu_same, zmu_c, zmu_i, false_and, and_false, true_and, and_true, true_or, or_true, false_or, or_false, Option.toList, List.nil_append, List.cons_append, zif0, zif1, zif01, zem1, zem2, Int.reduceEq, Int.reduceLT, Int.reduceLE, Int.reduceNeg, Int.reduceSub, Int.reduceMul, if_true, if_false, not_false_eq_true, not_true_eq_false, true_implies, false_implies, Classical.not_not, Nat.reduceAdd, Nat.reduceLeDiff, zq80, if_pos c1, c2, e2, zq34 (S := 21) (O := 67) gS_21 (gS_i gIc_0) (by decide) b8 b9, zq1000 (a := 84) (c := 42) (i := 0) (k0 := 0) (n := 40) rfl (Or.inl rfl) (by decide)]
        rw [show gcpy (zmu (gcps m 21 67 (m 67 8) (m 67 9)) 0 5 (m 66 2)) 84 0 42 0 40 = gbk m 66 from rfl]
        replace sv : gRok (gbk m 66) := sv.1
        replace go : zC (d + 6) 73 [.inr (.inr 0)] (gSv (gbk m 66)) (fun r' m' => r' = none ∧ gI W m' ∧ gZ m m') := go
        simp +contextual (disch := (first | omega | assumption | decide)) only [↓zbrT, ↓zbrF, zw166_0, zw166_1, zw166_2, zw166_3, zw166_4, zr_1, zr_3, zr_7, zr_10, zr_12, zr_13, zr_20, zr_62, zr_68, zr_69, zr_70, zlg_0, zlg_s, zrc_1, zrc_s, zcat_n, zcat_i, zcat_l, zcat_r, zkd_0, zkd_103, zkd_104, zkd_105, zkd_122, zkd_20, zkd_21, zkd_3, zkd_42, zkd_64, zkd_66, zkd_67, zkd_84, zkd_85, zkd_86, zkd_a64, zkd_a64_0, zkd_a64_1, zln_103, zln_122, zln_42, zln_64, zln_84, zln_a64_1, zrf_0_11, zrf_0_2, zrf_0_3, zrf_0_4, zrf_104_0, zrf_104_1, zrf_66_0, zrf_66_1, zrf_85_0, zrf_85_1, zrf_a64, zrf_a64_0, zrf_a64_1, Int.cast_ofNat_Int, Int.reduceAdd, zbd, zmu_same, zmu_c, zmu_i, false_and, and_false, true_and, and_true, true_or, or_true, false_or, or_false, Option.toList, List.nil_append, List.cons_append, zif0, zif1, zif01, zem1, zem2, Int.reduceEq, Int.reduceLT, Int.reduceLE, Int.reduceNeg, Int.reduceSub, Int.reduceMul, if_true, if_false, not_false_eq_true, not_true_eq_false, true_implies, false_implies, Classical.not_not, Nat.reduceAdd, Nat.reduceLeDiff, zq5 sv]
        refine gK (go) rfl rfl (Nat.le_of_ble_eq_true rfl) ?_
        rintro _ m2 ⟨rfl, r1, r2⟩
        simp +contextual (disch := (first | omega | assumption | decide)) only [↓zbrT, ↓zbrF, zw166_0, zw166_1, zw166_2, zw166_3, zw166_4, zr_1, zr_3, zr_7, zr_10, zr_12, zr_13, zr_20, zr_62, zr_68, zr_69, zr_70, zlg_0, zlg_s, zrc_1, zrc_s, zcat_n, zcat_i, zcat_l, zcat_r, zkd_0, zkd_103, zkd_104, zkd_105, zkd_122, zkd_20, zkd_21, zkd_3, zkd_42, zkd_64, zkd_66, zkd_67, zkd_84, zkd_85, zkd_86, zkd_a64, zkd_a64_0, zkd_a64_1, zln_103, zln_122, zln_42, zln_64, zln_84, zln_a64_1, zrf_0_11, zrf_0_2, zrf_0_3, zrf_0_4, zrf_104_0, zrf_104_1, zrf_66_0, zrf_66_1, zrf_85_0, zrf_85_1, zrf_a64, zrf_a64_0, zrf_a64_1, Int.cast_ofNat_Int, Int.reduceAdd, zbd, zmu_same, zmu_c, zmu_i, false_and, and_false, true_and, and_true, true_or, or_true, false_or, or_false, Option.toList, List.nil_append, List.cons_append, zif0, zif1, zif01, zem1, zem2, Int.reduceEq, Int.reduceLT, Int.reduceLE, Int.reduceNeg, Int.reduceSub, Int.reduceMul, if_true, if_false, not_false_eq_true, not_true_eq_false, true_implies, false_implies, Classical.not_not, Nat.reduceAdd, Nat.reduceLeDiff]
        exact ⟨r1, r2⟩
      · replace c2 : ¬ m 85 3 = 0 := c2
        have e2 : gcps m 21 86 (m 86 8) (m 86 9) 85 2 = m 85 2 := gcps_o b8.2 b9.2 (by omega)
        simp +contextual (disch := (first | omega | assumption | decide)) only [↓zbrT, ↓zbrF, zw166_0, zw166_1, zw166_2, zw166_3, zw166_4, zr_1, zr_3, zr_7, zr_10, zr_12, zr_13, zr_20, zr_62, zr_68, zr_69, zr_70, zlg_0, zlg_s, zrc_1, zrc_s, zcat_n, zcat_i, zcat_l, zcat_r, zkd_0, zkd_103, zkd_104, zkd_105, zkd_122, zkd_20, zkd_21, zkd_3, zkd_42, zkd_64, zkd_66, zkd_67, zkd_84, zkd_85, zkd_86, zkd_a64, zkd_a64_0, zkd_a64_1, zln_103, zln_122, zln_42, zln_64, zln_84, zln_a64_1, zrf_0_11, zrf_0_2, zrf_0_3, zrf_0_4, zrf_104_0, zrf_104_1, zrf_66_0, zrf_66_1, zrf_85_0, zrf_85_1, zrf_a64, zrf_a64_0, zrf_a64_1, Int.cast_ofNat_Int, Int.reduceAdd, zbd, zmu_same, zmu_c, zmu_i, false_and, and_false, true_and, and_true, true_or, or_true, false_or, or_false, Option.toList, List.nil_append, List.cons_append, zif0, zif1, zif01, zem1, zem2, Int.reduceEq, Int.reduceLT, Int.reduceLE, Int.reduceNeg, Int.reduceSub, Int.reduceMul, if_true, if_false, not_false_eq_true, not_true_eq_false, true_implies, false_implies, Classical.not_not, Nat.reduceAdd, Nat.reduceLeDiff, zq80, if_pos c1, c2, e2, zq34 (S := 21) (O := 86) gS_21 (gS_i gIc_1) (by decide) b8 b9, zq1000 (a := 103) (c := 42) (i := 0) (k0 := 0) (n := 40) rfl (Or.inl rfl) (by decide)]
        rw [show gcpy (zmu (gcps m 21 86 (m 86 8) (m 86 9)) 0 5 (m 85 2)) 103 0 42 0 40 = gbk m 85 from rfl]
        replace sv : gRok (gbk m 85) := sv.1
        replace go : zC (d + 6) 73 [.inr (.inr 0)] (gSv (gbk m 85)) (fun r' m' => r' = none ∧ gI W m' ∧ gZ m m') := go
        simp +contextual (disch := (first | omega | assumption | decide)) only [↓zbrT, ↓zbrF, zw166_0, zw166_1, zw166_2, zw166_3, zw166_4, zr_1, zr_3, zr_7, zr_10, zr_12, zr_13, zr_20, zr_62, zr_68, zr_69, zr_70, zlg_0, zlg_s, zrc_1, zrc_s, zcat_n, zcat_i, zcat_l, zcat_r, zkd_0, zkd_103, zkd_104, zkd_105, zkd_122, zkd_20, zkd_21, zkd_3, zkd_42, zkd_64, zkd_66, zkd_67, zkd_84, zkd_85, zkd_86, zkd_a64, zkd_a64_0, zkd_a64_1, zln_103, zln_122, zln_42, zln_64, zln_84, zln_a64_1, zrf_0_11, zrf_0_2, zrf_0_3, zrf_0_4, zrf_104_0, zrf_104_1, zrf_66_0, zrf_66_1, zrf_85_0, zrf_85_1, zrf_a64, zrf_a64_0, zrf_a64_1, Int.cast_ofNat_Int, Int.reduceAdd, zbd, zmu_same, zmu_c, zmu_i, false_and, and_false, true_and, and_true, true_or, or_true, false_or, or_false, Option.toList, List.nil_append, List.cons_append, zif0, zif1, zif01, zem1, zem2, Int.reduceEq, Int.reduceLT, Int.reduceLE, Int.reduceNeg, Int.reduceSub, Int.reduceMul, if_true, if_false, not_false_eq_true, not_true_eq_false, true_implies, false_implies, Classical.not_not, Nat.reduceAdd, Nat.reduceLeDiff, zq5 sv]
        refine gK (go) rfl rfl (Nat.le_of_ble_eq_true rfl) ?_
        rintro _ m2 ⟨rfl, r1, r2⟩
        simp +contextual (disch := (first | omega | assumption | decide)) only [↓zbrT, ↓zbrF, zw166_0, zw166_1, zw166_2, zw166_3, zw166_4, zr_1, zr_3, zr_7, zr_10, zr_12, zr_13, zr_20, zr_62, zr_68, zr_69, zr_70, zlg_0, zlg_s, zrc_1, zrc_s, zcat_n, zcat_i, zcat_l, zcat_r, zkd_0, zkd_103, zkd_104, zkd_105, zkd_122, zkd_20, zkd_21, zkd_3, zkd_42, zkd_64, zkd_66, zkd_67, zkd_84, zkd_85, zkd_86, zkd_a64, zkd_a64_0, zkd_a64_1, zln_103, zln_122, zln_42, zln_64, zln_84, zln_a64_1, zrf_0_11, zrf_0_2, zrf_0_3, zrf_0_4, zrf_104_0, zrf_104_1, zrf_66_0, zrf_66_1, zrf_85_0, zrf_85_1, zrf_a64, zrf_a64_0, zrf_a64_1, Int.cast_ofNat_Int, Int.reduceAdd, zbd, zmu_same, zmu_c, zmu_i, false_and, and_false, true_and, and_true, true_or, or_true, false_or, or_false, Option.toList, List.nil_append, List.cons_append, zif0, zif1, zif01, zem1, zem2, Int.reduceEq, Int.reduceLT, Int.reduceLE, Int.reduceNeg, Int.reduceSub, Int.reduceMul, if_true, if_false, not_false_eq_true, not_true_eq_false, true_implies, false_implies, Classical.not_not, Nat.reduceAdd, Nat.reduceLeDiff]
        exact ⟨r1, r2⟩
      · replace c2 : ¬ m 104 3 = 0 := c2
        have e2 : gcps m 21 105 (m 105 8) (m 105 9) 104 2 = m 104 2 := gcps_o b8.2 b9.2 (by omega)
        simp +contextual (disch := (first | omega | assumption | decide)) only [↓zbrT, ↓zbrF, zw166_0, zw166_1, zw166_2, zw166_3, zw166_4, zr_1, zr_3, zr_7, zr_10, zr_12, zr_13, zr_20, zr_62, zr_68, zr_69, zr_70, zlg_0, zlg_s, zrc_1, zrc_s, zcat_n, zcat_i, zcat_l, zcat_r, zkd_0, zkd_103, zkd_104, zkd_105, zkd_122, zkd_20, zkd_21, zkd_3, zkd_42, zkd_64, zkd_66, zkd_67, zkd_84, zkd_85, zkd_86, zkd_a64, zkd_a64_0, zkd_a64_1, zln_103, zln_122, zln_42, zln_64, zln_84, zln_a64_1, zrf_0_11, zrf_0_2, zrf_0_3, zrf_0_4, zrf_104_0, zrf_104_1, zrf_66_0, zrf_66_1, zrf_85_0, zrf_85_1, zrf_a64, zrf_a64_0, zrf_a64_1, Int.cast_ofNat_Int, Int.reduceAdd, zbd, zmu_same, zmu_c, zmu_i, false_and, and_false, true_and, and_true, true_or, or_true, false_or, or_false, Option.toList, List.nil_append, List.cons_append, zif0, zif1, zif01, zem1, zem2, Int.reduceEq, Int.reduceLT, Int.reduceLE, Int.reduceNeg, Int.reduceSub, Int.reduceMul, if_true, if_false, not_false_eq_true, not_true_eq_false, true_implies, false_implies, Classical.not_not, Nat.reduceAdd, Nat.reduceLeDiff, zq80, if_pos c1, c2, e2, zq34 (S := 21) (O := 105) gS_21 (gS_i gIc_2) (by decide) b8 b9, zq1000 (a := 122) (c := 42) (i := 0) (k0 := 0) (n := 40) rfl (Or.inl rfl) (by decide)]
        rw [show gcpy (zmu (gcps m 21 105 (m 105 8) (m 105 9)) 0 5 (m 104 2)) 122 0 42 0 40 = gbk m 104 from rfl]
        replace sv : gRok (gbk m 104) := sv.1
        replace go : zC (d + 6) 73 [.inr (.inr 0)] (gSv (gbk m 104)) (fun r' m' => r' = none ∧ gI W m' ∧ gZ m m') := go
        simp +contextual (disch := (first | omega | assumption | decide)) only [↓zbrT, ↓zbrF, zw166_0, zw166_1, zw166_2, zw166_3, zw166_4, zr_1, zr_3, zr_7, zr_10, zr_12, zr_13, zr_20, zr_62, zr_68, zr_69, zr_70, zlg_0, zlg_s, zrc_1, zrc_s, zcat_n, zcat_i, zcat_l, zcat_r, zkd_0, zkd_103, zkd_104, zkd_105, zkd_122, zkd_20, zkd_21, zkd_3, zkd_42, zkd_64, zkd_66, zkd_67, zkd_84, zkd_85, zkd_86, zkd_a64, zkd_a64_0, zkd_a64_1, zln_103, zln_122, zln_42, zln_64, zln_84, zln_a64_1, zrf_0_11, zrf_0_2, zrf_0_3, zrf_0_4, zrf_104_0, zrf_104_1, zrf_66_0, zrf_66_1, zrf_85_0, zrf_85_1, zrf_a64, zrf_a64_0, zrf_a64_1, Int.cast_ofNat_Int, Int.reduceAdd, zbd, zmu_same, zmu_c, zmu_i, false_and, and_false, true_and, and_true, true_or, or_true, false_or, or_false, Option.toList, List.nil_append, List.cons_append, zif0, zif1, zif01, zem1, zem2, Int.reduceEq, Int.reduceLT, Int.reduceLE, Int.reduceNeg, Int.reduceSub, Int.reduceMul, if_true, if_false, not_false_eq_true, not_true_eq_false, true_implies, false_implies, Classical.not_not, Nat.reduceAdd, Nat.reduceLeDiff, zq5 sv]
        refine gK (go) rfl rfl (Nat.le_of_ble_eq_true rfl) ?_
        rintro _ m2 ⟨rfl, r1, r2⟩
        simp +contextual (disch := (first | omega | assumption | decide)) only [↓zbrT, ↓zbrF, zw166_0, zw166_1, zw166_2, zw166_3, zw166_4, zr_1, zr_3, zr_7, zr_10, zr_12, zr_13, zr_20, zr_62, zr_68, zr_69, zr_70, zlg_0, zlg_s, zrc_1, zrc_s, zcat_n, zcat_i, zcat_l, zcat_r, zkd_0, zkd_103, zkd_104, zkd_105, zkd_122, zkd_20, zkd_21, zkd_3, zkd_42, zkd_64, zkd_66, zkd_67, zkd_84, zkd_85, zkd_86, zkd_a64, zkd_a64_0, zkd_a64_1, zln_103, zln_122, zln_42, zln_64, zln_84, zln_a64_1, zrf_0_11, zrf_0_2, zrf_0_3, zrf_0_4, zrf_104_0, zrf_104_1, zrf_66_0, zrf_66_1, zrf_85_0, zrf_85_1, zrf_a64, zrf_a64_0, zrf_a64_1, Int.cast_ofNat_Int, Int.reduceAdd, zbd, zmu_same, zmu_c, zmu_i, false_and, and_false, true_and, and_true, true_or, or_true, false_or, or_false, Option.toList, List.nil_append, List.cons_append, zif0, zif1, zif01, zem1, zem2, Int.reduceEq, Int.reduceLT, Int.reduceLE, Int.reduceNeg, Int.reduceSub, Int.reduceMul, if_true, if_false, not_false_eq_true, not_true_eq_false, true_implies, false_implies, Classical.not_not, Nat.reduceAdd, Nat.reduceLeDiff]
        exact ⟨r1, r2⟩
  · rw [if_neg c1, h1.2 (fun z => c1 z.1)]
    simp +contextual (disch := (first | omega | assumption | decide)) only [↓zbrT, ↓zbrF, zw166_0, zw166_1, zw166_2, zw166_3, zw166_4, zr_1, zr_3, zr_7, zr_10, zr_12, zr_13, zr_20, zr_62, zr_68, zr_69, zr_70, zlg_0, zlg_s, zrc_1, zrc_s, zcat_n, zcat_i, zcat_l, zcat_r, zkd_0, zkd_103, zkd_104, zkd_105, zkd_122, zkd_20, zkd_21, zkd_3, zkd_42, zkd_64, zkd_66, zkd_67, zkd_84, zkd_85, zkd_86, zkd_a64, zkd_a64_0, zkd_a64_1, zln_103, zln_122, zln_42, zln_64, zln_84, zln_a64_1, zrf_0_11, zrf_0_2, zrf_0_3, zrf_0_4, zrf_104_0, zrf_104_1, zrf_66_0, zrf_66_1, zrf_85_0, zrf_85_1, zrf_a64, zrf_a64_0, zrf_a64_1, Int.cast_ofNat_Int, Int.reduceAdd, zbd, zmu_same, zmu_c, zmu_i, false_and, and_false, true_and, and_true, true_or, or_true, false_or, or_false, Option.toList, List.nil_append, List.cons_append, zif0, zif1, zif01, zem1, zem2, Int.reduceEq, Int.reduceLT, Int.reduceLE, Int.reduceNeg, Int.reduceSub, Int.reduceMul, if_true, if_false, not_false_eq_true, not_true_eq_false, true_implies, false_implies, Classical.not_not, Nat.reduceAdd, Nat.reduceLeDiff, zq80, if_neg c1]
    exact ⟨hI, gZ_refl⟩
/-! the model's sections -/
/-- section s of the model holds V -/
def gSec (s : Int) (V m : zMm) : Prop :=
  (m 138 (10 * s) = V 0 0 ∧ m 138 (10 * s + 1) = V 0 1 ∧ m 138 (10 * s + 2) = V 0 2 ∧ m 138 (10 * s + 3) = V 0 3 ∧ m 138 (10 * s + 4) = V 0 4 ∧ m 138 (10 * s + 5) = V 0 5 ∧ m 138 (10 * s + 6) = V 0 6 ∧ m 138 (10 * s + 7) = V 0 7 ∧ m 138 (10 * s + 8) = V 0 8 ∧ m 138 (10 * s + 9) = V 0 9 ∧ m 137 s = V 0 10) ∧
  (∀ r, 0 ≤ r → r < V 0 5 → m 139 (32 * s + 4 * r) = vA V r ∧ m 139 (32 * s + (4 * r + 1)) = vB V r ∧ m 139 (32 * s + (4 * r + 2)) = vM V r ∧ m 139 (32 * s + (4 * r + 3)) = vT V r) ∧
  (∀ f, 0 ≤ f → f < V 0 6 → m 140 (30 * s + 5 * f) = vF V f 0 ∧ m 140 (30 * s + (5 * f + 1)) = vF V f 1 ∧ m 140 (30 * s + (5 * f + 2)) = vF V f 2 ∧ m 140 (30 * s + (5 * f + 3)) = vF V f 3 ∧ m 140 (30 * s + (5 * f + 4)) = vF V f 4) ∧
  (∀ j, 0 ≤ j → j < V 0 9 → m 141 (40 * s + j) = V 3 j)
theorem gSec_0 {V m : zMm} : gSec 0 V m ↔ gMo V m ∧ gMa V m := by
  unfold gSec gMo gMa
  simp only [Int.mul_zero, Int.zero_add, and_assoc]
theorem gSec_of {s : Int} {V m m' : zMm} (h : gSec s V m) (hk : gOk V) (h1 : ∀ c i, (c = 137 ∧ i = s) ∨ (c = 138 ∧ 10 * s ≤ i ∧ i < 10 * s + 10) ∨ (c = 139 ∧ 32 * s ≤ i ∧ i < 32 * s + 32) ∨ (c = 140 ∧ 30 * s ≤ i ∧ i < 30 * s + 30) ∨ (c = 141 ∧ 40 * s ≤ i ∧ i < 40 * s + 40) → m' c i = m c i) : gSec s V m' := by
  have b := hk.1
  refine ⟨?_, fun r a c => ?_, fun f a c => ?_, fun j a c => ?_⟩
  · rw [h1 138 (10 * s) (by omega), h1 138 (10 * s + 1) (by omega), h1 138 (10 * s + 2) (by omega), h1 138 (10 * s + 3) (by omega), h1 138 (10 * s + 4) (by omega), h1 138 (10 * s + 5) (by omega), h1 138 (10 * s + 6) (by omega), h1 138 (10 * s + 7) (by omega), h1 138 (10 * s + 8) (by omega), h1 138 (10 * s + 9) (by omega), h1 137 s (by omega)]; exact h.1
  · rw [h1 139 _ (by omega), h1 139 _ (by omega), h1 139 _ (by omega), h1 139 _ (by omega)]; exact h.2.1 r a c
  · rw [h1 140 _ (by omega), h1 140 _ (by omega), h1 140 _ (by omega), h1 140 _ (by omega), h1 140 _ (by omega)]; exact h.2.2.1 f a c
  · rw [h1 141 _ (by omega)]; exact h.2.2.2 j a c
theorem gcs_7 {m : zMm} {a b : Int} : gcsm m a b 137 b = m 137 a := by
  unfold gcsm gcpm
  rw [if_neg (by omega), if_neg (by omega), if_neg (by omega), if_neg (by omega), if_pos (by omega), show 1 * a + (b - 1 * b) = a by omega]
theorem gcs_8 {m : zMm} {a b i : Int} (h : 0 ≤ i ∧ i < 10) : gcsm m a b 138 (10 * b + i) = m 138 (10 * a + i) := by
  unfold gcsm gcpm
  rw [if_neg (by omega), if_neg (by omega), if_neg (by omega), if_pos (by omega), if_neg (by omega), show 10 * a + (10 * b + i - 10 * b) = 10 * a + i by omega]
theorem gcs_9 {m : zMm} {a b i : Int} (h : 0 ≤ i ∧ i < 32) : gcsm m a b 139 (32 * b + i) = m 139 (32 * a + i) := by
  unfold gcsm gcpm
  rw [if_neg (by omega), if_neg (by omega), if_pos (by omega), if_neg (by omega), if_neg (by omega), show 32 * a + (32 * b + i - 32 * b) = 32 * a + i by omega]
theorem gcs_10 {m : zMm} {a b i : Int} (h : 0 ≤ i ∧ i < 30) : gcsm m a b 140 (30 * b + i) = m 140 (30 * a + i) := by
  unfold gcsm gcpm
  rw [if_neg (by omega), if_pos (by omega), if_neg (by omega), if_neg (by omega), if_neg (by omega), show 30 * a + (30 * b + i - 30 * b) = 30 * a + i by omega]
theorem gcs_11 {m : zMm} {a b i : Int} (h : 0 ≤ i ∧ i < 40) : gcsm m a b 141 (40 * b + i) = m 141 (40 * a + i) := by
  unfold gcsm gcpm
  rw [if_pos (by omega), if_neg (by omega), if_neg (by omega), if_neg (by omega), if_neg (by omega), show 40 * a + (40 * b + i - 40 * b) = 40 * a + i by omega]
theorem gcs_o {m : zMm} {a b c i : Int} (h : ¬ ((c = 137 ∧ i = b) ∨ (c = 138 ∧ 10 * b ≤ i ∧ i < 10 * b + 10) ∨ (c = 139 ∧ 32 * b ≤ i ∧ i < 32 * b + 32) ∨ (c = 140 ∧ 30 * b ≤ i ∧ i < 30 * b + 30) ∨ (c = 141 ∧ 40 * b ≤ i ∧ i < 40 * b + 40))) : gcsm m a b c i = m c i := by
  unfold gcsm gcpm
  rw [if_neg (by omega), if_neg (by omega), if_neg (by omega), if_neg (by omega), if_neg (by omega)]
theorem gSec_cp {a b : Int} {V m : zMm} (h : gSec a V m) (hk : gOk V) : gSec b V (gcsm m a b) := by
  have hb := hk.1
  refine ⟨?_, fun r x y => ?_, fun f x y => ?_, fun j x y => ?_⟩
  · have e0 : gcsm m a b 138 (10 * b) = m 138 (10 * a) := by have := gcs_8 (m := m) (a := a) (b := b) (i := 0) (by decide); rwa [Int.add_zero, Int.add_zero] at this
    rw [e0, gcs_8 (by decide), gcs_8 (by decide), gcs_8 (by decide), gcs_8 (by decide), gcs_8 (by decide), gcs_8 (by decide), gcs_8 (by decide), gcs_8 (by decide), gcs_8 (by decide), gcs_7]; exact h.1
  · rw [gcs_9 (by omega), gcs_9 (by omega), gcs_9 (by omega), gcs_9 (by omega)]; exact h.2.1 r x y
  · rw [gcs_10 (by omega), gcs_10 (by omega), gcs_10 (by omega), gcs_10 (by omega), gcs_10 (by omega)]; exact h.2.2.1 f x y
  · rw [gcs_11 (by omega)]; exact h.2.2.2 j x y
def gIn (V : zMm) (s : Int) (m : zMm) : Prop := gOk V ∧ gAc V ∧ gSec s V m
theorem gz309 {d : Nat} {m : zMm} {k : Int} {V : zMm} (hQ : gQ V m) : zC (d + 4) 309 [.inr (.inr 131), .inl k] m (fun r' m' => r' = some (.inl (sp165 k)) ∧ (0 ≤ k ∧ k ≤ 2 → gIn V (k + 1) m' ∧ m' 142 k = 1) ∧ ∀ c i, ¬ ((0 ≤ k ∧ k ≤ 2) ∧ ((c = 137 ∧ i = k + 1) ∨ (c = 138 ∧ 10 * (k + 1) ≤ i ∧ i < 10 * (k + 1) + 10) ∨ (c = 139 ∧ 32 * (k + 1) ≤ i ∧ i < 32 * (k + 1) + 32) ∨ (c = 140 ∧ 30 * (k + 1) ≤ i ∧ i < 30 * (k + 1) + 30) ∨ (c = 141 ∧ 40 * (k + 1) ≤ i ∧ i < 40 * (k + 1) + 40) ∨ (c = 142 ∧ i = k))) → ¬ (c = 131 ∧ i = 0) → m' c i = m c i) := by
  refine ze309 ?_
  have hb := hQ.1.1
  have hY0 : gY m (zmu m 131 0 0) := gY_u (by decide)
  have hQ0 := gQ_y hQ hY0
  have h5 : 0 ≤ zmu m 131 0 0 138 5 ∧ zmu m 131 0 0 138 5 ≤ 8 := by rw [gM_5 hQ0.2.2.1]; omega
  have h6 : 0 ≤ zmu m 131 0 0 138 6 ∧ zmu m 131 0 0 138 6 ≤ 6 := by rw [gM_6 hQ0.2.2.1]; omega
  have h0 : 0 ≤ zmu m 131 0 0 138 0 ∧ zmu m 131 0 0 138 0 ≤ 6 := by rw [gM_0 hQ0.2.2.1]; omega
  unfold sp165
  by_cases c1 : 0 ≤ k ∧ k ≤ 2
  · rw [if_pos c1]
    have e1 : 1 + k = k + 1 := by omega
    simp +contextual (disch := (first | omega | assumption | decide)) only [↓zbrT, ↓zbrF, zw309_0, zw309_1, zw309_2, zr_1, zr_3, zr_7, zr_8, zr_12, zr_13, zr_22, zr_26, zr_46, zr_62, zr_68, zr_69, zr_70, zlg_0, zlg_s, zrc_1, zrc_s, zcat_n, zcat_i, zcat_l, zcat_r, zkd_131, zkd_142, zln_142, zrf_131_21, Int.cast_ofNat_Int, Int.reduceAdd, zbd, zw_id, zmu_same, zmu_c, zmu_i, false_and, and_false, true_and, and_true, true_or, or_true, false_or, or_false, Option.toList, List.nil_append, List.cons_append, zif0, zif1, zif01, zem1, zem2, Int.reduceEq, Int.reduceLT, Int.reduceLE, Int.reduceNeg, Int.reduceSub, Int.reduceMul, if_true, if_false, not_false_eq_true, not_true_eq_false, true_implies, false_implies, Classical.not_not, Nat.reduceAdd, Nat.reduceLeDiff, zq170, if_pos c1, e1, zq201 (a := 0) (b := k + 1) (m := zmu m 131 0 0) (by decide) (by omega) (by omega)]
    have s0 : gSec 0 V (zmu m 131 0 0) := gSec_0.mpr ⟨hQ0.2.2.1, hQ0.2.2.2⟩
    refine ⟨fun _ => ⟨hQ.1, hQ.2.1, gSec_of (gSec_cp s0 hQ.1) hQ.1 (fun c i hc => zmu_c (by omega))⟩, fun c i h1 h2 => ?_⟩
    unfold zmu
    rw [if_neg (by omega), gcs_o (by omega), if_neg h2]
  · rw [if_neg c1]
    simp +contextual (disch := (first | omega | assumption | decide)) only [↓zbrT, ↓zbrF, zw309_0, zw309_1, zw309_2, zr_1, zr_3, zr_7, zr_8, zr_12, zr_13, zr_22, zr_26, zr_46, zr_62, zr_68, zr_69, zr_70, zlg_0, zlg_s, zrc_1, zrc_s, zcat_n, zcat_i, zcat_l, zcat_r, zkd_131, zkd_142, zln_142, zrf_131_21, Int.cast_ofNat_Int, Int.reduceAdd, zbd, zw_id, zmu_same, zmu_c, zmu_i, false_and, and_false, true_and, and_true, true_or, or_true, false_or, or_false, Option.toList, List.nil_append, List.cons_append, zif0, zif1, zif01, zem1, zem2, Int.reduceEq, Int.reduceLT, Int.reduceLE, Int.reduceNeg, Int.reduceSub, Int.reduceMul, if_true, if_false, not_false_eq_true, not_true_eq_false, true_implies, false_implies, Classical.not_not, Nat.reduceAdd, Nat.reduceLeDiff, zq170, if_neg c1]
    refine ⟨fun z => absurd z c1, fun c i h1 h2 => ?_⟩
    unfold zmu
    rw [if_neg h2]
theorem gz310 {d : Nat} {m : zMm} {k : Int} {V V1 W : zMm} (hQ : gQ V m) (hW : 0 ≤ k ∧ k ≤ 2 → m 142 k ≠ 0 → gIn W (k + 1) m) (h1 : gV1 V ((0 ≤ k ∧ k ≤ 2) ∧ m 142 k ≠ 0) W V1) : zC (d + 4) 310 [.inr (.inr 131), .inl k] m (fun r' m' => r' = some (.inl (sp166 k (m 142 k))) ∧ gQ V1 m' ∧ gZm m m') := by
  refine ze310 ?_
  have hb := hQ.1.1
  have hY0 : gY m (zmu m 131 0 0) := gY_u (by decide)
  have hQ0 := gQ_y hQ hY0
  have h5 : 0 ≤ zmu m 131 0 0 138 5 ∧ zmu m 131 0 0 138 5 ≤ 8 := by rw [gM_5 hQ0.2.2.1]; omega
  have h6 : 0 ≤ zmu m 131 0 0 138 6 ∧ zmu m 131 0 0 138 6 ≤ 6 := by rw [gM_6 hQ0.2.2.1]; omega
  have h0 : 0 ≤ zmu m 131 0 0 138 0 ∧ zmu m 131 0 0 138 0 ≤ 6 := by rw [gM_0 hQ0.2.2.1]; omega
  unfold sp166
  by_cases c1 : 0 ≤ k ∧ k ≤ 2
  · rw [if_pos c1]
    by_cases c2 : m 142 k = 0
    · rw [if_pos c2, h1.2 (fun z => z.2 c2)]
      simp +contextual (disch := (first | omega | assumption | decide)) only [↓zbrT, ↓zbrF, zw310_0, zw310_1, zw310_2, zw310_3, zw310_4, zr_1, zr_3, zr_7, zr_8, zr_12, zr_13, zr_17, zr_26, zr_46, zr_62, zr_68, zr_69, zr_70, zlg_0, zlg_s, zrc_1, zrc_s, zcat_n, zcat_i, zcat_l, zcat_r, zkd_131, zkd_142, zln_142, zrf_131_21, Int.cast_ofNat_Int, Int.reduceAdd, zbd, zw_id, zmu_same, zmu_c, zmu_i, false_and, and_false, true_and, and_true, true_or, or_true, false_or, or_false, Option.toList, List.nil_append, List.cons_append, zif0, zif1, zif01, zem1, zem2, Int.reduceEq, Int.reduceLT, Int.reduceLE, Int.reduceNeg, Int.reduceSub, Int.reduceMul, if_true, if_false, not_false_eq_true, not_true_eq_false, true_implies, false_implies, Classical.not_not, Nat.reduceAdd, Nat.reduceLeDiff, zq170, if_pos c1, c2]
      exact ⟨hQ0, gZm_y hY0⟩
    · rw [if_neg c2, h1.1 ⟨c1, c2⟩]
      have hm := hW c1 c2
      have e1 : 1 + k = k + 1 := by omega
      simp +contextual (disch := (first | omega | assumption | decide)) only [↓zbrT, ↓zbrF, zw310_0, zw310_1, zw310_2, zw310_3, zw310_4, zr_1, zr_3, zr_7, zr_8, zr_12, zr_13, zr_17, zr_26, zr_46, zr_62, zr_68, zr_69, zr_70, zlg_0, zlg_s, zrc_1, zrc_s, zcat_n, zcat_i, zcat_l, zcat_r, zkd_131, zkd_142, zln_142, zrf_131_21, Int.cast_ofNat_Int, Int.reduceAdd, zbd, zw_id, zmu_same, zmu_c, zmu_i, false_and, and_false, true_and, and_true, true_or, or_true, false_or, or_false, Option.toList, List.nil_append, List.cons_append, zif0, zif1, zif01, zem1, zem2, Int.reduceEq, Int.reduceLT, Int.reduceLE, Int.reduceNeg, Int.reduceSub, Int.reduceMul, if_true, if_false, not_false_eq_true, not_true_eq_false, true_implies, false_implies, Classical.not_not, Nat.reduceAdd, Nat.reduceLeDiff, zq170, if_pos c1, c2, e1, zq201 (a := k + 1) (b := 0) (m := zmu m 131 0 0) (by omega) (by decide) (by omega)]
      have s0 : gSec 0 W (gcsm (zmu m 131 0 0) (k + 1) 0) := gSec_cp (gSec_of hm.2.2 hm.1 (fun c i hc => zmu_c (by omega))) hm.1
      have s1 := gSec_0.mp s0
      refine ⟨⟨hm.1, hm.2.1, s1.1, s1.2⟩, fun c i hc => ?_⟩
      rw [gcs_o (by omega)]
      unfold zmu
      rw [if_neg (by omega)]
  · rw [if_neg c1, h1.2 (fun z => c1 z.1)]
    simp +contextual (disch := (first | omega | assumption | decide)) only [↓zbrT, ↓zbrF, zw310_0, zw310_1, zw310_2, zw310_3, zw310_4, zr_1, zr_3, zr_7, zr_8, zr_12, zr_13, zr_17, zr_26, zr_46, zr_62, zr_68, zr_69, zr_70, zlg_0, zlg_s, zrc_1, zrc_s, zcat_n, zcat_i, zcat_l, zcat_r, zkd_131, zkd_142, zln_142, zrf_131_21, Int.cast_ofNat_Int, Int.reduceAdd, zbd, zw_id, zmu_same, zmu_c, zmu_i, false_and, and_false, true_and, and_true, true_or, or_true, false_or, or_false, Option.toList, List.nil_append, List.cons_append, zif0, zif1, zif01, zem1, zem2, Int.reduceEq, Int.reduceLT, Int.reduceLE, Int.reduceNeg, Int.reduceSub, Int.reduceMul, if_true, if_false, not_false_eq_true, not_true_eq_false, true_implies, false_implies, Classical.not_not, Nat.reduceAdd, Nat.reduceLeDiff, zq170, if_neg c1]
    exact ⟨hQ0, gZm_y hY0⟩
