/-! ===== ask, asks, quiet ===== -/
/-- the toll by which all pay most, of the first k, and what they pay -/
def gAk (V : zMm) (g : Int) : Nat → Int × Int
  | 0 => (-1, -1)
  | k + 1 => if (gAk V g k).2 < gTk (gTo V g (k + 1)) (gSn V 4) then ((k : Int) + 1, gTk (gTo V g (k + 1)) (gSn V 4)) else gAk V g k
theorem gAk_s {V : zMm} {g j : Int} (h : 1 ≤ j) : gAk V g j.toNat = if (gAk V g (j - 1).toNat).2 < gTk (gTo V g j) (gSn V 4) then (j, gTk (gTo V g j) (gSn V 4)) else gAk V g (j - 1).toNat := by
  rw [show j.toNat = (j - 1).toNat + 1 by omega]
  show (if (gAk V g (j - 1).toNat).2 < gTk (gTo V g ((((j - 1).toNat : Nat) : Int) + 1)) (gSn V 4) then ((((j - 1).toNat : Nat) : Int) + 1, gTk (gTo V g ((((j - 1).toNat : Nat) : Int) + 1)) (gSn V 4)) else gAk V g (j - 1).toNat) = _
  rw [show (((j - 1).toNat : Nat) : Int) + 1 = j by omega]
theorem gAk_ok {V : zMm} (hV : gOk V) {g : Int} : ∀ k : Nat, 1 ≤ k → k ≤ 99 → (1 ≤ (gAk V g k).1 ∧ (gAk V g k).1 ≤ k) ∧ (gAk V g k).2 = gTk (gTo V g (gAk V g k).1) (gSn V 4)
  | 0, h, _ => by omega
  | k + 1, h, h9 => by
    have e : gAk V g (k + 1) = if (gAk V g k).2 < gTk (gTo V g (k + 1)) (gSn V 4) then ((k : Int) + 1, gTk (gTo V g (k + 1)) (gSn V 4)) else gAk V g k := rfl
    have b := gTk_bd (gTo_ok hV (g := g) (t := (k : Int) + 1) (by omega)) (s := gSn V 4)
    by_cases c : (gAk V g k).2 < gTk (gTo V g (k + 1)) (gSn V 4)
    · rw [if_pos c] at e
      rw [e]
      exact ⟨⟨by show (1 : Int) ≤ k + 1; omega, by show (k : Int) + 1 ≤ ((k + 1 : Nat) : Int); omega⟩, rfl⟩
    · rw [if_neg c] at e
      rw [e]
      by_cases z : k = 0
      · subst z
        exact absurd (show (-1 : Int) < _ by omega) c
      · have i := gAk_ok hV (g := g) k (by omega) (by omega)
        exact ⟨⟨i.1.1, by omega⟩, i.2⟩
theorem gz104 {d : Nat} {m : zMm} {g : Int} {V : zMm} (hI : gI V m) (hg : 0 ≤ g ∧ g < V 0 5) (hz : zbit (gSn V 4) g = 1) : zC (d + 5) 104 [.inr (.inr 0), .inl g] m (fun r' m' => r' = some (.inl (gAk V g 99).1) ∧ gA V m' ∧ gE m m' ∧ gCo V (gSn V 4) g m') := by
  refine ze104 ?_
  have hb := gA_b hI.1
  have b4 := (gI_k hI).1.2.2.2.2.1
  simp +contextual (disch := (first | omega | assumption | decide)) only [↓zbrT, ↓zbrF, zw104_0, zw104_2, zw104_3, zw104_4, zw104_5, zr_1, zr_3, zr_4, zr_7, zr_10, zr_12, zr_53, zr_54, zr_59, zr_60, zr_68, zr_70, zr_73, zlg_0, zlg_s, zls_0, zls_1, zls_s, zkl_i, zkl_r, zkl_l, zkl_n, zrc_1, zrc_s, zcat_n, zcat_i, zcat_l, zcat_r, zkd_0, zkd_20, zkd_43, zkd_45, zkd_51, zkd_53, zkd_55, zkd_57, zkd_59, zkd_a50, zrf_0_2, zrf_0_6, Int.cast_ofNat_Int, Int.reduceAdd, zw_id, false_and, and_false, true_and, and_true, true_or, or_true, false_or, or_false, Option.toList, List.nil_append, List.cons_append, zif0, zif1, zif01, zem1, zem2, Int.reduceEq, Int.reduceLT, Int.reduceLE, Int.reduceNeg, Int.reduceSub, Int.reduceMul, if_true, if_false, not_false_eq_true, not_true_eq_false, true_implies, false_implies, Classical.not_not, Nat.reduceAdd, Nat.reduceLeDiff, gA_0 hI.1.2.1, gA_1 hI.1.2.1, gA_2 hI.1.2.1, gA_3 hI.1.2.1, gA_4 hI.1.2.1, gA_5 hI.1.2.1, gA_6 hI.1.2.1, gA_7 hI.1.2.1, gA_8 hI.1.2.1, gA_9 hI.1.2.1, gA_r0 hI.1.2.1, gA_r1 hI.1.2.1, gA_r2 hI.1.2.1, gA_r3 hI.1.2.1, gA_f0 hI.1.2.1, gA_f1 hI.1.2.1, gA_f2 hI.1.2.1, gA_f3 hI.1.2.1, gA_f4 hI.1.2.1, gA_d hI.1, gI_s0 hI, gI_s1 hI, gI_s2 hI, gI_s3 hI, gI_s4 hI, gI_s5 hI, gI_n hI]
  refine gK (gz13 hI.1 b4 (by omega)) rfl rfl (Nat.le_of_ble_eq_true rfl) ?_
  rintro _ m1 ⟨rfl, hA1, hE1, hC1⟩
  simp +contextual (disch := (first | omega | assumption | decide)) only [↓zbrT, ↓zbrF, zw104_0, zw104_2, zw104_3, zw104_4, zw104_5, zr_1, zr_3, zr_4, zr_7, zr_10, zr_12, zr_53, zr_54, zr_59, zr_60, zr_68, zr_70, zr_73, zlg_0, zlg_s, zls_0, zls_1, zls_s, zkl_i, zkl_r, zkl_l, zkl_n, zrc_1, zrc_s, zcat_n, zcat_i, zcat_l, zcat_r, zkd_0, zkd_20, zkd_43, zkd_45, zkd_51, zkd_53, zkd_55, zkd_57, zkd_59, zkd_a50, zrf_0_2, zrf_0_6, Int.cast_ofNat_Int, Int.reduceAdd, zw_id, false_and, and_false, true_and, and_true, true_or, or_true, false_or, or_false, Option.toList, List.nil_append, List.cons_append, zif0, zif1, zif01, zem1, zem2, Int.reduceEq, Int.reduceLT, Int.reduceLE, Int.reduceNeg, Int.reduceSub, Int.reduceMul, if_true, if_false, not_false_eq_true, not_true_eq_false, true_implies, false_implies, Classical.not_not, Nat.reduceAdd, Nat.reduceLeDiff]
  refine zfor 100 (fun j lc m' => 1 ≤ j ∧ (∃ x5, lc = [some (.inr (.inr 0)), some (.inl g), some (.inl (if j = 1 then 1 else (gAk V g (j - 1).toNat).1)), some (.inl (gAk V g (j - 1).toNat).2), some (.inl j), x5]) ∧ m' = m1) ?_ ?_ (i := 1) (by decide) ?_
  · rintro j lc m' hj ⟨h0, ⟨x5, rfl⟩, rfl⟩ kk
    have es := gAk_s (V := V) (g := g) h0
    rw [zw104_1]
    by_cases z : (gAk V g (j - 1).toNat).2 < gTk (gTo V g j) (gSn V 4)
    · rw [if_pos z] at es
      simp +contextual (disch := (first | omega | assumption | decide)) only [↓zbrT, ↓zbrF, zw104_0, zw104_2, zw104_3, zw104_4, zw104_5, zr_1, zr_3, zr_4, zr_7, zr_10, zr_12, zr_53, zr_54, zr_59, zr_60, zr_68, zr_70, zr_73, zlg_0, zlg_s, zls_0, zls_1, zls_s, zkl_i, zkl_r, zkl_l, zkl_n, zrc_1, zrc_s, zcat_n, zcat_i, zcat_l, zcat_r, zkd_0, zkd_20, zkd_43, zkd_45, zkd_51, zkd_53, zkd_55, zkd_57, zkd_59, zkd_a50, zrf_0_2, zrf_0_6, Int.cast_ofNat_Int, Int.reduceAdd, zw_id, false_and, and_false, true_and, and_true, true_or, or_true, false_or, or_false, Option.toList, List.nil_append, List.cons_append, zif0, zif1, zif01, zem1, zem2, Int.reduceEq, Int.reduceLT, Int.reduceLE, Int.reduceNeg, Int.reduceSub, Int.reduceMul, if_true, if_false, not_false_eq_true, not_true_eq_false, true_implies, false_implies, Classical.not_not, Nat.reduceAdd, Nat.reduceLeDiff, zq21 hA1 hC1 hg hz, z]
      exact kk _ _ ⟨by omega, ⟨some (.inl (gTk (gTo V g j) (gSn V 4))), by rw [if_neg (show ¬ j + 1 = 1 by omega), show j + 1 - 1 = j by omega, es]⟩, rfl⟩
    · rw [if_neg z] at es
      have j1 : ¬ j = 1 := by
        intro e
        subst e
        have b := gTk_bd (gTo_ok hI.1.1 (g := g) (t := 1) (by decide)) (s := gSn V 4)
        exact absurd (show (-1 : Int) < _ by omega) z
      simp +contextual (disch := (first | omega | assumption | decide)) only [↓zbrT, ↓zbrF, zw104_0, zw104_2, zw104_3, zw104_4, zw104_5, zr_1, zr_3, zr_4, zr_7, zr_10, zr_12, zr_53, zr_54, zr_59, zr_60, zr_68, zr_70, zr_73, zlg_0, zlg_s, zls_0, zls_1, zls_s, zkl_i, zkl_r, zkl_l, zkl_n, zrc_1, zrc_s, zcat_n, zcat_i, zcat_l, zcat_r, zkd_0, zkd_20, zkd_43, zkd_45, zkd_51, zkd_53, zkd_55, zkd_57, zkd_59, zkd_a50, zrf_0_2, zrf_0_6, Int.cast_ofNat_Int, Int.reduceAdd, zw_id, false_and, and_false, true_and, and_true, true_or, or_true, false_or, or_false, Option.toList, List.nil_append, List.cons_append, zif0, zif1, zif01, zem1, zem2, Int.reduceEq, Int.reduceLT, Int.reduceLE, Int.reduceNeg, Int.reduceSub, Int.reduceMul, if_true, if_false, not_false_eq_true, not_true_eq_false, true_implies, false_implies, Classical.not_not, Nat.reduceAdd, Nat.reduceLeDiff, zq21 hA1 hC1 hg hz, z, if_neg j1]
      exact kk _ _ ⟨by omega, ⟨some (.inl (gTk (gTo V g j) (gSn V 4))), by rw [if_neg (show ¬ j + 1 = 1 by omega), show j + 1 - 1 = j by omega, es]⟩, rfl⟩
  · rintro lc m' ⟨h0, ⟨x5, rfl⟩, rfl⟩
    rw [zw104_1]
    simp +contextual (disch := (first | omega | assumption | decide)) only [↓zbrT, ↓zbrF, zw104_0, zw104_2, zw104_3, zw104_4, zw104_5, zr_1, zr_3, zr_4, zr_7, zr_10, zr_12, zr_53, zr_54, zr_59, zr_60, zr_68, zr_70, zr_73, zlg_0, zlg_s, zls_0, zls_1, zls_s, zkl_i, zkl_r, zkl_l, zkl_n, zrc_1, zrc_s, zcat_n, zcat_i, zcat_l, zcat_r, zkd_0, zkd_20, zkd_43, zkd_45, zkd_51, zkd_53, zkd_55, zkd_57, zkd_59, zkd_a50, zrf_0_2, zrf_0_6, Int.cast_ofNat_Int, Int.reduceAdd, zw_id, false_and, and_false, true_and, and_true, true_or, or_true, false_or, or_false, Option.toList, List.nil_append, List.cons_append, zif0, zif1, zif01, zem1, zem2, Int.reduceEq, Int.reduceLT, Int.reduceLE, Int.reduceNeg, Int.reduceSub, Int.reduceMul, if_true, if_false, not_false_eq_true, not_true_eq_false, true_implies, false_implies, Classical.not_not, Nat.reduceAdd, Nat.reduceLeDiff]
    exact ⟨rfl, hA1, hE1, hC1⟩
  · exact ⟨by decide, ⟨_, rfl⟩, rfl⟩
def sp102 (V : zMm) (g : Int) : Int := if 0 ≤ g ∧ g < 8 ∧ zbit (gSn V 4) g = 1 then (gAk V g 99).1 else -2
def sp103 (V : zMm) (g : Int) : Int := if 0 ≤ g ∧ g < 8 ∧ zbit (gSn V 4) g = 1 then (gAk V g 99).2 else -2
theorem gz102 {d : Nat} {m : zMm} {g : Int} {V : zMm} (hI : gI V m) (hg : -2147483648 ≤ g ∧ g < 2147483648) : zC (d + 6) 102 [.inr (.inr 0), .inl g] m (fun r' m' => r' = some (.inl (sp102 V g)) ∧ gI V m' ∧ gX m m') := by
  refine ze102 ?_
  unfold sp102
  by_cases c : 0 ≤ g ∧ g < 8 ∧ zbit (gSn V 4) g = 1
  · rw [if_pos c]
    have gr := (gI_k hI).1.2.2.2.2.2.2.1 g c.1 c.2.1 c.2.2
    simp +contextual (disch := (first | omega | assumption | decide)) only [↓zbrT, ↓zbrF, zw102_0, zw102_1, zw102_2, zw102_3, zr_1, zr_3, zr_7, zr_54, zr_61, zr_68, zr_70, zr_73, zlg_0, zlg_s, zrc_1, zrc_s, zcat_n, zcat_i, zcat_l, zcat_r, zkd_0, Int.cast_ofNat_Int, Int.reduceAdd, false_and, and_false, true_and, and_true, true_or, or_true, false_or, or_false, Option.toList, List.nil_append, List.cons_append, zif0, zif1, zif01, zem1, zem2, Int.reduceEq, Int.reduceLT, Int.reduceLE, Int.reduceNeg, Int.reduceSub, Int.reduceMul, if_true, if_false, not_false_eq_true, not_true_eq_false, true_implies, false_implies, Classical.not_not, Nat.reduceAdd, Nat.reduceLeDiff, zq78 hI hg, if_pos c]
    refine gK (gz104 hI ⟨c.1, gr.1⟩ c.2.2) rfl rfl (Nat.le_of_ble_eq_true rfl) ?_
    rintro _ m1 ⟨rfl, hA1, hE1, hC1⟩
    (try simp +contextual (disch := (first | omega | assumption | decide)) only [↓zbrT, ↓zbrF, zw102_0, zw102_1, zw102_2, zw102_3, zr_1, zr_3, zr_7, zr_54, zr_61, zr_68, zr_70, zr_73, zlg_0, zlg_s, zrc_1, zrc_s, zcat_n, zcat_i, zcat_l, zcat_r, zkd_0, Int.cast_ofNat_Int, Int.reduceAdd, false_and, and_false, true_and, and_true, true_or, or_true, false_or, or_false, Option.toList, List.nil_append, List.cons_append, zif0, zif1, zif01, zem1, zem2, Int.reduceEq, Int.reduceLT, Int.reduceLE, Int.reduceNeg, Int.reduceSub, Int.reduceMul, if_true, if_false, not_false_eq_true, not_true_eq_false, true_implies, false_implies, Classical.not_not, Nat.reduceAdd, Nat.reduceLeDiff])
    (first | exact gI_e hI hA1 hE1 | exact ⟨rfl, gI_e hI hA1 hE1⟩)
  · rw [if_neg c]
    simp +contextual (disch := (first | omega | assumption | decide)) only [↓zbrT, ↓zbrF, zw102_0, zw102_1, zw102_2, zw102_3, zr_1, zr_3, zr_7, zr_54, zr_61, zr_68, zr_70, zr_73, zlg_0, zlg_s, zrc_1, zrc_s, zcat_n, zcat_i, zcat_l, zcat_r, zkd_0, Int.cast_ofNat_Int, Int.reduceAdd, false_and, and_false, true_and, and_true, true_or, or_true, false_or, or_false, Option.toList, List.nil_append, List.cons_append, zif0, zif1, zif01, zem1, zem2, Int.reduceEq, Int.reduceLT, Int.reduceLE, Int.reduceNeg, Int.reduceSub, Int.reduceMul, if_true, if_false, not_false_eq_true, not_true_eq_false, true_implies, false_implies, Classical.not_not, Nat.reduceAdd, Nat.reduceLeDiff, zq78 hI hg, if_neg c]
    (first | exact ⟨hI, gX_refl⟩ | exact ⟨rfl, hI, gX_refl⟩)
theorem gz103 {d : Nat} {m : zMm} {g : Int} {V : zMm} (hI : gI V m) (hg : -2147483648 ≤ g ∧ g < 2147483648) : zC (d + 6) 103 [.inr (.inr 0), .inl g] m (fun r' m' => r' = some (.inl (sp103 V g)) ∧ gI V m' ∧ gX m m') := by
  refine ze103 ?_
  unfold sp103
  by_cases c : 0 ≤ g ∧ g < 8 ∧ zbit (gSn V 4) g = 1
  · rw [if_pos c]
    have gr := (gI_k hI).1.2.2.2.2.2.2.1 g c.1 c.2.1 c.2.2
    have ok := gAk_ok hI.1.1 (g := g) 99 (by decide) (by decide)
    simp +contextual (disch := (first | omega | assumption | decide)) only [↓zbrT, ↓zbrF, zw103_0, zw103_1, zw103_2, zr_1, zr_3, zr_4, zr_7, zr_12, zr_62, zr_68, zr_70, zlg_0, zlg_s, zls_0, zls_1, zls_s, zkl_i, zkl_r, zkl_l, zkl_n, zrc_1, zrc_s, zcat_n, zcat_i, zcat_l, zcat_r, zkd_0, zkd_20, zrf_0_2, Int.cast_ofNat_Int, Int.reduceAdd, false_and, and_false, true_and, and_true, true_or, or_true, false_or, or_false, Option.toList, List.nil_append, List.cons_append, zif0, zif1, zif01, zem1, zem2, Int.reduceEq, Int.reduceLT, Int.reduceLE, Int.reduceNeg, Int.reduceSub, Int.reduceMul, if_true, if_false, not_false_eq_true, not_true_eq_false, true_implies, false_implies, Classical.not_not, Nat.reduceAdd, Nat.reduceLeDiff, zq78 hI hg, if_pos c]
    refine gK (gz104 hI ⟨c.1, gr.1⟩ c.2.2) rfl rfl (Nat.le_of_ble_eq_true rfl) ?_
    rintro _ m1 ⟨rfl, hA1, hE1, hC1⟩
    simp +contextual (disch := (first | omega | assumption | decide)) only [↓zbrT, ↓zbrF, zw103_0, zw103_1, zw103_2, zr_1, zr_3, zr_4, zr_7, zr_12, zr_62, zr_68, zr_70, zlg_0, zlg_s, zls_0, zls_1, zls_s, zkl_i, zkl_r, zkl_l, zkl_n, zrc_1, zrc_s, zcat_n, zcat_i, zcat_l, zcat_r, zkd_0, zkd_20, zrf_0_2, Int.cast_ofNat_Int, Int.reduceAdd, false_and, and_false, true_and, and_true, true_or, or_true, false_or, or_false, Option.toList, List.nil_append, List.cons_append, zif0, zif1, zif01, zem1, zem2, Int.reduceEq, Int.reduceLT, Int.reduceLE, Int.reduceNeg, Int.reduceSub, Int.reduceMul, if_true, if_false, not_false_eq_true, not_true_eq_false, true_implies, false_implies, Classical.not_not, Nat.reduceAdd, Nat.reduceLeDiff, zq21 hA1 hC1 ⟨c.1, gr.1⟩ c.2.2]
    rw [ok.2]
    (first | exact gI_e hI hA1 hE1 | exact ⟨rfl, gI_e hI hA1 hE1⟩)
  · rw [if_neg c]
    simp +contextual (disch := (first | omega | assumption | decide)) only [↓zbrT, ↓zbrF, zw103_0, zw103_1, zw103_2, zr_1, zr_3, zr_4, zr_7, zr_12, zr_62, zr_68, zr_70, zlg_0, zlg_s, zls_0, zls_1, zls_s, zkl_i, zkl_r, zkl_l, zkl_n, zrc_1, zrc_s, zcat_n, zcat_i, zcat_l, zcat_r, zkd_0, zkd_20, zrf_0_2, Int.cast_ofNat_Int, Int.reduceAdd, false_and, and_false, true_and, and_true, true_or, or_true, false_or, or_false, Option.toList, List.nil_append, List.cons_append, zif0, zif1, zif01, zem1, zem2, Int.reduceEq, Int.reduceLT, Int.reduceLE, Int.reduceNeg, Int.reduceSub, Int.reduceMul, if_true, if_false, not_false_eq_true, not_true_eq_false, true_implies, false_implies, Classical.not_not, Nat.reduceAdd, Nat.reduceLeDiff, zq78 hI hg, if_neg c]
    (first | exact ⟨hI, gX_refl⟩ | exact ⟨rfl, hI, gX_refl⟩)
/-- the greatest toll of the first k by which nobody is angry -/
def gQu (V : zMm) (g : Int) : Nat → Int
  | 0 => -1
  | k + 1 => if gAg (gTo V g (k + 1)) (gSn V 4) (V 0 6).toNat = 0 then (k : Int) + 1 else gQu V g k
theorem gQu_s {V : zMm} {g j : Int} (h : 1 ≤ j) : gQu V g j.toNat = if gAg (gTo V g j) (gSn V 4) (V 0 6).toNat = 0 then j else gQu V g (j - 1).toNat := by
  rw [show j.toNat = (j - 1).toNat + 1 by omega]
  show (if gAg (gTo V g ((((j - 1).toNat : Nat) : Int) + 1)) (gSn V 4) (V 0 6).toNat = 0 then (((j - 1).toNat : Nat) : Int) + 1 else gQu V g (j - 1).toNat) = _
  rw [show (((j - 1).toNat : Nat) : Int) + 1 = j by omega]
theorem gAn_Ag {V : zMm} (hV : gOk V) {s : Int} : gAn V s (V 0 6).toNat = -1 ↔ gAg V s (V 0 6).toNat = 0 := by
  have hb := hV.1
  have key : ∀ f : Nat, f < (V 0 6).toNat → (vF V f 3 < max 0 (gFa V s f) ↔ vF V f 3 < gFa V s f) := fun f hf => by
    have := hV.2.2 f (by omega) (by omega)
    omega
  unfold gAn gAg
  rw [gBt_0 (by omega)]
  constructor
  · intro h j hj z
    exact gFst_none _ h j hj ((key j hj).mpr z)
  · intro h
    by_cases c : gFst (fun f => vF V f 3 < max 0 (gFa V s f)) (V 0 6).toNat = -1
    · exact c
    · obtain ⟨r, r1, _, r3, _⟩ := gFst_some _ c
      exact absurd ((key r r1).mp r3) (h r r1)
def sp105 (V : zMm) (g : Int) : Int := if 0 ≤ g ∧ g < 8 ∧ zbit (gSn V 4) g = 1 then gQu V g 99 else -2
theorem gz105 {d : Nat} {m : zMm} {g : Int} {V : zMm} (hI : gI V m) (hg : -2147483648 ≤ g ∧ g < 2147483648) : zC (d + 5) 105 [.inr (.inr 0), .inl g] m (fun r' m' => r' = some (.inl (sp105 V g)) ∧ gI V m' ∧ gX m m') := by
  refine ze105 ?_
  have hb := gA_b hI.1
  have b4 := (gI_k hI).1.2.2.2.2.1
  unfold sp105
  by_cases c : 0 ≤ g ∧ g < 8 ∧ zbit (gSn V 4) g = 1
  · rw [if_pos c]
    have gr := (gI_k hI).1.2.2.2.2.2.2.1 g c.1 c.2.1 c.2.2
    simp +contextual (disch := (first | omega | assumption | decide)) only [↓zbrT, ↓zbrF, zw105_0, zw105_1, zw105_2, zw105_4, zw105_5, zw105_6, zw105_7, zr_1, zr_3, zr_4, zr_7, zr_10, zr_12, zr_53, zr_54, zr_57, zr_62, zr_68, zr_70, zr_73, zlg_0, zlg_s, zls_0, zls_1, zls_s, zkl_i, zkl_r, zkl_l, zkl_n, zrc_1, zrc_s, zcat_n, zcat_i, zcat_l, zcat_r, zkd_0, zkd_20, zkd_43, zkd_45, zkd_51, zkd_53, zkd_55, zkd_57, zkd_59, zkd_a50, zrf_0_2, zrf_0_6, Int.cast_ofNat_Int, Int.reduceAdd, zw_id, false_and, and_false, true_and, and_true, true_or, or_true, false_or, or_false, Option.toList, List.nil_append, List.cons_append, zif0, zif1, zif01, zem1, zem2, Int.reduceEq, Int.reduceLT, Int.reduceLE, Int.reduceNeg, Int.reduceSub, Int.reduceMul, if_true, if_false, not_false_eq_true, not_true_eq_false, true_implies, false_implies, Classical.not_not, Nat.reduceAdd, Nat.reduceLeDiff, zq78 hI hg, if_pos c, gA_0 hI.1.2.1, gA_1 hI.1.2.1, gA_2 hI.1.2.1, gA_3 hI.1.2.1, gA_4 hI.1.2.1, gA_5 hI.1.2.1, gA_6 hI.1.2.1, gA_7 hI.1.2.1, gA_8 hI.1.2.1, gA_9 hI.1.2.1, gA_r0 hI.1.2.1, gA_r1 hI.1.2.1, gA_r2 hI.1.2.1, gA_r3 hI.1.2.1, gA_f0 hI.1.2.1, gA_f1 hI.1.2.1, gA_f2 hI.1.2.1, gA_f3 hI.1.2.1, gA_f4 hI.1.2.1, gA_d hI.1, gI_s0 hI, gI_s1 hI, gI_s2 hI, gI_s3 hI, gI_s4 hI, gI_s5 hI, gI_n hI]
    refine gK (gz13 hI.1 b4 (by omega)) rfl rfl (Nat.le_of_ble_eq_true rfl) ?_
    rintro _ m1 ⟨rfl, hA1, hE1, hC1⟩
    simp +contextual (disch := (first | omega | assumption | decide)) only [↓zbrT, ↓zbrF, zw105_0, zw105_1, zw105_2, zw105_4, zw105_5, zw105_6, zw105_7, zr_1, zr_3, zr_4, zr_7, zr_10, zr_12, zr_53, zr_54, zr_57, zr_62, zr_68, zr_70, zr_73, zlg_0, zlg_s, zls_0, zls_1, zls_s, zkl_i, zkl_r, zkl_l, zkl_n, zrc_1, zrc_s, zcat_n, zcat_i, zcat_l, zcat_r, zkd_0, zkd_20, zkd_43, zkd_45, zkd_51, zkd_53, zkd_55, zkd_57, zkd_59, zkd_a50, zrf_0_2, zrf_0_6, Int.cast_ofNat_Int, Int.reduceAdd, zw_id, false_and, and_false, true_and, and_true, true_or, or_true, false_or, or_false, Option.toList, List.nil_append, List.cons_append, zif0, zif1, zif01, zem1, zem2, Int.reduceEq, Int.reduceLT, Int.reduceLE, Int.reduceNeg, Int.reduceSub, Int.reduceMul, if_true, if_false, not_false_eq_true, not_true_eq_false, true_implies, false_implies, Classical.not_not, Nat.reduceAdd, Nat.reduceLeDiff]
    refine zfor 99 (fun i lc m' => 0 ≤ i ∧ lc = [some (.inr (.inr 0)), some (.inl g), some (.inl (99 - i))] ∧ m' = m1 ∧ gQu V g 99 = gQu V g (99 - i).toNat) ?_ ?_ (i := 0) (by decide) ?_
    · rintro i lc m' hi ⟨h0, rfl, rfl, hq⟩ kk
      have es := gQu_s (V := V) (g := g) (j := 99 - i) (by omega)
      have ea := gAn_Ag (gTo_ok hI.1.1 (g := g) (t := 99 - i) (by omega)) (s := gSn V 4)
      rw [gTo_0] at ea
      rw [zw105_3]
      by_cases z : gAg (gTo V g (99 - i)) (gSn V 4) (V 0 6).toNat = 0
      · have z' := ea.mpr z
        rw [if_pos z] at es
        simp +contextual (disch := (first | omega | assumption | decide)) only [↓zbrT, ↓zbrF, zw105_0, zw105_1, zw105_2, zw105_4, zw105_5, zw105_6, zw105_7, zr_1, zr_3, zr_4, zr_7, zr_10, zr_12, zr_53, zr_54, zr_57, zr_62, zr_68, zr_70, zr_73, zlg_0, zlg_s, zls_0, zls_1, zls_s, zkl_i, zkl_r, zkl_l, zkl_n, zrc_1, zrc_s, zcat_n, zcat_i, zcat_l, zcat_r, zkd_0, zkd_20, zkd_43, zkd_45, zkd_51, zkd_53, zkd_55, zkd_57, zkd_59, zkd_a50, zrf_0_2, zrf_0_6, Int.cast_ofNat_Int, Int.reduceAdd, zw_id, false_and, and_false, true_and, and_true, true_or, or_true, false_or, or_false, Option.toList, List.nil_append, List.cons_append, zif0, zif1, zif01, zem1, zem2, Int.reduceEq, Int.reduceLT, Int.reduceLE, Int.reduceNeg, Int.reduceSub, Int.reduceMul, if_true, if_false, not_false_eq_true, not_true_eq_false, true_implies, false_implies, Classical.not_not, Nat.reduceAdd, Nat.reduceLeDiff, zq22 hA1 hC1 ⟨c.1, gr.1⟩ c.2.2, if_pos z']
        rw [hq, es]
        (first | exact gI_e hI hA1 hE1 | exact ⟨rfl, gI_e hI hA1 hE1⟩)
      · have z' : ¬ gAn (gTo V g (99 - i)) (gSn V 4) (V 0 6).toNat = -1 := fun y => z (ea.mp y)
        rw [if_neg z] at es
        simp +contextual (disch := (first | omega | assumption | decide)) only [↓zbrT, ↓zbrF, zw105_0, zw105_1, zw105_2, zw105_4, zw105_5, zw105_6, zw105_7, zr_1, zr_3, zr_4, zr_7, zr_10, zr_12, zr_53, zr_54, zr_57, zr_62, zr_68, zr_70, zr_73, zlg_0, zlg_s, zls_0, zls_1, zls_s, zkl_i, zkl_r, zkl_l, zkl_n, zrc_1, zrc_s, zcat_n, zcat_i, zcat_l, zcat_r, zkd_0, zkd_20, zkd_43, zkd_45, zkd_51, zkd_53, zkd_55, zkd_57, zkd_59, zkd_a50, zrf_0_2, zrf_0_6, Int.cast_ofNat_Int, Int.reduceAdd, zw_id, false_and, and_false, true_and, and_true, true_or, or_true, false_or, or_false, Option.toList, List.nil_append, List.cons_append, zif0, zif1, zif01, zem1, zem2, Int.reduceEq, Int.reduceLT, Int.reduceLE, Int.reduceNeg, Int.reduceSub, Int.reduceMul, if_true, if_false, not_false_eq_true, not_true_eq_false, true_implies, false_implies, Classical.not_not, Nat.reduceAdd, Nat.reduceLeDiff, zq22 hA1 hC1 ⟨c.1, gr.1⟩ c.2.2, if_neg z']
        refine kk _ _ ⟨by omega, ?_, rfl, ?_⟩
        · rw [show 99 - i + -1 = 99 - (i + 1) by omega]
        · rw [hq, es, show 99 - i - 1 = 99 - (i + 1) by omega]
    · rintro lc m' ⟨h0, rfl, rfl, hq⟩
      rw [zw105_3]
      simp +contextual (disch := (first | omega | assumption | decide)) only [↓zbrT, ↓zbrF, zw105_0, zw105_1, zw105_2, zw105_4, zw105_5, zw105_6, zw105_7, zr_1, zr_3, zr_4, zr_7, zr_10, zr_12, zr_53, zr_54, zr_57, zr_62, zr_68, zr_70, zr_73, zlg_0, zlg_s, zls_0, zls_1, zls_s, zkl_i, zkl_r, zkl_l, zkl_n, zrc_1, zrc_s, zcat_n, zcat_i, zcat_l, zcat_r, zkd_0, zkd_20, zkd_43, zkd_45, zkd_51, zkd_53, zkd_55, zkd_57, zkd_59, zkd_a50, zrf_0_2, zrf_0_6, Int.cast_ofNat_Int, Int.reduceAdd, zw_id, false_and, and_false, true_and, and_true, true_or, or_true, false_or, or_false, Option.toList, List.nil_append, List.cons_append, zif0, zif1, zif01, zem1, zem2, Int.reduceEq, Int.reduceLT, Int.reduceLE, Int.reduceNeg, Int.reduceSub, Int.reduceMul, if_true, if_false, not_false_eq_true, not_true_eq_false, true_implies, false_implies, Classical.not_not, Nat.reduceAdd, Nat.reduceLeDiff]
      rw [hq]
      (first | exact gI_e hI hA1 hE1 | exact ⟨rfl, gI_e hI hA1 hE1⟩)
    · exact ⟨by decide, rfl, rfl, rfl⟩
  · rw [if_neg c]
    simp +contextual (disch := (first | omega | assumption | decide)) only [↓zbrT, ↓zbrF, zw105_0, zw105_1, zw105_2, zw105_4, zw105_5, zw105_6, zw105_7, zr_1, zr_3, zr_4, zr_7, zr_10, zr_12, zr_53, zr_54, zr_57, zr_62, zr_68, zr_70, zr_73, zlg_0, zlg_s, zls_0, zls_1, zls_s, zkl_i, zkl_r, zkl_l, zkl_n, zrc_1, zrc_s, zcat_n, zcat_i, zcat_l, zcat_r, zkd_0, zkd_20, zkd_43, zkd_45, zkd_51, zkd_53, zkd_55, zkd_57, zkd_59, zkd_a50, zrf_0_2, zrf_0_6, Int.cast_ofNat_Int, Int.reduceAdd, zw_id, false_and, and_false, true_and, and_true, true_or, or_true, false_or, or_false, Option.toList, List.nil_append, List.cons_append, zif0, zif1, zif01, zem1, zem2, Int.reduceEq, Int.reduceLT, Int.reduceLE, Int.reduceNeg, Int.reduceSub, Int.reduceMul, if_true, if_false, not_false_eq_true, not_true_eq_false, true_implies, false_implies, Classical.not_not, Nat.reduceAdd, Nat.reduceLeDiff, zq78 hI hg, if_neg c]
    (first | exact ⟨hI, gX_refl⟩ | exact ⟨rfl, hI, gX_refl⟩)
/-- alike but for the search of ways, one toll, and what asking keeps -/
def gEa (g : Int) (m m' : zMm) : Prop := ∀ c i, c ≠ 143 ∧ c ≠ 144 ∧ (c ≠ 131 ∨ i < 24 ∨ (26 < i ∧ i ≠ 36)) ∧ (c ≠ 139 ∨ i ≠ 4 * g + 3) → m' c i = m c i
theorem gMo_to {V m m' : zMm} {g n : Int} (hM : gMo V m) (hE : gEa g m m') (hg : 0 ≤ g ∧ g < V 0 5) : gMo (gTo V g n) (zmu m' 139 (4 * g + 3) n) := by
  refine ⟨?_, fun r a b => ?_, fun f a b => ?_⟩
  · simp only [gTo_0, zmu_c (show (138 : Int) ≠ 139 by decide), zmu_c (show (137 : Int) ≠ 139 by decide)]
    rw [hE 138 0 (by omega), hE 138 1 (by omega), hE 138 2 (by omega), hE 138 3 (by omega), hE 138 4 (by omega), hE 138 5 (by omega), hE 138 6 (by omega), hE 138 7 (by omega), hE 138 8 (by omega), hE 138 9 (by omega), hE 137 0 (by omega)]
    exact hM.1
  · rw [gTo_0] at b
    have q := hM.2.1 r a b
    rw [gTo_A, gTo_B, gTo_M, gTo_T, zmu_i (by omega), zmu_i (by omega), zmu_i (by omega), hE 139 (4 * r) (by omega), hE 139 (4 * r + 1) (by omega), hE 139 (4 * r + 2) (by omega)]
    refine ⟨q.1, q.2.1, q.2.2.1, ?_⟩
    by_cases z : r = g
    · rw [if_pos z, z, zmu_same]
    · rw [if_neg z, zmu_i (by omega), hE 139 (4 * r + 3) (by omega)]
      exact q.2.2.2
  · rw [gTo_0] at b
    have q := hM.2.2 f a b
    simp only [gTo_F, zmu_c (show (140 : Int) ≠ 139 by decide)]
    rw [hE 140 (5 * f) (by omega), hE 140 (5 * f + 1) (by omega), hE 140 (5 * f + 2) (by omega), hE 140 (5 * f + 3) (by omega), hE 140 (5 * f + 4) (by omega)]
    exact q
theorem gEa_y {V m m' : zMm} {g : Int} (hM : gMo V m) (hE : gEa g m m') (hg : 0 ≤ g ∧ g < V 0 5) : gY m (zmu m' 139 (4 * g + 3) (vT V g)) := fun c i hc => by
  unfold zmu
  by_cases z : c = 139 ∧ i = 4 * g + 3
  · rw [if_pos z, z.1, z.2]; exact (hM.2.1 g hg.1 hg.2).2.2.2.symm
  · rw [if_neg z]; exact hE c i (by omega)
theorem gEa_w {g n : Int} {m m' m'' : zMm} (hE : gEa g m m') (hW : gEw (zmu m' 139 (4 * g + 3) n) m'') : gEa g m m'' := fun c i hc => by
  rw [hW c i (by omega)]
  unfold zmu
  rw [if_neg (by omega)]
  exact hE c i hc
theorem gz243 {d : Nat} {m : zMm} {g : Int} {V : zMm} (hV : gOk V) (hM : gMo V m) (hL : gL V (gSn V) m) (hs : 0 ≤ gSn V 4 ∧ gSn V 4 < 256) (hg : 0 ≤ g ∧ g < V 0 5) (hz : zbit (gSn V 4) g = 1) : zC (d + 12) 243 [.inr (.inr 131), .inl g] m (fun r' m' => r' = some (.inl (gAk V g 99).1) ∧ m' 131 36 = (gAk V g 99).2 ∧ gY m m') := by
  refine ze243 ?_
  have hb := hV.1
  simp +contextual (disch := (first | omega | assumption | decide)) only [↓zbrT, ↓zbrF, zw243_0, zw243_2, zw243_3, zw243_4, zw243_5, zw243_6, zr_1, zr_3, zr_4, zr_7, zr_10, zr_12, zr_13, zr_16, zr_21, zr_26, zr_28, zr_53, zr_54, zr_59, zr_68, zr_70, zr_73, zlg_0, zlg_s, zls_0, zls_1, zls_s, zkl_i, zkl_r, zkl_l, zkl_n, zrc_1, zrc_s, zcat_n, zcat_i, zcat_l, zcat_r, zkd_131, zkd_139, zln_139, zrf_131_18, Int.cast_ofNat_Int, Int.reduceAdd, zbd, zw_id, zmu_same, zmu_c, zmu_i, false_and, and_false, true_and, and_true, true_or, or_true, false_or, or_false, Option.toList, List.nil_append, List.cons_append, zif0, zif1, zif01, zem1, zem2, Int.reduceEq, Int.reduceLT, Int.reduceLE, Int.reduceNeg, Int.reduceSub, Int.reduceMul, if_true, if_false, not_false_eq_true, not_true_eq_false, true_implies, false_implies, Classical.not_not, Nat.reduceAdd, Nat.reduceLeDiff, gM_0 hM, gM_1 hM, gM_2 hM, gM_3 hM, gM_4 hM, gM_5 hM, gM_6 hM, gM_7 hM, gM_8 hM, gM_9 hM, gM_10 hM, gM_r0 hM, gM_r1 hM, gM_r2 hM, gM_r3 hM, gM_f0 hM, gM_f1 hM, gM_f2 hM, gM_f3 hM, gM_f4 hM]
  refine zfor 100 (fun j lc m' => 1 ≤ j ∧ (∃ x5, lc = [some (.inr (.inr 131)), some (.inl g), some (.inl (vT V g)), some (.inl (gAk V g (j - 1).toNat).1), some (.inl j), x5]) ∧ gEa g m m' ∧ m' 131 36 = (gAk V g (j - 1).toNat).2) ?_ ?_ (i := 1) (by decide) ?_
  · rintro j lc m' hj ⟨h0, ⟨x5, rfl⟩, hE, hl⟩ kk
    have es := gAk_s (V := V) (g := g) h0
    have hM1 := gMo_to (n := j) hM hE hg
    have hg1 : m' 131 28 = gSn V 4 := by rw [hE 131 28 (by omega)]; exact gL_4 hL
    rw [zw243_1]
    simp +contextual (disch := (first | omega | assumption | decide)) only [↓zbrT, ↓zbrF, zw243_0, zw243_2, zw243_3, zw243_4, zw243_5, zw243_6, zr_1, zr_3, zr_4, zr_7, zr_10, zr_12, zr_13, zr_16, zr_21, zr_26, zr_28, zr_53, zr_54, zr_59, zr_68, zr_70, zr_73, zlg_0, zlg_s, zls_0, zls_1, zls_s, zkl_i, zkl_r, zkl_l, zkl_n, zrc_1, zrc_s, zcat_n, zcat_i, zcat_l, zcat_r, zkd_131, zkd_139, zln_139, zrf_131_18, Int.cast_ofNat_Int, Int.reduceAdd, zbd, zw_id, zmu_same, zmu_c, zmu_i, false_and, and_false, true_and, and_true, true_or, or_true, false_or, or_false, Option.toList, List.nil_append, List.cons_append, zif0, zif1, zif01, zem1, zem2, Int.reduceEq, Int.reduceLT, Int.reduceLE, Int.reduceNeg, Int.reduceSub, Int.reduceMul, if_true, if_false, not_false_eq_true, not_true_eq_false, true_implies, false_implies, Classical.not_not, Nat.reduceAdd, Nat.reduceLeDiff, hg1]
    refine gK (gz214 (gTo_ok hV (g := g) (t := j) (by omega)) hM1 hs) rfl rfl (Nat.le_of_ble_eq_true rfl) ?_
    rintro _ m2 ⟨rfl, hW⟩
    have hE2 := gEa_w hE hW
    have hl2 : m2 131 36 = (gAk V g (j - 1).toNat).2 := by rw [hW 131 36 (by omega), zmu_c (by decide)]; exact hl
    by_cases z : (gAk V g (j - 1).toNat).2 < gTk (gTo V g j) (gSn V 4)
    · rw [if_pos z] at es
      simp +contextual (disch := (first | omega | assumption | decide)) only [↓zbrT, ↓zbrF, zw243_0, zw243_2, zw243_3, zw243_4, zw243_5, zw243_6, zr_1, zr_3, zr_4, zr_7, zr_10, zr_12, zr_13, zr_16, zr_21, zr_26, zr_28, zr_53, zr_54, zr_59, zr_68, zr_70, zr_73, zlg_0, zlg_s, zls_0, zls_1, zls_s, zkl_i, zkl_r, zkl_l, zkl_n, zrc_1, zrc_s, zcat_n, zcat_i, zcat_l, zcat_r, zkd_131, zkd_139, zln_139, zrf_131_18, Int.cast_ofNat_Int, Int.reduceAdd, zbd, zw_id, zmu_same, zmu_c, zmu_i, false_and, and_false, true_and, and_true, true_or, or_true, false_or, or_false, Option.toList, List.nil_append, List.cons_append, zif0, zif1, zif01, zem1, zem2, Int.reduceEq, Int.reduceLT, Int.reduceLE, Int.reduceNeg, Int.reduceSub, Int.reduceMul, if_true, if_false, not_false_eq_true, not_true_eq_false, true_implies, false_implies, Classical.not_not, Nat.reduceAdd, Nat.reduceLeDiff, hl2, z]
      refine kk _ _ ⟨by omega, ⟨some (.inl (gTk (gTo V g j) (gSn V 4))), by rw [show j + 1 - 1 = j by omega, es]⟩, fun c i hc => ?_, by rw [zmu_same, show j + 1 - 1 = j by omega, es]⟩
      unfold zmu
      rw [if_neg (by omega)]; exact hE2 c i hc
    · rw [if_neg z] at es
      simp +contextual (disch := (first | omega | assumption | decide)) only [↓zbrT, ↓zbrF, zw243_0, zw243_2, zw243_3, zw243_4, zw243_5, zw243_6, zr_1, zr_3, zr_4, zr_7, zr_10, zr_12, zr_13, zr_16, zr_21, zr_26, zr_28, zr_53, zr_54, zr_59, zr_68, zr_70, zr_73, zlg_0, zlg_s, zls_0, zls_1, zls_s, zkl_i, zkl_r, zkl_l, zkl_n, zrc_1, zrc_s, zcat_n, zcat_i, zcat_l, zcat_r, zkd_131, zkd_139, zln_139, zrf_131_18, Int.cast_ofNat_Int, Int.reduceAdd, zbd, zw_id, zmu_same, zmu_c, zmu_i, false_and, and_false, true_and, and_true, true_or, or_true, false_or, or_false, Option.toList, List.nil_append, List.cons_append, zif0, zif1, zif01, zem1, zem2, Int.reduceEq, Int.reduceLT, Int.reduceLE, Int.reduceNeg, Int.reduceSub, Int.reduceMul, if_true, if_false, not_false_eq_true, not_true_eq_false, true_implies, false_implies, Classical.not_not, Nat.reduceAdd, Nat.reduceLeDiff, hl2, z]
      exact kk _ _ ⟨by omega, ⟨some (.inl (gTk (gTo V g j) (gSn V 4))), by rw [show j + 1 - 1 = j by omega, es]⟩, hE2, by rw [show j + 1 - 1 = j by omega, es]; exact hl2⟩
  · rintro lc m' ⟨h0, ⟨x5, rfl⟩, hE, hl⟩
    rw [zw243_1]
    simp +contextual (disch := (first | omega | assumption | decide)) only [↓zbrT, ↓zbrF, zw243_0, zw243_2, zw243_3, zw243_4, zw243_5, zw243_6, zr_1, zr_3, zr_4, zr_7, zr_10, zr_12, zr_13, zr_16, zr_21, zr_26, zr_28, zr_53, zr_54, zr_59, zr_68, zr_70, zr_73, zlg_0, zlg_s, zls_0, zls_1, zls_s, zkl_i, zkl_r, zkl_l, zkl_n, zrc_1, zrc_s, zcat_n, zcat_i, zcat_l, zcat_r, zkd_131, zkd_139, zln_139, zrf_131_18, Int.cast_ofNat_Int, Int.reduceAdd, zbd, zw_id, zmu_same, zmu_c, zmu_i, false_and, and_false, true_and, and_true, true_or, or_true, false_or, or_false, Option.toList, List.nil_append, List.cons_append, zif0, zif1, zif01, zem1, zem2, Int.reduceEq, Int.reduceLT, Int.reduceLE, Int.reduceNeg, Int.reduceSub, Int.reduceMul, if_true, if_false, not_false_eq_true, not_true_eq_false, true_implies, false_implies, Classical.not_not, Nat.reduceAdd, Nat.reduceLeDiff]
    exact ⟨rfl, hl, gEa_y hM hE hg⟩
  · exact ⟨by decide, ⟨_, rfl⟩, fun c i hc => by unfold zmu; rw [if_neg (by omega)], zmu_same⟩
theorem gz244 {d : Nat} {m : zMm} {g : Int} {V : zMm} (hQ : gQ V m) : zC (d + 15) 244 [.inr (.inr 131), .inl g] m (fun r' m' => r' = some (.inl (sp102 V g)) ∧ gY m m') := by
  refine ze244 ?_
  have hb := hQ.1.1
  have hY0 : gY m (zmu m 131 0 0) := gY_u (by decide)
  have hQ0 := gQ_y hQ hY0
  have h5 : 0 ≤ zmu m 131 0 0 138 5 ∧ zmu m 131 0 0 138 5 ≤ 8 := by rw [gM_5 hQ0.2.2.1]; omega
  have h6 : 0 ≤ zmu m 131 0 0 138 6 ∧ zmu m 131 0 0 138 6 ≤ 6 := by rw [gM_6 hQ0.2.2.1]; omega
  have h0 : 0 ≤ zmu m 131 0 0 138 0 ∧ zmu m 131 0 0 138 0 ≤ 6 := by rw [gM_0 hQ0.2.2.1]; omega
  have hk := gSk hQ
  unfold sp102
  simp +contextual (disch := (first | omega | assumption | decide)) only [↓zbrT, ↓zbrF, zw244_0, zw244_1, zw244_2, zw244_3, zr_1, zr_3, zr_7, zr_13, zr_54, zr_61, zr_68, zr_70, zr_73, zlg_0, zlg_s, zrc_1, zrc_s, zcat_n, zcat_i, zcat_l, zcat_r, zkd_131, Int.cast_ofNat_Int, Int.reduceAdd, zmu_same, zmu_c, zmu_i, false_and, and_false, true_and, and_true, true_or, or_true, false_or, or_false, Option.toList, List.nil_append, List.cons_append, zif0, zif1, zif01, zem1, zem2, Int.reduceEq, Int.reduceLT, Int.reduceLE, Int.reduceNeg, Int.reduceSub, Int.reduceMul, if_true, if_false, not_false_eq_true, not_true_eq_false, true_implies, false_implies, Classical.not_not, Nat.reduceAdd, Nat.reduceLeDiff]
  by_cases c : 0 ≤ g ∧ g < 8 ∧ zbit (gSn V 4) g = 1
  · rw [if_pos c]
    have gr := hk.2.2.2.2.2.2.1 g c.1 c.2.1 c.2.2
    refine gK (gz235t hQ0 c) rfl rfl (Nat.le_of_ble_eq_true rfl) ?_
    rintro _ m1 ⟨rfl, hL, hY⟩
    have hQ1 := gQ_y hQ0 hY
    simp +contextual (disch := (first | omega | assumption | decide)) only [↓zbrT, ↓zbrF, zw244_0, zw244_1, zw244_2, zw244_3, zr_1, zr_3, zr_7, zr_13, zr_54, zr_61, zr_68, zr_70, zr_73, zlg_0, zlg_s, zrc_1, zrc_s, zcat_n, zcat_i, zcat_l, zcat_r, zkd_131, Int.cast_ofNat_Int, Int.reduceAdd, zmu_same, zmu_c, zmu_i, false_and, and_false, true_and, and_true, true_or, or_true, false_or, or_false, Option.toList, List.nil_append, List.cons_append, zif0, zif1, zif01, zem1, zem2, Int.reduceEq, Int.reduceLT, Int.reduceLE, Int.reduceNeg, Int.reduceSub, Int.reduceMul, if_true, if_false, not_false_eq_true, not_true_eq_false, true_implies, false_implies, Classical.not_not, Nat.reduceAdd, Nat.reduceLeDiff]
    refine gK (gz243 hQ.1 hQ1.2.2.1 hL hk.2.2.2.2.1 ⟨c.1, gr.1⟩ c.2.2) rfl rfl (Nat.le_of_ble_eq_true rfl) ?_
    rintro _ m2 ⟨rfl, hl, hY2⟩
    (try simp +contextual (disch := (first | omega | assumption | decide)) only [↓zbrT, ↓zbrF, zw244_0, zw244_1, zw244_2, zw244_3, zr_1, zr_3, zr_7, zr_13, zr_54, zr_61, zr_68, zr_70, zr_73, zlg_0, zlg_s, zrc_1, zrc_s, zcat_n, zcat_i, zcat_l, zcat_r, zkd_131, Int.cast_ofNat_Int, Int.reduceAdd, zmu_same, zmu_c, zmu_i, false_and, and_false, true_and, and_true, true_or, or_true, false_or, or_false, Option.toList, List.nil_append, List.cons_append, zif0, zif1, zif01, zem1, zem2, Int.reduceEq, Int.reduceLT, Int.reduceLE, Int.reduceNeg, Int.reduceSub, Int.reduceMul, if_true, if_false, not_false_eq_true, not_true_eq_false, true_implies, false_implies, Classical.not_not, Nat.reduceAdd, Nat.reduceLeDiff])
    have fin := gY_tr (gY_tr hY0 hY) hY2
    (first | exact fin | exact ⟨rfl, fin⟩)
  · rw [if_neg c]
    refine gK (gz235f hQ0 c) rfl rfl (Nat.le_of_ble_eq_true rfl) ?_
    rintro _ m1 ⟨rfl, hY⟩
    (try simp +contextual (disch := (first | omega | assumption | decide)) only [↓zbrT, ↓zbrF, zw244_0, zw244_1, zw244_2, zw244_3, zr_1, zr_3, zr_7, zr_13, zr_54, zr_61, zr_68, zr_70, zr_73, zlg_0, zlg_s, zrc_1, zrc_s, zcat_n, zcat_i, zcat_l, zcat_r, zkd_131, Int.cast_ofNat_Int, Int.reduceAdd, zmu_same, zmu_c, zmu_i, false_and, and_false, true_and, and_true, true_or, or_true, false_or, or_false, Option.toList, List.nil_append, List.cons_append, zif0, zif1, zif01, zem1, zem2, Int.reduceEq, Int.reduceLT, Int.reduceLE, Int.reduceNeg, Int.reduceSub, Int.reduceMul, if_true, if_false, not_false_eq_true, not_true_eq_false, true_implies, false_implies, Classical.not_not, Nat.reduceAdd, Nat.reduceLeDiff])
    have fin := gY_tr hY0 hY
    (first | exact fin | exact ⟨rfl, fin⟩)
theorem gz245 {d : Nat} {m : zMm} {g : Int} {V : zMm} (hQ : gQ V m) : zC (d + 15) 245 [.inr (.inr 131), .inl g] m (fun r' m' => r' = some (.inl (sp103 V g)) ∧ gY m m') := by
  refine ze245 ?_
  have hb := hQ.1.1
  have hY0 : gY m (zmu m 131 0 0) := gY_u (by decide)
  have hQ0 := gQ_y hQ hY0
  have h5 : 0 ≤ zmu m 131 0 0 138 5 ∧ zmu m 131 0 0 138 5 ≤ 8 := by rw [gM_5 hQ0.2.2.1]; omega
  have h6 : 0 ≤ zmu m 131 0 0 138 6 ∧ zmu m 131 0 0 138 6 ≤ 6 := by rw [gM_6 hQ0.2.2.1]; omega
  have h0 : 0 ≤ zmu m 131 0 0 138 0 ∧ zmu m 131 0 0 138 0 ≤ 6 := by rw [gM_0 hQ0.2.2.1]; omega
  have hk := gSk hQ
  unfold sp103
  simp +contextual (disch := (first | omega | assumption | decide)) only [↓zbrT, ↓zbrF, zw245_0, zw245_1, zw245_2, zr_1, zr_3, zr_7, zr_10, zr_13, zr_52, zr_62, zr_68, zr_70, zlg_0, zlg_s, zrc_1, zrc_s, zcat_n, zcat_i, zcat_l, zcat_r, zkd_131, Int.cast_ofNat_Int, Int.reduceAdd, zmu_same, zmu_c, zmu_i, false_and, and_false, true_and, and_true, true_or, or_true, false_or, or_false, Option.toList, List.nil_append, List.cons_append, zif0, zif1, zif01, zem1, zem2, Int.reduceEq, Int.reduceLT, Int.reduceLE, Int.reduceNeg, Int.reduceSub, Int.reduceMul, if_true, if_false, not_false_eq_true, not_true_eq_false, true_implies, false_implies, Classical.not_not, Nat.reduceAdd, Nat.reduceLeDiff]
  by_cases c : 0 ≤ g ∧ g < 8 ∧ zbit (gSn V 4) g = 1
  · rw [if_pos c]
    have gr := hk.2.2.2.2.2.2.1 g c.1 c.2.1 c.2.2
    refine gK (gz235t hQ0 c) rfl rfl (Nat.le_of_ble_eq_true rfl) ?_
    rintro _ m1 ⟨rfl, hL, hY⟩
    have hQ1 := gQ_y hQ0 hY
    simp +contextual (disch := (first | omega | assumption | decide)) only [↓zbrT, ↓zbrF, zw245_0, zw245_1, zw245_2, zr_1, zr_3, zr_7, zr_10, zr_13, zr_52, zr_62, zr_68, zr_70, zlg_0, zlg_s, zrc_1, zrc_s, zcat_n, zcat_i, zcat_l, zcat_r, zkd_131, Int.cast_ofNat_Int, Int.reduceAdd, zmu_same, zmu_c, zmu_i, false_and, and_false, true_and, and_true, true_or, or_true, false_or, or_false, Option.toList, List.nil_append, List.cons_append, zif0, zif1, zif01, zem1, zem2, Int.reduceEq, Int.reduceLT, Int.reduceLE, Int.reduceNeg, Int.reduceSub, Int.reduceMul, if_true, if_false, not_false_eq_true, not_true_eq_false, true_implies, false_implies, Classical.not_not, Nat.reduceAdd, Nat.reduceLeDiff]
    refine gK (gz243 hQ.1 hQ1.2.2.1 hL hk.2.2.2.2.1 ⟨c.1, gr.1⟩ c.2.2) rfl rfl (Nat.le_of_ble_eq_true rfl) ?_
    rintro _ m2 ⟨rfl, hl, hY2⟩
    simp +contextual (disch := (first | omega | assumption | decide)) only [↓zbrT, ↓zbrF, zw245_0, zw245_1, zw245_2, zr_1, zr_3, zr_7, zr_10, zr_13, zr_52, zr_62, zr_68, zr_70, zlg_0, zlg_s, zrc_1, zrc_s, zcat_n, zcat_i, zcat_l, zcat_r, zkd_131, Int.cast_ofNat_Int, Int.reduceAdd, zmu_same, zmu_c, zmu_i, false_and, and_false, true_and, and_true, true_or, or_true, false_or, or_false, Option.toList, List.nil_append, List.cons_append, zif0, zif1, zif01, zem1, zem2, Int.reduceEq, Int.reduceLT, Int.reduceLE, Int.reduceNeg, Int.reduceSub, Int.reduceMul, if_true, if_false, not_false_eq_true, not_true_eq_false, true_implies, false_implies, Classical.not_not, Nat.reduceAdd, Nat.reduceLeDiff, hl]
    have fin := gY_tr (gY_tr hY0 hY) hY2
    (first | exact fin | exact ⟨rfl, fin⟩)
  · rw [if_neg c]
    refine gK (gz235f hQ0 c) rfl rfl (Nat.le_of_ble_eq_true rfl) ?_
    rintro _ m1 ⟨rfl, hY⟩
    (try simp +contextual (disch := (first | omega | assumption | decide)) only [↓zbrT, ↓zbrF, zw245_0, zw245_1, zw245_2, zr_1, zr_3, zr_7, zr_10, zr_13, zr_52, zr_62, zr_68, zr_70, zlg_0, zlg_s, zrc_1, zrc_s, zcat_n, zcat_i, zcat_l, zcat_r, zkd_131, Int.cast_ofNat_Int, Int.reduceAdd, zmu_same, zmu_c, zmu_i, false_and, and_false, true_and, and_true, true_or, or_true, false_or, or_false, Option.toList, List.nil_append, List.cons_append, zif0, zif1, zif01, zem1, zem2, Int.reduceEq, Int.reduceLT, Int.reduceLE, Int.reduceNeg, Int.reduceSub, Int.reduceMul, if_true, if_false, not_false_eq_true, not_true_eq_false, true_implies, false_implies, Classical.not_not, Nat.reduceAdd, Nat.reduceLeDiff])
    have fin := gY_tr hY0 hY
    (first | exact fin | exact ⟨rfl, fin⟩)
theorem gz246 {d : Nat} {m : zMm} {g : Int} {V : zMm} (hQ : gQ V m) : zC (d + 15) 246 [.inr (.inr 131), .inl g] m (fun r' m' => r' = some (.inl (sp105 V g)) ∧ gY m m') := by
  refine ze246 ?_
  have hb := hQ.1.1
  have hY0 : gY m (zmu m 131 0 0) := gY_u (by decide)
  have hQ0 := gQ_y hQ hY0
  have h5 : 0 ≤ zmu m 131 0 0 138 5 ∧ zmu m 131 0 0 138 5 ≤ 8 := by rw [gM_5 hQ0.2.2.1]; omega
  have h6 : 0 ≤ zmu m 131 0 0 138 6 ∧ zmu m 131 0 0 138 6 ≤ 6 := by rw [gM_6 hQ0.2.2.1]; omega
  have h0 : 0 ≤ zmu m 131 0 0 138 0 ∧ zmu m 131 0 0 138 0 ≤ 6 := by rw [gM_0 hQ0.2.2.1]; omega
  have hk := gSk hQ
  have hs := hk.2.2.2.2.1
  unfold sp105
  simp +contextual (disch := (first | omega | assumption | decide)) only [↓zbrT, ↓zbrF, zw246_0, zw246_1, zw246_2, zw246_4, zw246_5, zw246_6, zw246_7, zw246_8, zw246_9, zw246_10, zr_1, zr_3, zr_4, zr_7, zr_12, zr_13, zr_16, zr_21, zr_26, zr_28, zr_53, zr_54, zr_62, zr_66, zr_68, zr_70, zr_73, zlg_0, zlg_s, zls_0, zls_1, zls_s, zkl_i, zkl_r, zkl_l, zkl_n, zrc_1, zrc_s, zcat_n, zcat_i, zcat_l, zcat_r, zkd_131, zkd_139, zln_139, zrf_131_18, Int.cast_ofNat_Int, Int.reduceAdd, zbd, zw_id, zmu_same, zmu_c, zmu_i, false_and, and_false, true_and, and_true, true_or, or_true, false_or, or_false, Option.toList, List.nil_append, List.cons_append, zif0, zif1, zif01, zem1, zem2, Int.reduceEq, Int.reduceLT, Int.reduceLE, Int.reduceNeg, Int.reduceSub, Int.reduceMul, if_true, if_false, not_false_eq_true, not_true_eq_false, true_implies, false_implies, Classical.not_not, Nat.reduceAdd, Nat.reduceLeDiff]
  by_cases c : 0 ≤ g ∧ g < 8 ∧ zbit (gSn V 4) g = 1
  · rw [if_pos c]
    have gr := hk.2.2.2.2.2.2.1 g c.1 c.2.1 c.2.2
    refine gK (gz235t hQ0 c) rfl rfl (Nat.le_of_ble_eq_true rfl) ?_
    rintro _ m1 ⟨rfl, hL, hY⟩
    have hQ1 := gQ_y hQ0 hY
    have hM := hQ1.2.2.1
    have fin := gY_tr hY0 hY
    simp +contextual (disch := (first | omega | assumption | decide)) only [↓zbrT, ↓zbrF, zw246_0, zw246_1, zw246_2, zw246_4, zw246_5, zw246_6, zw246_7, zw246_8, zw246_9, zw246_10, zr_1, zr_3, zr_4, zr_7, zr_12, zr_13, zr_16, zr_21, zr_26, zr_28, zr_53, zr_54, zr_62, zr_66, zr_68, zr_70, zr_73, zlg_0, zlg_s, zls_0, zls_1, zls_s, zkl_i, zkl_r, zkl_l, zkl_n, zrc_1, zrc_s, zcat_n, zcat_i, zcat_l, zcat_r, zkd_131, zkd_139, zln_139, zrf_131_18, Int.cast_ofNat_Int, Int.reduceAdd, zbd, zw_id, zmu_same, zmu_c, zmu_i, false_and, and_false, true_and, and_true, true_or, or_true, false_or, or_false, Option.toList, List.nil_append, List.cons_append, zif0, zif1, zif01, zem1, zem2, Int.reduceEq, Int.reduceLT, Int.reduceLE, Int.reduceNeg, Int.reduceSub, Int.reduceMul, if_true, if_false, not_false_eq_true, not_true_eq_false, true_implies, false_implies, Classical.not_not, Nat.reduceAdd, Nat.reduceLeDiff, gM_0 hM, gM_1 hM, gM_2 hM, gM_3 hM, gM_4 hM, gM_5 hM, gM_6 hM, gM_7 hM, gM_8 hM, gM_9 hM, gM_10 hM, gM_r0 hM, gM_r1 hM, gM_r2 hM, gM_r3 hM, gM_f0 hM, gM_f1 hM, gM_f2 hM, gM_f3 hM, gM_f4 hM]
    refine zfor 99 (fun i lc m' => 0 ≤ i ∧ lc = [some (.inr (.inr 131)), some (.inl g), some (.inl (vT V g)), some (.inl (99 - i))] ∧ gEa g m1 m' ∧ gQu V g 99 = gQu V g (99 - i).toNat) ?_ ?_ (i := 0) (by decide) ?_
    · rintro i lc m' hi ⟨h0', rfl, hE, hq⟩ kk
      have es := gQu_s (V := V) (g := g) (j := 99 - i) (by omega)
      have hM1 := gMo_to (n := 99 - i) hM hE ⟨c.1, gr.1⟩
      have hg1 : zmu m' 139 (4 * g + 3) (99 - i) 131 28 = gSn V 4 := by rw [zmu_c (by decide), hE 131 28 (by omega)]; exact gL_4 hL
      rw [zw246_3]
      simp +contextual (disch := (first | omega | assumption | decide)) only [↓zbrT, ↓zbrF, zw246_0, zw246_1, zw246_2, zw246_4, zw246_5, zw246_6, zw246_7, zw246_8, zw246_9, zw246_10, zr_1, zr_3, zr_4, zr_7, zr_12, zr_13, zr_16, zr_21, zr_26, zr_28, zr_53, zr_54, zr_62, zr_66, zr_68, zr_70, zr_73, zlg_0, zlg_s, zls_0, zls_1, zls_s, zkl_i, zkl_r, zkl_l, zkl_n, zrc_1, zrc_s, zcat_n, zcat_i, zcat_l, zcat_r, zkd_131, zkd_139, zln_139, zrf_131_18, Int.cast_ofNat_Int, Int.reduceAdd, zbd, zw_id, zmu_same, zmu_c, zmu_i, false_and, and_false, true_and, and_true, true_or, or_true, false_or, or_false, Option.toList, List.nil_append, List.cons_append, zif0, zif1, zif01, zem1, zem2, Int.reduceEq, Int.reduceLT, Int.reduceLE, Int.reduceNeg, Int.reduceSub, Int.reduceMul, if_true, if_false, not_false_eq_true, not_true_eq_false, true_implies, false_implies, Classical.not_not, Nat.reduceAdd, Nat.reduceLeDiff]
      refine gK (gz241 (gTo_ok hQ.1 (g := g) (t := 99 - i) (by omega)) hM1 hg1 hs) rfl rfl (Nat.le_of_ble_eq_true rfl) ?_
      rintro _ m2 ⟨rfl, hW⟩
      have hE2 := gEa_w hE hW
      rw [gTo_0]
      by_cases z : gAg (gTo V g (99 - i)) (gSn V 4) (V 0 6).toNat = 0
      · rw [if_pos z] at es
        simp +contextual (disch := (first | omega | assumption | decide)) only [↓zbrT, ↓zbrF, zw246_0, zw246_1, zw246_2, zw246_4, zw246_5, zw246_6, zw246_7, zw246_8, zw246_9, zw246_10, zr_1, zr_3, zr_4, zr_7, zr_12, zr_13, zr_16, zr_21, zr_26, zr_28, zr_53, zr_54, zr_62, zr_66, zr_68, zr_70, zr_73, zlg_0, zlg_s, zls_0, zls_1, zls_s, zkl_i, zkl_r, zkl_l, zkl_n, zrc_1, zrc_s, zcat_n, zcat_i, zcat_l, zcat_r, zkd_131, zkd_139, zln_139, zrf_131_18, Int.cast_ofNat_Int, Int.reduceAdd, zbd, zw_id, zmu_same, zmu_c, zmu_i, false_and, and_false, true_and, and_true, true_or, or_true, false_or, or_false, Option.toList, List.nil_append, List.cons_append, zif0, zif1, zif01, zem1, zem2, Int.reduceEq, Int.reduceLT, Int.reduceLE, Int.reduceNeg, Int.reduceSub, Int.reduceMul, if_true, if_false, not_false_eq_true, not_true_eq_false, true_implies, false_implies, Classical.not_not, Nat.reduceAdd, Nat.reduceLeDiff, z]
        rw [hq, es]
        exact ⟨rfl, gY_tr fin (gEa_y hM hE2 ⟨c.1, gr.1⟩)⟩
      · rw [if_neg z] at es
        simp +contextual (disch := (first | omega | assumption | decide)) only [↓zbrT, ↓zbrF, zw246_0, zw246_1, zw246_2, zw246_4, zw246_5, zw246_6, zw246_7, zw246_8, zw246_9, zw246_10, zr_1, zr_3, zr_4, zr_7, zr_12, zr_13, zr_16, zr_21, zr_26, zr_28, zr_53, zr_54, zr_62, zr_66, zr_68, zr_70, zr_73, zlg_0, zlg_s, zls_0, zls_1, zls_s, zkl_i, zkl_r, zkl_l, zkl_n, zrc_1, zrc_s, zcat_n, zcat_i, zcat_l, zcat_r, zkd_131, zkd_139, zln_139, zrf_131_18, Int.cast_ofNat_Int, Int.reduceAdd, zbd, zw_id, zmu_same, zmu_c, zmu_i, false_and, and_false, true_and, and_true, true_or, or_true, false_or, or_false, Option.toList, List.nil_append, List.cons_append, zif0, zif1, zif01, zem1, zem2, Int.reduceEq, Int.reduceLT, Int.reduceLE, Int.reduceNeg, Int.reduceSub, Int.reduceMul, if_true, if_false, not_false_eq_true, not_true_eq_false, true_implies, false_implies, Classical.not_not, Nat.reduceAdd, Nat.reduceLeDiff, z]
        refine kk _ _ ⟨by omega, ?_, hE2, ?_⟩
        · rw [show 99 - i + -1 = 99 - (i + 1) by omega]
        · rw [hq, es, show 99 - i - 1 = 99 - (i + 1) by omega]
    · rintro lc m' ⟨h0', rfl, hE, hq⟩
      rw [zw246_3]
      simp +contextual (disch := (first | omega | assumption | decide)) only [↓zbrT, ↓zbrF, zw246_0, zw246_1, zw246_2, zw246_4, zw246_5, zw246_6, zw246_7, zw246_8, zw246_9, zw246_10, zr_1, zr_3, zr_4, zr_7, zr_12, zr_13, zr_16, zr_21, zr_26, zr_28, zr_53, zr_54, zr_62, zr_66, zr_68, zr_70, zr_73, zlg_0, zlg_s, zls_0, zls_1, zls_s, zkl_i, zkl_r, zkl_l, zkl_n, zrc_1, zrc_s, zcat_n, zcat_i, zcat_l, zcat_r, zkd_131, zkd_139, zln_139, zrf_131_18, Int.cast_ofNat_Int, Int.reduceAdd, zbd, zw_id, zmu_same, zmu_c, zmu_i, false_and, and_false, true_and, and_true, true_or, or_true, false_or, or_false, Option.toList, List.nil_append, List.cons_append, zif0, zif1, zif01, zem1, zem2, Int.reduceEq, Int.reduceLT, Int.reduceLE, Int.reduceNeg, Int.reduceSub, Int.reduceMul, if_true, if_false, not_false_eq_true, not_true_eq_false, true_implies, false_implies, Classical.not_not, Nat.reduceAdd, Nat.reduceLeDiff]
      rw [hq]
      exact ⟨rfl, gY_tr fin (gEa_y hM hE ⟨c.1, gr.1⟩)⟩
    · exact ⟨by decide, rfl, fun _ _ _ => rfl, rfl⟩
  · rw [if_neg c]
    refine gK (gz235f hQ0 c) rfl rfl (Nat.le_of_ble_eq_true rfl) ?_
    rintro _ m1 ⟨rfl, hY⟩
    (try simp +contextual (disch := (first | omega | assumption | decide)) only [↓zbrT, ↓zbrF, zw246_0, zw246_1, zw246_2, zw246_4, zw246_5, zw246_6, zw246_7, zw246_8, zw246_9, zw246_10, zr_1, zr_3, zr_4, zr_7, zr_12, zr_13, zr_16, zr_21, zr_26, zr_28, zr_53, zr_54, zr_62, zr_66, zr_68, zr_70, zr_73, zlg_0, zlg_s, zls_0, zls_1, zls_s, zkl_i, zkl_r, zkl_l, zkl_n, zrc_1, zrc_s, zcat_n, zcat_i, zcat_l, zcat_r, zkd_131, zkd_139, zln_139, zrf_131_18, Int.cast_ofNat_Int, Int.reduceAdd, zbd, zw_id, zmu_same, zmu_c, zmu_i, false_and, and_false, true_and, and_true, true_or, or_true, false_or, or_false, Option.toList, List.nil_append, List.cons_append, zif0, zif1, zif01, zem1, zem2, Int.reduceEq, Int.reduceLT, Int.reduceLE, Int.reduceNeg, Int.reduceSub, Int.reduceMul, if_true, if_false, not_false_eq_true, not_true_eq_false, true_implies, false_implies, Classical.not_not, Nat.reduceAdd, Nat.reduceLeDiff])
    have fin := gY_tr hY0 hY
    (first | exact fin | exact ⟨rfl, fin⟩)
