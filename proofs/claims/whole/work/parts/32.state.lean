/-! ===== how things stand: the class's State ===== -/
def gGb (V : zMm) : Int := gBt (fun r => 0 < vT V r) (V 0 5).toNat
theorem gGb_bd {V : zMm} (h : gOk V) : 0 ≤ gGb V ∧ gGb V < 256 := gBt_bd _ (by have := h.1; omega)
theorem zbit_Gb {V : zMm} (h : gOk V) {j : Int} (h0 : 0 ≤ j) (h1 : j < 8) : zbit (gGb V) j = if j < V 0 5 ∧ 0 < vT V j then 1 else 0 := by
  have hb := h.1
  have := zbit_Bt (c := fun r => 0 < vT V r) (V 0 5).toNat (by omega) j.toNat (by omega)
  rw [show ((j.toNat : Nat) : Int) = j by omega] at this
  unfold gGb
  rw [this]
  by_cases c : j < V 0 5 ∧ 0 < vT V j
  · rw [if_pos c, if_pos ⟨by omega, c.2⟩]
  · rw [if_neg c, if_neg (fun z => c ⟨by omega, z.2⟩)]
theorem zq35 {d : Nat} {m : zMm} {rest : List zV} {k : List zV → zMm → Prop} {V : zMm} (hk : gOk V) (hv : gCV V m) : zcl (zEx (d + 2)) 35 1 (.inr (.inr 21) :: rest) m k = (zcat rest ≤ 8 ∧ k (.inl (gGb V) :: rest) m) := by
  refine zcl_eq (as := [.inr (.inr 21)]) (r := some (.inl (gGb V))) (zC_eq.mp (ze35 ?_)) rfl rfl
  have hb := hk.1
  simp +contextual (disch := (first | omega | assumption | decide)) only [↓zbrT, ↓zbrF, zw35_0, zw35_2, zw35_3, zw35_4, zw35_5, zw35_6, zr_1, zr_3, zr_4, zr_7, zr_10, zr_12, zr_20, zr_32, zr_53, zr_54, zr_58, zr_66, zr_70, zr_73, zr_78, zlg_0, zlg_s, zls_0, zls_1, zls_s, zkl_i, zkl_r, zkl_l, zkl_n, zcat_n, zcat_i, zcat_l, zcat_r, zkd_105, zkd_106, zkd_21, zkd_22, zkd_3, zkd_4, zkd_67, zkd_68, zkd_86, zkd_87, zkd_a106, zkd_a22, zkd_a4, zkd_a68, zkd_a87, zln_106, zln_22, zln_4, zln_68, zln_87, zrf_105_10, zrf_21_10, zrf_3_10, zrf_67_10, zrf_86_10, zrf_a106, zrf_a22, zrf_a4, zrf_a68, zrf_a87, Int.cast_ofNat_Int, Int.reduceAdd, zbd, zw_id, false_and, and_false, true_and, and_true, true_or, or_true, false_or, or_false, Option.toList, List.nil_append, List.cons_append, zif0, zif1, zif01, zem1, zem2, Int.reduceEq, Int.reduceLT, Int.reduceLE, Int.reduceNeg, Int.reduceSub, Int.reduceMul, if_true, if_false, not_false_eq_true, not_true_eq_false, true_implies, false_implies, Classical.not_not, Nat.reduceAdd, Nat.reduceLeDiff]
  refine zfor (V 0 5) (fun r lc m' => 0 ≤ r ∧ lc = [some (.inr (.inr 21)), some (.inl (gBt (fun r => 0 < vT V r) r.toNat)), some (.inl r)] ∧ m' = m) ?_ ?_ (i := 0) (by omega) ?_
  · rintro r lc m' hr ⟨h0, rfl, rfl⟩ kk
    rw [zw35_1]
    by_cases c : 0 < vT V r
    · simp +contextual (disch := (first | omega | assumption | decide)) only [↓zbrT, ↓zbrF, zw35_0, zw35_2, zw35_3, zw35_4, zw35_5, zw35_6, zr_1, zr_3, zr_4, zr_7, zr_10, zr_12, zr_20, zr_32, zr_53, zr_54, zr_58, zr_66, zr_70, zr_73, zr_78, zlg_0, zlg_s, zls_0, zls_1, zls_s, zkl_i, zkl_r, zkl_l, zkl_n, zcat_n, zcat_i, zcat_l, zcat_r, zkd_105, zkd_106, zkd_21, zkd_22, zkd_3, zkd_4, zkd_67, zkd_68, zkd_86, zkd_87, zkd_a106, zkd_a22, zkd_a4, zkd_a68, zkd_a87, zln_106, zln_22, zln_4, zln_68, zln_87, zrf_105_10, zrf_21_10, zrf_3_10, zrf_67_10, zrf_86_10, zrf_a106, zrf_a22, zrf_a4, zrf_a68, zrf_a87, Int.cast_ofNat_Int, Int.reduceAdd, zbd, zw_id, false_and, and_false, true_and, and_true, true_or, or_true, false_or, or_false, Option.toList, List.nil_append, List.cons_append, zif0, zif1, zif01, zem1, zem2, Int.reduceEq, Int.reduceLT, Int.reduceLE, Int.reduceNeg, Int.reduceSub, Int.reduceMul, if_true, if_false, not_false_eq_true, not_true_eq_false, true_implies, false_implies, Classical.not_not, Nat.reduceAdd, Nat.reduceLeDiff, gA_0 hv, gA_1 hv, gA_2 hv, gA_3 hv, gA_4 hv, gA_5 hv, gA_6 hv, gA_7 hv, gA_8 hv, gA_9 hv, gA_r0 hv, gA_r1 hv, gA_r2 hv, gA_r3 hv, gA_f0 hv, gA_f1 hv, gA_f2 hv, gA_f3 hv, gA_f4 hv, zq81, zshl_1]
      refine kk _ _ ⟨by omega, ?_, rfl⟩
      rw [gBt_s h0, if_pos c]
    · simp +contextual (disch := (first | omega | assumption | decide)) only [↓zbrT, ↓zbrF, zw35_0, zw35_2, zw35_3, zw35_4, zw35_5, zw35_6, zr_1, zr_3, zr_4, zr_7, zr_10, zr_12, zr_20, zr_32, zr_53, zr_54, zr_58, zr_66, zr_70, zr_73, zr_78, zlg_0, zlg_s, zls_0, zls_1, zls_s, zkl_i, zkl_r, zkl_l, zkl_n, zcat_n, zcat_i, zcat_l, zcat_r, zkd_105, zkd_106, zkd_21, zkd_22, zkd_3, zkd_4, zkd_67, zkd_68, zkd_86, zkd_87, zkd_a106, zkd_a22, zkd_a4, zkd_a68, zkd_a87, zln_106, zln_22, zln_4, zln_68, zln_87, zrf_105_10, zrf_21_10, zrf_3_10, zrf_67_10, zrf_86_10, zrf_a106, zrf_a22, zrf_a4, zrf_a68, zrf_a87, Int.cast_ofNat_Int, Int.reduceAdd, zbd, zw_id, false_and, and_false, true_and, and_true, true_or, or_true, false_or, or_false, Option.toList, List.nil_append, List.cons_append, zif0, zif1, zif01, zem1, zem2, Int.reduceEq, Int.reduceLT, Int.reduceLE, Int.reduceNeg, Int.reduceSub, Int.reduceMul, if_true, if_false, not_false_eq_true, not_true_eq_false, true_implies, false_implies, Classical.not_not, Nat.reduceAdd, Nat.reduceLeDiff, gA_0 hv, gA_1 hv, gA_2 hv, gA_3 hv, gA_4 hv, gA_5 hv, gA_6 hv, gA_7 hv, gA_8 hv, gA_9 hv, gA_r0 hv, gA_r1 hv, gA_r2 hv, gA_r3 hv, gA_f0 hv, gA_f1 hv, gA_f2 hv, gA_f3 hv, gA_f4 hv, zq81, zshl_1]
      refine kk _ _ ⟨by omega, ?_, rfl⟩
      rw [gBt_s h0, if_neg c]
  · rintro lc m' ⟨h0, rfl, rfl⟩
    rw [zw35_1]
    simp +contextual (disch := (first | omega | assumption | decide)) only [↓zbrT, ↓zbrF, zw35_0, zw35_2, zw35_3, zw35_4, zw35_5, zw35_6, zr_1, zr_3, zr_4, zr_7, zr_10, zr_12, zr_20, zr_32, zr_53, zr_54, zr_58, zr_66, zr_70, zr_73, zr_78, zlg_0, zlg_s, zls_0, zls_1, zls_s, zkl_i, zkl_r, zkl_l, zkl_n, zcat_n, zcat_i, zcat_l, zcat_r, zkd_105, zkd_106, zkd_21, zkd_22, zkd_3, zkd_4, zkd_67, zkd_68, zkd_86, zkd_87, zkd_a106, zkd_a22, zkd_a4, zkd_a68, zkd_a87, zln_106, zln_22, zln_4, zln_68, zln_87, zrf_105_10, zrf_21_10, zrf_3_10, zrf_67_10, zrf_86_10, zrf_a106, zrf_a22, zrf_a4, zrf_a68, zrf_a87, Int.cast_ofNat_Int, Int.reduceAdd, zbd, zw_id, false_and, and_false, true_and, and_true, true_or, or_true, false_or, or_false, Option.toList, List.nil_append, List.cons_append, zif0, zif1, zif01, zem1, zem2, Int.reduceEq, Int.reduceLT, Int.reduceLE, Int.reduceNeg, Int.reduceSub, Int.reduceMul, if_true, if_false, not_false_eq_true, not_true_eq_false, true_implies, false_implies, Classical.not_not, Nat.reduceAdd, Nat.reduceLeDiff, gA_0 hv, gA_1 hv, gA_2 hv, gA_3 hv, gA_4 hv, gA_5 hv, gA_6 hv, gA_7 hv, gA_8 hv, gA_9 hv, gA_r0 hv, gA_r1 hv, gA_r2 hv, gA_r3 hv, gA_f0 hv, gA_f1 hv, gA_f2 hv, gA_f3 hv, gA_f4 hv]
    rfl
  · exact ⟨by decide, rfl, rfl⟩
/-- the cells of a State -/
def gStc (c : Int) : Prop := 43 ≤ c ∧ c ≤ 59 ∧ zkd c = 107 ∧ zrf c 6 = c + 1 ∧ zkd (c + 1) = 1 ∧ zln (c + 1) = 8
theorem gStc_43 : gStc 43 := ⟨by decide, by decide, rfl, rfl, rfl, rfl⟩
theorem gStc_45 : gStc 45 := ⟨by decide, by decide, rfl, rfl, rfl, rfl⟩
/-- S: 0 nights, 1 purse, 2 gave up, 3 post, 4 standing, 5 rebuilt, 6 .. 13 fallen -/
def gSt (S : Int → Int) (c : Int) (m : zMm) : Prop := (m c 0 = S 0 ∧ m c 1 = S 1 ∧ m c 2 = S 2 ∧ m c 3 = S 3 ∧ m c 4 = S 4 ∧ m c 5 = S 5) ∧ ∀ r, 0 ≤ r → r < 8 → m (c + 1) r = S (6 + r)
theorem gSt_of {S : Int → Int} {c : Int} {m m' : zMm} (h : gSt S c m) (h1 : ∀ i, m' c i = m c i) (h2 : ∀ i, m' (c + 1) i = m (c + 1) i) : gSt S c m' := by
  refine ⟨?_, fun r a b => ?_⟩
  · simp only [h1]; exact h.1
  · rw [h2]; exact h.2 r a b
def gSok (V : zMm) (S : Int → Int) : Prop := (0 ≤ S 0 ∧ S 0 ≤ 1000) ∧ (0 ≤ S 1 ∧ S 1 ≤ 9999 + 540000 * S 0) ∧ (S 2 = 0 ∨ S 2 = 1) ∧ (0 ≤ S 3 ∧ S 3 < 6 ∧ (0 < V 0 10 → S 3 < V 0 0)) ∧ (0 ≤ S 4 ∧ S 4 < 256) ∧ (0 ≤ S 5 ∧ S 5 ≤ S 0) ∧ (∀ r, 0 ≤ r → r < 8 → zbit (S 4) r = 1 → r < V 0 5 ∧ 0 < vT V r) ∧ (∀ r, 0 ≤ r → r < 8 → 0 ≤ S (6 + r) ∧ S (6 + r) ≤ S 0 ∧ ((zbit (S 4) r = 1 ∨ ¬ (r < V 0 5 ∧ 0 < vT V r)) → S (6 + r) = 0))
def gMb (V : zMm) (S : Int → Int) (g : Int) : Int := if S 2 = 0 ∧ (0 ≤ g ∧ g < 8 ∧ zbit (S 4) g = 1) ∧ V 0 8 < min (gD V (S 3) (vA V g)) (gD V (S 3) (vB V g)) then 1 else 0
def gMp (V : zMm) (S : Int → Int) (g : Int) : Int := if g = -1 then (if S 2 = 0 then 1 else 0) else gMb V S g
theorem gSt_4 {S : Int → Int} {c : Int} {m : zMm} {V : zMm} (h : gSt S c m) (hk : gSok V S) : 0 ≤ m c 4 ∧ m c 4 < 256 := by rw [h.1.2.2.2.2.1]; exact hk.2.2.2.2.1
theorem zq44 {d : Nat} {m : zMm} {c : Int} {g : Int} {rest : List zV} {k : List zV → zMm → Prop} {V : zMm} {S : Int → Int} (hA : gA V m) (hc : gStc c) (hS : gSt S c m) (hk : gSok V S) : zcl (zEx (d + 4)) 44 3 (.inl g :: .inr (.inr 20) :: .inr (.inr c) :: rest) m k = (zcat rest ≤ 8 ∧ k (.inl (gMb V S g) :: rest) m) := by
  refine zcl_eq (as := [.inr (.inr c), .inr (.inr 20), .inl g]) (r := some (.inl (gMb V S g))) (zC_eq.mp (ze44 ?_)) rfl rfl
  have hb := hA.1.1
  have e2 := hS.1.2.2.1
  have e3 := hS.1.2.2.2.1
  have e4 := hS.1.2.2.2.2.1
  have b4 := gSt_4 hS hk
  have k7 := hc.2.2.1
  by_cases c1 : S 2 = 0
  · by_cases c2 : 0 ≤ g ∧ g < 8 ∧ zbit (S 4) g = 1
    · have hg := hk.2.2.2.2.2.2.1 g c2.1 c2.2.1 c2.2.2
      have h3 := hk.2.2.2.1
      by_cases c3 : V 0 8 < min (gD V (S 3) (vA V g)) (gD V (S 3) (vB V g))
      · simp +contextual (disch := (first | omega | assumption | decide)) only [↓zbrT, ↓zbrF, zw44_0, zw44_1, zw44_2, zw44_3, zw44_4, zw44_5, zr_1, zr_3, zr_7, zr_10, zr_54, zr_61, zr_62, zr_68, zr_73, zr_76, zlg_0, zlg_s, zrc_1, zrc_s, zcat_n, zcat_i, zcat_l, zcat_r, zkd_20, zkd_43, zkd_45, zkd_51, zkd_53, zkd_55, zkd_57, zkd_59, zkd_a50, Int.cast_ofNat_Int, Int.reduceAdd, false_and, and_false, true_and, and_true, true_or, or_true, false_or, or_false, Option.toList, List.nil_append, List.cons_append, zif0, zif1, zif01, zem1, zem2, Int.reduceEq, Int.reduceLT, Int.reduceLE, Int.reduceNeg, Int.reduceSub, Int.reduceMul, if_true, if_false, not_false_eq_true, not_true_eq_false, true_implies, false_implies, Classical.not_not, Nat.reduceAdd, Nat.reduceLeDiff, k7, e2, e3, c1, zq43 k7 b4, e4, if_pos c2, zq12 hA, if_pos c3]
        unfold gMb
        rw [if_pos ⟨c1, c2, c3⟩]
      · simp +contextual (disch := (first | omega | assumption | decide)) only [↓zbrT, ↓zbrF, zw44_0, zw44_1, zw44_2, zw44_3, zw44_4, zw44_5, zr_1, zr_3, zr_7, zr_10, zr_54, zr_61, zr_62, zr_68, zr_73, zr_76, zlg_0, zlg_s, zrc_1, zrc_s, zcat_n, zcat_i, zcat_l, zcat_r, zkd_20, zkd_43, zkd_45, zkd_51, zkd_53, zkd_55, zkd_57, zkd_59, zkd_a50, Int.cast_ofNat_Int, Int.reduceAdd, false_and, and_false, true_and, and_true, true_or, or_true, false_or, or_false, Option.toList, List.nil_append, List.cons_append, zif0, zif1, zif01, zem1, zem2, Int.reduceEq, Int.reduceLT, Int.reduceLE, Int.reduceNeg, Int.reduceSub, Int.reduceMul, if_true, if_false, not_false_eq_true, not_true_eq_false, true_implies, false_implies, Classical.not_not, Nat.reduceAdd, Nat.reduceLeDiff, k7, e2, e3, c1, zq43 k7 b4, e4, if_pos c2, zq12 hA, if_neg c3]
        unfold gMb
        rw [if_neg (fun z => c3 z.2.2)]
    · simp +contextual (disch := (first | omega | assumption | decide)) only [↓zbrT, ↓zbrF, zw44_0, zw44_1, zw44_2, zw44_3, zw44_4, zw44_5, zr_1, zr_3, zr_7, zr_10, zr_54, zr_61, zr_62, zr_68, zr_73, zr_76, zlg_0, zlg_s, zrc_1, zrc_s, zcat_n, zcat_i, zcat_l, zcat_r, zkd_20, zkd_43, zkd_45, zkd_51, zkd_53, zkd_55, zkd_57, zkd_59, zkd_a50, Int.cast_ofNat_Int, Int.reduceAdd, false_and, and_false, true_and, and_true, true_or, or_true, false_or, or_false, Option.toList, List.nil_append, List.cons_append, zif0, zif1, zif01, zem1, zem2, Int.reduceEq, Int.reduceLT, Int.reduceLE, Int.reduceNeg, Int.reduceSub, Int.reduceMul, if_true, if_false, not_false_eq_true, not_true_eq_false, true_implies, false_implies, Classical.not_not, Nat.reduceAdd, Nat.reduceLeDiff, k7, e2, e3, c1, zq43 k7 b4, e4, if_neg c2]
      unfold gMb
      rw [if_neg (fun z => c2 z.2.1)]
  · simp +contextual (disch := (first | omega | assumption | decide)) only [↓zbrT, ↓zbrF, zw44_0, zw44_1, zw44_2, zw44_3, zw44_4, zw44_5, zr_1, zr_3, zr_7, zr_10, zr_54, zr_61, zr_62, zr_68, zr_73, zr_76, zlg_0, zlg_s, zrc_1, zrc_s, zcat_n, zcat_i, zcat_l, zcat_r, zkd_20, zkd_43, zkd_45, zkd_51, zkd_53, zkd_55, zkd_57, zkd_59, zkd_a50, Int.cast_ofNat_Int, Int.reduceAdd, false_and, and_false, true_and, and_true, true_or, or_true, false_or, or_false, Option.toList, List.nil_append, List.cons_append, zif0, zif1, zif01, zem1, zem2, Int.reduceEq, Int.reduceLT, Int.reduceLE, Int.reduceNeg, Int.reduceSub, Int.reduceMul, if_true, if_false, not_false_eq_true, not_true_eq_false, true_implies, false_implies, Classical.not_not, Nat.reduceAdd, Nat.reduceLeDiff, k7, e2, c1]
    unfold gMb
    rw [if_neg (fun z => c1 z.1)]
theorem zq45 {d : Nat} {m : zMm} {c : Int} {g : Int} {rest : List zV} {k : List zV → zMm → Prop} {V : zMm} {S : Int → Int} (hA : gA V m) (hc : gStc c) (hS : gSt S c m) (hk : gSok V S) : zcl (zEx (d + 5)) 45 3 (.inl g :: .inr (.inr 20) :: .inr (.inr c) :: rest) m k = (zcat rest ≤ 8 ∧ k (.inl (gMp V S g) :: rest) m) := by
  refine zcl_eq (as := [.inr (.inr c), .inr (.inr 20), .inl g]) (r := some (.inl (gMp V S g))) (zC_eq.mp (ze45 ?_)) rfl rfl
  have e2 := hS.1.2.2.1
  have k7 := hc.2.2.1
  have m01 : gMb V S g = 0 ∨ gMb V S g = 1 := by unfold gMb; split <;> omega
  unfold gMp
  by_cases c0 : g = -1
  · by_cases c1 : S 2 = 0
    · simp +contextual (disch := (first | omega | assumption | decide)) only [↓zbrT, ↓zbrF, zw45_0, zw45_1, zw45_2, zw45_3, zw45_4, zw45_5, zr_1, zr_3, zr_7, zr_10, zr_54, zr_56, zr_62, zr_68, zr_73, zr_76, zlg_0, zlg_s, zrc_1, zrc_s, zcat_n, zcat_i, zcat_l, zcat_r, zkd_43, zkd_45, zkd_51, zkd_53, zkd_55, zkd_57, zkd_59, zkd_a50, Int.cast_ofNat_Int, Int.reduceAdd, false_and, and_false, true_and, and_true, true_or, or_true, false_or, or_false, Option.toList, List.nil_append, List.cons_append, zif0, zif1, zif01, zem1, zem2, Int.reduceEq, Int.reduceLT, Int.reduceLE, Int.reduceNeg, Int.reduceSub, Int.reduceMul, if_true, if_false, not_false_eq_true, not_true_eq_false, true_implies, false_implies, Classical.not_not, Nat.reduceAdd, Nat.reduceLeDiff, k7, e2, c0, c1]
    · simp +contextual (disch := (first | omega | assumption | decide)) only [↓zbrT, ↓zbrF, zw45_0, zw45_1, zw45_2, zw45_3, zw45_4, zw45_5, zr_1, zr_3, zr_7, zr_10, zr_54, zr_56, zr_62, zr_68, zr_73, zr_76, zlg_0, zlg_s, zrc_1, zrc_s, zcat_n, zcat_i, zcat_l, zcat_r, zkd_43, zkd_45, zkd_51, zkd_53, zkd_55, zkd_57, zkd_59, zkd_a50, Int.cast_ofNat_Int, Int.reduceAdd, false_and, and_false, true_and, and_true, true_or, or_true, false_or, or_false, Option.toList, List.nil_append, List.cons_append, zif0, zif1, zif01, zem1, zem2, Int.reduceEq, Int.reduceLT, Int.reduceLE, Int.reduceNeg, Int.reduceSub, Int.reduceMul, if_true, if_false, not_false_eq_true, not_true_eq_false, true_implies, false_implies, Classical.not_not, Nat.reduceAdd, Nat.reduceLeDiff, k7, e2, c0, c1]
  · simp +contextual (disch := (first | omega | assumption | decide)) only [↓zbrT, ↓zbrF, zw45_0, zw45_1, zw45_2, zw45_3, zw45_4, zw45_5, zr_1, zr_3, zr_7, zr_10, zr_54, zr_56, zr_62, zr_68, zr_73, zr_76, zlg_0, zlg_s, zrc_1, zrc_s, zcat_n, zcat_i, zcat_l, zcat_r, zkd_43, zkd_45, zkd_51, zkd_53, zkd_55, zkd_57, zkd_59, zkd_a50, Int.cast_ofNat_Int, Int.reduceAdd, false_and, and_false, true_and, and_true, true_or, or_true, false_or, or_false, Option.toList, List.nil_append, List.cons_append, zif0, zif1, zif01, zem1, zem2, Int.reduceEq, Int.reduceLT, Int.reduceLE, Int.reduceNeg, Int.reduceSub, Int.reduceMul, if_true, if_false, not_false_eq_true, not_true_eq_false, true_implies, false_implies, Classical.not_not, Nat.reduceAdd, Nat.reduceLeDiff, k7, c0, zq44 hA hc hS hk, z01 m01]
/-- the first of the greatest -/
def gMx (f : Int → Int) : Nat → Int
  | 0 => 0
  | k + 1 => if f (gMx f k) < f (k + 1) then k + 1 else gMx f k
theorem gMx_bd (f : Int → Int) : ∀ k : Nat, 0 ≤ gMx f k ∧ gMx f k ≤ k
  | 0 => by show (0 : Int) ≤ 0 ∧ (0 : Int) ≤ ((0 : Nat) : Int); omega
  | k + 1 => by
    have := gMx_bd f k
    show 0 ≤ (if f (gMx f k) < f (k + 1) then ((k : Int) + 1) else gMx f k) ∧ (if f (gMx f k) < f (k + 1) then ((k : Int) + 1) else gMx f k) ≤ ((k + 1 : Nat) : Int)
    split <;> omega
def gRb (S : Int → Int) (x : Int) : Int → Int := if x ≤ S 1 ∧ 2 ≤ S (6 + gMx (fun r => S (6 + r)) 7) then (fun i => if i = 1 then S 1 - x else if i = 4 then zor (S 4) (2 ^ (gMx (fun r => S (6 + r)) 7).toNat) else if i = 5 then S 5 + 1 else if i = 6 + gMx (fun r => S (6 + r)) 7 then 0 else S i) else S
/-- alike but for two cells -/
def gEq (c : Int) (m m' : zMm) : Prop := ∀ c' i, c' ≠ c ∧ c' ≠ c + 1 → m' c' i = m c' i
theorem gz47 {d : Nat} {m : zMm} {c : Int} {x : Int} {S : Int → Int} (hc : gStc c) (hS : gSt S c m) (h1 : 0 ≤ S 1 ∧ S 1 ≤ 1000000000) (h5 : 0 ≤ S 5 ∧ S 5 ≤ 1000) (hx : 0 ≤ x ∧ x ≤ 999) : zC (d + 1) 47 [.inr (.inr c), .inl x] m (fun r' m' => r' = none ∧ gSt (gRb S x) c m' ∧ gEq c m m') := by
  refine ze47 ?_
  have e1 := hS.1.2.1
  have e4 := hS.1.2.2.2.2.1
  have e5 := hS.1.2.2.2.2.2
  have k7 := hc.2.2.1
  have k8 := hc.2.2.2.1
  have k9 := hc.2.2.2.2.1
  have k10 := hc.2.2.2.2.2
  have ef : ∀ r, 0 ≤ r → r < 8 → m (c + 1) r = S (6 + r) := hS.2
  by_cases c1 : x ≤ S 1
  · simp +contextual (disch := (first | omega | assumption | decide)) only [↓zbrT, ↓zbrF, zw47_0, zw47_1, zw47_2, zw47_4, zw47_5, zw47_6, zw47_7, zw47_8, zw47_9, zr_1, zr_3, zr_4, zr_7, zr_10, zr_12, zr_13, zr_16, zr_21, zr_26, zr_27, zr_32, zr_34, zr_50, zr_50b, zr_53, zr_54, zr_57, zr_58, zr_60, zr_72, zr_73, zlg_0, zlg_s, zls_0, zls_1, zls_s, zkl_i, zkl_r, zkl_l, zkl_n, zkd_43, zkd_44, zkd_45, zkd_46, zkd_51, zkd_52, zkd_53, zkd_54, zkd_55, zkd_56, zkd_57, zkd_58, zkd_59, zkd_60, zkd_a50, zkd_a50_6, zln_44, zln_46, zln_52, zln_54, zln_56, zln_58, zln_60, zln_a50_6, zrf_43_6, zrf_45_6, zrf_51_6, zrf_53_6, zrf_55_6, zrf_57_6, zrf_59_6, zrf_a50_6, Int.cast_ofNat_Int, Int.reduceAdd, zbd, zw_id, zmu_same, zmu_c, zmu_i, false_and, and_false, true_and, and_true, true_or, or_true, false_or, or_false, Option.toList, List.nil_append, List.cons_append, zif0, zif1, zif01, zem1, zem2, Int.reduceEq, Int.reduceLT, Int.reduceLE, Int.reduceNeg, Int.reduceSub, Int.reduceMul, if_true, if_false, not_false_eq_true, not_true_eq_false, true_implies, false_implies, Classical.not_not, Nat.reduceAdd, Nat.reduceLeDiff, k7, e1, k8, k9, k10]
    refine zfor 8 (fun j lc m' => 1 ≤ j ∧ lc = [some (.inr (.inr c)), some (.inl x), some (.inl (gMx (fun r => S (6 + r)) (j - 1).toNat)), some (.inl j)] ∧ m' = m) ?_ ?_ (i := 1) (by decide) ?_
    · rintro j lc m' hj ⟨h0, rfl, rfl⟩ kk
      have b := gMx_bd (fun r => S (6 + r)) (j - 1).toNat
      have e : gMx (fun r => S (6 + r)) (j + 1 - 1).toNat = if S (6 + gMx (fun r => S (6 + r)) (j - 1).toNat) < S (6 + j) then j else gMx (fun r => S (6 + r)) (j - 1).toNat := by
        rw [show (j + 1 - 1).toNat = (j - 1).toNat + 1 by omega]
        show (if S (6 + gMx (fun r => S (6 + r)) (j - 1).toNat) < S (6 + (((j - 1).toNat : Int) + 1)) then (((j - 1).toNat : Int) + 1) else gMx (fun r => S (6 + r)) (j - 1).toNat) = _
        rw [show (((j - 1).toNat : Int) + 1) = j by omega]
      rw [zw47_3]
      by_cases c2 : S (6 + gMx (fun r => S (6 + r)) (j - 1).toNat) < S (6 + j)
      · simp +contextual (disch := (first | omega | assumption | decide)) only [↓zbrT, ↓zbrF, zw47_0, zw47_1, zw47_2, zw47_4, zw47_5, zw47_6, zw47_7, zw47_8, zw47_9, zr_1, zr_3, zr_4, zr_7, zr_10, zr_12, zr_13, zr_16, zr_21, zr_26, zr_27, zr_32, zr_34, zr_50, zr_50b, zr_53, zr_54, zr_57, zr_58, zr_60, zr_72, zr_73, zlg_0, zlg_s, zls_0, zls_1, zls_s, zkl_i, zkl_r, zkl_l, zkl_n, zkd_43, zkd_44, zkd_45, zkd_46, zkd_51, zkd_52, zkd_53, zkd_54, zkd_55, zkd_56, zkd_57, zkd_58, zkd_59, zkd_60, zkd_a50, zkd_a50_6, zln_44, zln_46, zln_52, zln_54, zln_56, zln_58, zln_60, zln_a50_6, zrf_43_6, zrf_45_6, zrf_51_6, zrf_53_6, zrf_55_6, zrf_57_6, zrf_59_6, zrf_a50_6, Int.cast_ofNat_Int, Int.reduceAdd, zbd, zw_id, zmu_same, zmu_c, zmu_i, false_and, and_false, true_and, and_true, true_or, or_true, false_or, or_false, Option.toList, List.nil_append, List.cons_append, zif0, zif1, zif01, zem1, zem2, Int.reduceEq, Int.reduceLT, Int.reduceLE, Int.reduceNeg, Int.reduceSub, Int.reduceMul, if_true, if_false, not_false_eq_true, not_true_eq_false, true_implies, false_implies, Classical.not_not, Nat.reduceAdd, Nat.reduceLeDiff, k7, k8, k9, k10, ef]
        refine kk _ _ ⟨by omega, ?_, rfl⟩
        rw [e, if_pos c2]
      · simp +contextual (disch := (first | omega | assumption | decide)) only [↓zbrT, ↓zbrF, zw47_0, zw47_1, zw47_2, zw47_4, zw47_5, zw47_6, zw47_7, zw47_8, zw47_9, zr_1, zr_3, zr_4, zr_7, zr_10, zr_12, zr_13, zr_16, zr_21, zr_26, zr_27, zr_32, zr_34, zr_50, zr_50b, zr_53, zr_54, zr_57, zr_58, zr_60, zr_72, zr_73, zlg_0, zlg_s, zls_0, zls_1, zls_s, zkl_i, zkl_r, zkl_l, zkl_n, zkd_43, zkd_44, zkd_45, zkd_46, zkd_51, zkd_52, zkd_53, zkd_54, zkd_55, zkd_56, zkd_57, zkd_58, zkd_59, zkd_60, zkd_a50, zkd_a50_6, zln_44, zln_46, zln_52, zln_54, zln_56, zln_58, zln_60, zln_a50_6, zrf_43_6, zrf_45_6, zrf_51_6, zrf_53_6, zrf_55_6, zrf_57_6, zrf_59_6, zrf_a50_6, Int.cast_ofNat_Int, Int.reduceAdd, zbd, zw_id, zmu_same, zmu_c, zmu_i, false_and, and_false, true_and, and_true, true_or, or_true, false_or, or_false, Option.toList, List.nil_append, List.cons_append, zif0, zif1, zif01, zem1, zem2, Int.reduceEq, Int.reduceLT, Int.reduceLE, Int.reduceNeg, Int.reduceSub, Int.reduceMul, if_true, if_false, not_false_eq_true, not_true_eq_false, true_implies, false_implies, Classical.not_not, Nat.reduceAdd, Nat.reduceLeDiff, k7, k8, k9, k10, ef]
        refine kk _ _ ⟨by omega, ?_, rfl⟩
        rw [e, if_neg c2]
    · rintro lc m' ⟨h0, rfl, rfl⟩
      rw [show ((8 : Int) - 1).toNat = 7 from rfl]
      have b := gMx_bd (fun r => S (6 + r)) 7
      rw [zw47_3]
      by_cases c2 : 2 ≤ S (6 + gMx (fun r => S (6 + r)) 7)
      · simp +contextual (disch := (first | omega | assumption | decide)) only [↓zbrT, ↓zbrF, zw47_0, zw47_1, zw47_2, zw47_4, zw47_5, zw47_6, zw47_7, zw47_8, zw47_9, zr_1, zr_3, zr_4, zr_7, zr_10, zr_12, zr_13, zr_16, zr_21, zr_26, zr_27, zr_32, zr_34, zr_50, zr_50b, zr_53, zr_54, zr_57, zr_58, zr_60, zr_72, zr_73, zlg_0, zlg_s, zls_0, zls_1, zls_s, zkl_i, zkl_r, zkl_l, zkl_n, zkd_43, zkd_44, zkd_45, zkd_46, zkd_51, zkd_52, zkd_53, zkd_54, zkd_55, zkd_56, zkd_57, zkd_58, zkd_59, zkd_60, zkd_a50, zkd_a50_6, zln_44, zln_46, zln_52, zln_54, zln_56, zln_58, zln_60, zln_a50_6, zrf_43_6, zrf_45_6, zrf_51_6, zrf_53_6, zrf_55_6, zrf_57_6, zrf_59_6, zrf_a50_6, Int.cast_ofNat_Int, Int.reduceAdd, zbd, zw_id, zmu_same, zmu_c, zmu_i, false_and, and_false, true_and, and_true, true_or, or_true, false_or, or_false, Option.toList, List.nil_append, List.cons_append, zif0, zif1, zif01, zem1, zem2, Int.reduceEq, Int.reduceLT, Int.reduceLE, Int.reduceNeg, Int.reduceSub, Int.reduceMul, if_true, if_false, not_false_eq_true, not_true_eq_false, true_implies, false_implies, Classical.not_not, Nat.reduceAdd, Nat.reduceLeDiff, k7, k8, k9, k10, ef, e1, e4, e5, zshl_1]
        have eR : gRb S x = (fun i => if i = 1 then S 1 - x else if i = 4 then zor (S 4) (2 ^ (gMx (fun r => S (6 + r)) 7).toNat) else if i = 5 then S 5 + 1 else if i = 6 + gMx (fun r => S (6 + r)) 7 then 0 else S i) := by unfold gRb; rw [if_pos ⟨c1, c2⟩]
        rw [eR]
        refine ⟨⟨?_, fun r a b => ?_⟩, fun c' i hc' => ?_⟩
        · simp only [zmu, true_and, and_true]
          have q := hS.1
          refine ⟨?_, ?_, ?_, ?_, ?_, ?_⟩ <;> (repeat' split) <;> (first | rfl | omega | (exfalso; omega) | simp_all)
        · have := ef r a b
          simp only [zmu, true_and, and_true]
          (repeat' split) <;> (first | rfl | omega | (exfalso; omega))
        · simp only [zmu, true_and, and_true]
          (repeat' split) <;> (first | rfl | omega | (exfalso; omega))
      · simp +contextual (disch := (first | omega | assumption | decide)) only [↓zbrT, ↓zbrF, zw47_0, zw47_1, zw47_2, zw47_4, zw47_5, zw47_6, zw47_7, zw47_8, zw47_9, zr_1, zr_3, zr_4, zr_7, zr_10, zr_12, zr_13, zr_16, zr_21, zr_26, zr_27, zr_32, zr_34, zr_50, zr_50b, zr_53, zr_54, zr_57, zr_58, zr_60, zr_72, zr_73, zlg_0, zlg_s, zls_0, zls_1, zls_s, zkl_i, zkl_r, zkl_l, zkl_n, zkd_43, zkd_44, zkd_45, zkd_46, zkd_51, zkd_52, zkd_53, zkd_54, zkd_55, zkd_56, zkd_57, zkd_58, zkd_59, zkd_60, zkd_a50, zkd_a50_6, zln_44, zln_46, zln_52, zln_54, zln_56, zln_58, zln_60, zln_a50_6, zrf_43_6, zrf_45_6, zrf_51_6, zrf_53_6, zrf_55_6, zrf_57_6, zrf_59_6, zrf_a50_6, Int.cast_ofNat_Int, Int.reduceAdd, zbd, zw_id, zmu_same, zmu_c, zmu_i, false_and, and_false, true_and, and_true, true_or, or_true, false_or, or_false, Option.toList, List.nil_append, List.cons_append, zif0, zif1, zif01, zem1, zem2, Int.reduceEq, Int.reduceLT, Int.reduceLE, Int.reduceNeg, Int.reduceSub, Int.reduceMul, if_true, if_false, not_false_eq_true, not_true_eq_false, true_implies, false_implies, Classical.not_not, Nat.reduceAdd, Nat.reduceLeDiff, k7, k8, k9, k10, ef]
        have eR : gRb S x = S := by unfold gRb; rw [if_neg (fun z => c2 z.2)]
        rw [eR]
        exact ⟨hS, fun _ _ _ => rfl⟩
    · exact ⟨by decide, rfl, rfl⟩
  · simp +contextual (disch := (first | omega | assumption | decide)) only [↓zbrT, ↓zbrF, zw47_0, zw47_1, zw47_2, zw47_4, zw47_5, zw47_6, zw47_7, zw47_8, zw47_9, zr_1, zr_3, zr_4, zr_7, zr_10, zr_12, zr_13, zr_16, zr_21, zr_26, zr_27, zr_32, zr_34, zr_50, zr_50b, zr_53, zr_54, zr_57, zr_58, zr_60, zr_72, zr_73, zlg_0, zlg_s, zls_0, zls_1, zls_s, zkl_i, zkl_r, zkl_l, zkl_n, zkd_43, zkd_44, zkd_45, zkd_46, zkd_51, zkd_52, zkd_53, zkd_54, zkd_55, zkd_56, zkd_57, zkd_58, zkd_59, zkd_60, zkd_a50, zkd_a50_6, zln_44, zln_46, zln_52, zln_54, zln_56, zln_58, zln_60, zln_a50_6, zrf_43_6, zrf_45_6, zrf_51_6, zrf_53_6, zrf_55_6, zrf_57_6, zrf_59_6, zrf_a50_6, Int.cast_ofNat_Int, Int.reduceAdd, zbd, zw_id, zmu_same, zmu_c, zmu_i, false_and, and_false, true_and, and_true, true_or, or_true, false_or, or_false, Option.toList, List.nil_append, List.cons_append, zif0, zif1, zif01, zem1, zem2, Int.reduceEq, Int.reduceLT, Int.reduceLE, Int.reduceNeg, Int.reduceSub, Int.reduceMul, if_true, if_false, not_false_eq_true, not_true_eq_false, true_implies, false_implies, Classical.not_not, Nat.reduceAdd, Nat.reduceLeDiff, k7, e1]
    have eR : gRb S x = S := by unfold gRb; rw [if_neg (fun z => c1 z.1)]
    rw [eR]
    exact ⟨hS, fun _ _ _ => rfl⟩
