/-! ===== a night of the class ===== -/
def gS1 (S : Int → Int) (g : Int) : Int := if g = -1 then S 4 else zand (S 4) (zxor (2 ^ g.toNat) (-1))
def gFl (V : zMm) (S : Int → Int) (g r : Int) : Int := S (6 + r) + if r < V 0 5 ∧ 0 < vT V r ∧ zbit (gS1 S g) r = 0 then 1 else 0
def gBk (V : zMm) (S : Int → Int) (g : Int) : Int → Int := fun i => if i = 0 then S 0 + 1 else if i = 3 then (if g = -1 then S 3 else min (vA V g) (vB V g)) else if i = 4 then gS1 S g else if 6 ≤ i ∧ i < 14 then gFl V S g (i - 6) else S i
def gNi (V : zMm) (S : Int → Int) (g : Int) : Int → Int := if S 1 + gTk V (gS1 S g) < V 0 2 then (fun i => if i = 1 then 0 else if i = 2 then 1 else gBk V S g i) else gRb (fun i => if i = 1 then S 1 + gTk V (gS1 S g) - V 0 2 else gBk V S g i) (V 0 3)
/-- a night that may go: none, or a gate that stands -/
def gLg (S : Int → Int) (g : Int) : Prop := g = -1 ∨ (0 ≤ g ∧ g < 8 ∧ zbit (S 4) g = 1)
theorem gS1_bd {V : zMm} {S : Int → Int} {g : Int} (hk : gSok V S) (hg : gLg S g) : 0 ≤ gS1 S g ∧ gS1 S g < 256 := by
  have b := hk.2.2.2.2.1
  unfold gS1
  split
  · exact b
  · have := zandn_bd b (p2_bd (k := g) (by unfold gLg at hg; omega))
    omega
theorem gS1_bit {V : zMm} {S : Int → Int} {g r : Int} (hk : gSok V S) (hg : gLg S g) (h0 : 0 ≤ r) (h1 : r < 8) : zbit (gS1 S g) r = if zbit (S 4) r = 1 ∧ r ≠ g then 1 else 0 := by
  have b := hk.2.2.2.2.1
  unfold gS1
  by_cases c : g = -1
  · rw [if_pos c]
    rcases zbit_01 (S 4) r with z | z
    · rw [z, if_neg (by omega)]
    · rw [z, if_pos ⟨rfl, by omega⟩]
  · have hg' : 0 ≤ g ∧ g < 8 := by unfold gLg at hg; omega
    rw [if_neg c, zbit_andn b (p2_bd hg') ⟨h0, h1⟩, zbit_p2 hg' ⟨h0, h1⟩]
    by_cases e : r = g
    · rw [if_pos e, if_neg (by omega), if_neg (by omega)]
    · rw [if_neg e]
      by_cases z : zbit (S 4) r = 1
      · rw [if_pos ⟨z, rfl⟩, if_pos ⟨z, e⟩]
      · rw [if_neg (fun q => z q.1), if_neg (fun q => z q.1)]
/-- alike but for the atlas's own cells and two more -/
def gE2 (c : Int) (m m' : zMm) : Prop := ∀ c' i, (c' ≠ 39 ∧ c' ≠ 40 ∧ c' ≠ 41 ∧ c' ≠ 20) ∧ c' ≠ c ∧ c' ≠ c + 1 → m' c' i = m c' i
theorem gE2_r {c : Int} {m m' : zMm} (h : gE2 c m m') {c' i : Int} (h1 : (c' ≠ 39 ∧ c' ≠ 40 ∧ c' ≠ 41 ∧ c' ≠ 20) ∧ c' ≠ c ∧ c' ≠ c + 1) : m' c' i = m c' i := h c' i h1
theorem gE2_refl {c : Int} {m : zMm} : gE2 c m m := fun _ _ _ => rfl
theorem gE2_tr {c : Int} {m m' m'' : zMm} (h1 : gE2 c m m') (h2 : gE2 c m' m'') : gE2 c m m'' := fun c' i h => by rw [h2 c' i h, h1 c' i h]
theorem gE2_E {c : Int} {m m' : zMm} (h : gE m m') : gE2 c m m' := fun c' i hc => h c' i hc.1
theorem gE2_q {c : Int} {m m' : zMm} (h : gEq c m m') : gE2 c m m' := fun c' i hc => h c' i hc.2
theorem gA_eq {V m m' : zMm} {c : Int} (hc : gStc c) (h : gA V m) (h1 : gEq c m m') : gA V m' := gA_of h (fun c' i a b => h1 c' i (by unfold gStc at hc; omega))
def gpsm (m : zMm) (c B j : Int) : zMm := fun c' i => if c' = c + 1 ∧ 0 ≤ i ∧ i < j then m (c + 1) i + zbit B i else m c' i
theorem gz46 {d : Nat} {m : zMm} {c : Int} {g : Int} {V : zMm} {S : Int → Int} (hA : gA V m) (hc : gStc c) (hS : gSt S c m) (hk : gSok V S) (hg : gLg S g) (hn : S 0 < 1000) : zC (d + 5) 46 [.inr (.inr c), .inr (.inr 20), .inl g] m (fun r' m' => r' = some (.inl (gTk V (gS1 S g))) ∧ gA V m' ∧ gSt (gNi V S g) c m' ∧ gE2 c m m') := by
  refine ze46 ?_
  have hb := hA.1.1
  have b1 := gS1_bd hk hg
  have bG := gGb_bd hA.1
  have bT := gTk_bd hA.1 (s := gS1 S g)
  have b0 := hk.1
  have k0 := hc.1
  have k1 := hc.2.1
  have k7 := hc.2.2.1
  have k8 := hc.2.2.2.1
  have k9 := hc.2.2.2.2.1
  have k10 := hc.2.2.2.2.2
  have half : ∀ m1 x4 x5, gA V m1 → gSt (fun i => if i = 3 then (if g = -1 then S 3 else min (vA V g) (vB V g)) else if i = 4 then gS1 S g else S i) c m1 → gE2 c m m1 → zWP (zEx (d + 4)) 46 2 [some (.inr (.inr c)), some (.inr (.inr 20)), some (.inl g), some (.inr (.inr 21)), x4, x5] [] m1 (fun r' m' => r' = some (.inl (gTk V (gS1 S g))) ∧ gA V m' ∧ gSt (gNi V S g) c m' ∧ gE2 c m m') := by
    intro m1 x4 x5 hA1 hS1 hE1
    have q0 : m1 c 0 = S 0 := hS1.1.1
    have q1 : m1 c 1 = S 1 := hS1.1.2.1
    have q2 : m1 c 2 = S 2 := hS1.1.2.2.1
    have q3 : m1 c 3 = if g = -1 then S 3 else min (vA V g) (vB V g) := hS1.1.2.2.2.1
    have q4 : m1 c 4 = gS1 S g := hS1.1.2.2.2.2.1
    have q5 : m1 c 5 = S 5 := hS1.1.2.2.2.2.2
    have qf : ∀ r, 0 ≤ r → r < 8 → m1 (c + 1) r = S (6 + r) := fun r a b => by
      rw [hS1.2 r a b]
      dsimp only
      rw [if_neg (by omega), if_neg (by omega)]
    have hv0 : gCV V (zmu m1 c 0 (S 0 + 1)) := gCV_of hA1.2.1 (fun c' i a b => zmu_c (by omega)) hA1.1
    have bB := zandn_bd bG b1
    simp +contextual (disch := (first | omega | assumption | decide)) only [↓zbrT, ↓zbrF, zw46_0, zw46_1, zw46_2, zw46_4, zw46_5, zw46_6, zw46_7, zw46_8, zr_1, zr_3, zr_4, zr_6, zr_7, zr_10, zr_12, zr_13, zr_15, zr_16, zr_20, zr_21, zr_26, zr_27, zr_31, zr_33, zr_34, zr_35, zr_50, zr_50b, zr_51, zr_53, zr_54, zr_58, zr_61, zr_68, zr_70, zr_73, zlg_0, zlg_s, zls_0, zls_1, zls_s, zkl_i, zkl_r, zkl_l, zkl_n, zrc_1, zrc_s, zcat_n, zcat_i, zcat_l, zcat_r, zkd_105, zkd_106, zkd_20, zkd_21, zkd_22, zkd_3, zkd_4, zkd_43, zkd_44, zkd_45, zkd_46, zkd_51, zkd_52, zkd_53, zkd_54, zkd_55, zkd_56, zkd_57, zkd_58, zkd_59, zkd_60, zkd_67, zkd_68, zkd_86, zkd_87, zkd_a106, zkd_a22, zkd_a4, zkd_a50, zkd_a50_6, zkd_a68, zkd_a87, zln_106, zln_22, zln_4, zln_44, zln_46, zln_52, zln_54, zln_56, zln_58, zln_60, zln_68, zln_87, zln_a50_6, zrf_105_10, zrf_20_0, zrf_21_10, zrf_3_10, zrf_43_6, zrf_45_6, zrf_51_6, zrf_53_6, zrf_55_6, zrf_57_6, zrf_59_6, zrf_67_10, zrf_86_10, zrf_a106, zrf_a22, zrf_a4, zrf_a50_6, zrf_a68, zrf_a87, Int.cast_ofNat_Int, Int.reduceAdd, zbd, zw_id, zmu_same, zmu_c, zmu_i, false_and, and_false, true_and, and_true, true_or, or_true, false_or, or_false, Option.toList, List.nil_append, List.cons_append, zif0, zif1, zif01, zem1, zem2, Int.reduceEq, Int.reduceLT, Int.reduceLE, Int.reduceNeg, Int.reduceSub, Int.reduceMul, if_true, if_false, not_false_eq_true, not_true_eq_false, true_implies, false_implies, Classical.not_not, Nat.reduceAdd, Nat.reduceLeDiff, k7, q0, q4, zq35 hA.1 hv0]
    generalize hB : zand (gGb V) (zxor (gS1 S g) (-1)) = B at bB ⊢
    have hBb : ∀ r, 0 ≤ r → r < 8 → zbit B r = if r < V 0 5 ∧ 0 < vT V r ∧ zbit (gS1 S g) r = 0 then 1 else 0 := by
      intro r a b
      rw [← hB, zbit_andn bG b1 ⟨a, b⟩, zbit_Gb hA.1 a b]
      by_cases z : r < V 0 5 ∧ 0 < vT V r
      · rw [if_pos z]
        by_cases y : zbit (gS1 S g) r = 0
        · rw [if_pos ⟨rfl, y⟩, if_pos ⟨z.1, z.2, y⟩]
        · rw [if_neg (fun w => y w.2), if_neg (fun w => y w.2.2)]
      · rw [if_neg z, if_neg (by omega), if_neg (fun w => z ⟨w.1, w.2.1⟩)]
    refine zfor (V 0 5) (fun j lc m' => 0 ≤ j ∧ lc = [some (.inr (.inr c)), some (.inr (.inr 20)), some (.inl g), some (.inr (.inr 21)), some (.inl B), some (.inl j)] ∧ m' = gpsm (zmu m1 c 0 (S 0 + 1)) c B j) ?_ ?_ (i := 0) (by omega) ?_
    · rintro j lc m' hj ⟨h0, rfl, rfl⟩ kk
      have hv : gCV V (gpsm (zmu m1 c 0 (S 0 + 1)) c B j) := gCV_of hv0 (fun c' i a b => by unfold gpsm; rw [if_neg (by omega)]) hA1.1
      have ef : gpsm (zmu m1 c 0 (S 0 + 1)) c B j (c + 1) j = S (6 + j) := by
        unfold gpsm
        rw [if_neg (by omega), zmu_c (by omega)]
        exact qf j h0 (by omega)
      have bf := hk.2.2.2.2.2.2.2 j h0 (by omega)
      have bb := zbit_01 B j
      rw [zw46_3]
      simp +contextual (disch := (first | omega | assumption | decide)) only [↓zbrT, ↓zbrF, zw46_0, zw46_1, zw46_2, zw46_4, zw46_5, zw46_6, zw46_7, zw46_8, zr_1, zr_3, zr_4, zr_6, zr_7, zr_10, zr_12, zr_13, zr_15, zr_16, zr_20, zr_21, zr_26, zr_27, zr_31, zr_33, zr_34, zr_35, zr_50, zr_50b, zr_51, zr_53, zr_54, zr_58, zr_61, zr_68, zr_70, zr_73, zlg_0, zlg_s, zls_0, zls_1, zls_s, zkl_i, zkl_r, zkl_l, zkl_n, zrc_1, zrc_s, zcat_n, zcat_i, zcat_l, zcat_r, zkd_105, zkd_106, zkd_20, zkd_21, zkd_22, zkd_3, zkd_4, zkd_43, zkd_44, zkd_45, zkd_46, zkd_51, zkd_52, zkd_53, zkd_54, zkd_55, zkd_56, zkd_57, zkd_58, zkd_59, zkd_60, zkd_67, zkd_68, zkd_86, zkd_87, zkd_a106, zkd_a22, zkd_a4, zkd_a50, zkd_a50_6, zkd_a68, zkd_a87, zln_106, zln_22, zln_4, zln_44, zln_46, zln_52, zln_54, zln_56, zln_58, zln_60, zln_68, zln_87, zln_a50_6, zrf_105_10, zrf_20_0, zrf_21_10, zrf_3_10, zrf_43_6, zrf_45_6, zrf_51_6, zrf_53_6, zrf_55_6, zrf_57_6, zrf_59_6, zrf_67_10, zrf_86_10, zrf_a106, zrf_a22, zrf_a4, zrf_a50_6, zrf_a68, zrf_a87, Int.cast_ofNat_Int, Int.reduceAdd, zbd, zw_id, zmu_same, zmu_c, zmu_i, false_and, and_false, true_and, and_true, true_or, or_true, false_or, or_false, Option.toList, List.nil_append, List.cons_append, zif0, zif1, zif01, zem1, zem2, Int.reduceEq, Int.reduceLT, Int.reduceLE, Int.reduceNeg, Int.reduceSub, Int.reduceMul, if_true, if_false, not_false_eq_true, not_true_eq_false, true_implies, false_implies, Classical.not_not, Nat.reduceAdd, Nat.reduceLeDiff, k7, k8, k9, k10, gA_0 hv, gA_1 hv, gA_2 hv, gA_3 hv, gA_4 hv, gA_5 hv, gA_6 hv, gA_7 hv, gA_8 hv, gA_9 hv, gA_r0 hv, gA_r1 hv, gA_r2 hv, gA_r3 hv, gA_f0 hv, gA_f1 hv, gA_f2 hv, gA_f3 hv, gA_f4 hv, ef, zbit_of]
      refine kk _ _ ⟨by omega, rfl, ?_⟩
      funext c' i
      have qj := qf j h0 (by omega)
      simp only [zmu, gpsm, true_and, and_true]
      (repeat' split) <;> (first | rfl | omega | (exfalso; omega) | simp_all)
    · rintro lc m' ⟨h0, rfl, rfl⟩
      have hv : gCV V (gpsm (zmu m1 c 0 (S 0 + 1)) c B (V 0 5)) := gCV_of hv0 (fun c' i a b => by unfold gpsm; rw [if_neg (by omega)]) hA1.1
      have hA2 : gA V (gpsm (zmu m1 c 0 (S 0 + 1)) c B (V 0 5)) := gA_of hA1 (fun c' i a b => by unfold gpsm; rw [if_neg (by omega), zmu_c (by omega)])
      have hS2 : gSt (gBk V S g) c (gpsm (zmu m1 c 0 (S 0 + 1)) c B (V 0 5)) := by
        refine ⟨?_, fun r a b => ?_⟩
        · have g0 : ∀ i, gpsm (zmu m1 c 0 (S 0 + 1)) c B (V 0 5) c i = zmu m1 c 0 (S 0 + 1) c i := fun i => by unfold gpsm; rw [if_neg (by omega)]
          simp only [g0]
          refine ⟨?_, ?_, ?_, ?_, ?_, ?_⟩
          · rw [zmu_same]; rfl
          · rw [zmu_i (by decide), q1]; rfl
          · rw [zmu_i (by decide), q2]; rfl
          · rw [zmu_i (by decide), q3]; rfl
          · rw [zmu_i (by decide), q4]; rfl
          · rw [zmu_i (by decide), q5]; rfl
        · have e : gBk V S g (6 + r) = gFl V S g r := by
            unfold gBk
            rw [if_neg (by omega), if_neg (by omega), if_neg (by omega), if_pos (by omega), show 6 + r - 6 = r by omega]
          rw [e]
          unfold gpsm gFl
          have z := hBb r a b
          by_cases y : r < V 0 5
          · rw [if_pos (by omega), zmu_c (by omega), qf r a b, z]
          · rw [if_neg (by omega), zmu_c (by omega), qf r a b, if_neg (fun w => y w.1)]; omega
      have hE2 : gE2 c m (gpsm (zmu m1 c 0 (S 0 + 1)) c B (V 0 5)) := fun c' i hc' => by
        unfold gpsm
        rw [if_neg (by omega), zmu_c (by omega)]; exact hE1 c' i hc'
      generalize gpsm (zmu m1 c 0 (S 0 + 1)) c B (V 0 5) = m2 at hv hA2 hS2 hE2 ⊢
      have r4 : m2 c 4 = gS1 S g := hS2.1.2.2.2.2.1
      rw [zw46_3]
      simp +contextual (disch := (first | omega | assumption | decide)) only [↓zbrT, ↓zbrF, zw46_0, zw46_1, zw46_2, zw46_4, zw46_5, zw46_6, zw46_7, zw46_8, zr_1, zr_3, zr_4, zr_6, zr_7, zr_10, zr_12, zr_13, zr_15, zr_16, zr_20, zr_21, zr_26, zr_27, zr_31, zr_33, zr_34, zr_35, zr_50, zr_50b, zr_51, zr_53, zr_54, zr_58, zr_61, zr_68, zr_70, zr_73, zlg_0, zlg_s, zls_0, zls_1, zls_s, zkl_i, zkl_r, zkl_l, zkl_n, zrc_1, zrc_s, zcat_n, zcat_i, zcat_l, zcat_r, zkd_105, zkd_106, zkd_20, zkd_21, zkd_22, zkd_3, zkd_4, zkd_43, zkd_44, zkd_45, zkd_46, zkd_51, zkd_52, zkd_53, zkd_54, zkd_55, zkd_56, zkd_57, zkd_58, zkd_59, zkd_60, zkd_67, zkd_68, zkd_86, zkd_87, zkd_a106, zkd_a22, zkd_a4, zkd_a50, zkd_a50_6, zkd_a68, zkd_a87, zln_106, zln_22, zln_4, zln_44, zln_46, zln_52, zln_54, zln_56, zln_58, zln_60, zln_68, zln_87, zln_a50_6, zrf_105_10, zrf_20_0, zrf_21_10, zrf_3_10, zrf_43_6, zrf_45_6, zrf_51_6, zrf_53_6, zrf_55_6, zrf_57_6, zrf_59_6, zrf_67_10, zrf_86_10, zrf_a106, zrf_a22, zrf_a4, zrf_a50_6, zrf_a68, zrf_a87, Int.cast_ofNat_Int, Int.reduceAdd, zbd, zw_id, zmu_same, zmu_c, zmu_i, false_and, and_false, true_and, and_true, true_or, or_true, false_or, or_false, Option.toList, List.nil_append, List.cons_append, zif0, zif1, zif01, zem1, zem2, Int.reduceEq, Int.reduceLT, Int.reduceLE, Int.reduceNeg, Int.reduceSub, Int.reduceMul, if_true, if_false, not_false_eq_true, not_true_eq_false, true_implies, false_implies, Classical.not_not, Nat.reduceAdd, Nat.reduceLeDiff, k7, gA_0 hv, gA_1 hv, gA_2 hv, gA_3 hv, gA_4 hv, gA_5 hv, gA_6 hv, gA_7 hv, gA_8 hv, gA_9 hv, gA_r0 hv, gA_r1 hv, gA_r2 hv, gA_r3 hv, gA_f0 hv, gA_f1 hv, gA_f2 hv, gA_f3 hv, gA_f4 hv, r4]
      refine gK (gz19 hA2 b1) rfl rfl (Nat.le_of_ble_eq_true rfl) ?_
      rintro _ m3 ⟨rfl, hA3, hE3⟩
      have hS3 : gSt (gBk V S g) c m3 := gSt_of hS2 (fun i => hE3 _ i (by omega)) (fun i => hE3 _ i (by omega))
      have r1 : m3 c 1 = S 1 := hS3.1.2.1
      have b2 := hk.2.1
      by_cases cw : S 1 + gTk V (gS1 S g) < V 0 2
      · simp +contextual (disch := (first | omega | assumption | decide)) only [↓zbrT, ↓zbrF, zw46_0, zw46_1, zw46_2, zw46_4, zw46_5, zw46_6, zw46_7, zw46_8, zr_1, zr_3, zr_4, zr_6, zr_7, zr_10, zr_12, zr_13, zr_15, zr_16, zr_20, zr_21, zr_26, zr_27, zr_31, zr_33, zr_34, zr_35, zr_50, zr_50b, zr_51, zr_53, zr_54, zr_58, zr_61, zr_68, zr_70, zr_73, zlg_0, zlg_s, zls_0, zls_1, zls_s, zkl_i, zkl_r, zkl_l, zkl_n, zrc_1, zrc_s, zcat_n, zcat_i, zcat_l, zcat_r, zkd_105, zkd_106, zkd_20, zkd_21, zkd_22, zkd_3, zkd_4, zkd_43, zkd_44, zkd_45, zkd_46, zkd_51, zkd_52, zkd_53, zkd_54, zkd_55, zkd_56, zkd_57, zkd_58, zkd_59, zkd_60, zkd_67, zkd_68, zkd_86, zkd_87, zkd_a106, zkd_a22, zkd_a4, zkd_a50, zkd_a50_6, zkd_a68, zkd_a87, zln_106, zln_22, zln_4, zln_44, zln_46, zln_52, zln_54, zln_56, zln_58, zln_60, zln_68, zln_87, zln_a50_6, zrf_105_10, zrf_20_0, zrf_21_10, zrf_3_10, zrf_43_6, zrf_45_6, zrf_51_6, zrf_53_6, zrf_55_6, zrf_57_6, zrf_59_6, zrf_67_10, zrf_86_10, zrf_a106, zrf_a22, zrf_a4, zrf_a50_6, zrf_a68, zrf_a87, Int.cast_ofNat_Int, Int.reduceAdd, zbd, zw_id, zmu_same, zmu_c, zmu_i, false_and, and_false, true_and, and_true, true_or, or_true, false_or, or_false, Option.toList, List.nil_append, List.cons_append, zif0, zif1, zif01, zem1, zem2, Int.reduceEq, Int.reduceLT, Int.reduceLE, Int.reduceNeg, Int.reduceSub, Int.reduceMul, if_true, if_false, not_false_eq_true, not_true_eq_false, true_implies, false_implies, Classical.not_not, Nat.reduceAdd, Nat.reduceLeDiff, k7, r1, gA_0 hA3.2.1, gA_1 hA3.2.1, gA_2 hA3.2.1, gA_3 hA3.2.1, gA_4 hA3.2.1, gA_5 hA3.2.1, gA_6 hA3.2.1, gA_7 hA3.2.1, gA_8 hA3.2.1, gA_9 hA3.2.1, gA_r0 hA3.2.1, gA_r1 hA3.2.1, gA_r2 hA3.2.1, gA_r3 hA3.2.1, gA_f0 hA3.2.1, gA_f1 hA3.2.1, gA_f2 hA3.2.1, gA_f3 hA3.2.1, gA_f4 hA3.2.1, gA_d hA3]
        have eN : gNi V S g = (fun i => if i = 1 then 0 else if i = 2 then 1 else gBk V S g i) := by unfold gNi; rw [if_pos cw]
        rw [eN]
        refine ⟨gA_of hA3 (fun c' i a b => by rw [zmu_c (by omega), zmu_c (by omega), zmu_c (by omega)]), ⟨?_, fun r a b => ?_⟩, fun c' i hc' => ?_⟩
        · obtain ⟨t0, t1, t2, t3, t4, t5⟩ := hS3.1
          simp only [zmu, true_and]
          refine ⟨?_, ?_, ?_, ?_, ?_, ?_⟩ <;> simp only [Int.reduceEq, if_true, if_false] <;> assumption
        · dsimp only
          rw [zmu_c (by omega), zmu_c (by omega), zmu_c (by omega), if_neg (by omega), if_neg (by omega)]
          exact hS3.2 r a b
        · rw [zmu_c (by omega), zmu_c (by omega), zmu_c (by omega), hE3 c' i hc'.1]
          exact hE2 c' i hc'
      · simp +contextual (disch := (first | omega | assumption | decide)) only [↓zbrT, ↓zbrF, zw46_0, zw46_1, zw46_2, zw46_4, zw46_5, zw46_6, zw46_7, zw46_8, zr_1, zr_3, zr_4, zr_6, zr_7, zr_10, zr_12, zr_13, zr_15, zr_16, zr_20, zr_21, zr_26, zr_27, zr_31, zr_33, zr_34, zr_35, zr_50, zr_50b, zr_51, zr_53, zr_54, zr_58, zr_61, zr_68, zr_70, zr_73, zlg_0, zlg_s, zls_0, zls_1, zls_s, zkl_i, zkl_r, zkl_l, zkl_n, zrc_1, zrc_s, zcat_n, zcat_i, zcat_l, zcat_r, zkd_105, zkd_106, zkd_20, zkd_21, zkd_22, zkd_3, zkd_4, zkd_43, zkd_44, zkd_45, zkd_46, zkd_51, zkd_52, zkd_53, zkd_54, zkd_55, zkd_56, zkd_57, zkd_58, zkd_59, zkd_60, zkd_67, zkd_68, zkd_86, zkd_87, zkd_a106, zkd_a22, zkd_a4, zkd_a50, zkd_a50_6, zkd_a68, zkd_a87, zln_106, zln_22, zln_4, zln_44, zln_46, zln_52, zln_54, zln_56, zln_58, zln_60, zln_68, zln_87, zln_a50_6, zrf_105_10, zrf_20_0, zrf_21_10, zrf_3_10, zrf_43_6, zrf_45_6, zrf_51_6, zrf_53_6, zrf_55_6, zrf_57_6, zrf_59_6, zrf_67_10, zrf_86_10, zrf_a106, zrf_a22, zrf_a4, zrf_a50_6, zrf_a68, zrf_a87, Int.cast_ofNat_Int, Int.reduceAdd, zbd, zw_id, zmu_same, zmu_c, zmu_i, false_and, and_false, true_and, and_true, true_or, or_true, false_or, or_false, Option.toList, List.nil_append, List.cons_append, zif0, zif1, zif01, zem1, zem2, Int.reduceEq, Int.reduceLT, Int.reduceLE, Int.reduceNeg, Int.reduceSub, Int.reduceMul, if_true, if_false, not_false_eq_true, not_true_eq_false, true_implies, false_implies, Classical.not_not, Nat.reduceAdd, Nat.reduceLeDiff, k7, r1, gA_0 hA3.2.1, gA_1 hA3.2.1, gA_2 hA3.2.1, gA_3 hA3.2.1, gA_4 hA3.2.1, gA_5 hA3.2.1, gA_6 hA3.2.1, gA_7 hA3.2.1, gA_8 hA3.2.1, gA_9 hA3.2.1, gA_r0 hA3.2.1, gA_r1 hA3.2.1, gA_r2 hA3.2.1, gA_r3 hA3.2.1, gA_f0 hA3.2.1, gA_f1 hA3.2.1, gA_f2 hA3.2.1, gA_f3 hA3.2.1, gA_f4 hA3.2.1, gA_d hA3]
        have hS4 : gSt (fun i => if i = 1 then S 1 + gTk V (gS1 S g) - V 0 2 else gBk V S g i) c (zmu (zmu m3 c 1 (S 1 + gTk V (gS1 S g))) c 1 (S 1 + gTk V (gS1 S g) - V 0 2)) := by
          refine ⟨?_, fun r a b => ?_⟩
          · obtain ⟨t0, t1, t2, t3, t4, t5⟩ := hS3.1
            simp only [zmu, true_and]
            refine ⟨?_, ?_, ?_, ?_, ?_, ?_⟩ <;> simp only [Int.reduceEq, if_true, if_false] <;> assumption
          · dsimp only
            rw [zmu_c (by omega), zmu_c (by omega), if_neg (by omega)]
            exact hS3.2 r a b
        have b5 := hk.2.2.2.2.2.1
        refine gK (gz47 hc hS4 (by show 0 ≤ S 1 + gTk V (gS1 S g) - V 0 2 ∧ S 1 + gTk V (gS1 S g) - V 0 2 ≤ 1000000000; omega) (by show 0 ≤ S 5 ∧ S 5 ≤ 1000; omega) (by omega)) rfl rfl (Nat.le_of_ble_eq_true rfl) ?_
        rintro _ m5 ⟨rfl, hS5, hE5⟩
        (try simp +contextual (disch := (first | omega | assumption | decide)) only [↓zbrT, ↓zbrF, zw46_0, zw46_1, zw46_2, zw46_4, zw46_5, zw46_6, zw46_7, zw46_8, zr_1, zr_3, zr_4, zr_6, zr_7, zr_10, zr_12, zr_13, zr_15, zr_16, zr_20, zr_21, zr_26, zr_27, zr_31, zr_33, zr_34, zr_35, zr_50, zr_50b, zr_51, zr_53, zr_54, zr_58, zr_61, zr_68, zr_70, zr_73, zlg_0, zlg_s, zls_0, zls_1, zls_s, zkl_i, zkl_r, zkl_l, zkl_n, zrc_1, zrc_s, zcat_n, zcat_i, zcat_l, zcat_r, zkd_105, zkd_106, zkd_20, zkd_21, zkd_22, zkd_3, zkd_4, zkd_43, zkd_44, zkd_45, zkd_46, zkd_51, zkd_52, zkd_53, zkd_54, zkd_55, zkd_56, zkd_57, zkd_58, zkd_59, zkd_60, zkd_67, zkd_68, zkd_86, zkd_87, zkd_a106, zkd_a22, zkd_a4, zkd_a50, zkd_a50_6, zkd_a68, zkd_a87, zln_106, zln_22, zln_4, zln_44, zln_46, zln_52, zln_54, zln_56, zln_58, zln_60, zln_68, zln_87, zln_a50_6, zrf_105_10, zrf_20_0, zrf_21_10, zrf_3_10, zrf_43_6, zrf_45_6, zrf_51_6, zrf_53_6, zrf_55_6, zrf_57_6, zrf_59_6, zrf_67_10, zrf_86_10, zrf_a106, zrf_a22, zrf_a4, zrf_a50_6, zrf_a68, zrf_a87, Int.cast_ofNat_Int, Int.reduceAdd, zbd, zw_id, zmu_same, zmu_c, zmu_i, false_and, and_false, true_and, and_true, true_or, or_true, false_or, or_false, Option.toList, List.nil_append, List.cons_append, zif0, zif1, zif01, zem1, zem2, Int.reduceEq, Int.reduceLT, Int.reduceLE, Int.reduceNeg, Int.reduceSub, Int.reduceMul, if_true, if_false, not_false_eq_true, not_true_eq_false, true_implies, false_implies, Classical.not_not, Nat.reduceAdd, Nat.reduceLeDiff])
        have eN : gNi V S g = gRb (fun i => if i = 1 then S 1 + gTk V (gS1 S g) - V 0 2 else gBk V S g i) (V 0 3) := by unfold gNi; rw [if_neg cw]
        rw [eN]
        refine ⟨gA_of hA3 (fun c' i a b => by rw [hE5 c' i (by omega), zmu_c (by omega), zmu_c (by omega)]), hS5, fun c' i hc' => ?_⟩
        rw [hE5 c' i hc'.2, zmu_c (by omega), zmu_c (by omega), hE3 c' i hc'.1]
        exact hE2 c' i hc'
    · refine ⟨by decide, rfl, ?_⟩
      funext c' i
      unfold gpsm
      rw [if_neg (by omega)]
  have b4 := gSt_4 hS hk
  have e4 := hS.1.2.2.2.2.1
  by_cases c1 : g = -1
  · have nb : ¬ (0 ≤ g ∧ g < 8 ∧ zbit (S 4) g = 1) := by omega
    simp +contextual (disch := (first | omega | assumption | decide)) only [↓zbrT, ↓zbrF, zw46_0, zw46_1, zw46_4, zw46_5, zw46_6, zw46_7, zw46_8, zr_1, zr_3, zr_4, zr_6, zr_7, zr_10, zr_12, zr_13, zr_15, zr_16, zr_20, zr_21, zr_26, zr_27, zr_31, zr_33, zr_34, zr_35, zr_50, zr_50b, zr_51, zr_53, zr_54, zr_58, zr_61, zr_68, zr_70, zr_73, zlg_0, zlg_s, zls_0, zls_1, zls_s, zkl_i, zkl_r, zkl_l, zkl_n, zrc_1, zrc_s, zcat_n, zcat_i, zcat_l, zcat_r, zkd_105, zkd_106, zkd_20, zkd_21, zkd_22, zkd_3, zkd_4, zkd_43, zkd_44, zkd_45, zkd_46, zkd_51, zkd_52, zkd_53, zkd_54, zkd_55, zkd_56, zkd_57, zkd_58, zkd_59, zkd_60, zkd_67, zkd_68, zkd_86, zkd_87, zkd_a106, zkd_a22, zkd_a4, zkd_a50, zkd_a50_6, zkd_a68, zkd_a87, zln_106, zln_22, zln_4, zln_44, zln_46, zln_52, zln_54, zln_56, zln_58, zln_60, zln_68, zln_87, zln_a50_6, zrf_105_10, zrf_20_0, zrf_21_10, zrf_3_10, zrf_43_6, zrf_45_6, zrf_51_6, zrf_53_6, zrf_55_6, zrf_57_6, zrf_59_6, zrf_67_10, zrf_86_10, zrf_a106, zrf_a22, zrf_a4, zrf_a50_6, zrf_a68, zrf_a87, Int.cast_ofNat_Int, Int.reduceAdd, zbd, zw_id, zmu_same, zmu_c, zmu_i, false_and, and_false, true_and, and_true, true_or, or_true, false_or, or_false, Option.toList, List.nil_append, List.cons_append, zif0, zif1, zif01, zem1, zem2, Int.reduceEq, Int.reduceLT, Int.reduceLE, Int.reduceNeg, Int.reduceSub, Int.reduceMul, if_true, if_false, not_false_eq_true, not_true_eq_false, true_implies, false_implies, Classical.not_not, Nat.reduceAdd, Nat.reduceLeDiff, k7, zq43 k7 b4, e4, if_neg nb]
    refine half m _ _ hA ⟨?_, fun r a b => ?_⟩ gE2_refl
    · have e : gS1 S g = S 4 := by unfold gS1; rw [if_pos c1]
      rw [e]
      simp only [Int.reduceEq, if_true, if_false, if_pos c1]
      exact hS.1
    · dsimp only
      rw [if_neg (by omega), if_neg (by omega)]; exact hS.2 r a b
  · have yb : 0 ≤ g ∧ g < 8 ∧ zbit (S 4) g = 1 := by unfold gLg at hg; omega
    have gr := hk.2.2.2.2.2.2.1 g yb.1 yb.2.1 yb.2.2
    have e1 : gS1 S g = zand (S 4) (zxor (2 ^ g.toNat) (-1)) := by unfold gS1; rw [if_neg c1]
    simp +contextual (disch := (first | omega | assumption | decide)) only [↓zbrT, ↓zbrF, zw46_0, zw46_1, zw46_4, zw46_5, zw46_6, zw46_7, zw46_8, zr_1, zr_3, zr_4, zr_6, zr_7, zr_10, zr_12, zr_13, zr_15, zr_16, zr_20, zr_21, zr_26, zr_27, zr_31, zr_33, zr_34, zr_35, zr_50, zr_50b, zr_51, zr_53, zr_54, zr_58, zr_61, zr_68, zr_70, zr_73, zlg_0, zlg_s, zls_0, zls_1, zls_s, zkl_i, zkl_r, zkl_l, zkl_n, zrc_1, zrc_s, zcat_n, zcat_i, zcat_l, zcat_r, zkd_105, zkd_106, zkd_20, zkd_21, zkd_22, zkd_3, zkd_4, zkd_43, zkd_44, zkd_45, zkd_46, zkd_51, zkd_52, zkd_53, zkd_54, zkd_55, zkd_56, zkd_57, zkd_58, zkd_59, zkd_60, zkd_67, zkd_68, zkd_86, zkd_87, zkd_a106, zkd_a22, zkd_a4, zkd_a50, zkd_a50_6, zkd_a68, zkd_a87, zln_106, zln_22, zln_4, zln_44, zln_46, zln_52, zln_54, zln_56, zln_58, zln_60, zln_68, zln_87, zln_a50_6, zrf_105_10, zrf_20_0, zrf_21_10, zrf_3_10, zrf_43_6, zrf_45_6, zrf_51_6, zrf_53_6, zrf_55_6, zrf_57_6, zrf_59_6, zrf_67_10, zrf_86_10, zrf_a106, zrf_a22, zrf_a4, zrf_a50_6, zrf_a68, zrf_a87, Int.cast_ofNat_Int, Int.reduceAdd, zbd, zw_id, zmu_same, zmu_c, zmu_i, false_and, and_false, true_and, and_true, true_or, or_true, false_or, or_false, Option.toList, List.nil_append, List.cons_append, zif0, zif1, zif01, zem1, zem2, Int.reduceEq, Int.reduceLT, Int.reduceLE, Int.reduceNeg, Int.reduceSub, Int.reduceMul, if_true, if_false, not_false_eq_true, not_true_eq_false, true_implies, false_implies, Classical.not_not, Nat.reduceAdd, Nat.reduceLeDiff, zq43 k7 b4, e4, if_pos yb, k7, zshl_1, ← e1, zq31 (zkd_a22 yb.1 yb.2.1), gA_0 hA.2.1, gA_1 hA.2.1, gA_2 hA.2.1, gA_3 hA.2.1, gA_4 hA.2.1, gA_5 hA.2.1, gA_6 hA.2.1, gA_7 hA.2.1, gA_8 hA.2.1, gA_9 hA.2.1, gA_r0 hA.2.1, gA_r1 hA.2.1, gA_r2 hA.2.1, gA_r3 hA.2.1, gA_f0 hA.2.1, gA_f1 hA.2.1, gA_f2 hA.2.1, gA_f3 hA.2.1, gA_f4 hA.2.1, gA_d hA]
    refine half _ _ _ (gA_of hA (fun c' i a b => by rw [zmu_c (by omega), zmu_c (by omega)])) ⟨?_, fun r a b => ?_⟩ (fun c' i hc' => by rw [zmu_c (by omega), zmu_c (by omega)])
    · obtain ⟨t0, t1, t2, t3, t4, t5⟩ := hS.1
      simp only [zmu, true_and]
      refine ⟨?_, ?_, ?_, ?_, ?_, ?_⟩ <;> simp only [Int.reduceEq, if_true, if_false, if_neg c1] <;> assumption
    · dsimp only
      rw [zmu_c (by omega), zmu_c (by omega), if_neg (by omega), if_neg (by omega)]; exact hS.2 r a b
