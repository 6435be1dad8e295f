/-! ===== slots as numbers; judge, funds ===== -/
/-- U 0: widths (-1: nothing), U 1: how many, U 2: numbers, sixty a slot -/
def gUk (U : zMm) : Prop := ∀ s, 0 ≤ s → s < 4 → (-1 ≤ U 0 s ∧ U 0 s ≤ 3) ∧ (0 ≤ U 1 s ∧ U 1 s ≤ 60)
def gCu (U m : zMm) : Prop := ∀ s, 0 ≤ s → s < 4 → m (123 + 2 * s) 1 = U 0 s ∧ m (123 + 2 * s) 2 = U 1 s ∧ ∀ i, 0 ≤ i → i < U 1 s → m (124 + 2 * s) i = U 2 (60 * s + i)
def gMu (U m : zMm) : Prop := ∀ s, 0 ≤ s → s < 4 → m 132 s = U 0 s ∧ m 133 s = U 1 s ∧ ∀ i, 0 ≤ i → i < U 1 s → m 134 (60 * s + i) = U 2 (60 * s + i)
theorem gCu_of {U m m' : zMm} (h : gCu U m) (h1 : ∀ c i, 123 ≤ c → c ≤ 130 → m' c i = m c i) : gCu U m' := fun s a b => by
  have q := h s a b
  rw [h1 _ _ (by omega) (by omega), h1 _ _ (by omega) (by omega)]
  exact ⟨q.1, q.2.1, fun i c e => by rw [h1 _ _ (by omega) (by omega)]; exact q.2.2 i c e⟩
theorem gCu_x {U m m' : zMm} (h : gCu U m) (hX : gX m m') : gCu U m' := gCu_of h (fun c i a b => hX c i (by omega))
theorem gMu_of {U m m' : zMm} (h : gMu U m) (h1 : ∀ c i, 132 ≤ c → c ≤ 134 → m' c i = m c i) : gMu U m' := fun s a b => by
  have q := h s a b
  rw [h1 _ _ (by omega) (by omega), h1 _ _ (by omega) (by omega)]
  exact ⟨q.1, q.2.1, fun i c e => by rw [h1 _ _ (by omega) (by omega)]; exact q.2.2 i c e⟩
theorem gMu_y {U m m' : zMm} (h : gMu U m) (hY : gY m m') : gMu U m' := gMu_of h (fun c i a b => hY c i (by omega))
theorem zq77L {d : Nat} {m : zMm} {g : Int} {rest : List zV} {k : List zV → zMm → Prop} {V : zMm} (hA : gA V m) : zcl (zEx (d + 3)) 77 2 (.inr (.inl g) :: .inr (.inr 0) :: rest) m k = (zcat rest ≤ 8 ∧ k (.inl (if (0 ≤ g ∧ g < V 0 5) ∧ 0 < vT V g then 1 else 0) :: rest) m) := by
  refine zcl_eq (as := [.inr (.inr 0), .inr (.inl g)]) (r := some (.inl (if (0 ≤ g ∧ g < V 0 5) ∧ 0 < vT V g then 1 else 0))) (zC_eq.mp (ze77 ?_)) rfl rfl
  have hb := gA_b hA
  have bG := gGb_bd hA.1
  by_cases c : 0 ≤ g ∧ g < V 0 5
  · have e := zbit_Gb hA.1 c.1 (by omega)
    by_cases c2 : 0 < vT V g
    · rw [if_pos ⟨c.2, c2⟩] at e
      have cc : (0 ≤ g ∧ g < V 0 5) ∧ 0 < vT V g := ⟨c, c2⟩
      simp +contextual (disch := (first | omega | assumption | decide)) only [↓zbrT, ↓zbrF, zw77_0, zw77_1, zw77_2, zw77_3, zw77_4, zr_2, zr_3, zr_7, zr_12, zr_31, zr_35, zr_47, zr_54, zr_56, zr_61, zr_68, zr_73, zr_76, zlg_0, zlg_s, zrc_1, zrc_s, zcat_n, zcat_i, zcat_l, zcat_r, zkd_0, zkd_105, zkd_21, zkd_3, zkd_67, zkd_86, zrf_0_3, Int.cast_ofNat_Int, Int.reduceAdd, zw_id, false_and, and_false, true_and, and_true, true_or, or_true, false_or, or_false, Option.toList, List.nil_append, List.cons_append, zif0, zif1, zif01, zem1, zem2, Int.reduceEq, Int.reduceLT, Int.reduceLE, Int.reduceNeg, Int.reduceSub, Int.reduceMul, if_true, if_false, not_false_eq_true, not_true_eq_false, true_implies, false_implies, Classical.not_not, Nat.reduceAdd, Nat.reduceLeDiff, zq76, gA_0 hA.2.1, gA_1 hA.2.1, gA_2 hA.2.1, gA_3 hA.2.1, gA_4 hA.2.1, gA_5 hA.2.1, gA_6 hA.2.1, gA_7 hA.2.1, gA_8 hA.2.1, gA_9 hA.2.1, gA_r0 hA.2.1, gA_r1 hA.2.1, gA_r2 hA.2.1, gA_r3 hA.2.1, gA_f0 hA.2.1, gA_f1 hA.2.1, gA_f2 hA.2.1, gA_f3 hA.2.1, gA_f4 hA.2.1, gA_d hA, zq35 hA.1 hA.2.1, zbit_of, e, if_pos cc]
    · rw [if_neg (fun z => c2 z.2)] at e
      have cc : ¬ ((0 ≤ g ∧ g < V 0 5) ∧ 0 < vT V g) := fun z => c2 z.2
      simp +contextual (disch := (first | omega | assumption | decide)) only [↓zbrT, ↓zbrF, zw77_0, zw77_1, zw77_2, zw77_3, zw77_4, zr_2, zr_3, zr_7, zr_12, zr_31, zr_35, zr_47, zr_54, zr_56, zr_61, zr_68, zr_73, zr_76, zlg_0, zlg_s, zrc_1, zrc_s, zcat_n, zcat_i, zcat_l, zcat_r, zkd_0, zkd_105, zkd_21, zkd_3, zkd_67, zkd_86, zrf_0_3, Int.cast_ofNat_Int, Int.reduceAdd, zw_id, false_and, and_false, true_and, and_true, true_or, or_true, false_or, or_false, Option.toList, List.nil_append, List.cons_append, zif0, zif1, zif01, zem1, zem2, Int.reduceEq, Int.reduceLT, Int.reduceLE, Int.reduceNeg, Int.reduceSub, Int.reduceMul, if_true, if_false, not_false_eq_true, not_true_eq_false, true_implies, false_implies, Classical.not_not, Nat.reduceAdd, Nat.reduceLeDiff, zq76, gA_0 hA.2.1, gA_1 hA.2.1, gA_2 hA.2.1, gA_3 hA.2.1, gA_4 hA.2.1, gA_5 hA.2.1, gA_6 hA.2.1, gA_7 hA.2.1, gA_8 hA.2.1, gA_9 hA.2.1, gA_r0 hA.2.1, gA_r1 hA.2.1, gA_r2 hA.2.1, gA_r3 hA.2.1, gA_f0 hA.2.1, gA_f1 hA.2.1, gA_f2 hA.2.1, gA_f3 hA.2.1, gA_f4 hA.2.1, gA_d hA, zq35 hA.1 hA.2.1, zbit_of, e, if_neg cc]
  · have cc : ¬ ((0 ≤ g ∧ g < V 0 5) ∧ 0 < vT V g) := fun z => c z.1
    simp +contextual (disch := (first | omega | assumption | decide)) only [↓zbrT, ↓zbrF, zw77_0, zw77_1, zw77_2, zw77_3, zw77_4, zr_2, zr_3, zr_7, zr_12, zr_31, zr_35, zr_47, zr_54, zr_56, zr_61, zr_68, zr_73, zr_76, zlg_0, zlg_s, zrc_1, zrc_s, zcat_n, zcat_i, zcat_l, zcat_r, zkd_0, zkd_105, zkd_21, zkd_3, zkd_67, zkd_86, zrf_0_3, Int.cast_ofNat_Int, Int.reduceAdd, zw_id, false_and, and_false, true_and, and_true, true_or, or_true, false_or, or_false, Option.toList, List.nil_append, List.cons_append, zif0, zif1, zif01, zem1, zem2, Int.reduceEq, Int.reduceLT, Int.reduceLE, Int.reduceNeg, Int.reduceSub, Int.reduceMul, if_true, if_false, not_false_eq_true, not_true_eq_false, true_implies, false_implies, Classical.not_not, Nat.reduceAdd, Nat.reduceLeDiff, zq76, gA_0 hA.2.1, gA_1 hA.2.1, gA_2 hA.2.1, gA_3 hA.2.1, gA_4 hA.2.1, gA_5 hA.2.1, gA_6 hA.2.1, gA_7 hA.2.1, gA_8 hA.2.1, gA_9 hA.2.1, gA_r0 hA.2.1, gA_r1 hA.2.1, gA_r2 hA.2.1, gA_r3 hA.2.1, gA_f0 hA.2.1, gA_f1 hA.2.1, gA_f2 hA.2.1, gA_f3 hA.2.1, gA_f4 hA.2.1, gA_d hA, if_neg cc]
/-- the first number of a slot that is none such (w 1: -1 may be) -/
def gBd (V U : zMm) (s w : Int) (N : Nat) : Int := gFst (fun i => ¬ (w = 1 ∧ U 2 (60 * s + i) = -1) ∧ ¬ ((0 ≤ U 2 (60 * s + i) ∧ U 2 (60 * s + i) < V 0 5) ∧ 0 < vT V (U 2 (60 * s + i)))) N
theorem gBd_s {V U : zMm} {s w i : Int} (h : 0 ≤ i) (hn : gBd V U s w i.toNat = -1) (c : (w = 1 ∧ U 2 (60 * s + i) = -1) ∨ ((0 ≤ U 2 (60 * s + i) ∧ U 2 (60 * s + i) < V 0 5) ∧ 0 < vT V (U 2 (60 * s + i)))) : gBd V U s w (i + 1).toNat = -1 := by
  rw [show (i + 1).toNat = i.toNat + 1 by omega]
  show (if gBd V U s w i.toNat = -1 then (if ¬ (w = 1 ∧ U 2 (60 * s + (i.toNat : Nat)) = -1) ∧ ¬ ((0 ≤ U 2 (60 * s + (i.toNat : Nat)) ∧ U 2 (60 * s + (i.toNat : Nat)) < V 0 5) ∧ 0 < vT V (U 2 (60 * s + (i.toNat : Nat)))) then ((i.toNat : Nat) : Int) else -1) else gBd V U s w i.toNat) = -1
  rw [show ((i.toNat : Nat) : Int) = i by omega, if_pos hn, if_neg (fun z => c.elim z.1 z.2)]
theorem gBd_f {V U : zMm} {s w i : Int} {N : Nat} (h : 0 ≤ i) (hN : i < N) (hn : gBd V U s w i.toNat = -1) (c : ¬ ((w = 1 ∧ U 2 (60 * s + i) = -1) ∨ ((0 ≤ U 2 (60 * s + i) ∧ U 2 (60 * s + i) < V 0 5) ∧ 0 < vT V (U 2 (60 * s + i))))) : ¬ gBd V U s w N = -1 := by
  have := gFst_at (c := fun i => ¬ (w = 1 ∧ U 2 (60 * s + i) = -1) ∧ ¬ ((0 ≤ U 2 (60 * s + i) ∧ U 2 (60 * s + i) < V 0 5) ∧ 0 < vT V (U 2 (60 * s + i)))) (r := i.toNat) hn (by
    rw [show ((i.toNat : Nat) : Int) = i by omega]
    exact ⟨fun z => c (Or.inl z), fun z => c (Or.inr z)⟩) N (by omega)
  unfold gBd
  rw [this]; omega
theorem gBd_ok {V U : zMm} {s w i : Int} {N : Nat} (h : gBd V U s w N = -1) (h0 : 0 ≤ i) (h1 : i < N) : (w = 1 ∧ U 2 (60 * s + i) = -1) ∨ ((0 ≤ U 2 (60 * s + i) ∧ U 2 (60 * s + i) < V 0 5) ∧ 0 < vT V (U 2 (60 * s + i))) := by
  have := gFst_none N h i.toNat (by omega)
  rw [show ((i.toNat : Nat) : Int) = i by omega] at this
  by_cases a : w = 1 ∧ U 2 (60 * s + i) = -1
  · exact Or.inl a
  · by_cases b : (0 ≤ U 2 (60 * s + i) ∧ U 2 (60 * s + i) < V 0 5) ∧ 0 < vT V (U 2 (60 * s + i))
    · exact Or.inr b
    · exact absurd ⟨a, b⟩ this
def gCk (V U : zMm) (s w : Int) : Int := if ¬ V 0 10 = 0 ∧ (0 ≤ s ∧ s < 4) then (if U 0 s = -1 then -6 else if gBd V U s w (U 1 s).toNat = -1 then 0 else -2) else -2
theorem zq142 {d : Nat} {m : zMm} {s : Int} {w : Int} {rest : List zV} {k : List zV → zMm → Prop} {V U : zMm} (hI : gI V m) (hk : gUk U) (hu : gCu U m) (hw : w = 0 ∨ w = 1) : zcl (zEx (d + 4)) 142 3 (.inl w :: .inl s :: .inr (.inr 0) :: rest) m k = (zcat rest ≤ 8 ∧ k (.inl (gCk V U s w) :: rest) m) := by
  refine zcl_eq (as := [.inr (.inr 0), .inl s, .inl w]) (r := some (.inl (gCk V U s w))) (zC_eq.mp (ze142 ?_)) rfl rfl
  unfold gCk
  by_cases c1 : V 0 10 = 0
  · rw [if_neg (fun z => z.1 c1)]
    simp +contextual (disch := (first | omega | assumption | decide)) only [↓zbrT, ↓zbrF, zw142_0, zw142_1, zw142_2, zw142_3, zw142_4, zw142_5, zw142_7, zw142_8, zw142_9, zw142_10, zw142_11, zw142_12, zw142_13, zw142_14, zw142_15, zr_1, zr_3, zr_4, zr_6, zr_7, zr_8, zr_10, zr_12, zr_19, zr_20, zr_45, zr_53, zr_54, zr_58, zr_61, zr_62, zr_68, zr_69, zr_70, zr_73, zlg_0, zlg_s, zls_0, zls_1, zls_s, zkl_i, zkl_r, zkl_l, zkl_n, zrc_1, zrc_s, zcat_n, zcat_i, zcat_l, zcat_r, zkd_0, zkd_123, zkd_124, zkd_125, zkd_126, zkd_127, zkd_128, zkd_129, zkd_130, zkd_65, zkd_a65, zkd_a65_0, zln_124, zln_126, zln_128, zln_130, zln_65, zln_a65_0, zrf_0_12, zrf_123_0, zrf_125_0, zrf_127_0, zrf_129_0, zrf_a65, zrf_a65_0, Int.cast_ofNat_Int, Int.reduceAdd, zbd, zw_id, zlc_lt, zlc_ge, zlc_gt, zlc_le, zlc_eq, false_and, and_false, true_and, and_true, true_or, or_true, false_or, or_false, Option.toList, List.nil_append, List.cons_append, zif0, zif1, zif01, zem1, zem2, Int.reduceEq, Int.reduceLT, Int.reduceLE, Int.reduceNeg, Int.reduceSub, Int.reduceMul, if_true, if_false, not_false_eq_true, not_true_eq_false, true_implies, false_implies, Classical.not_not, Nat.reduceAdd, Nat.reduceLeDiff, zq74, gA_0 hI.1.2.1, gA_1 hI.1.2.1, gA_2 hI.1.2.1, gA_3 hI.1.2.1, gA_4 hI.1.2.1, gA_5 hI.1.2.1, gA_6 hI.1.2.1, gA_7 hI.1.2.1, gA_8 hI.1.2.1, gA_9 hI.1.2.1, gA_r0 hI.1.2.1, gA_r1 hI.1.2.1, gA_r2 hI.1.2.1, gA_r3 hI.1.2.1, gA_f0 hI.1.2.1, gA_f1 hI.1.2.1, gA_f2 hI.1.2.1, gA_f3 hI.1.2.1, gA_f4 hI.1.2.1, gA_d hI.1, gI_s0 hI, gI_s1 hI, gI_s2 hI, gI_s3 hI, gI_s4 hI, gI_s5 hI, gI_n hI, if_pos c1]
  · by_cases c2 : 0 ≤ s ∧ s < 4
    · rw [if_pos ⟨c1, c2⟩]
      have q := hu s c2.1 c2.2
      have k := hk s c2.1 c2.2
      have z1 := zrf_a65 c2.1 c2.2
      have z2 := zkd_a65 c2.1 c2.2
      have z3 := zrf_a65_0 c2.1 c2.2
      have z4 := zkd_a65_0 c2.1 c2.2
      have z5 := zln_a65_0 c2.1 c2.2
      by_cases c3 : U 0 s = -1
      · rw [if_pos c3]
        simp +contextual (disch := (first | omega | assumption | decide)) only [↓zbrT, ↓zbrF, zw142_0, zw142_1, zw142_2, zw142_3, zw142_4, zw142_5, zw142_7, zw142_8, zw142_9, zw142_10, zw142_11, zw142_12, zw142_13, zw142_14, zw142_15, zr_1, zr_3, zr_4, zr_6, zr_7, zr_8, zr_10, zr_12, zr_19, zr_20, zr_45, zr_53, zr_54, zr_58, zr_61, zr_62, zr_68, zr_69, zr_70, zr_73, zlg_0, zlg_s, zls_0, zls_1, zls_s, zkl_i, zkl_r, zkl_l, zkl_n, zrc_1, zrc_s, zcat_n, zcat_i, zcat_l, zcat_r, zkd_0, zkd_123, zkd_124, zkd_125, zkd_126, zkd_127, zkd_128, zkd_129, zkd_130, zkd_65, zkd_a65, zkd_a65_0, zln_124, zln_126, zln_128, zln_130, zln_65, zln_a65_0, zrf_0_12, zrf_123_0, zrf_125_0, zrf_127_0, zrf_129_0, zrf_a65, zrf_a65_0, Int.cast_ofNat_Int, Int.reduceAdd, zbd, zw_id, zlc_lt, zlc_ge, zlc_gt, zlc_le, zlc_eq, false_and, and_false, true_and, and_true, true_or, or_true, false_or, or_false, Option.toList, List.nil_append, List.cons_append, zif0, zif1, zif01, zem1, zem2, Int.reduceEq, Int.reduceLT, Int.reduceLE, Int.reduceNeg, Int.reduceSub, Int.reduceMul, if_true, if_false, not_false_eq_true, not_true_eq_false, true_implies, false_implies, Classical.not_not, Nat.reduceAdd, Nat.reduceLeDiff, zq74, gA_0 hI.1.2.1, gA_1 hI.1.2.1, gA_2 hI.1.2.1, gA_3 hI.1.2.1, gA_4 hI.1.2.1, gA_5 hI.1.2.1, gA_6 hI.1.2.1, gA_7 hI.1.2.1, gA_8 hI.1.2.1, gA_9 hI.1.2.1, gA_r0 hI.1.2.1, gA_r1 hI.1.2.1, gA_r2 hI.1.2.1, gA_r3 hI.1.2.1, gA_f0 hI.1.2.1, gA_f1 hI.1.2.1, gA_f2 hI.1.2.1, gA_f3 hI.1.2.1, gA_f4 hI.1.2.1, gA_d hI.1, gI_s0 hI, gI_s1 hI, gI_s2 hI, gI_s3 hI, gI_s4 hI, gI_s5 hI, gI_n hI, if_neg c1, zq141, if_pos c2, zq37 z2, q.1, if_pos c3]
      · rw [if_neg c3]
        simp +contextual (disch := (first | omega | assumption | decide)) only [↓zbrT, ↓zbrF, zw142_0, zw142_1, zw142_2, zw142_3, zw142_4, zw142_5, zw142_7, zw142_8, zw142_9, zw142_10, zw142_11, zw142_12, zw142_13, zw142_14, zw142_15, zr_1, zr_3, zr_4, zr_6, zr_7, zr_8, zr_10, zr_12, zr_19, zr_20, zr_45, zr_53, zr_54, zr_58, zr_61, zr_62, zr_68, zr_69, zr_70, zr_73, zlg_0, zlg_s, zls_0, zls_1, zls_s, zkl_i, zkl_r, zkl_l, zkl_n, zrc_1, zrc_s, zcat_n, zcat_i, zcat_l, zcat_r, zkd_0, zkd_123, zkd_124, zkd_125, zkd_126, zkd_127, zkd_128, zkd_129, zkd_130, zkd_65, zkd_a65, zkd_a65_0, zln_124, zln_126, zln_128, zln_130, zln_65, zln_a65_0, zrf_0_12, zrf_123_0, zrf_125_0, zrf_127_0, zrf_129_0, zrf_a65, zrf_a65_0, Int.cast_ofNat_Int, Int.reduceAdd, zbd, zw_id, zlc_lt, zlc_ge, zlc_gt, zlc_le, zlc_eq, false_and, and_false, true_and, and_true, true_or, or_true, false_or, or_false, Option.toList, List.nil_append, List.cons_append, zif0, zif1, zif01, zem1, zem2, Int.reduceEq, Int.reduceLT, Int.reduceLE, Int.reduceNeg, Int.reduceSub, Int.reduceMul, if_true, if_false, not_false_eq_true, not_true_eq_false, true_implies, false_implies, Classical.not_not, Nat.reduceAdd, Nat.reduceLeDiff, zq74, gA_0 hI.1.2.1, gA_1 hI.1.2.1, gA_2 hI.1.2.1, gA_3 hI.1.2.1, gA_4 hI.1.2.1, gA_5 hI.1.2.1, gA_6 hI.1.2.1, gA_7 hI.1.2.1, gA_8 hI.1.2.1, gA_9 hI.1.2.1, gA_r0 hI.1.2.1, gA_r1 hI.1.2.1, gA_r2 hI.1.2.1, gA_r3 hI.1.2.1, gA_f0 hI.1.2.1, gA_f1 hI.1.2.1, gA_f2 hI.1.2.1, gA_f3 hI.1.2.1, gA_f4 hI.1.2.1, gA_d hI.1, gI_s0 hI, gI_s1 hI, gI_s2 hI, gI_s3 hI, gI_s4 hI, gI_s5 hI, gI_n hI, if_neg c1, zq141, if_pos c2, zq37 z2, q.1, if_neg c3]
        refine zfor (U 1 s) (fun i lc m' => 0 ≤ i ∧ (∃ x5, lc = [some (.inr (.inr 0)), some (.inl s), some (.inl w), some (.inr (.inr (123 + 2 * s))), some (.inl i), x5]) ∧ m' = m ∧ gBd V U s w i.toNat = -1) ?_ ?_ (i := 0) k.2.1 ?_
        · rintro i lc m' hi ⟨h0, ⟨x5, rfl⟩, rfl, hn⟩ kk
          have e := q.2.2 i h0 hi
          rw [zw142_6]
          by_cases cn : w = 1 ∧ U 2 (60 * s + i) = -1
          · have w1 := cn.1
            simp +contextual (disch := (first | omega | assumption | decide)) only [↓zbrT, ↓zbrF, zw142_0, zw142_1, zw142_2, zw142_3, zw142_4, zw142_5, zw142_7, zw142_8, zw142_9, zw142_10, zw142_11, zw142_12, zw142_13, zw142_14, zw142_15, zr_1, zr_3, zr_4, zr_6, zr_7, zr_8, zr_10, zr_12, zr_19, zr_20, zr_45, zr_53, zr_54, zr_58, zr_61, zr_62, zr_68, zr_69, zr_70, zr_73, zlg_0, zlg_s, zls_0, zls_1, zls_s, zkl_i, zkl_r, zkl_l, zkl_n, zrc_1, zrc_s, zcat_n, zcat_i, zcat_l, zcat_r, zkd_0, zkd_123, zkd_124, zkd_125, zkd_126, zkd_127, zkd_128, zkd_129, zkd_130, zkd_65, zkd_a65, zkd_a65_0, zln_124, zln_126, zln_128, zln_130, zln_65, zln_a65_0, zrf_0_12, zrf_123_0, zrf_125_0, zrf_127_0, zrf_129_0, zrf_a65, zrf_a65_0, Int.cast_ofNat_Int, Int.reduceAdd, zbd, zw_id, zlc_lt, zlc_ge, zlc_gt, zlc_le, zlc_eq, false_and, and_false, true_and, and_true, true_or, or_true, false_or, or_false, Option.toList, List.nil_append, List.cons_append, zif0, zif1, zif01, zem1, zem2, Int.reduceEq, Int.reduceLT, Int.reduceLE, Int.reduceNeg, Int.reduceSub, Int.reduceMul, if_true, if_false, not_false_eq_true, not_true_eq_false, true_implies, false_implies, Classical.not_not, Nat.reduceAdd, Nat.reduceLeDiff, z2, z3, z4, z5, q.2.1, e, cn.2]
            exact kk _ _ ⟨by omega, ⟨some (.inl 1), rfl⟩, rfl, gBd_s h0 hn (Or.inl cn)⟩
          · by_cases cg : (0 ≤ U 2 (60 * s + i) ∧ U 2 (60 * s + i) < V 0 5) ∧ 0 < vT V (U 2 (60 * s + i))
            · rcases hw with w0 | w1
              · simp +contextual (disch := (first | omega | assumption | decide)) only [↓zbrT, ↓zbrF, zw142_0, zw142_1, zw142_2, zw142_3, zw142_4, zw142_5, zw142_7, zw142_8, zw142_9, zw142_10, zw142_11, zw142_12, zw142_13, zw142_14, zw142_15, zr_1, zr_3, zr_4, zr_6, zr_7, zr_8, zr_10, zr_12, zr_19, zr_20, zr_45, zr_53, zr_54, zr_58, zr_61, zr_62, zr_68, zr_69, zr_70, zr_73, zlg_0, zlg_s, zls_0, zls_1, zls_s, zkl_i, zkl_r, zkl_l, zkl_n, zrc_1, zrc_s, zcat_n, zcat_i, zcat_l, zcat_r, zkd_0, zkd_123, zkd_124, zkd_125, zkd_126, zkd_127, zkd_128, zkd_129, zkd_130, zkd_65, zkd_a65, zkd_a65_0, zln_124, zln_126, zln_128, zln_130, zln_65, zln_a65_0, zrf_0_12, zrf_123_0, zrf_125_0, zrf_127_0, zrf_129_0, zrf_a65, zrf_a65_0, Int.cast_ofNat_Int, Int.reduceAdd, zbd, zw_id, zlc_lt, zlc_ge, zlc_gt, zlc_le, zlc_eq, false_and, and_false, true_and, and_true, true_or, or_true, false_or, or_false, Option.toList, List.nil_append, List.cons_append, zif0, zif1, zif01, zem1, zem2, Int.reduceEq, Int.reduceLT, Int.reduceLE, Int.reduceNeg, Int.reduceSub, Int.reduceMul, if_true, if_false, not_false_eq_true, not_true_eq_false, true_implies, false_implies, Classical.not_not, Nat.reduceAdd, Nat.reduceLeDiff, z2, z3, z4, z5, q.2.1, e, zq77L hI.1, if_pos cg]
                exact kk _ _ ⟨by omega, ⟨some (.inl 0), rfl⟩, rfl, gBd_s h0 hn (Or.inr cg)⟩
              · have n1 : ¬ U 2 (60 * s + i) = -1 := fun z => cn ⟨w1, z⟩
                simp +contextual (disch := (first | omega | assumption | decide)) only [↓zbrT, ↓zbrF, zw142_0, zw142_1, zw142_2, zw142_3, zw142_4, zw142_5, zw142_7, zw142_8, zw142_9, zw142_10, zw142_11, zw142_12, zw142_13, zw142_14, zw142_15, zr_1, zr_3, zr_4, zr_6, zr_7, zr_8, zr_10, zr_12, zr_19, zr_20, zr_45, zr_53, zr_54, zr_58, zr_61, zr_62, zr_68, zr_69, zr_70, zr_73, zlg_0, zlg_s, zls_0, zls_1, zls_s, zkl_i, zkl_r, zkl_l, zkl_n, zrc_1, zrc_s, zcat_n, zcat_i, zcat_l, zcat_r, zkd_0, zkd_123, zkd_124, zkd_125, zkd_126, zkd_127, zkd_128, zkd_129, zkd_130, zkd_65, zkd_a65, zkd_a65_0, zln_124, zln_126, zln_128, zln_130, zln_65, zln_a65_0, zrf_0_12, zrf_123_0, zrf_125_0, zrf_127_0, zrf_129_0, zrf_a65, zrf_a65_0, Int.cast_ofNat_Int, Int.reduceAdd, zbd, zw_id, zlc_lt, zlc_ge, zlc_gt, zlc_le, zlc_eq, false_and, and_false, true_and, and_true, true_or, or_true, false_or, or_false, Option.toList, List.nil_append, List.cons_append, zif0, zif1, zif01, zem1, zem2, Int.reduceEq, Int.reduceLT, Int.reduceLE, Int.reduceNeg, Int.reduceSub, Int.reduceMul, if_true, if_false, not_false_eq_true, not_true_eq_false, true_implies, false_implies, Classical.not_not, Nat.reduceAdd, Nat.reduceLeDiff, z2, z3, z4, z5, q.2.1, e, n1, zq77L hI.1, if_pos cg]
                exact kk _ _ ⟨by omega, ⟨some (.inl 0), rfl⟩, rfl, gBd_s h0 hn (Or.inr cg)⟩
            · have ne := gBd_f (N := (U 1 s).toNat) h0 (by omega) hn (fun z => z.elim cn cg)
              rw [if_neg ne]
              rcases hw with w0 | w1
              · simp +contextual (disch := (first | omega | assumption | decide)) only [↓zbrT, ↓zbrF, zw142_0, zw142_1, zw142_2, zw142_3, zw142_4, zw142_5, zw142_7, zw142_8, zw142_9, zw142_10, zw142_11, zw142_12, zw142_13, zw142_14, zw142_15, zr_1, zr_3, zr_4, zr_6, zr_7, zr_8, zr_10, zr_12, zr_19, zr_20, zr_45, zr_53, zr_54, zr_58, zr_61, zr_62, zr_68, zr_69, zr_70, zr_73, zlg_0, zlg_s, zls_0, zls_1, zls_s, zkl_i, zkl_r, zkl_l, zkl_n, zrc_1, zrc_s, zcat_n, zcat_i, zcat_l, zcat_r, zkd_0, zkd_123, zkd_124, zkd_125, zkd_126, zkd_127, zkd_128, zkd_129, zkd_130, zkd_65, zkd_a65, zkd_a65_0, zln_124, zln_126, zln_128, zln_130, zln_65, zln_a65_0, zrf_0_12, zrf_123_0, zrf_125_0, zrf_127_0, zrf_129_0, zrf_a65, zrf_a65_0, Int.cast_ofNat_Int, Int.reduceAdd, zbd, zw_id, zlc_lt, zlc_ge, zlc_gt, zlc_le, zlc_eq, false_and, and_false, true_and, and_true, true_or, or_true, false_or, or_false, Option.toList, List.nil_append, List.cons_append, zif0, zif1, zif01, zem1, zem2, Int.reduceEq, Int.reduceLT, Int.reduceLE, Int.reduceNeg, Int.reduceSub, Int.reduceMul, if_true, if_false, not_false_eq_true, not_true_eq_false, true_implies, false_implies, Classical.not_not, Nat.reduceAdd, Nat.reduceLeDiff, z2, z3, z4, z5, q.2.1, e, zq77L hI.1, if_neg cg]
              · have n1 : ¬ U 2 (60 * s + i) = -1 := fun z => cn ⟨w1, z⟩
                simp +contextual (disch := (first | omega | assumption | decide)) only [↓zbrT, ↓zbrF, zw142_0, zw142_1, zw142_2, zw142_3, zw142_4, zw142_5, zw142_7, zw142_8, zw142_9, zw142_10, zw142_11, zw142_12, zw142_13, zw142_14, zw142_15, zr_1, zr_3, zr_4, zr_6, zr_7, zr_8, zr_10, zr_12, zr_19, zr_20, zr_45, zr_53, zr_54, zr_58, zr_61, zr_62, zr_68, zr_69, zr_70, zr_73, zlg_0, zlg_s, zls_0, zls_1, zls_s, zkl_i, zkl_r, zkl_l, zkl_n, zrc_1, zrc_s, zcat_n, zcat_i, zcat_l, zcat_r, zkd_0, zkd_123, zkd_124, zkd_125, zkd_126, zkd_127, zkd_128, zkd_129, zkd_130, zkd_65, zkd_a65, zkd_a65_0, zln_124, zln_126, zln_128, zln_130, zln_65, zln_a65_0, zrf_0_12, zrf_123_0, zrf_125_0, zrf_127_0, zrf_129_0, zrf_a65, zrf_a65_0, Int.cast_ofNat_Int, Int.reduceAdd, zbd, zw_id, zlc_lt, zlc_ge, zlc_gt, zlc_le, zlc_eq, false_and, and_false, true_and, and_true, true_or, or_true, false_or, or_false, Option.toList, List.nil_append, List.cons_append, zif0, zif1, zif01, zem1, zem2, Int.reduceEq, Int.reduceLT, Int.reduceLE, Int.reduceNeg, Int.reduceSub, Int.reduceMul, if_true, if_false, not_false_eq_true, not_true_eq_false, true_implies, false_implies, Classical.not_not, Nat.reduceAdd, Nat.reduceLeDiff, z2, z3, z4, z5, q.2.1, e, n1, zq77L hI.1, if_neg cg]
        · rintro lc m' ⟨h0, ⟨x5, rfl⟩, rfl, hn⟩
          rw [if_pos hn]
          rw [zw142_6]
          simp +contextual (disch := (first | omega | assumption | decide)) only [↓zbrT, ↓zbrF, zw142_0, zw142_1, zw142_2, zw142_3, zw142_4, zw142_5, zw142_7, zw142_8, zw142_9, zw142_10, zw142_11, zw142_12, zw142_13, zw142_14, zw142_15, zr_1, zr_3, zr_4, zr_6, zr_7, zr_8, zr_10, zr_12, zr_19, zr_20, zr_45, zr_53, zr_54, zr_58, zr_61, zr_62, zr_68, zr_69, zr_70, zr_73, zlg_0, zlg_s, zls_0, zls_1, zls_s, zkl_i, zkl_r, zkl_l, zkl_n, zrc_1, zrc_s, zcat_n, zcat_i, zcat_l, zcat_r, zkd_0, zkd_123, zkd_124, zkd_125, zkd_126, zkd_127, zkd_128, zkd_129, zkd_130, zkd_65, zkd_a65, zkd_a65_0, zln_124, zln_126, zln_128, zln_130, zln_65, zln_a65_0, zrf_0_12, zrf_123_0, zrf_125_0, zrf_127_0, zrf_129_0, zrf_a65, zrf_a65_0, Int.cast_ofNat_Int, Int.reduceAdd, zbd, zw_id, zlc_lt, zlc_ge, zlc_gt, zlc_le, zlc_eq, false_and, and_false, true_and, and_true, true_or, or_true, false_or, or_false, Option.toList, List.nil_append, List.cons_append, zif0, zif1, zif01, zem1, zem2, Int.reduceEq, Int.reduceLT, Int.reduceLE, Int.reduceNeg, Int.reduceSub, Int.reduceMul, if_true, if_false, not_false_eq_true, not_true_eq_false, true_implies, false_implies, Classical.not_not, Nat.reduceAdd, Nat.reduceLeDiff, z2, q.2.1]
        · exact ⟨by decide, ⟨_, rfl⟩, rfl, rfl⟩
    · rw [if_neg (fun z => c2 z.2)]
      simp +contextual (disch := (first | omega | assumption | decide)) only [↓zbrT, ↓zbrF, zw142_0, zw142_1, zw142_2, zw142_3, zw142_4, zw142_5, zw142_7, zw142_8, zw142_9, zw142_10, zw142_11, zw142_12, zw142_13, zw142_14, zw142_15, zr_1, zr_3, zr_4, zr_6, zr_7, zr_8, zr_10, zr_12, zr_19, zr_20, zr_45, zr_53, zr_54, zr_58, zr_61, zr_62, zr_68, zr_69, zr_70, zr_73, zlg_0, zlg_s, zls_0, zls_1, zls_s, zkl_i, zkl_r, zkl_l, zkl_n, zrc_1, zrc_s, zcat_n, zcat_i, zcat_l, zcat_r, zkd_0, zkd_123, zkd_124, zkd_125, zkd_126, zkd_127, zkd_128, zkd_129, zkd_130, zkd_65, zkd_a65, zkd_a65_0, zln_124, zln_126, zln_128, zln_130, zln_65, zln_a65_0, zrf_0_12, zrf_123_0, zrf_125_0, zrf_127_0, zrf_129_0, zrf_a65, zrf_a65_0, Int.cast_ofNat_Int, Int.reduceAdd, zbd, zw_id, zlc_lt, zlc_ge, zlc_gt, zlc_le, zlc_eq, false_and, and_false, true_and, and_true, true_or, or_true, false_or, or_false, Option.toList, List.nil_append, List.cons_append, zif0, zif1, zif01, zem1, zem2, Int.reduceEq, Int.reduceLT, Int.reduceLE, Int.reduceNeg, Int.reduceSub, Int.reduceMul, if_true, if_false, not_false_eq_true, not_true_eq_false, true_implies, false_implies, Classical.not_not, Nat.reduceAdd, Nat.reduceLeDiff, zq74, gA_0 hI.1.2.1, gA_1 hI.1.2.1, gA_2 hI.1.2.1, gA_3 hI.1.2.1, gA_4 hI.1.2.1, gA_5 hI.1.2.1, gA_6 hI.1.2.1, gA_7 hI.1.2.1, gA_8 hI.1.2.1, gA_9 hI.1.2.1, gA_r0 hI.1.2.1, gA_r1 hI.1.2.1, gA_r2 hI.1.2.1, gA_r3 hI.1.2.1, gA_f0 hI.1.2.1, gA_f1 hI.1.2.1, gA_f2 hI.1.2.1, gA_f3 hI.1.2.1, gA_f4 hI.1.2.1, gA_d hI.1, gI_s0 hI, gI_s1 hI, gI_s2 hI, gI_s3 hI, gI_s4 hI, gI_s5 hI, gI_n hI, if_neg c1, zq141, if_neg c2]
theorem zq281 {d : Nat} {m : zMm} {s : Int} {rest : List zV} {k : List zV → zMm → Prop} {V U : zMm} (hQ : gQ V m) (hk : gUk U) (hu : gMu U m) : zcl (zEx (d + 4)) 281 2 (.inl s :: .inr (.inr 131) :: rest) m k = (zcat rest ≤ 8 ∧ k (.inl (gCk V U s 1) :: rest) m) := by
  refine zcl_eq (as := [.inr (.inr 131), .inl s]) (r := some (.inl (gCk V U s 1))) (zC_eq.mp (ze281 ?_)) rfl rfl
  have hb := hQ.1.1
  have h5 : 0 ≤ m 138 5 ∧ m 138 5 ≤ 8 := by rw [gM_5 hQ.2.2.1]; omega
  unfold gCk
  by_cases c2 : 0 ≤ s ∧ s ≤ 3
  · by_cases c1 : V 0 10 = 0
    · rw [if_neg (fun z => z.1 c1)]
      simp +contextual (disch := (first | omega | assumption | decide)) only [↓zbrT, ↓zbrF, zw281_0, zw281_1, zw281_2, zw281_3, zw281_4, zw281_5, zw281_7, zw281_8, zw281_9, zw281_10, zw281_11, zr_1, zr_3, zr_4, zr_7, zr_8, zr_12, zr_16, zr_19, zr_26, zr_28, zr_45, zr_53, zr_54, zr_56, zr_58, zr_61, zr_62, zr_68, zr_69, zr_70, zr_73, zlg_0, zlg_s, zls_0, zls_1, zls_s, zkl_i, zkl_r, zkl_l, zkl_n, zrc_1, zrc_s, zcat_n, zcat_i, zcat_l, zcat_r, zkd_131, zkd_132, zkd_133, zkd_134, zln_132, zln_133, zln_134, zrf_131_1, zrf_131_2, zrf_131_3, Int.cast_ofNat_Int, Int.reduceAdd, zbd, zw_id, zlc_lt, zlc_ge, zlc_gt, zlc_le, zlc_eq, false_and, and_false, true_and, and_true, true_or, or_true, false_or, or_false, Option.toList, List.nil_append, List.cons_append, zif0, zif1, zif01, zem1, zem2, Int.reduceEq, Int.reduceLT, Int.reduceLE, Int.reduceNeg, Int.reduceSub, Int.reduceMul, if_true, if_false, not_false_eq_true, not_true_eq_false, true_implies, false_implies, Classical.not_not, Nat.reduceAdd, Nat.reduceLeDiff, zq171, if_pos c2, zq202, gM_0 hQ.2.2.1, gM_1 hQ.2.2.1, gM_2 hQ.2.2.1, gM_3 hQ.2.2.1, gM_4 hQ.2.2.1, gM_5 hQ.2.2.1, gM_6 hQ.2.2.1, gM_7 hQ.2.2.1, gM_8 hQ.2.2.1, gM_9 hQ.2.2.1, gM_10 hQ.2.2.1, gM_r0 hQ.2.2.1, gM_r1 hQ.2.2.1, gM_r2 hQ.2.2.1, gM_r3 hQ.2.2.1, gM_f0 hQ.2.2.1, gM_f1 hQ.2.2.1, gM_f2 hQ.2.2.1, gM_f3 hQ.2.2.1, gM_f4 hQ.2.2.1]
    · rw [if_pos ⟨c1, by omega⟩]
      have q := hu s c2.1 (by omega)
      have k := hk s c2.1 (by omega)
      by_cases c3 : U 0 s = -1
      · rw [if_pos c3]
        simp +contextual (disch := (first | omega | assumption | decide)) only [↓zbrT, ↓zbrF, zw281_0, zw281_1, zw281_2, zw281_3, zw281_4, zw281_5, zw281_7, zw281_8, zw281_9, zw281_10, zw281_11, zr_1, zr_3, zr_4, zr_7, zr_8, zr_12, zr_16, zr_19, zr_26, zr_28, zr_45, zr_53, zr_54, zr_56, zr_58, zr_61, zr_62, zr_68, zr_69, zr_70, zr_73, zlg_0, zlg_s, zls_0, zls_1, zls_s, zkl_i, zkl_r, zkl_l, zkl_n, zrc_1, zrc_s, zcat_n, zcat_i, zcat_l, zcat_r, zkd_131, zkd_132, zkd_133, zkd_134, zln_132, zln_133, zln_134, zrf_131_1, zrf_131_2, zrf_131_3, Int.cast_ofNat_Int, Int.reduceAdd, zbd, zw_id, zlc_lt, zlc_ge, zlc_gt, zlc_le, zlc_eq, false_and, and_false, true_and, and_true, true_or, or_true, false_or, or_false, Option.toList, List.nil_append, List.cons_append, zif0, zif1, zif01, zem1, zem2, Int.reduceEq, Int.reduceLT, Int.reduceLE, Int.reduceNeg, Int.reduceSub, Int.reduceMul, if_true, if_false, not_false_eq_true, not_true_eq_false, true_implies, false_implies, Classical.not_not, Nat.reduceAdd, Nat.reduceLeDiff, zq171, if_pos c2, zq202, gM_0 hQ.2.2.1, gM_1 hQ.2.2.1, gM_2 hQ.2.2.1, gM_3 hQ.2.2.1, gM_4 hQ.2.2.1, gM_5 hQ.2.2.1, gM_6 hQ.2.2.1, gM_7 hQ.2.2.1, gM_8 hQ.2.2.1, gM_9 hQ.2.2.1, gM_10 hQ.2.2.1, gM_r0 hQ.2.2.1, gM_r1 hQ.2.2.1, gM_r2 hQ.2.2.1, gM_r3 hQ.2.2.1, gM_f0 hQ.2.2.1, gM_f1 hQ.2.2.1, gM_f2 hQ.2.2.1, gM_f3 hQ.2.2.1, gM_f4 hQ.2.2.1, q.1, c3]
      · rw [if_neg c3]
        simp +contextual (disch := (first | omega | assumption | decide)) only [↓zbrT, ↓zbrF, zw281_0, zw281_1, zw281_2, zw281_3, zw281_4, zw281_5, zw281_7, zw281_8, zw281_9, zw281_10, zw281_11, zr_1, zr_3, zr_4, zr_7, zr_8, zr_12, zr_16, zr_19, zr_26, zr_28, zr_45, zr_53, zr_54, zr_56, zr_58, zr_61, zr_62, zr_68, zr_69, zr_70, zr_73, zlg_0, zlg_s, zls_0, zls_1, zls_s, zkl_i, zkl_r, zkl_l, zkl_n, zrc_1, zrc_s, zcat_n, zcat_i, zcat_l, zcat_r, zkd_131, zkd_132, zkd_133, zkd_134, zln_132, zln_133, zln_134, zrf_131_1, zrf_131_2, zrf_131_3, Int.cast_ofNat_Int, Int.reduceAdd, zbd, zw_id, zlc_lt, zlc_ge, zlc_gt, zlc_le, zlc_eq, false_and, and_false, true_and, and_true, true_or, or_true, false_or, or_false, Option.toList, List.nil_append, List.cons_append, zif0, zif1, zif01, zem1, zem2, Int.reduceEq, Int.reduceLT, Int.reduceLE, Int.reduceNeg, Int.reduceSub, Int.reduceMul, if_true, if_false, not_false_eq_true, not_true_eq_false, true_implies, false_implies, Classical.not_not, Nat.reduceAdd, Nat.reduceLeDiff, zq171, if_pos c2, zq202, gM_0 hQ.2.2.1, gM_1 hQ.2.2.1, gM_2 hQ.2.2.1, gM_3 hQ.2.2.1, gM_4 hQ.2.2.1, gM_5 hQ.2.2.1, gM_6 hQ.2.2.1, gM_7 hQ.2.2.1, gM_8 hQ.2.2.1, gM_9 hQ.2.2.1, gM_10 hQ.2.2.1, gM_r0 hQ.2.2.1, gM_r1 hQ.2.2.1, gM_r2 hQ.2.2.1, gM_r3 hQ.2.2.1, gM_f0 hQ.2.2.1, gM_f1 hQ.2.2.1, gM_f2 hQ.2.2.1, gM_f3 hQ.2.2.1, gM_f4 hQ.2.2.1, q.1, c3]
        refine zfor (U 1 s) (fun i lc m' => 0 ≤ i ∧ lc = [some (.inr (.inr 131)), some (.inl s), some (.inl i)] ∧ m' = m ∧ gBd V U s 1 i.toNat = -1) ?_ ?_ (i := 0) k.2.1 ?_
        · rintro i lc m' hi ⟨h0, rfl, rfl, hn⟩ kk
          have e := q.2.2 i h0 hi
          rw [zw281_6]
          by_cases cn : U 2 (60 * s + i) = -1
          · simp +contextual (disch := (first | omega | assumption | decide)) only [↓zbrT, ↓zbrF, zw281_0, zw281_1, zw281_2, zw281_3, zw281_4, zw281_5, zw281_7, zw281_8, zw281_9, zw281_10, zw281_11, zr_1, zr_3, zr_4, zr_7, zr_8, zr_12, zr_16, zr_19, zr_26, zr_28, zr_45, zr_53, zr_54, zr_56, zr_58, zr_61, zr_62, zr_68, zr_69, zr_70, zr_73, zlg_0, zlg_s, zls_0, zls_1, zls_s, zkl_i, zkl_r, zkl_l, zkl_n, zrc_1, zrc_s, zcat_n, zcat_i, zcat_l, zcat_r, zkd_131, zkd_132, zkd_133, zkd_134, zln_132, zln_133, zln_134, zrf_131_1, zrf_131_2, zrf_131_3, Int.cast_ofNat_Int, Int.reduceAdd, zbd, zw_id, zlc_lt, zlc_ge, zlc_gt, zlc_le, zlc_eq, false_and, and_false, true_and, and_true, true_or, or_true, false_or, or_false, Option.toList, List.nil_append, List.cons_append, zif0, zif1, zif01, zem1, zem2, Int.reduceEq, Int.reduceLT, Int.reduceLE, Int.reduceNeg, Int.reduceSub, Int.reduceMul, if_true, if_false, not_false_eq_true, not_true_eq_false, true_implies, false_implies, Classical.not_not, Nat.reduceAdd, Nat.reduceLeDiff, q.2.1, e, cn]
            exact kk _ _ ⟨by omega, rfl, rfl, gBd_s h0 hn (Or.inl ⟨rfl, cn⟩)⟩
          · by_cases cg : (0 ≤ U 2 (60 * s + i) ∧ U 2 (60 * s + i) < V 0 5) ∧ 0 < vT V (U 2 (60 * s + i))
            · have cc : (0 ≤ U 2 (60 * s + i) ∧ U 2 (60 * s + i) ≤ V 0 5 - 1) ∧ 0 < vT V (U 2 (60 * s + i)) := ⟨by omega, cg.2⟩
              have e3 := gM_r3 hQ.2.2.1 cg.1.1 cg.1.2
              have e5 := gM_5 hQ.2.2.1
              simp +contextual (disch := (first | omega | assumption | decide)) only [↓zbrT, ↓zbrF, zw281_0, zw281_1, zw281_2, zw281_3, zw281_4, zw281_5, zw281_7, zw281_8, zw281_9, zw281_10, zw281_11, zr_1, zr_3, zr_4, zr_7, zr_8, zr_12, zr_16, zr_19, zr_26, zr_28, zr_45, zr_53, zr_54, zr_56, zr_58, zr_61, zr_62, zr_68, zr_69, zr_70, zr_73, zlg_0, zlg_s, zls_0, zls_1, zls_s, zkl_i, zkl_r, zkl_l, zkl_n, zrc_1, zrc_s, zcat_n, zcat_i, zcat_l, zcat_r, zkd_131, zkd_132, zkd_133, zkd_134, zln_132, zln_133, zln_134, zrf_131_1, zrf_131_2, zrf_131_3, Int.cast_ofNat_Int, Int.reduceAdd, zbd, zw_id, zlc_lt, zlc_ge, zlc_gt, zlc_le, zlc_eq, false_and, and_false, true_and, and_true, true_or, or_true, false_or, or_false, Option.toList, List.nil_append, List.cons_append, zif0, zif1, zif01, zem1, zem2, Int.reduceEq, Int.reduceLT, Int.reduceLE, Int.reduceNeg, Int.reduceSub, Int.reduceMul, if_true, if_false, not_false_eq_true, not_true_eq_false, true_implies, false_implies, Classical.not_not, Nat.reduceAdd, Nat.reduceLeDiff, q.2.1, e, cn, zq204 h5, e5, e3, if_pos cc]
              exact kk _ _ ⟨by omega, rfl, rfl, gBd_s h0 hn (Or.inr cg)⟩
            · have cc : ¬ ((0 ≤ U 2 (60 * s + i) ∧ U 2 (60 * s + i) ≤ V 0 5 - 1) ∧ 0 < m' 139 (4 * U 2 (60 * s + i) + 3)) := by
                rintro ⟨y1, y2⟩
                rw [gM_r3 hQ.2.2.1 y1.1 (by omega)] at y2
                exact cg ⟨by omega, y2⟩
              have e5 := gM_5 hQ.2.2.1
              have ne := gBd_f (N := (U 1 s).toNat) (w := 1) h0 (by omega) hn (fun z => z.elim (fun y => cn y.2) cg)
              rw [if_neg ne]
              simp +contextual (disch := (first | omega | assumption | decide)) only [↓zbrT, ↓zbrF, zw281_0, zw281_1, zw281_2, zw281_3, zw281_4, zw281_5, zw281_7, zw281_8, zw281_9, zw281_10, zw281_11, zr_1, zr_3, zr_4, zr_7, zr_8, zr_12, zr_16, zr_19, zr_26, zr_28, zr_45, zr_53, zr_54, zr_56, zr_58, zr_61, zr_62, zr_68, zr_69, zr_70, zr_73, zlg_0, zlg_s, zls_0, zls_1, zls_s, zkl_i, zkl_r, zkl_l, zkl_n, zrc_1, zrc_s, zcat_n, zcat_i, zcat_l, zcat_r, zkd_131, zkd_132, zkd_133, zkd_134, zln_132, zln_133, zln_134, zrf_131_1, zrf_131_2, zrf_131_3, Int.cast_ofNat_Int, Int.reduceAdd, zbd, zw_id, zlc_lt, zlc_ge, zlc_gt, zlc_le, zlc_eq, false_and, and_false, true_and, and_true, true_or, or_true, false_or, or_false, Option.toList, List.nil_append, List.cons_append, zif0, zif1, zif01, zem1, zem2, Int.reduceEq, Int.reduceLT, Int.reduceLE, Int.reduceNeg, Int.reduceSub, Int.reduceMul, if_true, if_false, not_false_eq_true, not_true_eq_false, true_implies, false_implies, Classical.not_not, Nat.reduceAdd, Nat.reduceLeDiff, q.2.1, e, cn, zq204 h5, e5, if_neg cc]
        · rintro lc m' ⟨h0, rfl, rfl, hn⟩
          rw [if_pos hn]
          rw [zw281_6]
          simp +contextual (disch := (first | omega | assumption | decide)) only [↓zbrT, ↓zbrF, zw281_0, zw281_1, zw281_2, zw281_3, zw281_4, zw281_5, zw281_7, zw281_8, zw281_9, zw281_10, zw281_11, zr_1, zr_3, zr_4, zr_7, zr_8, zr_12, zr_16, zr_19, zr_26, zr_28, zr_45, zr_53, zr_54, zr_56, zr_58, zr_61, zr_62, zr_68, zr_69, zr_70, zr_73, zlg_0, zlg_s, zls_0, zls_1, zls_s, zkl_i, zkl_r, zkl_l, zkl_n, zrc_1, zrc_s, zcat_n, zcat_i, zcat_l, zcat_r, zkd_131, zkd_132, zkd_133, zkd_134, zln_132, zln_133, zln_134, zrf_131_1, zrf_131_2, zrf_131_3, Int.cast_ofNat_Int, Int.reduceAdd, zbd, zw_id, zlc_lt, zlc_ge, zlc_gt, zlc_le, zlc_eq, false_and, and_false, true_and, and_true, true_or, or_true, false_or, or_false, Option.toList, List.nil_append, List.cons_append, zif0, zif1, zif01, zem1, zem2, Int.reduceEq, Int.reduceLT, Int.reduceLE, Int.reduceNeg, Int.reduceSub, Int.reduceMul, if_true, if_false, not_false_eq_true, not_true_eq_false, true_implies, false_implies, Classical.not_not, Nat.reduceAdd, Nat.reduceLeDiff, q.2.1]
        · exact ⟨by decide, rfl, rfl, rfl⟩
  · rw [if_neg (fun z => c2 (by omega))]
    simp +contextual (disch := (first | omega | assumption | decide)) only [↓zbrT, ↓zbrF, zw281_0, zw281_1, zw281_2, zw281_3, zw281_4, zw281_5, zw281_7, zw281_8, zw281_9, zw281_10, zw281_11, zr_1, zr_3, zr_4, zr_7, zr_8, zr_12, zr_16, zr_19, zr_26, zr_28, zr_45, zr_53, zr_54, zr_56, zr_58, zr_61, zr_62, zr_68, zr_69, zr_70, zr_73, zlg_0, zlg_s, zls_0, zls_1, zls_s, zkl_i, zkl_r, zkl_l, zkl_n, zrc_1, zrc_s, zcat_n, zcat_i, zcat_l, zcat_r, zkd_131, zkd_132, zkd_133, zkd_134, zln_132, zln_133, zln_134, zrf_131_1, zrf_131_2, zrf_131_3, Int.cast_ofNat_Int, Int.reduceAdd, zbd, zw_id, zlc_lt, zlc_ge, zlc_gt, zlc_le, zlc_eq, false_and, and_false, true_and, and_true, true_or, or_true, false_or, or_false, Option.toList, List.nil_append, List.cons_append, zif0, zif1, zif01, zem1, zem2, Int.reduceEq, Int.reduceLT, Int.reduceLE, Int.reduceNeg, Int.reduceSub, Int.reduceMul, if_true, if_false, not_false_eq_true, not_true_eq_false, true_implies, false_implies, Classical.not_not, Nat.reduceAdd, Nat.reduceLeDiff, zq171, if_neg c2]
/-- a slot's row judged: how many go, how things stand then -/
def gJs (V U : zMm) (s : Int) : Nat → Int × (Int → Int)
  | 0 => (0, gBe V)
  | k + 1 => if (gJs V U s k).1 = k ∧ gMp V (gJs V U s k).2 (U 2 (60 * s + k)) = 1 then ((k : Int) + 1, gNi V (gJs V U s k).2 (U 2 (60 * s + k))) else gJs V U s k
theorem gJs_ok {V U : zMm} (hV : gOk V) {s : Int} : ∀ k : Nat, k ≤ 100 → gSok V (gJs V U s k).2 ∧ (gJs V U s k).2 0 ≤ k
  | 0, _ => ⟨gBe_ok hV, by show (0 : Int) ≤ ((0 : Nat) : Int); omega⟩
  | k + 1, h => by
    have i := gJs_ok hV (U := U) (s := s) k (by omega)
    by_cases c : (gJs V U s k).1 = k ∧ gMp V (gJs V U s k).2 (U 2 (60 * s + k)) = 1
    · have e : gJs V U s (k + 1) = ((k : Int) + 1, gNi V (gJs V U s k).2 (U 2 (60 * s + k))) := by
        show (if _ then _ else _) = _
        rw [if_pos c]
      rw [e]
      refine ⟨gSok_ni hV i.1 (gMp_lg c.2).1 (by omega), ?_⟩
      show gNi V _ _ 0 ≤ _
      rw [gNi_0]; omega
    · have e : gJs V U s (k + 1) = gJs V U s k := by
        show (if _ then _ else _) = _
        rw [if_neg c]
      rw [e]
      exact ⟨i.1, by omega⟩
theorem gJs_stay {V U : zMm} {s : Int} {k : Nat} (h : (gJs V U s k).1 = k) (h2 : ¬ gMp V (gJs V U s k).2 (U 2 (60 * s + k)) = 1) : ∀ j : Nat, gJs V U s (k + j) = gJs V U s k
  | 0 => rfl
  | j + 1 => by
    have i := gJs_stay h h2 j
    show (if (gJs V U s (k + j)).1 = ((k + j : Nat) : Int) ∧ gMp V (gJs V U s (k + j)).2 (U 2 (60 * s + ((k + j : Nat) : Int))) = 1 then _ else _) = _
    rw [if_neg]
    · exact i
    · rw [i, h]
      rintro ⟨z1, z2⟩
      have : j = 0 := by omega
      subst this
      exact h2 z2
theorem gJs_s {V U : zMm} {s k : Int} (h0 : 0 ≤ k) (h : (gJs V U s k.toNat).1 = k) (h2 : gMp V (gJs V U s k.toNat).2 (U 2 (60 * s + k)) = 1) : gJs V U s (k + 1).toNat = (k + 1, gNi V (gJs V U s k.toNat).2 (U 2 (60 * s + k))) := by
  rw [show (k + 1).toNat = k.toNat + 1 by omega]
  show (if (gJs V U s k.toNat).1 = (k.toNat : Nat) ∧ gMp V (gJs V U s k.toNat).2 (U 2 (60 * s + (k.toNat : Nat))) = 1 then ((((k.toNat : Nat) : Int) + 1), gNi V (gJs V U s k.toNat).2 (U 2 (60 * s + (k.toNat : Nat)))) else _) = _
  rw [show ((k.toNat : Nat) : Int) = k by omega, if_pos ⟨h, h2⟩]
theorem gMp_01 (V : zMm) (S : Int → Int) (g : Int) : gMp V S g = 0 ∨ gMp V S g = 1 := by
  unfold gMp
  by_cases c : g = -1
  · rw [if_pos c]; split <;> omega
  · rw [if_neg c]; exact gMb_01 V S g
theorem gz140 {d : Nat} {m V U : zMm} {s : Int} (hI : gI V m) (hk : gUk U) (hu : gCu U m) (hs : 0 ≤ s ∧ s < 4) (hok : gBd V U s 1 (U 1 s).toNat = -1) : zC (d + 6) 140 [.inr (.inr 0), .inr (.inr (123 + 2 * s))] m (fun r' m' => r' = some (.inl (gJs V U s (U 1 s).toNat).1) ∧ gI V m' ∧ gX m m' ∧ gSt (gJs V U s (U 1 s).toNat).2 45 m') := by
  have k := hk s hs.1 hs.2
  have hb := gA_b hI.1
  have z2 := zkd_a65 hs.1 hs.2
  have z3 := zrf_a65_0 hs.1 hs.2
  have z4 := zkd_a65_0 hs.1 hs.2
  have z5 := zln_a65_0 hs.1 hs.2
  refine ze140 ?_
  simp +contextual (disch := (first | omega | assumption | decide)) only [↓zbrT, ↓zbrF, zw140_0, zw140_2, zw140_3, zw140_4, zr_1, zr_3, zr_4, zr_7, zr_10, zr_12, zr_19, zr_47, zr_52, zr_53, zr_54, zr_58, zr_61, zr_68, zr_70, zr_73, zlg_0, zlg_s, zls_0, zls_1, zls_s, zkl_i, zkl_r, zkl_l, zkl_n, zrc_1, zrc_s, zcat_n, zcat_i, zcat_l, zcat_r, zkd_0, zkd_123, zkd_124, zkd_125, zkd_126, zkd_127, zkd_128, zkd_129, zkd_130, zkd_20, zkd_21, zkd_43, zkd_45, zkd_51, zkd_53, zkd_55, zkd_57, zkd_59, zkd_a50, zkd_a65, zkd_a65_0, zln_124, zln_126, zln_128, zln_130, zln_a65_0, zrf_0_2, zrf_0_3, zrf_0_7, zrf_123_0, zrf_125_0, zrf_127_0, zrf_129_0, zrf_a65_0, Int.cast_ofNat_Int, Int.reduceAdd, zbd, zw_id, false_and, and_false, true_and, and_true, true_or, or_true, false_or, or_false, Option.toList, List.nil_append, List.cons_append, zif0, zif1, zif01, zem1, zem2, Int.reduceEq, Int.reduceLT, Int.reduceLE, Int.reduceNeg, Int.reduceSub, Int.reduceMul, if_true, if_false, not_false_eq_true, not_true_eq_false, true_implies, false_implies, Classical.not_not, Nat.reduceAdd, Nat.reduceLeDiff]
  refine gK (gz41 hI.1.1 hI.1.2.1 gStc_45) rfl rfl (Nat.le_of_ble_eq_true rfl) ?_
  rintro _ m1 ⟨rfl, hS1, hE1⟩
  have hA1 := gA_eq gStc_45 hI.1 hE1
  simp +contextual (disch := (first | omega | assumption | decide)) only [↓zbrT, ↓zbrF, zw140_0, zw140_2, zw140_3, zw140_4, zr_1, zr_3, zr_4, zr_7, zr_10, zr_12, zr_19, zr_47, zr_52, zr_53, zr_54, zr_58, zr_61, zr_68, zr_70, zr_73, zlg_0, zlg_s, zls_0, zls_1, zls_s, zkl_i, zkl_r, zkl_l, zkl_n, zrc_1, zrc_s, zcat_n, zcat_i, zcat_l, zcat_r, zkd_0, zkd_123, zkd_124, zkd_125, zkd_126, zkd_127, zkd_128, zkd_129, zkd_130, zkd_20, zkd_21, zkd_43, zkd_45, zkd_51, zkd_53, zkd_55, zkd_57, zkd_59, zkd_a50, zkd_a65, zkd_a65_0, zln_124, zln_126, zln_128, zln_130, zln_a65_0, zrf_0_2, zrf_0_3, zrf_0_7, zrf_123_0, zrf_125_0, zrf_127_0, zrf_129_0, zrf_a65_0, Int.cast_ofNat_Int, Int.reduceAdd, zbd, zw_id, false_and, and_false, true_and, and_true, true_or, or_true, false_or, or_false, Option.toList, List.nil_append, List.cons_append, zif0, zif1, zif01, zem1, zem2, Int.reduceEq, Int.reduceLT, Int.reduceLE, Int.reduceNeg, Int.reduceSub, Int.reduceMul, if_true, if_false, not_false_eq_true, not_true_eq_false, true_implies, false_implies, Classical.not_not, Nat.reduceAdd, Nat.reduceLeDiff]
  refine zfor (U 1 s) (fun i lc m' => 0 ≤ i ∧ lc = [some (.inr (.inr 0)), some (.inr (.inr (123 + 2 * s))), some (.inl i)] ∧ gA V m' ∧ gE2 45 m m' ∧ gSt (gJs V U s i.toNat).2 45 m' ∧ (gJs V U s i.toNat).1 = i) ?_ ?_ (i := 0) k.2.1 ?_
  · rintro i lc m' hi ⟨h0, rfl, hA, hE, hS, hp⟩ kk
    have ok := gJs_ok hI.1.1 (U := U) (s := s) i.toNat (by omega)
    have q := gCu_x hu (gI_45 hI hA hE).2 s hs.1 hs.2
    have e := q.2.2 i h0 hi
    have bx := gBd_ok hok h0 (by omega)
    rw [zw140_1]
    rcases gMp_01 V (gJs V U s i.toNat).2 (U 2 (60 * s + i)) with z | z
    · simp +contextual (disch := (first | omega | assumption | decide)) only [↓zbrT, ↓zbrF, zw140_0, zw140_2, zw140_3, zw140_4, zr_1, zr_3, zr_4, zr_7, zr_10, zr_12, zr_19, zr_47, zr_52, zr_53, zr_54, zr_58, zr_61, zr_68, zr_70, zr_73, zlg_0, zlg_s, zls_0, zls_1, zls_s, zkl_i, zkl_r, zkl_l, zkl_n, zrc_1, zrc_s, zcat_n, zcat_i, zcat_l, zcat_r, zkd_0, zkd_123, zkd_124, zkd_125, zkd_126, zkd_127, zkd_128, zkd_129, zkd_130, zkd_20, zkd_21, zkd_43, zkd_45, zkd_51, zkd_53, zkd_55, zkd_57, zkd_59, zkd_a50, zkd_a65, zkd_a65_0, zln_124, zln_126, zln_128, zln_130, zln_a65_0, zrf_0_2, zrf_0_3, zrf_0_7, zrf_123_0, zrf_125_0, zrf_127_0, zrf_129_0, zrf_a65_0, Int.cast_ofNat_Int, Int.reduceAdd, zbd, zw_id, false_and, and_false, true_and, and_true, true_or, or_true, false_or, or_false, Option.toList, List.nil_append, List.cons_append, zif0, zif1, zif01, zem1, zem2, Int.reduceEq, Int.reduceLT, Int.reduceLE, Int.reduceNeg, Int.reduceSub, Int.reduceMul, if_true, if_false, not_false_eq_true, not_true_eq_false, true_implies, false_implies, Classical.not_not, Nat.reduceAdd, Nat.reduceLeDiff, z2, z3, z4, z5, q.2.1, e, zq45 hA gStc_45 hS ok.1, z]
      have st := gJs_stay (V := V) (U := U) (s := s) (k := i.toNat) (by omega) (by rw [show ((i.toNat : Nat) : Int) = i by omega]; omega) (U 1 s - i).toNat
      rw [show i.toNat + (U 1 s - i).toNat = (U 1 s).toNat by omega] at st
      have g := gI_45 hI hA hE
      rw [st, hp]
      exact ⟨rfl, g.1, g.2, hS⟩
    · have es := gJs_s h0 hp z
      simp +contextual (disch := (first | omega | assumption | decide)) only [↓zbrT, ↓zbrF, zw140_0, zw140_2, zw140_3, zw140_4, zr_1, zr_3, zr_4, zr_7, zr_10, zr_12, zr_19, zr_47, zr_52, zr_53, zr_54, zr_58, zr_61, zr_68, zr_70, zr_73, zlg_0, zlg_s, zls_0, zls_1, zls_s, zkl_i, zkl_r, zkl_l, zkl_n, zrc_1, zrc_s, zcat_n, zcat_i, zcat_l, zcat_r, zkd_0, zkd_123, zkd_124, zkd_125, zkd_126, zkd_127, zkd_128, zkd_129, zkd_130, zkd_20, zkd_21, zkd_43, zkd_45, zkd_51, zkd_53, zkd_55, zkd_57, zkd_59, zkd_a50, zkd_a65, zkd_a65_0, zln_124, zln_126, zln_128, zln_130, zln_a65_0, zrf_0_2, zrf_0_3, zrf_0_7, zrf_123_0, zrf_125_0, zrf_127_0, zrf_129_0, zrf_a65_0, Int.cast_ofNat_Int, Int.reduceAdd, zbd, zw_id, false_and, and_false, true_and, and_true, true_or, or_true, false_or, or_false, Option.toList, List.nil_append, List.cons_append, zif0, zif1, zif01, zem1, zem2, Int.reduceEq, Int.reduceLT, Int.reduceLE, Int.reduceNeg, Int.reduceSub, Int.reduceMul, if_true, if_false, not_false_eq_true, not_true_eq_false, true_implies, false_implies, Classical.not_not, Nat.reduceAdd, Nat.reduceLeDiff, z2, z3, z4, z5, q.2.1, e, zq45 hA gStc_45 hS ok.1, z]
      refine gK (gz46 hA gStc_45 hS ok.1 (gMp_lg z).1 (by omega)) rfl rfl (Nat.le_of_ble_eq_true rfl) ?_
      rintro _ m2 ⟨rfl, hA2, hS2, hE2⟩
      simp +contextual (disch := (first | omega | assumption | decide)) only [↓zbrT, ↓zbrF, zw140_0, zw140_2, zw140_3, zw140_4, zr_1, zr_3, zr_4, zr_7, zr_10, zr_12, zr_19, zr_47, zr_52, zr_53, zr_54, zr_58, zr_61, zr_68, zr_70, zr_73, zlg_0, zlg_s, zls_0, zls_1, zls_s, zkl_i, zkl_r, zkl_l, zkl_n, zrc_1, zrc_s, zcat_n, zcat_i, zcat_l, zcat_r, zkd_0, zkd_123, zkd_124, zkd_125, zkd_126, zkd_127, zkd_128, zkd_129, zkd_130, zkd_20, zkd_21, zkd_43, zkd_45, zkd_51, zkd_53, zkd_55, zkd_57, zkd_59, zkd_a50, zkd_a65, zkd_a65_0, zln_124, zln_126, zln_128, zln_130, zln_a65_0, zrf_0_2, zrf_0_3, zrf_0_7, zrf_123_0, zrf_125_0, zrf_127_0, zrf_129_0, zrf_a65_0, Int.cast_ofNat_Int, Int.reduceAdd, zbd, zw_id, false_and, and_false, true_and, and_true, true_or, or_true, false_or, or_false, Option.toList, List.nil_append, List.cons_append, zif0, zif1, zif01, zem1, zem2, Int.reduceEq, Int.reduceLT, Int.reduceLE, Int.reduceNeg, Int.reduceSub, Int.reduceMul, if_true, if_false, not_false_eq_true, not_true_eq_false, true_implies, false_implies, Classical.not_not, Nat.reduceAdd, Nat.reduceLeDiff]
      exact kk _ _ ⟨by omega, rfl, hA2, gE2_tr hE hE2, by rw [es]; exact hS2, by rw [es]⟩
  · rintro lc m' ⟨h0, rfl, hA, hE, hS, hp⟩
    have q := gCu_x hu (gI_45 hI hA hE).2 s hs.1 hs.2
    rw [zw140_1]
    simp +contextual (disch := (first | omega | assumption | decide)) only [↓zbrT, ↓zbrF, zw140_0, zw140_2, zw140_3, zw140_4, zr_1, zr_3, zr_4, zr_7, zr_10, zr_12, zr_19, zr_47, zr_52, zr_53, zr_54, zr_58, zr_61, zr_68, zr_70, zr_73, zlg_0, zlg_s, zls_0, zls_1, zls_s, zkl_i, zkl_r, zkl_l, zkl_n, zrc_1, zrc_s, zcat_n, zcat_i, zcat_l, zcat_r, zkd_0, zkd_123, zkd_124, zkd_125, zkd_126, zkd_127, zkd_128, zkd_129, zkd_130, zkd_20, zkd_21, zkd_43, zkd_45, zkd_51, zkd_53, zkd_55, zkd_57, zkd_59, zkd_a50, zkd_a65, zkd_a65_0, zln_124, zln_126, zln_128, zln_130, zln_a65_0, zrf_0_2, zrf_0_3, zrf_0_7, zrf_123_0, zrf_125_0, zrf_127_0, zrf_129_0, zrf_a65_0, Int.cast_ofNat_Int, Int.reduceAdd, zbd, zw_id, false_and, and_false, true_and, and_true, true_or, or_true, false_or, or_false, Option.toList, List.nil_append, List.cons_append, zif0, zif1, zif01, zem1, zem2, Int.reduceEq, Int.reduceLT, Int.reduceLE, Int.reduceNeg, Int.reduceSub, Int.reduceMul, if_true, if_false, not_false_eq_true, not_true_eq_false, true_implies, false_implies, Classical.not_not, Nat.reduceAdd, Nat.reduceLeDiff, z2, q.2.1]
    have g := gI_45 hI hA hE
    rw [hp]
    exact ⟨rfl, g.1, g.2, hS⟩
  · exact ⟨by decide, rfl, hA1, gE2_q hE1, hS1, rfl⟩
theorem gz282 {d : Nat} {m : zMm} {s : Int} {V U : zMm} (hQ : gQ V m) (hk : gUk U) (hu : gMu U m) (hs : 0 ≤ s ∧ s < 4) (hok : gBd V U s 1 (U 1 s).toNat = -1) : zC (d + 13) 282 [.inr (.inr 131), .inl s] m (fun r' m' => r' = some (.inl (gJs V U s (U 1 s).toNat).1) ∧ gL V (gJs V U s (U 1 s).toNat).2 m' ∧ gY m m') := by
  refine ze282 ?_
  have k := hk s hs.1 hs.2
  have hb := hQ.1.1
  simp +contextual (disch := (first | omega | assumption | decide)) only [↓zbrT, ↓zbrF, zw282_0, zw282_2, zw282_3, zw282_4, zw282_5, zr_1, zr_3, zr_4, zr_7, zr_12, zr_16, zr_19, zr_26, zr_28, zr_47, zr_52, zr_53, zr_54, zr_58, zr_62, zr_68, zr_70, zr_73, zlg_0, zlg_s, zls_0, zls_1, zls_s, zkl_i, zkl_r, zkl_l, zkl_n, zrc_1, zrc_s, zcat_n, zcat_i, zcat_l, zcat_r, zkd_131, zkd_133, zkd_134, zln_133, zln_134, zrf_131_2, zrf_131_3, Int.cast_ofNat_Int, Int.reduceAdd, zbd, zw_id, false_and, and_false, true_and, and_true, true_or, or_true, false_or, or_false, Option.toList, List.nil_append, List.cons_append, zif0, zif1, zif01, zem1, zem2, Int.reduceEq, Int.reduceLT, Int.reduceLE, Int.reduceNeg, Int.reduceSub, Int.reduceMul, if_true, if_false, not_false_eq_true, not_true_eq_false, true_implies, false_implies, Classical.not_not, Nat.reduceAdd, Nat.reduceLeDiff]
  refine gK (gz218 hQ.1 hQ.2.2.1) rfl rfl (Nat.le_of_ble_eq_true rfl) ?_
  rintro _ m1 ⟨rfl, hS1, hF1, hE1⟩
  simp +contextual (disch := (first | omega | assumption | decide)) only [↓zbrT, ↓zbrF, zw282_0, zw282_2, zw282_3, zw282_4, zw282_5, zr_1, zr_3, zr_4, zr_7, zr_12, zr_16, zr_19, zr_26, zr_28, zr_47, zr_52, zr_53, zr_54, zr_58, zr_62, zr_68, zr_70, zr_73, zlg_0, zlg_s, zls_0, zls_1, zls_s, zkl_i, zkl_r, zkl_l, zkl_n, zrc_1, zrc_s, zcat_n, zcat_i, zcat_l, zcat_r, zkd_131, zkd_133, zkd_134, zln_133, zln_134, zrf_131_2, zrf_131_3, Int.cast_ofNat_Int, Int.reduceAdd, zbd, zw_id, false_and, and_false, true_and, and_true, true_or, or_true, false_or, or_false, Option.toList, List.nil_append, List.cons_append, zif0, zif1, zif01, zem1, zem2, Int.reduceEq, Int.reduceLT, Int.reduceLE, Int.reduceNeg, Int.reduceSub, Int.reduceMul, if_true, if_false, not_false_eq_true, not_true_eq_false, true_implies, false_implies, Classical.not_not, Nat.reduceAdd, Nat.reduceLeDiff]
  refine zfor (U 1 s) (fun i lc m' => 0 ≤ i ∧ (∃ x3, lc = [some (.inr (.inr 131)), some (.inl s), some (.inl i), x3]) ∧ gL V (gJs V U s i.toNat).2 m' ∧ gY m m' ∧ (gJs V U s i.toNat).1 = i) ?_ ?_ (i := 0) k.2.1 ?_
  · rintro i lc m' hi ⟨h0, ⟨x3, rfl⟩, hL, hY, hp⟩ kk
    have ok := gJs_ok hQ.1 (U := U) (s := s) i.toNat (by omega)
    have q := gMu_y hu hY s hs.1 hs.2
    have hM := (gQ_y hQ hY).2.2.1
    have e := q.2.2 i h0 hi
    have bx := gBd_ok hok h0 (by omega)
    have hg : U 2 (60 * s + i) = -1 ∨ (0 ≤ U 2 (60 * s + i) ∧ U 2 (60 * s + i) < V 0 5) := by omega
    rw [zw282_1]
    rcases gMp_01 V (gJs V U s i.toNat).2 (U 2 (60 * s + i)) with z | z
    · simp +contextual (disch := (first | omega | assumption | decide)) only [↓zbrT, ↓zbrF, zw282_0, zw282_2, zw282_3, zw282_4, zw282_5, zr_1, zr_3, zr_4, zr_7, zr_12, zr_16, zr_19, zr_26, zr_28, zr_47, zr_52, zr_53, zr_54, zr_58, zr_62, zr_68, zr_70, zr_73, zlg_0, zlg_s, zls_0, zls_1, zls_s, zkl_i, zkl_r, zkl_l, zkl_n, zrc_1, zrc_s, zcat_n, zcat_i, zcat_l, zcat_r, zkd_131, zkd_133, zkd_134, zln_133, zln_134, zrf_131_2, zrf_131_3, Int.cast_ofNat_Int, Int.reduceAdd, zbd, zw_id, false_and, and_false, true_and, and_true, true_or, or_true, false_or, or_false, Option.toList, List.nil_append, List.cons_append, zif0, zif1, zif01, zem1, zem2, Int.reduceEq, Int.reduceLT, Int.reduceLE, Int.reduceNeg, Int.reduceSub, Int.reduceMul, if_true, if_false, not_false_eq_true, not_true_eq_false, true_implies, false_implies, Classical.not_not, Nat.reduceAdd, Nat.reduceLeDiff, q.2.1, e, zq220 hQ.1 hM hL.2 hL.1 ok.1 hg, z]
      have st := gJs_stay (V := V) (U := U) (s := s) (k := i.toNat) (by omega) (by rw [show ((i.toNat : Nat) : Int) = i by omega]; omega) (U 1 s - i).toNat
      rw [show i.toNat + (U 1 s - i).toNat = (U 1 s).toNat by omega] at st
      rw [st, hp]
      exact ⟨rfl, hL, hY⟩
    · have es := gJs_s h0 hp z
      simp +contextual (disch := (first | omega | assumption | decide)) only [↓zbrT, ↓zbrF, zw282_0, zw282_2, zw282_3, zw282_4, zw282_5, zr_1, zr_3, zr_4, zr_7, zr_12, zr_16, zr_19, zr_26, zr_28, zr_47, zr_52, zr_53, zr_54, zr_58, zr_62, zr_68, zr_70, zr_73, zlg_0, zlg_s, zls_0, zls_1, zls_s, zkl_i, zkl_r, zkl_l, zkl_n, zrc_1, zrc_s, zcat_n, zcat_i, zcat_l, zcat_r, zkd_131, zkd_133, zkd_134, zln_133, zln_134, zrf_131_2, zrf_131_3, Int.cast_ofNat_Int, Int.reduceAdd, zbd, zw_id, false_and, and_false, true_and, and_true, true_or, or_true, false_or, or_false, Option.toList, List.nil_append, List.cons_append, zif0, zif1, zif01, zem1, zem2, Int.reduceEq, Int.reduceLT, Int.reduceLE, Int.reduceNeg, Int.reduceSub, Int.reduceMul, if_true, if_false, not_false_eq_true, not_true_eq_false, true_implies, false_implies, Classical.not_not, Nat.reduceAdd, Nat.reduceLeDiff, q.2.1, e, zq220 hQ.1 hM hL.2 hL.1 ok.1 hg, z]
      refine gK (gz221 hQ.1 hM hL.2 hL.1 ok.1 (gMp_lg z).1 (by omega)) rfl rfl (Nat.le_of_ble_eq_true rfl) ?_
      rintro _ m2 ⟨rfl, hS2, hF2, hE2⟩
      simp +contextual (disch := (first | omega | assumption | decide)) only [↓zbrT, ↓zbrF, zw282_0, zw282_2, zw282_3, zw282_4, zw282_5, zr_1, zr_3, zr_4, zr_7, zr_12, zr_16, zr_19, zr_26, zr_28, zr_47, zr_52, zr_53, zr_54, zr_58, zr_62, zr_68, zr_70, zr_73, zlg_0, zlg_s, zls_0, zls_1, zls_s, zkl_i, zkl_r, zkl_l, zkl_n, zrc_1, zrc_s, zcat_n, zcat_i, zcat_l, zcat_r, zkd_131, zkd_133, zkd_134, zln_133, zln_134, zrf_131_2, zrf_131_3, Int.cast_ofNat_Int, Int.reduceAdd, zbd, zw_id, false_and, and_false, true_and, and_true, true_or, or_true, false_or, or_false, Option.toList, List.nil_append, List.cons_append, zif0, zif1, zif01, zem1, zem2, Int.reduceEq, Int.reduceLT, Int.reduceLE, Int.reduceNeg, Int.reduceSub, Int.reduceMul, if_true, if_false, not_false_eq_true, not_true_eq_false, true_implies, false_implies, Classical.not_not, Nat.reduceAdd, Nat.reduceLeDiff]
      exact kk _ _ ⟨by omega, ⟨_, rfl⟩, ⟨by rw [es]; exact hS2, hF2⟩, gY_tr hY (gY_n hE2), by rw [es]⟩
  · rintro lc m' ⟨h0, ⟨x3, rfl⟩, hL, hY, hp⟩
    have q := gMu_y hu hY s hs.1 hs.2
    rw [zw282_1]
    simp +contextual (disch := (first | omega | assumption | decide)) only [↓zbrT, ↓zbrF, zw282_0, zw282_2, zw282_3, zw282_4, zw282_5, zr_1, zr_3, zr_4, zr_7, zr_12, zr_16, zr_19, zr_26, zr_28, zr_47, zr_52, zr_53, zr_54, zr_58, zr_62, zr_68, zr_70, zr_73, zlg_0, zlg_s, zls_0, zls_1, zls_s, zkl_i, zkl_r, zkl_l, zkl_n, zrc_1, zrc_s, zcat_n, zcat_i, zcat_l, zcat_r, zkd_131, zkd_133, zkd_134, zln_133, zln_134, zrf_131_2, zrf_131_3, Int.cast_ofNat_Int, Int.reduceAdd, zbd, zw_id, false_and, and_false, true_and, and_true, true_or, or_true, false_or, or_false, Option.toList, List.nil_append, List.cons_append, zif0, zif1, zif01, zem1, zem2, Int.reduceEq, Int.reduceLT, Int.reduceLE, Int.reduceNeg, Int.reduceSub, Int.reduceMul, if_true, if_false, not_false_eq_true, not_true_eq_false, true_implies, false_implies, Classical.not_not, Nat.reduceAdd, Nat.reduceLeDiff, q.2.1]
    rw [hp]
    exact ⟨rfl, hL, hY⟩
  · exact ⟨by decide, ⟨_, rfl⟩, ⟨hS1, hF1⟩, gY_n hE1, rfl⟩
def sp138 (V U : zMm) (s : Int) : Int := if gCk V U s 1 = 0 then (gJs V U s (U 1 s).toNat).1 else gCk V U s 1
def sp139 (V U : zMm) (s : Int) : Int := if gCk V U s 1 = 0 then (gJs V U s (U 1 s).toNat).2 1 else gCk V U s 1
theorem gCk_0 {V U : zMm} {s w : Int} (h : gCk V U s w = 0) : (¬ V 0 10 = 0 ∧ (0 ≤ s ∧ s < 4)) ∧ gBd V U s w (U 1 s).toNat = -1 ∧ ¬ U 0 s = -1 := by
  unfold gCk at h
  by_cases c : ¬ V 0 10 = 0 ∧ (0 ≤ s ∧ s < 4)
  · rw [if_pos c] at h
    by_cases c2 : U 0 s = -1
    · rw [if_pos c2] at h; omega
    · rw [if_neg c2] at h
      by_cases c3 : gBd V U s w (U 1 s).toNat = -1
      · exact ⟨c, c3, c2⟩
      · rw [if_neg c3] at h; omega
  · rw [if_neg c] at h; omega
theorem gz138 {d : Nat} {m : zMm} {s : Int} {V U : zMm} (hI : gI V m) (hk : gUk U) (hu : gCu U m) : zC (d + 7) 138 [.inr (.inr 0), .inl s] m (fun r' m' => r' = some (.inl (sp138 V U s)) ∧ gI V m' ∧ gX m m') := by
  refine ze138 ?_
  unfold sp138
  by_cases c : gCk V U s 1 = 0
  · rw [if_pos c]
    obtain ⟨c1, c2, _⟩ := gCk_0 c
    have z1 := zrf_a65 c1.2.1 c1.2.2
    simp +contextual (disch := (first | omega | assumption | decide)) only [↓zbrT, ↓zbrF, zw138_0, zw138_1, zw138_2, zw138_3, zr_1, zr_3, zr_4, zr_7, zr_12, zr_20, zr_54, zr_61, zr_68, zr_70, zr_73, zlg_0, zlg_s, zls_0, zls_1, zls_s, zkl_i, zkl_r, zkl_l, zkl_n, zrc_1, zrc_s, zcat_n, zcat_i, zcat_l, zcat_r, zkd_0, zkd_65, zln_65, zrf_0_12, zrf_a65, Int.cast_ofNat_Int, Int.reduceAdd, zbd, false_and, and_false, true_and, and_true, true_or, or_true, false_or, or_false, Option.toList, List.nil_append, List.cons_append, zif0, zif1, zif01, zem1, zem2, Int.reduceEq, Int.reduceLT, Int.reduceLE, Int.reduceNeg, Int.reduceSub, Int.reduceMul, if_true, if_false, not_false_eq_true, not_true_eq_false, true_implies, false_implies, Classical.not_not, Nat.reduceAdd, Nat.reduceLeDiff, zq142 hI hk hu, c]
    refine gK (gz140 hI hk hu c1.2 c2) rfl rfl (Nat.le_of_ble_eq_true rfl) ?_
    rintro _ m1 ⟨rfl, hI1, hX1, hS1⟩
    (try simp +contextual (disch := (first | omega | assumption | decide)) only [↓zbrT, ↓zbrF, zw138_0, zw138_1, zw138_2, zw138_3, zr_1, zr_3, zr_4, zr_7, zr_12, zr_20, zr_54, zr_61, zr_68, zr_70, zr_73, zlg_0, zlg_s, zls_0, zls_1, zls_s, zkl_i, zkl_r, zkl_l, zkl_n, zrc_1, zrc_s, zcat_n, zcat_i, zcat_l, zcat_r, zkd_0, zkd_65, zln_65, zrf_0_12, zrf_a65, Int.cast_ofNat_Int, Int.reduceAdd, zbd, false_and, and_false, true_and, and_true, true_or, or_true, false_or, or_false, Option.toList, List.nil_append, List.cons_append, zif0, zif1, zif01, zem1, zem2, Int.reduceEq, Int.reduceLT, Int.reduceLE, Int.reduceNeg, Int.reduceSub, Int.reduceMul, if_true, if_false, not_false_eq_true, not_true_eq_false, true_implies, false_implies, Classical.not_not, Nat.reduceAdd, Nat.reduceLeDiff])
    (first | exact ⟨hI1, hX1⟩ | exact ⟨rfl, hI1, hX1⟩)
  · rw [if_neg c]
    simp +contextual (disch := (first | omega | assumption | decide)) only [↓zbrT, ↓zbrF, zw138_0, zw138_1, zw138_2, zw138_3, zr_1, zr_3, zr_4, zr_7, zr_12, zr_20, zr_54, zr_61, zr_68, zr_70, zr_73, zlg_0, zlg_s, zls_0, zls_1, zls_s, zkl_i, zkl_r, zkl_l, zkl_n, zrc_1, zrc_s, zcat_n, zcat_i, zcat_l, zcat_r, zkd_0, zkd_65, zln_65, zrf_0_12, zrf_a65, Int.cast_ofNat_Int, Int.reduceAdd, zbd, false_and, and_false, true_and, and_true, true_or, or_true, false_or, or_false, Option.toList, List.nil_append, List.cons_append, zif0, zif1, zif01, zem1, zem2, Int.reduceEq, Int.reduceLT, Int.reduceLE, Int.reduceNeg, Int.reduceSub, Int.reduceMul, if_true, if_false, not_false_eq_true, not_true_eq_false, true_implies, false_implies, Classical.not_not, Nat.reduceAdd, Nat.reduceLeDiff, zq142 hI hk hu, c]
    (first | exact ⟨hI, gX_refl⟩ | exact ⟨rfl, hI, gX_refl⟩)
theorem gz139 {d : Nat} {m : zMm} {s : Int} {V U : zMm} (hI : gI V m) (hk : gUk U) (hu : gCu U m) : zC (d + 7) 139 [.inr (.inr 0), .inl s] m (fun r' m' => r' = some (.inl (sp139 V U s)) ∧ gI V m' ∧ gX m m') := by
  refine ze139 ?_
  unfold sp139
  by_cases c : gCk V U s 1 = 0
  · rw [if_pos c]
    obtain ⟨c1, c2, _⟩ := gCk_0 c
    have z1 := zrf_a65 c1.2.1 c1.2.2
    simp +contextual (disch := (first | omega | assumption | decide)) only [↓zbrT, ↓zbrF, zw139_0, zw139_1, zw139_2, zr_1, zr_3, zr_4, zr_7, zr_10, zr_12, zr_20, zr_52, zr_61, zr_68, zr_70, zlg_0, zlg_s, zls_0, zls_1, zls_s, zkl_i, zkl_r, zkl_l, zkl_n, zrc_1, zrc_s, zcat_n, zcat_i, zcat_l, zcat_r, zkd_0, zkd_43, zkd_45, zkd_51, zkd_53, zkd_55, zkd_57, zkd_59, zkd_65, zkd_a50, zln_65, zrf_0_12, zrf_0_7, zrf_a65, Int.cast_ofNat_Int, Int.reduceAdd, zbd, false_and, and_false, true_and, and_true, true_or, or_true, false_or, or_false, Option.toList, List.nil_append, List.cons_append, zif0, zif1, zif01, zem1, zem2, Int.reduceEq, Int.reduceLT, Int.reduceLE, Int.reduceNeg, Int.reduceSub, Int.reduceMul, if_true, if_false, not_false_eq_true, not_true_eq_false, true_implies, false_implies, Classical.not_not, Nat.reduceAdd, Nat.reduceLeDiff, zq142 hI hk hu, c]
    refine gK (gz140 hI hk hu c1.2 c2) rfl rfl (Nat.le_of_ble_eq_true rfl) ?_
    rintro _ m1 ⟨rfl, hI1, hX1, hS1⟩
    have e1 := hS1.1.2.1
    simp +contextual (disch := (first | omega | assumption | decide)) only [↓zbrT, ↓zbrF, zw139_0, zw139_1, zw139_2, zr_1, zr_3, zr_4, zr_7, zr_10, zr_12, zr_20, zr_52, zr_61, zr_68, zr_70, zlg_0, zlg_s, zls_0, zls_1, zls_s, zkl_i, zkl_r, zkl_l, zkl_n, zrc_1, zrc_s, zcat_n, zcat_i, zcat_l, zcat_r, zkd_0, zkd_43, zkd_45, zkd_51, zkd_53, zkd_55, zkd_57, zkd_59, zkd_65, zkd_a50, zln_65, zrf_0_12, zrf_0_7, zrf_a65, Int.cast_ofNat_Int, Int.reduceAdd, zbd, false_and, and_false, true_and, and_true, true_or, or_true, false_or, or_false, Option.toList, List.nil_append, List.cons_append, zif0, zif1, zif01, zem1, zem2, Int.reduceEq, Int.reduceLT, Int.reduceLE, Int.reduceNeg, Int.reduceSub, Int.reduceMul, if_true, if_false, not_false_eq_true, not_true_eq_false, true_implies, false_implies, Classical.not_not, Nat.reduceAdd, Nat.reduceLeDiff, e1]
    exact ⟨hI1, hX1⟩
  · rw [if_neg c]
    simp +contextual (disch := (first | omega | assumption | decide)) only [↓zbrT, ↓zbrF, zw139_0, zw139_1, zw139_2, zr_1, zr_3, zr_4, zr_7, zr_10, zr_12, zr_20, zr_52, zr_61, zr_68, zr_70, zlg_0, zlg_s, zls_0, zls_1, zls_s, zkl_i, zkl_r, zkl_l, zkl_n, zrc_1, zrc_s, zcat_n, zcat_i, zcat_l, zcat_r, zkd_0, zkd_43, zkd_45, zkd_51, zkd_53, zkd_55, zkd_57, zkd_59, zkd_65, zkd_a50, zln_65, zrf_0_12, zrf_0_7, zrf_a65, Int.cast_ofNat_Int, Int.reduceAdd, zbd, false_and, and_false, true_and, and_true, true_or, or_true, false_or, or_false, Option.toList, List.nil_append, List.cons_append, zif0, zif1, zif01, zem1, zem2, Int.reduceEq, Int.reduceLT, Int.reduceLE, Int.reduceNeg, Int.reduceSub, Int.reduceMul, if_true, if_false, not_false_eq_true, not_true_eq_false, true_implies, false_implies, Classical.not_not, Nat.reduceAdd, Nat.reduceLeDiff, zq142 hI hk hu, c]
    (first | exact ⟨hI, gX_refl⟩ | exact ⟨rfl, hI, gX_refl⟩)
theorem gz283 {d : Nat} {m : zMm} {s : Int} {V U : zMm} (hQ : gQ V m) (hk : gUk U) (hu : gMu U m) : zC (d + 14) 283 [.inr (.inr 131), .inl s] m (fun r' m' => r' = some (.inl (sp138 V U s)) ∧ gY m m') := by
  refine ze283 ?_
  have hb := hQ.1.1
  have hY0 : gY m (zmu m 131 0 0) := gY_u (by decide)
  have hQ0 := gQ_y hQ hY0
  have h5 : 0 ≤ zmu m 131 0 0 138 5 ∧ zmu m 131 0 0 138 5 ≤ 8 := by rw [gM_5 hQ0.2.2.1]; omega
  have h6 : 0 ≤ zmu m 131 0 0 138 6 ∧ zmu m 131 0 0 138 6 ≤ 6 := by rw [gM_6 hQ0.2.2.1]; omega
  have h0 : 0 ≤ zmu m 131 0 0 138 0 ∧ zmu m 131 0 0 138 0 ≤ 6 := by rw [gM_0 hQ0.2.2.1]; omega
  have hu0 := gMu_y hu hY0
  unfold sp138
  by_cases c : gCk V U s 1 = 0
  · rw [if_pos c]
    obtain ⟨c1, c2, _⟩ := gCk_0 c
    simp +contextual (disch := (first | omega | assumption | decide)) only [↓zbrT, ↓zbrF, zw283_0, zw283_1, zw283_2, zw283_3, zr_1, zr_3, zr_4, zr_7, zr_13, zr_54, zr_61, zr_68, zr_70, zr_73, zlg_0, zlg_s, zls_0, zls_1, zls_s, zkl_i, zkl_r, zkl_l, zkl_n, zrc_1, zrc_s, zcat_n, zcat_i, zcat_l, zcat_r, zkd_131, Int.cast_ofNat_Int, Int.reduceAdd, zmu_same, zmu_c, zmu_i, false_and, and_false, true_and, and_true, true_or, or_true, false_or, or_false, Option.toList, List.nil_append, List.cons_append, zif0, zif1, zif01, zem1, zem2, Int.reduceEq, Int.reduceLT, Int.reduceLE, Int.reduceNeg, Int.reduceSub, Int.reduceMul, if_true, if_false, not_false_eq_true, not_true_eq_false, true_implies, false_implies, Classical.not_not, Nat.reduceAdd, Nat.reduceLeDiff, zq281 hQ0 hk hu0, c]
    refine gK (gz282 hQ0 hk hu0 c1.2 c2) rfl rfl (Nat.le_of_ble_eq_true rfl) ?_
    rintro _ m1 ⟨rfl, hL, hY⟩
    (try simp +contextual (disch := (first | omega | assumption | decide)) only [↓zbrT, ↓zbrF, zw283_0, zw283_1, zw283_2, zw283_3, zr_1, zr_3, zr_4, zr_7, zr_13, zr_54, zr_61, zr_68, zr_70, zr_73, zlg_0, zlg_s, zls_0, zls_1, zls_s, zkl_i, zkl_r, zkl_l, zkl_n, zrc_1, zrc_s, zcat_n, zcat_i, zcat_l, zcat_r, zkd_131, Int.cast_ofNat_Int, Int.reduceAdd, zmu_same, zmu_c, zmu_i, false_and, and_false, true_and, and_true, true_or, or_true, false_or, or_false, Option.toList, List.nil_append, List.cons_append, zif0, zif1, zif01, zem1, zem2, Int.reduceEq, Int.reduceLT, Int.reduceLE, Int.reduceNeg, Int.reduceSub, Int.reduceMul, if_true, if_false, not_false_eq_true, not_true_eq_false, true_implies, false_implies, Classical.not_not, Nat.reduceAdd, Nat.reduceLeDiff])
    have fin := gY_tr hY0 hY
    (first | exact fin | exact ⟨rfl, fin⟩)
  · rw [if_neg c]
    simp +contextual (disch := (first | omega | assumption | decide)) only [↓zbrT, ↓zbrF, zw283_0, zw283_1, zw283_2, zw283_3, zr_1, zr_3, zr_4, zr_7, zr_13, zr_54, zr_61, zr_68, zr_70, zr_73, zlg_0, zlg_s, zls_0, zls_1, zls_s, zkl_i, zkl_r, zkl_l, zkl_n, zrc_1, zrc_s, zcat_n, zcat_i, zcat_l, zcat_r, zkd_131, Int.cast_ofNat_Int, Int.reduceAdd, zmu_same, zmu_c, zmu_i, false_and, and_false, true_and, and_true, true_or, or_true, false_or, or_false, Option.toList, List.nil_append, List.cons_append, zif0, zif1, zif01, zem1, zem2, Int.reduceEq, Int.reduceLT, Int.reduceLE, Int.reduceNeg, Int.reduceSub, Int.reduceMul, if_true, if_false, not_false_eq_true, not_true_eq_false, true_implies, false_implies, Classical.not_not, Nat.reduceAdd, Nat.reduceLeDiff, zq281 hQ0 hk hu0, c]
    (first | exact hY0 | exact ⟨rfl, hY0⟩)
theorem gz284 {d : Nat} {m : zMm} {s : Int} {V U : zMm} (hQ : gQ V m) (hk : gUk U) (hu : gMu U m) : zC (d + 14) 284 [.inr (.inr 131), .inl s] m (fun r' m' => r' = some (.inl (sp139 V U s)) ∧ gY m m') := by
  refine ze284 ?_
  have hb := hQ.1.1
  have hY0 : gY m (zmu m 131 0 0) := gY_u (by decide)
  have hQ0 := gQ_y hQ hY0
  have h5 : 0 ≤ zmu m 131 0 0 138 5 ∧ zmu m 131 0 0 138 5 ≤ 8 := by rw [gM_5 hQ0.2.2.1]; omega
  have h6 : 0 ≤ zmu m 131 0 0 138 6 ∧ zmu m 131 0 0 138 6 ≤ 6 := by rw [gM_6 hQ0.2.2.1]; omega
  have h0 : 0 ≤ zmu m 131 0 0 138 0 ∧ zmu m 131 0 0 138 0 ≤ 6 := by rw [gM_0 hQ0.2.2.1]; omega
  have hu0 := gMu_y hu hY0
  unfold sp139
  by_cases c : gCk V U s 1 = 0
  · rw [if_pos c]
    obtain ⟨c1, c2, _⟩ := gCk_0 c
    simp +contextual (disch := (first | omega | assumption | decide)) only [↓zbrT, ↓zbrF, zw284_0, zw284_1, zw284_2, zr_1, zr_3, zr_4, zr_7, zr_10, zr_13, zr_52, zr_61, zr_68, zr_70, zlg_0, zlg_s, zls_0, zls_1, zls_s, zkl_i, zkl_r, zkl_l, zkl_n, zrc_1, zrc_s, zcat_n, zcat_i, zcat_l, zcat_r, zkd_131, Int.cast_ofNat_Int, Int.reduceAdd, zmu_same, zmu_c, zmu_i, false_and, and_false, true_and, and_true, true_or, or_true, false_or, or_false, Option.toList, List.nil_append, List.cons_append, zif0, zif1, zif01, zem1, zem2, Int.reduceEq, Int.reduceLT, Int.reduceLE, Int.reduceNeg, Int.reduceSub, Int.reduceMul, if_true, if_false, not_false_eq_true, not_true_eq_false, true_implies, false_implies, Classical.not_not, Nat.reduceAdd, Nat.reduceLeDiff, zq281 hQ0 hk hu0, c]
    refine gK (gz282 hQ0 hk hu0 c1.2 c2) rfl rfl (Nat.le_of_ble_eq_true rfl) ?_
    rintro _ m1 ⟨rfl, hL, hY⟩
    simp +contextual (disch := (first | omega | assumption | decide)) only [↓zbrT, ↓zbrF, zw284_0, zw284_1, zw284_2, zr_1, zr_3, zr_4, zr_7, zr_10, zr_13, zr_52, zr_61, zr_68, zr_70, zlg_0, zlg_s, zls_0, zls_1, zls_s, zkl_i, zkl_r, zkl_l, zkl_n, zrc_1, zrc_s, zcat_n, zcat_i, zcat_l, zcat_r, zkd_131, Int.cast_ofNat_Int, Int.reduceAdd, zmu_same, zmu_c, zmu_i, false_and, and_false, true_and, and_true, true_or, or_true, false_or, or_false, Option.toList, List.nil_append, List.cons_append, zif0, zif1, zif01, zem1, zem2, Int.reduceEq, Int.reduceLT, Int.reduceLE, Int.reduceNeg, Int.reduceSub, Int.reduceMul, if_true, if_false, not_false_eq_true, not_true_eq_false, true_implies, false_implies, Classical.not_not, Nat.reduceAdd, Nat.reduceLeDiff, gL_1 hL]
    have fin := gY_tr hY0 hY
    (first | exact fin | exact ⟨rfl, fin⟩)
  · rw [if_neg c]
    simp +contextual (disch := (first | omega | assumption | decide)) only [↓zbrT, ↓zbrF, zw284_0, zw284_1, zw284_2, zr_1, zr_3, zr_4, zr_7, zr_10, zr_13, zr_52, zr_61, zr_68, zr_70, zlg_0, zlg_s, zls_0, zls_1, zls_s, zkl_i, zkl_r, zkl_l, zkl_n, zrc_1, zrc_s, zcat_n, zcat_i, zcat_l, zcat_r, zkd_131, Int.cast_ofNat_Int, Int.reduceAdd, zmu_same, zmu_c, zmu_i, false_and, and_false, true_and, and_true, true_or, or_true, false_or, or_false, Option.toList, List.nil_append, List.cons_append, zif0, zif1, zif01, zem1, zem2, Int.reduceEq, Int.reduceLT, Int.reduceLE, Int.reduceNeg, Int.reduceSub, Int.reduceMul, if_true, if_false, not_false_eq_true, not_true_eq_false, true_implies, false_implies, Classical.not_not, Nat.reduceAdd, Nat.reduceLeDiff, zq281 hQ0 hk hu0, c]
    (first | exact hY0 | exact ⟨rfl, hY0⟩)
