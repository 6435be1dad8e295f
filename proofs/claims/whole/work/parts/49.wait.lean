/-! ===== bond, lasts, drawn, luck ===== -/
/-- nights in which none is broken, till it gives up -/
def gWn (V : zMm) : Nat → Int → Int
  | 0 => gSn V
  | k + 1 => if gWn V k 2 = 0 then gNi V (gWn V k) (-1) else gWn V k
def gWp (V : zMm) : Nat → Int
  | 0 => 0
  | k + 1 => if gWn V k 2 = 0 then gWp V k + 1 else gWp V k
theorem gSn_0 {V : zMm} (hV : gOk V) (hA : gAc V) : gSok V (gSn V) ∧ gSn V 0 = V 0 9 := by
  have hb := hV.1
  have := gRp_ok hV hA (V 0 9).toNat (by omega)
  exact ⟨this.1, by rw [show gSn V 0 = (((V 0 9).toNat : Nat) : Int) from this.2]; omega⟩
theorem gWn_ok {V : zMm} (hV : gOk V) (hA : gAc V) : ∀ k : Nat, k ≤ 100 → gSok V (gWn V k) ∧ gWn V k 0 ≤ 40 + k
  | 0, _ => by
    have hb := hV.1
    have q := gSn_0 hV hA
    exact ⟨q.1, by show gSn V 0 ≤ 40 + ((0 : Nat) : Int); omega⟩
  | k + 1, h => by
    have i := gWn_ok hV hA k (by omega)
    by_cases c : gWn V k 2 = 0
    · have e : gWn V (k + 1) = gNi V (gWn V k) (-1) := by show (if gWn V k 2 = 0 then _ else _) = _; rw [if_pos c]
      rw [e]
      exact ⟨gSok_ni hV i.1 (Or.inl rfl) (by omega), by rw [gNi_0]; omega⟩
    · have e : gWn V (k + 1) = gWn V k := by show (if gWn V k 2 = 0 then _ else _) = _; rw [if_neg c]
      rw [e]
      exact ⟨i.1, by omega⟩
/-- once it gave up, nothing goes on -/
theorem gWn_stay {V : zMm} {k : Nat} (h : ¬ gWn V k 2 = 0) : ∀ j : Nat, gWn V (k + j) = gWn V k ∧ gWp V (k + j) = gWp V k
  | 0 => ⟨rfl, rfl⟩
  | j + 1 => by
    have i := gWn_stay h j
    have c : ¬ gWn V (k + j) 2 = 0 := by rw [i.1]; exact h
    have e1 : gWn V (k + (j + 1)) = gWn V (k + j) := by show (if gWn V (k + j) 2 = 0 then _ else _) = _; rw [if_neg c]; rfl
    have e2 : gWp V (k + (j + 1)) = gWp V (k + j) := by show (if gWn V (k + j) 2 = 0 then _ else _) = _; rw [if_neg c]; rfl
    rw [e1, e2]; exact i
theorem gXp_45 {m m' : zMm} (h : gE2 45 m m') : gXp m m' := fun c i hc => h c i (by omega)
theorem gI_45 {V m m' : zMm} (h : gI V m) (hA : gA V m') (hE : gE2 45 m m') : gI V m' ∧ gX m m' := ⟨gI_x h hA (gXp_45 hE), gXp_X (gXp_45 hE)⟩
theorem gSt_2 {S : Int → Int} {c : Int} {m : zMm} (h : gSt S c m) : m c 2 = S 2 := h.1.2.2.1
theorem gz135 {d : Nat} {m : zMm} {n : Int} {V : zMm} (hI : gI V m) (hn : 0 ≤ n ∧ n ≤ 60) : zC (d + 6) 135 [.inr (.inr 0), .inl n] m (fun r' m' => r' = some (.inl (gWp V n.toNat)) ∧ gI V m' ∧ gX m m' ∧ gSt (gWn V n.toNat) 45 m') := by
  refine ze135 ?_
  have hk := (gI_k hI).1
  simp +contextual (disch := (first | omega | assumption | decide)) only [↓zbrT, ↓zbrF, zw135_0, zw135_2, zw135_3, zw135_4, zr_1, zr_3, zr_4, zr_7, zr_10, zr_12, zr_52, zr_53, zr_54, zr_58, zr_62, zr_68, zr_70, zr_73, zlg_0, zlg_s, zls_0, zls_1, zls_s, zkl_i, zkl_r, zkl_l, zkl_n, zrc_1, zrc_s, zcat_n, zcat_i, zcat_l, zcat_r, zkd_0, zkd_20, zkd_43, zkd_45, zkd_51, zkd_53, zkd_55, zkd_57, zkd_59, zkd_a50, zrf_0_2, zrf_0_6, zrf_0_7, Int.cast_ofNat_Int, Int.reduceAdd, zw_id, false_and, and_false, true_and, and_true, true_or, or_true, false_or, or_false, Option.toList, List.nil_append, List.cons_append, zif0, zif1, zif01, zem1, zem2, Int.reduceEq, Int.reduceLT, Int.reduceLE, Int.reduceNeg, Int.reduceSub, Int.reduceMul, if_true, if_false, not_false_eq_true, not_true_eq_false, true_implies, false_implies, Classical.not_not, Nat.reduceAdd, Nat.reduceLeDiff]
  refine gK (gz42 gStc_45 gStc_43 hI.2.2.2.1 (by decide) hk.2.2.1) rfl rfl (Nat.le_of_ble_eq_true rfl) ?_
  rintro _ m1 ⟨rfl, hS1, hE1⟩
  have hA1 := gA_eq gStc_45 hI.1 hE1
  simp +contextual (disch := (first | omega | assumption | decide)) only [↓zbrT, ↓zbrF, zw135_0, zw135_2, zw135_3, zw135_4, zr_1, zr_3, zr_4, zr_7, zr_10, zr_12, zr_52, zr_53, zr_54, zr_58, zr_62, zr_68, zr_70, zr_73, zlg_0, zlg_s, zls_0, zls_1, zls_s, zkl_i, zkl_r, zkl_l, zkl_n, zrc_1, zrc_s, zcat_n, zcat_i, zcat_l, zcat_r, zkd_0, zkd_20, zkd_43, zkd_45, zkd_51, zkd_53, zkd_55, zkd_57, zkd_59, zkd_a50, zrf_0_2, zrf_0_6, zrf_0_7, Int.cast_ofNat_Int, Int.reduceAdd, zw_id, false_and, and_false, true_and, and_true, true_or, or_true, false_or, or_false, Option.toList, List.nil_append, List.cons_append, zif0, zif1, zif01, zem1, zem2, Int.reduceEq, Int.reduceLT, Int.reduceLE, Int.reduceNeg, Int.reduceSub, Int.reduceMul, if_true, if_false, not_false_eq_true, not_true_eq_false, true_implies, false_implies, Classical.not_not, Nat.reduceAdd, Nat.reduceLeDiff]
  refine zfor n (fun k lc m' => 0 ≤ k ∧ lc = [some (.inr (.inr 0)), some (.inl n), some (.inl k)] ∧ gA V m' ∧ gE2 45 m m' ∧ gSt (gWn V k.toNat) 45 m' ∧ gWp V k.toNat = k) ?_ ?_ (i := 0) hn.1 ?_
  · rintro k lc m' hk' ⟨h0, rfl, hA, hE, hS, hp⟩ kk
    have ok := gWn_ok hI.1.1 hI.2.1 k.toNat (by omega)
    have e2 := gSt_2 hS
    rw [zw135_1]
    by_cases c : gWn V k.toNat 2 = 0
    · simp +contextual (disch := (first | omega | assumption | decide)) only [↓zbrT, ↓zbrF, zw135_0, zw135_2, zw135_3, zw135_4, zr_1, zr_3, zr_4, zr_7, zr_10, zr_12, zr_52, zr_53, zr_54, zr_58, zr_62, zr_68, zr_70, zr_73, zlg_0, zlg_s, zls_0, zls_1, zls_s, zkl_i, zkl_r, zkl_l, zkl_n, zrc_1, zrc_s, zcat_n, zcat_i, zcat_l, zcat_r, zkd_0, zkd_20, zkd_43, zkd_45, zkd_51, zkd_53, zkd_55, zkd_57, zkd_59, zkd_a50, zrf_0_2, zrf_0_6, zrf_0_7, Int.cast_ofNat_Int, Int.reduceAdd, zw_id, false_and, and_false, true_and, and_true, true_or, or_true, false_or, or_false, Option.toList, List.nil_append, List.cons_append, zif0, zif1, zif01, zem1, zem2, Int.reduceEq, Int.reduceLT, Int.reduceLE, Int.reduceNeg, Int.reduceSub, Int.reduceMul, if_true, if_false, not_false_eq_true, not_true_eq_false, true_implies, false_implies, Classical.not_not, Nat.reduceAdd, Nat.reduceLeDiff, e2, c]
      refine gK (gz46 hA gStc_45 hS ok.1 (Or.inl rfl) (by omega)) rfl rfl (Nat.le_of_ble_eq_true rfl) ?_
      rintro _ m2 ⟨rfl, hA2, hS2, hE2⟩
      simp +contextual (disch := (first | omega | assumption | decide)) only [↓zbrT, ↓zbrF, zw135_0, zw135_2, zw135_3, zw135_4, zr_1, zr_3, zr_4, zr_7, zr_10, zr_12, zr_52, zr_53, zr_54, zr_58, zr_62, zr_68, zr_70, zr_73, zlg_0, zlg_s, zls_0, zls_1, zls_s, zkl_i, zkl_r, zkl_l, zkl_n, zrc_1, zrc_s, zcat_n, zcat_i, zcat_l, zcat_r, zkd_0, zkd_20, zkd_43, zkd_45, zkd_51, zkd_53, zkd_55, zkd_57, zkd_59, zkd_a50, zrf_0_2, zrf_0_6, zrf_0_7, Int.cast_ofNat_Int, Int.reduceAdd, zw_id, false_and, and_false, true_and, and_true, true_or, or_true, false_or, or_false, Option.toList, List.nil_append, List.cons_append, zif0, zif1, zif01, zem1, zem2, Int.reduceEq, Int.reduceLT, Int.reduceLE, Int.reduceNeg, Int.reduceSub, Int.reduceMul, if_true, if_false, not_false_eq_true, not_true_eq_false, true_implies, false_implies, Classical.not_not, Nat.reduceAdd, Nat.reduceLeDiff]
      refine kk _ _ ⟨by omega, rfl, hA2, gE2_tr hE hE2, ?_, ?_⟩
      · rw [show (k + 1).toNat = k.toNat + 1 by omega]
        show gSt (if gWn V k.toNat 2 = 0 then _ else _) 45 m2
        rw [if_pos c]; exact hS2
      · rw [show (k + 1).toNat = k.toNat + 1 by omega]
        show (if gWn V k.toNat 2 = 0 then gWp V k.toNat + 1 else _) = _
        rw [if_pos c, hp]
    · simp +contextual (disch := (first | omega | assumption | decide)) only [↓zbrT, ↓zbrF, zw135_0, zw135_2, zw135_3, zw135_4, zr_1, zr_3, zr_4, zr_7, zr_10, zr_12, zr_52, zr_53, zr_54, zr_58, zr_62, zr_68, zr_70, zr_73, zlg_0, zlg_s, zls_0, zls_1, zls_s, zkl_i, zkl_r, zkl_l, zkl_n, zrc_1, zrc_s, zcat_n, zcat_i, zcat_l, zcat_r, zkd_0, zkd_20, zkd_43, zkd_45, zkd_51, zkd_53, zkd_55, zkd_57, zkd_59, zkd_a50, zrf_0_2, zrf_0_6, zrf_0_7, Int.cast_ofNat_Int, Int.reduceAdd, zw_id, false_and, and_false, true_and, and_true, true_or, or_true, false_or, or_false, Option.toList, List.nil_append, List.cons_append, zif0, zif1, zif01, zem1, zem2, Int.reduceEq, Int.reduceLT, Int.reduceLE, Int.reduceNeg, Int.reduceSub, Int.reduceMul, if_true, if_false, not_false_eq_true, not_true_eq_false, true_implies, false_implies, Classical.not_not, Nat.reduceAdd, Nat.reduceLeDiff, e2, c]
      have st := gWn_stay (V := V) (k := k.toNat) c (n - k).toNat
      rw [show k.toNat + (n - k).toNat = n.toNat by omega] at st
      have q := gI_45 hI hA hE
      rw [st.1, st.2, hp]
      exact ⟨rfl, q.1, q.2, hS⟩
  · rintro lc m' ⟨h0, rfl, hA, hE, hS, hp⟩
    rw [zw135_1]
    simp +contextual (disch := (first | omega | assumption | decide)) only [↓zbrT, ↓zbrF, zw135_0, zw135_2, zw135_3, zw135_4, zr_1, zr_3, zr_4, zr_7, zr_10, zr_12, zr_52, zr_53, zr_54, zr_58, zr_62, zr_68, zr_70, zr_73, zlg_0, zlg_s, zls_0, zls_1, zls_s, zkl_i, zkl_r, zkl_l, zkl_n, zrc_1, zrc_s, zcat_n, zcat_i, zcat_l, zcat_r, zkd_0, zkd_20, zkd_43, zkd_45, zkd_51, zkd_53, zkd_55, zkd_57, zkd_59, zkd_a50, zrf_0_2, zrf_0_6, zrf_0_7, Int.cast_ofNat_Int, Int.reduceAdd, zw_id, false_and, and_false, true_and, and_true, true_or, or_true, false_or, or_false, Option.toList, List.nil_append, List.cons_append, zif0, zif1, zif01, zem1, zem2, Int.reduceEq, Int.reduceLT, Int.reduceLE, Int.reduceNeg, Int.reduceSub, Int.reduceMul, if_true, if_false, not_false_eq_true, not_true_eq_false, true_implies, false_implies, Classical.not_not, Nat.reduceAdd, Nat.reduceLeDiff]
    have q := gI_45 hI hA hE
    rw [hp]
    exact ⟨rfl, q.1, q.2, hS⟩
  · exact ⟨by decide, rfl, hA1, gE2_q hE1, hS1, rfl⟩
def sp133 (V : zMm) (n : Int) : Int := if ¬ V 0 10 = 0 ∧ (0 ≤ n ∧ n ≤ 60) then gWn V n.toNat 1 else -2
theorem gz133 {d : Nat} {m : zMm} {n : Int} {V : zMm} (hI : gI V m) : zC (d + 7) 133 [.inr (.inr 0), .inl n] m (fun r' m' => r' = some (.inl (sp133 V n)) ∧ gI V m' ∧ gX m m') := by
  refine ze133 ?_
  unfold sp133
  by_cases c1 : V 0 10 = 0
  · rw [if_neg (fun z => z.1 c1)]
    simp +contextual (disch := (first | omega | assumption | decide)) only [↓zbrT, ↓zbrF, zw133_0, zw133_1, zw133_2, zw133_3, zr_1, zr_3, zr_7, zr_10, zr_12, zr_52, zr_62, zr_68, zr_69, zr_70, zlg_0, zlg_s, zrc_1, zrc_s, zcat_n, zcat_i, zcat_l, zcat_r, zkd_0, zkd_43, zkd_45, zkd_51, zkd_53, zkd_55, zkd_57, zkd_59, zkd_a50, zrf_0_7, Int.cast_ofNat_Int, Int.reduceAdd, false_and, and_false, true_and, and_true, true_or, or_true, false_or, or_false, Option.toList, List.nil_append, List.cons_append, zif0, zif1, zif01, zem1, zem2, Int.reduceEq, Int.reduceLT, Int.reduceLE, Int.reduceNeg, Int.reduceSub, Int.reduceMul, if_true, if_false, not_false_eq_true, not_true_eq_false, true_implies, false_implies, Classical.not_not, Nat.reduceAdd, Nat.reduceLeDiff, zq74, gA_0 hI.1.2.1, gA_1 hI.1.2.1, gA_2 hI.1.2.1, gA_3 hI.1.2.1, gA_4 hI.1.2.1, gA_5 hI.1.2.1, gA_6 hI.1.2.1, gA_7 hI.1.2.1, gA_8 hI.1.2.1, gA_9 hI.1.2.1, gA_r0 hI.1.2.1, gA_r1 hI.1.2.1, gA_r2 hI.1.2.1, gA_r3 hI.1.2.1, gA_f0 hI.1.2.1, gA_f1 hI.1.2.1, gA_f2 hI.1.2.1, gA_f3 hI.1.2.1, gA_f4 hI.1.2.1, gA_d hI.1, gI_s0 hI, gI_s1 hI, gI_s2 hI, gI_s3 hI, gI_s4 hI, gI_s5 hI, gI_n hI, if_pos c1]
    (first | exact ⟨hI, gX_refl⟩ | exact ⟨rfl, hI, gX_refl⟩)
  · by_cases c2 : 0 ≤ n ∧ n ≤ 60
    · rw [if_pos ⟨c1, c2⟩]
      simp +contextual (disch := (first | omega | assumption | decide)) only [↓zbrT, ↓zbrF, zw133_0, zw133_1, zw133_2, zw133_3, zr_1, zr_3, zr_7, zr_10, zr_12, zr_52, zr_62, zr_68, zr_69, zr_70, zlg_0, zlg_s, zrc_1, zrc_s, zcat_n, zcat_i, zcat_l, zcat_r, zkd_0, zkd_43, zkd_45, zkd_51, zkd_53, zkd_55, zkd_57, zkd_59, zkd_a50, zrf_0_7, Int.cast_ofNat_Int, Int.reduceAdd, false_and, and_false, true_and, and_true, true_or, or_true, false_or, or_false, Option.toList, List.nil_append, List.cons_append, zif0, zif1, zif01, zem1, zem2, Int.reduceEq, Int.reduceLT, Int.reduceLE, Int.reduceNeg, Int.reduceSub, Int.reduceMul, if_true, if_false, not_false_eq_true, not_true_eq_false, true_implies, false_implies, Classical.not_not, Nat.reduceAdd, Nat.reduceLeDiff, zq74, gA_0 hI.1.2.1, gA_1 hI.1.2.1, gA_2 hI.1.2.1, gA_3 hI.1.2.1, gA_4 hI.1.2.1, gA_5 hI.1.2.1, gA_6 hI.1.2.1, gA_7 hI.1.2.1, gA_8 hI.1.2.1, gA_9 hI.1.2.1, gA_r0 hI.1.2.1, gA_r1 hI.1.2.1, gA_r2 hI.1.2.1, gA_r3 hI.1.2.1, gA_f0 hI.1.2.1, gA_f1 hI.1.2.1, gA_f2 hI.1.2.1, gA_f3 hI.1.2.1, gA_f4 hI.1.2.1, gA_d hI.1, gI_s0 hI, gI_s1 hI, gI_s2 hI, gI_s3 hI, gI_s4 hI, gI_s5 hI, gI_n hI, if_neg c1, zq80]
      refine gK (gz135 hI c2) rfl rfl (Nat.le_of_ble_eq_true rfl) ?_
      rintro _ m1 ⟨rfl, hI1, hX1, hS1⟩
      have e1 := hS1.1.2.1
      simp +contextual (disch := (first | omega | assumption | decide)) only [↓zbrT, ↓zbrF, zw133_0, zw133_1, zw133_2, zw133_3, zr_1, zr_3, zr_7, zr_10, zr_12, zr_52, zr_62, zr_68, zr_69, zr_70, zlg_0, zlg_s, zrc_1, zrc_s, zcat_n, zcat_i, zcat_l, zcat_r, zkd_0, zkd_43, zkd_45, zkd_51, zkd_53, zkd_55, zkd_57, zkd_59, zkd_a50, zrf_0_7, Int.cast_ofNat_Int, Int.reduceAdd, false_and, and_false, true_and, and_true, true_or, or_true, false_or, or_false, Option.toList, List.nil_append, List.cons_append, zif0, zif1, zif01, zem1, zem2, Int.reduceEq, Int.reduceLT, Int.reduceLE, Int.reduceNeg, Int.reduceSub, Int.reduceMul, if_true, if_false, not_false_eq_true, not_true_eq_false, true_implies, false_implies, Classical.not_not, Nat.reduceAdd, Nat.reduceLeDiff, e1]
      exact ⟨hI1, hX1⟩
    · rw [if_neg (fun z => c2 z.2)]
      simp +contextual (disch := (first | omega | assumption | decide)) only [↓zbrT, ↓zbrF, zw133_0, zw133_1, zw133_2, zw133_3, zr_1, zr_3, zr_7, zr_10, zr_12, zr_52, zr_62, zr_68, zr_69, zr_70, zlg_0, zlg_s, zrc_1, zrc_s, zcat_n, zcat_i, zcat_l, zcat_r, zkd_0, zkd_43, zkd_45, zkd_51, zkd_53, zkd_55, zkd_57, zkd_59, zkd_a50, zrf_0_7, Int.cast_ofNat_Int, Int.reduceAdd, false_and, and_false, true_and, and_true, true_or, or_true, false_or, or_false, Option.toList, List.nil_append, List.cons_append, zif0, zif1, zif01, zem1, zem2, Int.reduceEq, Int.reduceLT, Int.reduceLE, Int.reduceNeg, Int.reduceSub, Int.reduceMul, if_true, if_false, not_false_eq_true, not_true_eq_false, true_implies, false_implies, Classical.not_not, Nat.reduceAdd, Nat.reduceLeDiff, zq74, gA_0 hI.1.2.1, gA_1 hI.1.2.1, gA_2 hI.1.2.1, gA_3 hI.1.2.1, gA_4 hI.1.2.1, gA_5 hI.1.2.1, gA_6 hI.1.2.1, gA_7 hI.1.2.1, gA_8 hI.1.2.1, gA_9 hI.1.2.1, gA_r0 hI.1.2.1, gA_r1 hI.1.2.1, gA_r2 hI.1.2.1, gA_r3 hI.1.2.1, gA_f0 hI.1.2.1, gA_f1 hI.1.2.1, gA_f2 hI.1.2.1, gA_f3 hI.1.2.1, gA_f4 hI.1.2.1, gA_d hI.1, gI_s0 hI, gI_s1 hI, gI_s2 hI, gI_s3 hI, gI_s4 hI, gI_s5 hI, gI_n hI, if_neg c1, zq80]
      (first | exact ⟨hI, gX_refl⟩ | exact ⟨rfl, hI, gX_refl⟩)
def sp134 (V : zMm) : Int := if V 0 10 = 0 then -2 else if gWn V 60 2 = 0 then -1 else gWp V 60
theorem gz134 {d : Nat} {m : zMm} {V : zMm} (hI : gI V m) : zC (d + 7) 134 [.inr (.inr 0)] m (fun r' m' => r' = some (.inl (sp134 V)) ∧ gI V m' ∧ gX m m') := by
  refine ze134 ?_
  unfold sp134
  by_cases c1 : V 0 10 = 0
  · rw [if_pos c1]
    simp +contextual (disch := (first | omega | assumption | decide)) only [↓zbrT, ↓zbrF, zw134_0, zw134_1, zw134_2, zw134_3, zw134_4, zw134_5, zr_1, zr_3, zr_4, zr_7, zr_10, zr_12, zr_54, zr_61, zr_68, zr_70, zr_73, zlg_0, zlg_s, zls_0, zls_1, zls_s, zkl_i, zkl_r, zkl_l, zkl_n, zrc_1, zrc_s, zcat_n, zcat_i, zcat_l, zcat_r, zkd_0, zkd_43, zkd_45, zkd_51, zkd_53, zkd_55, zkd_57, zkd_59, zkd_a50, zrf_0_7, Int.cast_ofNat_Int, Int.reduceAdd, false_and, and_false, true_and, and_true, true_or, or_true, false_or, or_false, Option.toList, List.nil_append, List.cons_append, zif0, zif1, zif01, zem1, zem2, Int.reduceEq, Int.reduceLT, Int.reduceLE, Int.reduceNeg, Int.reduceSub, Int.reduceMul, if_true, if_false, not_false_eq_true, not_true_eq_false, true_implies, false_implies, Classical.not_not, Nat.reduceAdd, Nat.reduceLeDiff, zq74, gA_0 hI.1.2.1, gA_1 hI.1.2.1, gA_2 hI.1.2.1, gA_3 hI.1.2.1, gA_4 hI.1.2.1, gA_5 hI.1.2.1, gA_6 hI.1.2.1, gA_7 hI.1.2.1, gA_8 hI.1.2.1, gA_9 hI.1.2.1, gA_r0 hI.1.2.1, gA_r1 hI.1.2.1, gA_r2 hI.1.2.1, gA_r3 hI.1.2.1, gA_f0 hI.1.2.1, gA_f1 hI.1.2.1, gA_f2 hI.1.2.1, gA_f3 hI.1.2.1, gA_f4 hI.1.2.1, gA_d hI.1, gI_s0 hI, gI_s1 hI, gI_s2 hI, gI_s3 hI, gI_s4 hI, gI_s5 hI, gI_n hI, if_pos c1]
    (first | exact ⟨hI, gX_refl⟩ | exact ⟨rfl, hI, gX_refl⟩)
  · rw [if_neg c1]
    simp +contextual (disch := (first | omega | assumption | decide)) only [↓zbrT, ↓zbrF, zw134_0, zw134_1, zw134_2, zw134_3, zw134_4, zw134_5, zr_1, zr_3, zr_4, zr_7, zr_10, zr_12, zr_54, zr_61, zr_68, zr_70, zr_73, zlg_0, zlg_s, zls_0, zls_1, zls_s, zkl_i, zkl_r, zkl_l, zkl_n, zrc_1, zrc_s, zcat_n, zcat_i, zcat_l, zcat_r, zkd_0, zkd_43, zkd_45, zkd_51, zkd_53, zkd_55, zkd_57, zkd_59, zkd_a50, zrf_0_7, Int.cast_ofNat_Int, Int.reduceAdd, false_and, and_false, true_and, and_true, true_or, or_true, false_or, or_false, Option.toList, List.nil_append, List.cons_append, zif0, zif1, zif01, zem1, zem2, Int.reduceEq, Int.reduceLT, Int.reduceLE, Int.reduceNeg, Int.reduceSub, Int.reduceMul, if_true, if_false, not_false_eq_true, not_true_eq_false, true_implies, false_implies, Classical.not_not, Nat.reduceAdd, Nat.reduceLeDiff, zq74, gA_0 hI.1.2.1, gA_1 hI.1.2.1, gA_2 hI.1.2.1, gA_3 hI.1.2.1, gA_4 hI.1.2.1, gA_5 hI.1.2.1, gA_6 hI.1.2.1, gA_7 hI.1.2.1, gA_8 hI.1.2.1, gA_9 hI.1.2.1, gA_r0 hI.1.2.1, gA_r1 hI.1.2.1, gA_r2 hI.1.2.1, gA_r3 hI.1.2.1, gA_f0 hI.1.2.1, gA_f1 hI.1.2.1, gA_f2 hI.1.2.1, gA_f3 hI.1.2.1, gA_f4 hI.1.2.1, gA_d hI.1, gI_s0 hI, gI_s1 hI, gI_s2 hI, gI_s3 hI, gI_s4 hI, gI_s5 hI, gI_n hI, if_neg c1]
    refine gK (gz135 hI (n := 60) (by decide)) rfl rfl (Nat.le_of_ble_eq_true rfl) ?_
    rintro _ m1 ⟨rfl, hI1, hX1, hS1⟩
    have e2 := gSt_2 hS1
    have e60 : (60 : Int).toNat = 60 := rfl
    rw [e60] at e2
    by_cases c : gWn V 60 2 = 0
    · rw [if_pos c]
      simp +contextual (disch := (first | omega | assumption | decide)) only [↓zbrT, ↓zbrF, zw134_0, zw134_1, zw134_2, zw134_3, zw134_4, zw134_5, zr_1, zr_3, zr_4, zr_7, zr_10, zr_12, zr_54, zr_61, zr_68, zr_70, zr_73, zlg_0, zlg_s, zls_0, zls_1, zls_s, zkl_i, zkl_r, zkl_l, zkl_n, zrc_1, zrc_s, zcat_n, zcat_i, zcat_l, zcat_r, zkd_0, zkd_43, zkd_45, zkd_51, zkd_53, zkd_55, zkd_57, zkd_59, zkd_a50, zrf_0_7, Int.cast_ofNat_Int, Int.reduceAdd, false_and, and_false, true_and, and_true, true_or, or_true, false_or, or_false, Option.toList, List.nil_append, List.cons_append, zif0, zif1, zif01, zem1, zem2, Int.reduceEq, Int.reduceLT, Int.reduceLE, Int.reduceNeg, Int.reduceSub, Int.reduceMul, if_true, if_false, not_false_eq_true, not_true_eq_false, true_implies, false_implies, Classical.not_not, Nat.reduceAdd, Nat.reduceLeDiff, e2, c]
      exact ⟨hI1, hX1⟩
    · rw [if_neg c]
      simp +contextual (disch := (first | omega | assumption | decide)) only [↓zbrT, ↓zbrF, zw134_0, zw134_1, zw134_2, zw134_3, zw134_4, zw134_5, zr_1, zr_3, zr_4, zr_7, zr_10, zr_12, zr_54, zr_61, zr_68, zr_70, zr_73, zlg_0, zlg_s, zls_0, zls_1, zls_s, zkl_i, zkl_r, zkl_l, zkl_n, zrc_1, zrc_s, zcat_n, zcat_i, zcat_l, zcat_r, zkd_0, zkd_43, zkd_45, zkd_51, zkd_53, zkd_55, zkd_57, zkd_59, zkd_a50, zrf_0_7, Int.cast_ofNat_Int, Int.reduceAdd, false_and, and_false, true_and, and_true, true_or, or_true, false_or, or_false, Option.toList, List.nil_append, List.cons_append, zif0, zif1, zif01, zem1, zem2, Int.reduceEq, Int.reduceLT, Int.reduceLE, Int.reduceNeg, Int.reduceSub, Int.reduceMul, if_true, if_false, not_false_eq_true, not_true_eq_false, true_implies, false_implies, Classical.not_not, Nat.reduceAdd, Nat.reduceLeDiff, e2, c]
      exact ⟨rfl, hI1, hX1⟩
theorem gz253 {d : Nat} {m : zMm} {n : Int} {V : zMm} (hQ : gQ V m) : zC (d + 14) 253 [.inr (.inr 131), .inl n] m (fun r' m' => r' = some (.inl (sp133 V n)) ∧ gY m m') := by
  refine ze253 ?_
  have hb := hQ.1.1
  have hY0 : gY m (zmu m 131 0 0) := gY_u (by decide)
  have hQ0 := gQ_y hQ hY0
  have h5 : 0 ≤ zmu m 131 0 0 138 5 ∧ zmu m 131 0 0 138 5 ≤ 8 := by rw [gM_5 hQ0.2.2.1]; omega
  have h6 : 0 ≤ zmu m 131 0 0 138 6 ∧ zmu m 131 0 0 138 6 ≤ 6 := by rw [gM_6 hQ0.2.2.1]; omega
  have h0 : 0 ≤ zmu m 131 0 0 138 0 ∧ zmu m 131 0 0 138 0 ≤ 6 := by rw [gM_0 hQ0.2.2.1]; omega
  unfold sp133
  by_cases c1 : V 0 10 = 0
  · rw [if_neg (fun z => z.1 c1)]
    simp +contextual (disch := (first | omega | assumption | decide)) only [↓zbrT, ↓zbrF, zw253_0, zw253_1, zw253_2, zw253_3, zw253_5, zw253_6, zw253_7, zr_1, zr_3, zr_4, zr_7, zr_8, zr_10, zr_13, zr_46, zr_52, zr_53, zr_54, zr_58, zr_61, zr_62, zr_68, zr_69, zr_70, zr_73, zlg_0, zlg_s, zls_0, zls_1, zls_s, zkl_i, zkl_r, zkl_l, zkl_n, zrc_1, zrc_s, zcat_n, zcat_i, zcat_l, zcat_r, zkd_131, Int.cast_ofNat_Int, Int.reduceAdd, zw_id, zmu_same, zmu_c, zmu_i, false_and, and_false, true_and, and_true, true_or, or_true, false_or, or_false, Option.toList, List.nil_append, List.cons_append, zif0, zif1, zif01, zem1, zem2, Int.reduceEq, Int.reduceLT, Int.reduceLE, Int.reduceNeg, Int.reduceSub, Int.reduceMul, if_true, if_false, not_false_eq_true, not_true_eq_false, true_implies, false_implies, Classical.not_not, Nat.reduceAdd, Nat.reduceLeDiff, zq202, gM_0 hQ.2.2.1, gM_1 hQ.2.2.1, gM_2 hQ.2.2.1, gM_3 hQ.2.2.1, gM_4 hQ.2.2.1, gM_5 hQ.2.2.1, gM_6 hQ.2.2.1, gM_7 hQ.2.2.1, gM_8 hQ.2.2.1, gM_9 hQ.2.2.1, gM_10 hQ.2.2.1, gM_r0 hQ.2.2.1, gM_r1 hQ.2.2.1, gM_r2 hQ.2.2.1, gM_r3 hQ.2.2.1, gM_f0 hQ.2.2.1, gM_f1 hQ.2.2.1, gM_f2 hQ.2.2.1, gM_f3 hQ.2.2.1, gM_f4 hQ.2.2.1]
    (first | exact hY0 | exact ⟨rfl, hY0⟩)
  · by_cases c2 : 0 ≤ n ∧ n ≤ 60
    · rw [if_pos ⟨c1, c2⟩]
      simp +contextual (disch := (first | omega | assumption | decide)) only [↓zbrT, ↓zbrF, zw253_0, zw253_1, zw253_2, zw253_3, zw253_5, zw253_6, zw253_7, zr_1, zr_3, zr_4, zr_7, zr_8, zr_10, zr_13, zr_46, zr_52, zr_53, zr_54, zr_58, zr_61, zr_62, zr_68, zr_69, zr_70, zr_73, zlg_0, zlg_s, zls_0, zls_1, zls_s, zkl_i, zkl_r, zkl_l, zkl_n, zrc_1, zrc_s, zcat_n, zcat_i, zcat_l, zcat_r, zkd_131, Int.cast_ofNat_Int, Int.reduceAdd, zw_id, zmu_same, zmu_c, zmu_i, false_and, and_false, true_and, and_true, true_or, or_true, false_or, or_false, Option.toList, List.nil_append, List.cons_append, zif0, zif1, zif01, zem1, zem2, Int.reduceEq, Int.reduceLT, Int.reduceLE, Int.reduceNeg, Int.reduceSub, Int.reduceMul, if_true, if_false, not_false_eq_true, not_true_eq_false, true_implies, false_implies, Classical.not_not, Nat.reduceAdd, Nat.reduceLeDiff, zq202, gM_0 hQ.2.2.1, gM_1 hQ.2.2.1, gM_2 hQ.2.2.1, gM_3 hQ.2.2.1, gM_4 hQ.2.2.1, gM_5 hQ.2.2.1, gM_6 hQ.2.2.1, gM_7 hQ.2.2.1, gM_8 hQ.2.2.1, gM_9 hQ.2.2.1, gM_10 hQ.2.2.1, gM_r0 hQ.2.2.1, gM_r1 hQ.2.2.1, gM_r2 hQ.2.2.1, gM_r3 hQ.2.2.1, gM_f0 hQ.2.2.1, gM_f1 hQ.2.2.1, gM_f2 hQ.2.2.1, gM_f3 hQ.2.2.1, gM_f4 hQ.2.2.1, zq170]
      refine gK (gzL hQ0) rfl rfl (Nat.le_of_ble_eq_true rfl) ?_
      rintro _ m1 ⟨rfl, hL, hY⟩
      have hQ1 := gQ_y hQ0 hY
      have fin : gY m m1 := gY_tr hY0 hY
      simp +contextual (disch := (first | omega | assumption | decide)) only [↓zbrT, ↓zbrF, zw253_0, zw253_1, zw253_2, zw253_3, zw253_5, zw253_6, zw253_7, zr_1, zr_3, zr_4, zr_7, zr_8, zr_10, zr_13, zr_46, zr_52, zr_53, zr_54, zr_58, zr_61, zr_62, zr_68, zr_69, zr_70, zr_73, zlg_0, zlg_s, zls_0, zls_1, zls_s, zkl_i, zkl_r, zkl_l, zkl_n, zrc_1, zrc_s, zcat_n, zcat_i, zcat_l, zcat_r, zkd_131, Int.cast_ofNat_Int, Int.reduceAdd, zw_id, zmu_same, zmu_c, zmu_i, false_and, and_false, true_and, and_true, true_or, or_true, false_or, or_false, Option.toList, List.nil_append, List.cons_append, zif0, zif1, zif01, zem1, zem2, Int.reduceEq, Int.reduceLT, Int.reduceLE, Int.reduceNeg, Int.reduceSub, Int.reduceMul, if_true, if_false, not_false_eq_true, not_true_eq_false, true_implies, false_implies, Classical.not_not, Nat.reduceAdd, Nat.reduceLeDiff]
      refine zfor n (fun k lc m' => 0 ≤ k ∧ lc = [some (.inr (.inr 131)), some (.inl n), some (.inl k)] ∧ gL V (gWn V k.toNat) m' ∧ gY m m') ?_ ?_ (i := 0) c2.1 ?_
      · rintro k lc m' hk ⟨h0', rfl, hL1, hY1⟩ kk
        have ok := gWn_ok hQ.1 hQ.2.1 k.toNat (by omega)
        have hM1 := (gQ_y hQ hY1).2.2.1
        rw [zw253_4]
        by_cases c : gWn V k.toNat 2 = 0
        · simp +contextual (disch := (first | omega | assumption | decide)) only [↓zbrT, ↓zbrF, zw253_0, zw253_1, zw253_2, zw253_3, zw253_5, zw253_6, zw253_7, zr_1, zr_3, zr_4, zr_7, zr_8, zr_10, zr_13, zr_46, zr_52, zr_53, zr_54, zr_58, zr_61, zr_62, zr_68, zr_69, zr_70, zr_73, zlg_0, zlg_s, zls_0, zls_1, zls_s, zkl_i, zkl_r, zkl_l, zkl_n, zrc_1, zrc_s, zcat_n, zcat_i, zcat_l, zcat_r, zkd_131, Int.cast_ofNat_Int, Int.reduceAdd, zw_id, zmu_same, zmu_c, zmu_i, false_and, and_false, true_and, and_true, true_or, or_true, false_or, or_false, Option.toList, List.nil_append, List.cons_append, zif0, zif1, zif01, zem1, zem2, Int.reduceEq, Int.reduceLT, Int.reduceLE, Int.reduceNeg, Int.reduceSub, Int.reduceMul, if_true, if_false, not_false_eq_true, not_true_eq_false, true_implies, false_implies, Classical.not_not, Nat.reduceAdd, Nat.reduceLeDiff, gL_2 hL1, c]
          refine gK (gz221 hQ.1 hM1 hL1.2 hL1.1 ok.1 (Or.inl rfl) (by omega)) rfl rfl (Nat.le_of_ble_eq_true rfl) ?_
          rintro _ m2 ⟨rfl, hS2, hF2, hE2⟩
          simp +contextual (disch := (first | omega | assumption | decide)) only [↓zbrT, ↓zbrF, zw253_0, zw253_1, zw253_2, zw253_3, zw253_5, zw253_6, zw253_7, zr_1, zr_3, zr_4, zr_7, zr_8, zr_10, zr_13, zr_46, zr_52, zr_53, zr_54, zr_58, zr_61, zr_62, zr_68, zr_69, zr_70, zr_73, zlg_0, zlg_s, zls_0, zls_1, zls_s, zkl_i, zkl_r, zkl_l, zkl_n, zrc_1, zrc_s, zcat_n, zcat_i, zcat_l, zcat_r, zkd_131, Int.cast_ofNat_Int, Int.reduceAdd, zw_id, zmu_same, zmu_c, zmu_i, false_and, and_false, true_and, and_true, true_or, or_true, false_or, or_false, Option.toList, List.nil_append, List.cons_append, zif0, zif1, zif01, zem1, zem2, Int.reduceEq, Int.reduceLT, Int.reduceLE, Int.reduceNeg, Int.reduceSub, Int.reduceMul, if_true, if_false, not_false_eq_true, not_true_eq_false, true_implies, false_implies, Classical.not_not, Nat.reduceAdd, Nat.reduceLeDiff]
          refine kk _ _ ⟨by omega, rfl, ⟨?_, hF2⟩, gY_tr hY1 (gY_n hE2)⟩
          rw [show (k + 1).toNat = k.toNat + 1 by omega]
          show gMs V (if gWn V k.toNat 2 = 0 then _ else _) m2
          rw [if_pos c]; exact hS2
        · simp +contextual (disch := (first | omega | assumption | decide)) only [↓zbrT, ↓zbrF, zw253_0, zw253_1, zw253_2, zw253_3, zw253_5, zw253_6, zw253_7, zr_1, zr_3, zr_4, zr_7, zr_8, zr_10, zr_13, zr_46, zr_52, zr_53, zr_54, zr_58, zr_61, zr_62, zr_68, zr_69, zr_70, zr_73, zlg_0, zlg_s, zls_0, zls_1, zls_s, zkl_i, zkl_r, zkl_l, zkl_n, zrc_1, zrc_s, zcat_n, zcat_i, zcat_l, zcat_r, zkd_131, Int.cast_ofNat_Int, Int.reduceAdd, zw_id, zmu_same, zmu_c, zmu_i, false_and, and_false, true_and, and_true, true_or, or_true, false_or, or_false, Option.toList, List.nil_append, List.cons_append, zif0, zif1, zif01, zem1, zem2, Int.reduceEq, Int.reduceLT, Int.reduceLE, Int.reduceNeg, Int.reduceSub, Int.reduceMul, if_true, if_false, not_false_eq_true, not_true_eq_false, true_implies, false_implies, Classical.not_not, Nat.reduceAdd, Nat.reduceLeDiff, gL_2 hL1, c, gL_1 hL1]
          have st := gWn_stay (V := V) (k := k.toNat) c (n - k).toNat
          rw [show k.toNat + (n - k).toNat = n.toNat by omega] at st
          rw [st.1]
          exact ⟨rfl, hY1⟩
      · rintro lc m' ⟨h0', rfl, hL1, hY1⟩
        rw [zw253_4]
        simp +contextual (disch := (first | omega | assumption | decide)) only [↓zbrT, ↓zbrF, zw253_0, zw253_1, zw253_2, zw253_3, zw253_5, zw253_6, zw253_7, zr_1, zr_3, zr_4, zr_7, zr_8, zr_10, zr_13, zr_46, zr_52, zr_53, zr_54, zr_58, zr_61, zr_62, zr_68, zr_69, zr_70, zr_73, zlg_0, zlg_s, zls_0, zls_1, zls_s, zkl_i, zkl_r, zkl_l, zkl_n, zrc_1, zrc_s, zcat_n, zcat_i, zcat_l, zcat_r, zkd_131, Int.cast_ofNat_Int, Int.reduceAdd, zw_id, zmu_same, zmu_c, zmu_i, false_and, and_false, true_and, and_true, true_or, or_true, false_or, or_false, Option.toList, List.nil_append, List.cons_append, zif0, zif1, zif01, zem1, zem2, Int.reduceEq, Int.reduceLT, Int.reduceLE, Int.reduceNeg, Int.reduceSub, Int.reduceMul, if_true, if_false, not_false_eq_true, not_true_eq_false, true_implies, false_implies, Classical.not_not, Nat.reduceAdd, Nat.reduceLeDiff, gL_1 hL1]
        exact hY1
      · exact ⟨by decide, rfl, hL, fin⟩
    · rw [if_neg (fun z => c2 z.2)]
      simp +contextual (disch := (first | omega | assumption | decide)) only [↓zbrT, ↓zbrF, zw253_0, zw253_1, zw253_2, zw253_3, zw253_5, zw253_6, zw253_7, zr_1, zr_3, zr_4, zr_7, zr_8, zr_10, zr_13, zr_46, zr_52, zr_53, zr_54, zr_58, zr_61, zr_62, zr_68, zr_69, zr_70, zr_73, zlg_0, zlg_s, zls_0, zls_1, zls_s, zkl_i, zkl_r, zkl_l, zkl_n, zrc_1, zrc_s, zcat_n, zcat_i, zcat_l, zcat_r, zkd_131, Int.cast_ofNat_Int, Int.reduceAdd, zw_id, zmu_same, zmu_c, zmu_i, false_and, and_false, true_and, and_true, true_or, or_true, false_or, or_false, Option.toList, List.nil_append, List.cons_append, zif0, zif1, zif01, zem1, zem2, Int.reduceEq, Int.reduceLT, Int.reduceLE, Int.reduceNeg, Int.reduceSub, Int.reduceMul, if_true, if_false, not_false_eq_true, not_true_eq_false, true_implies, false_implies, Classical.not_not, Nat.reduceAdd, Nat.reduceLeDiff, zq202, gM_0 hQ.2.2.1, gM_1 hQ.2.2.1, gM_2 hQ.2.2.1, gM_3 hQ.2.2.1, gM_4 hQ.2.2.1, gM_5 hQ.2.2.1, gM_6 hQ.2.2.1, gM_7 hQ.2.2.1, gM_8 hQ.2.2.1, gM_9 hQ.2.2.1, gM_10 hQ.2.2.1, gM_r0 hQ.2.2.1, gM_r1 hQ.2.2.1, gM_r2 hQ.2.2.1, gM_r3 hQ.2.2.1, gM_f0 hQ.2.2.1, gM_f1 hQ.2.2.1, gM_f2 hQ.2.2.1, gM_f3 hQ.2.2.1, gM_f4 hQ.2.2.1, zq170]
      (first | exact hY0 | exact ⟨rfl, hY0⟩)
theorem gz275 {d : Nat} {m : zMm} {V : zMm} (hQ : gQ V m) : zC (d + 14) 275 [.inr (.inr 131)] m (fun r' m' => r' = some (.inl (sp134 V)) ∧ gY m m') := by
  refine ze275 ?_
  have hb := hQ.1.1
  have hY0 : gY m (zmu m 131 0 0) := gY_u (by decide)
  have hQ0 := gQ_y hQ hY0
  have h5 : 0 ≤ zmu m 131 0 0 138 5 ∧ zmu m 131 0 0 138 5 ≤ 8 := by rw [gM_5 hQ0.2.2.1]; omega
  have h6 : 0 ≤ zmu m 131 0 0 138 6 ∧ zmu m 131 0 0 138 6 ≤ 6 := by rw [gM_6 hQ0.2.2.1]; omega
  have h0 : 0 ≤ zmu m 131 0 0 138 0 ∧ zmu m 131 0 0 138 0 ≤ 6 := by rw [gM_0 hQ0.2.2.1]; omega
  unfold sp134
  by_cases c1 : V 0 10 = 0
  · rw [if_pos c1]
    simp +contextual (disch := (first | omega | assumption | decide)) only [↓zbrT, ↓zbrF, zw275_0, zw275_1, zw275_2, zw275_4, zw275_5, zw275_6, zw275_7, zr_1, zr_3, zr_4, zr_7, zr_10, zr_13, zr_52, zr_53, zr_54, zr_59, zr_61, zr_62, zr_68, zr_70, zr_73, zlg_0, zlg_s, zls_0, zls_1, zls_s, zkl_i, zkl_r, zkl_l, zkl_n, zrc_1, zrc_s, zcat_n, zcat_i, zcat_l, zcat_r, zkd_131, Int.cast_ofNat_Int, Int.reduceAdd, zw_id, zmu_same, zmu_c, zmu_i, false_and, and_false, true_and, and_true, true_or, or_true, false_or, or_false, Option.toList, List.nil_append, List.cons_append, zif0, zif1, zif01, zem1, zem2, Int.reduceEq, Int.reduceLT, Int.reduceLE, Int.reduceNeg, Int.reduceSub, Int.reduceMul, if_true, if_false, not_false_eq_true, not_true_eq_false, true_implies, false_implies, Classical.not_not, Nat.reduceAdd, Nat.reduceLeDiff, zq202, gM_0 hQ.2.2.1, gM_1 hQ.2.2.1, gM_2 hQ.2.2.1, gM_3 hQ.2.2.1, gM_4 hQ.2.2.1, gM_5 hQ.2.2.1, gM_6 hQ.2.2.1, gM_7 hQ.2.2.1, gM_8 hQ.2.2.1, gM_9 hQ.2.2.1, gM_10 hQ.2.2.1, gM_r0 hQ.2.2.1, gM_r1 hQ.2.2.1, gM_r2 hQ.2.2.1, gM_r3 hQ.2.2.1, gM_f0 hQ.2.2.1, gM_f1 hQ.2.2.1, gM_f2 hQ.2.2.1, gM_f3 hQ.2.2.1, gM_f4 hQ.2.2.1]
    (first | exact hY0 | exact ⟨rfl, hY0⟩)
  · rw [if_neg c1]
    simp +contextual (disch := (first | omega | assumption | decide)) only [↓zbrT, ↓zbrF, zw275_0, zw275_1, zw275_2, zw275_4, zw275_5, zw275_6, zw275_7, zr_1, zr_3, zr_4, zr_7, zr_10, zr_13, zr_52, zr_53, zr_54, zr_59, zr_61, zr_62, zr_68, zr_70, zr_73, zlg_0, zlg_s, zls_0, zls_1, zls_s, zkl_i, zkl_r, zkl_l, zkl_n, zrc_1, zrc_s, zcat_n, zcat_i, zcat_l, zcat_r, zkd_131, Int.cast_ofNat_Int, Int.reduceAdd, zw_id, zmu_same, zmu_c, zmu_i, false_and, and_false, true_and, and_true, true_or, or_true, false_or, or_false, Option.toList, List.nil_append, List.cons_append, zif0, zif1, zif01, zem1, zem2, Int.reduceEq, Int.reduceLT, Int.reduceLE, Int.reduceNeg, Int.reduceSub, Int.reduceMul, if_true, if_false, not_false_eq_true, not_true_eq_false, true_implies, false_implies, Classical.not_not, Nat.reduceAdd, Nat.reduceLeDiff, zq202, gM_0 hQ.2.2.1, gM_1 hQ.2.2.1, gM_2 hQ.2.2.1, gM_3 hQ.2.2.1, gM_4 hQ.2.2.1, gM_5 hQ.2.2.1, gM_6 hQ.2.2.1, gM_7 hQ.2.2.1, gM_8 hQ.2.2.1, gM_9 hQ.2.2.1, gM_10 hQ.2.2.1, gM_r0 hQ.2.2.1, gM_r1 hQ.2.2.1, gM_r2 hQ.2.2.1, gM_r3 hQ.2.2.1, gM_f0 hQ.2.2.1, gM_f1 hQ.2.2.1, gM_f2 hQ.2.2.1, gM_f3 hQ.2.2.1, gM_f4 hQ.2.2.1]
    refine gK (gzL hQ0) rfl rfl (Nat.le_of_ble_eq_true rfl) ?_
    rintro _ m1 ⟨rfl, hL, hY⟩
    have hQ1 := gQ_y hQ0 hY
    have fin : gY m m1 := gY_tr hY0 hY
    simp +contextual (disch := (first | omega | assumption | decide)) only [↓zbrT, ↓zbrF, zw275_0, zw275_1, zw275_2, zw275_4, zw275_5, zw275_6, zw275_7, zr_1, zr_3, zr_4, zr_7, zr_10, zr_13, zr_52, zr_53, zr_54, zr_59, zr_61, zr_62, zr_68, zr_70, zr_73, zlg_0, zlg_s, zls_0, zls_1, zls_s, zkl_i, zkl_r, zkl_l, zkl_n, zrc_1, zrc_s, zcat_n, zcat_i, zcat_l, zcat_r, zkd_131, Int.cast_ofNat_Int, Int.reduceAdd, zw_id, zmu_same, zmu_c, zmu_i, false_and, and_false, true_and, and_true, true_or, or_true, false_or, or_false, Option.toList, List.nil_append, List.cons_append, zif0, zif1, zif01, zem1, zem2, Int.reduceEq, Int.reduceLT, Int.reduceLE, Int.reduceNeg, Int.reduceSub, Int.reduceMul, if_true, if_false, not_false_eq_true, not_true_eq_false, true_implies, false_implies, Classical.not_not, Nat.reduceAdd, Nat.reduceLeDiff]
    refine zfor 61 (fun k lc m' => 0 ≤ k ∧ lc = [some (.inr (.inr 131)), some (.inl k)] ∧ gL V (gWn V k.toNat) m' ∧ gY m m' ∧ gWp V k.toNat = k ∧ (0 < k → gWn V (k - 1).toNat 2 = 0)) ?_ ?_ (i := 0) (by decide) ?_
    · rintro k lc m' hk ⟨h0', rfl, hL1, hY1, hp, hz⟩ kk
      have ok := gWn_ok hQ.1 hQ.2.1 k.toNat (by omega)
      have hM1 := (gQ_y hQ hY1).2.2.1
      rw [zw275_3]
      by_cases c : gWn V k.toNat 2 = 0
      · simp +contextual (disch := (first | omega | assumption | decide)) only [↓zbrT, ↓zbrF, zw275_0, zw275_1, zw275_2, zw275_4, zw275_5, zw275_6, zw275_7, zr_1, zr_3, zr_4, zr_7, zr_10, zr_13, zr_52, zr_53, zr_54, zr_59, zr_61, zr_62, zr_68, zr_70, zr_73, zlg_0, zlg_s, zls_0, zls_1, zls_s, zkl_i, zkl_r, zkl_l, zkl_n, zrc_1, zrc_s, zcat_n, zcat_i, zcat_l, zcat_r, zkd_131, Int.cast_ofNat_Int, Int.reduceAdd, zw_id, zmu_same, zmu_c, zmu_i, false_and, and_false, true_and, and_true, true_or, or_true, false_or, or_false, Option.toList, List.nil_append, List.cons_append, zif0, zif1, zif01, zem1, zem2, Int.reduceEq, Int.reduceLT, Int.reduceLE, Int.reduceNeg, Int.reduceSub, Int.reduceMul, if_true, if_false, not_false_eq_true, not_true_eq_false, true_implies, false_implies, Classical.not_not, Nat.reduceAdd, Nat.reduceLeDiff, gL_2 hL1, c]
        refine gK (gz221 hQ.1 hM1 hL1.2 hL1.1 ok.1 (Or.inl rfl) (by omega)) rfl rfl (Nat.le_of_ble_eq_true rfl) ?_
        rintro _ m2 ⟨rfl, hS2, hF2, hE2⟩
        simp +contextual (disch := (first | omega | assumption | decide)) only [↓zbrT, ↓zbrF, zw275_0, zw275_1, zw275_2, zw275_4, zw275_5, zw275_6, zw275_7, zr_1, zr_3, zr_4, zr_7, zr_10, zr_13, zr_52, zr_53, zr_54, zr_59, zr_61, zr_62, zr_68, zr_70, zr_73, zlg_0, zlg_s, zls_0, zls_1, zls_s, zkl_i, zkl_r, zkl_l, zkl_n, zrc_1, zrc_s, zcat_n, zcat_i, zcat_l, zcat_r, zkd_131, Int.cast_ofNat_Int, Int.reduceAdd, zw_id, zmu_same, zmu_c, zmu_i, false_and, and_false, true_and, and_true, true_or, or_true, false_or, or_false, Option.toList, List.nil_append, List.cons_append, zif0, zif1, zif01, zem1, zem2, Int.reduceEq, Int.reduceLT, Int.reduceLE, Int.reduceNeg, Int.reduceSub, Int.reduceMul, if_true, if_false, not_false_eq_true, not_true_eq_false, true_implies, false_implies, Classical.not_not, Nat.reduceAdd, Nat.reduceLeDiff]
        refine kk _ _ ⟨by omega, rfl, ⟨?_, hF2⟩, gY_tr hY1 (gY_n hE2), ?_, fun _ => by rw [show k + 1 - 1 = k by omega]; exact c⟩
        · rw [show (k + 1).toNat = k.toNat + 1 by omega]
          show gMs V (if gWn V k.toNat 2 = 0 then _ else _) m2
          rw [if_pos c]; exact hS2
        · rw [show (k + 1).toNat = k.toNat + 1 by omega]
          show (if gWn V k.toNat 2 = 0 then gWp V k.toNat + 1 else _) = _
          rw [if_pos c, hp]
      · simp +contextual (disch := (first | omega | assumption | decide)) only [↓zbrT, ↓zbrF, zw275_0, zw275_1, zw275_2, zw275_4, zw275_5, zw275_6, zw275_7, zr_1, zr_3, zr_4, zr_7, zr_10, zr_13, zr_52, zr_53, zr_54, zr_59, zr_61, zr_62, zr_68, zr_70, zr_73, zlg_0, zlg_s, zls_0, zls_1, zls_s, zkl_i, zkl_r, zkl_l, zkl_n, zrc_1, zrc_s, zcat_n, zcat_i, zcat_l, zcat_r, zkd_131, Int.cast_ofNat_Int, Int.reduceAdd, zw_id, zmu_same, zmu_c, zmu_i, false_and, and_false, true_and, and_true, true_or, or_true, false_or, or_false, Option.toList, List.nil_append, List.cons_append, zif0, zif1, zif01, zem1, zem2, Int.reduceEq, Int.reduceLT, Int.reduceLE, Int.reduceNeg, Int.reduceSub, Int.reduceMul, if_true, if_false, not_false_eq_true, not_true_eq_false, true_implies, false_implies, Classical.not_not, Nat.reduceAdd, Nat.reduceLeDiff, gL_2 hL1, c]
        have st := gWn_stay (V := V) (k := k.toNat) c (60 - k).toNat
        rw [show k.toNat + (60 - k).toNat = 60 by omega] at st
        rw [st.1, st.2, if_neg c, hp]
        exact ⟨rfl, hY1⟩
    · rintro lc m' ⟨h0', rfl, hL1, hY1, hp, hz⟩
      have z := hz (by decide)
      rw [show ((61 : Int) - 1).toNat = 60 from rfl] at z
      rw [if_pos z]
      rw [zw275_3]
      simp +contextual (disch := (first | omega | assumption | decide)) only [↓zbrT, ↓zbrF, zw275_0, zw275_1, zw275_2, zw275_4, zw275_5, zw275_6, zw275_7, zr_1, zr_3, zr_4, zr_7, zr_10, zr_13, zr_52, zr_53, zr_54, zr_59, zr_61, zr_62, zr_68, zr_70, zr_73, zlg_0, zlg_s, zls_0, zls_1, zls_s, zkl_i, zkl_r, zkl_l, zkl_n, zrc_1, zrc_s, zcat_n, zcat_i, zcat_l, zcat_r, zkd_131, Int.cast_ofNat_Int, Int.reduceAdd, zw_id, zmu_same, zmu_c, zmu_i, false_and, and_false, true_and, and_true, true_or, or_true, false_or, or_false, Option.toList, List.nil_append, List.cons_append, zif0, zif1, zif01, zem1, zem2, Int.reduceEq, Int.reduceLT, Int.reduceLE, Int.reduceNeg, Int.reduceSub, Int.reduceMul, if_true, if_false, not_false_eq_true, not_true_eq_false, true_implies, false_implies, Classical.not_not, Nat.reduceAdd, Nat.reduceLeDiff]
      exact hY1
    · exact ⟨by decide, rfl, hL, fin, rfl, fun h => by omega⟩
/-! ===== nights drawn ===== -/
def gDx (x : Int) : Int := (1103515245 * x + 12345) % 2147483648
def gDg (V : zMm) (x : Int) : Int := gDx x / 65536 % (V 0 5 + 1)
def gDr (V : zMm) (seed : Int) : Nat → Int × Int × (Int → Int)
  | 0 => (seed, 0, gSn V)
  | k + 1 => if (gDr V seed k).2.2 2 = 0 then (gDx (gDr V seed k).1, (gDr V seed k).2.1 + gMb V (gDr V seed k).2.2 (gDg V (gDr V seed k).1), gNi V (gDr V seed k).2.2 (if gMb V (gDr V seed k).2.2 (gDg V (gDr V seed k).1) = 1 then gDg V (gDr V seed k).1 else -1)) else gDr V seed k
theorem gMb_lg {V : zMm} {S : Int → Int} {g : Int} : gLg S (if gMb V S g = 1 then g else -1) := by
  by_cases c : gMb V S g = 1
  · rw [if_pos c]
    unfold gMb at c
    by_cases z : S 2 = 0 ∧ (0 ≤ g ∧ g < 8 ∧ zbit (S 4) g = 1) ∧ V 0 8 < min (gD V (S 3) (vA V g)) (gD V (S 3) (vB V g))
    · exact Or.inr z.2.1
    · rw [if_neg z] at c; omega
  · rw [if_neg c]; exact Or.inl rfl
theorem gDr_ok {V : zMm} (hV : gOk V) (hA : gAc V) {seed : Int} (hs : 0 ≤ seed ∧ seed ≤ 2000000100) : ∀ k : Nat, k ≤ 100 → gSok V (gDr V seed k).2.2 ∧ (gDr V seed k).2.2 0 ≤ 40 + k ∧ (0 ≤ (gDr V seed k).1 ∧ (gDr V seed k).1 < 2147483648) ∧ (0 ≤ (gDr V seed k).2.1 ∧ (gDr V seed k).2.1 ≤ k)
  | 0, _ => by
    have hb := hV.1
    have q := gSn_0 hV hA
    exact ⟨q.1, by show gSn V 0 ≤ 40 + ((0 : Nat) : Int); omega, by show 0 ≤ seed ∧ seed < 2147483648; omega, by show (0 : Int) ≤ 0 ∧ (0 : Int) ≤ ((0 : Nat) : Int); omega⟩
  | k + 1, h => by
    have i := gDr_ok hV hA hs k (by omega)
    by_cases c : (gDr V seed k).2.2 2 = 0
    · have e : gDr V seed (k + 1) = (gDx (gDr V seed k).1, (gDr V seed k).2.1 + gMb V (gDr V seed k).2.2 (gDg V (gDr V seed k).1), gNi V (gDr V seed k).2.2 (if gMb V (gDr V seed k).2.2 (gDg V (gDr V seed k).1) = 1 then gDg V (gDr V seed k).1 else -1)) := by
        show (if (gDr V seed k).2.2 2 = 0 then _ else _) = _
        rw [if_pos c]
      have m := gMb_01 V (gDr V seed k).2.2 (gDg V (gDr V seed k).1)
      rw [e]
      refine ⟨gSok_ni hV i.1 gMb_lg (by omega), ?_, ?_, ?_⟩
      · show gNi V _ _ 0 ≤ _
        rw [gNi_0]; omega
      · show 0 ≤ gDx (gDr V seed k).1 ∧ gDx (gDr V seed k).1 < 2147483648
        unfold gDx; omega
      · show 0 ≤ (gDr V seed k).2.1 + gMb V (gDr V seed k).2.2 (gDg V (gDr V seed k).1) ∧ (gDr V seed k).2.1 + gMb V (gDr V seed k).2.2 (gDg V (gDr V seed k).1) ≤ ((k + 1 : Nat) : Int)
        omega
    · have e : gDr V seed (k + 1) = gDr V seed k := by show (if (gDr V seed k).2.2 2 = 0 then _ else _) = _; rw [if_neg c]
      rw [e]
      exact ⟨i.1, by omega, i.2.2.1, by omega⟩
theorem gDr_stay {V : zMm} {seed : Int} {k : Nat} (h : ¬ (gDr V seed k).2.2 2 = 0) : ∀ j : Nat, gDr V seed (k + j) = gDr V seed k
  | 0 => rfl
  | j + 1 => by
    have i := gDr_stay h j
    have c : ¬ (gDr V seed (k + j)).2.2 2 = 0 := by rw [i]; exact h
    show (if (gDr V seed (k + j)).2.2 2 = 0 then _ else _) = _
    rw [if_neg c]; exact i
theorem gDr_s {V : zMm} {seed k : Int} (h0 : 0 ≤ k) (c : (gDr V seed k.toNat).2.2 2 = 0) : gDr V seed (k + 1).toNat = (gDx (gDr V seed k.toNat).1, (gDr V seed k.toNat).2.1 + gMb V (gDr V seed k.toNat).2.2 (gDg V (gDr V seed k.toNat).1), gNi V (gDr V seed k.toNat).2.2 (if gMb V (gDr V seed k.toNat).2.2 (gDg V (gDr V seed k.toNat).1) = 1 then gDg V (gDr V seed k.toNat).1 else -1)) := by
  rw [show (k + 1).toNat = k.toNat + 1 by omega]
  show (if (gDr V seed k.toNat).2.2 2 = 0 then _ else _) = _
  rw [if_pos c]
theorem gz162 {d : Nat} {m : zMm} {x : Int} {n : Int} {V : zMm} (hI : gI V m) (hx : 0 ≤ x ∧ x ≤ 2000000100) (hn : 0 ≤ n ∧ n ≤ 30) : zC (d + 6) 162 [.inr (.inr 0), .inr (.inl x), .inl n] m (fun r' m' => r' = some (.inl (gDr V x n.toNat).2.1) ∧ gI V m' ∧ gX m m' ∧ gSt (gDr V x n.toNat).2.2 45 m') := by
  refine ze162 ?_
  have hk := (gI_k hI).1
  have hb := gA_b hI.1
  simp +contextual (disch := (first | omega | assumption | decide)) only [↓zbrT, ↓zbrF, zw162_0, zw162_2, zw162_3, zw162_4, zw162_5, zw162_6, zw162_7, zw162_8, zw162_9, zw162_10, zr_1, zr_2, zr_3, zr_4, zr_5, zr_7, zr_8, zr_10, zr_12, zr_26, zr_37, zr_39, zr_40, zr_41, zr_46, zr_47, zr_52, zr_53, zr_54, zr_58, zr_61, zr_62, zr_68, zr_70, zr_73, zlg_0, zlg_s, zls_0, zls_1, zls_s, zkl_i, zkl_r, zkl_l, zkl_n, zlL_0, zlL_1, zlL_s, zrc_1, zrc_s, zcat_n, zcat_i, zcat_l, zcat_r, zkd_0, zkd_105, zkd_20, zkd_21, zkd_3, zkd_43, zkd_45, zkd_51, zkd_53, zkd_55, zkd_57, zkd_59, zkd_67, zkd_86, zkd_a50, zrf_0_2, zrf_0_3, zrf_0_6, zrf_0_7, Int.cast_ofNat_Int, Int.reduceAdd, zw_id, zwl_id, zldiv_pos, zlrem_pos, false_and, and_false, true_and, and_true, true_or, or_true, false_or, or_false, Option.toList, List.nil_append, List.cons_append, zif0, zif1, zif01, zem1, zem2, Int.reduceEq, Int.reduceLT, Int.reduceLE, Int.reduceNeg, Int.reduceSub, Int.reduceMul, if_true, if_false, not_false_eq_true, not_true_eq_false, true_implies, false_implies, Classical.not_not, Nat.reduceAdd, Nat.reduceLeDiff]
  refine gK (gz42 gStc_45 gStc_43 hI.2.2.2.1 (by decide) hk.2.2.1) rfl rfl (Nat.le_of_ble_eq_true rfl) ?_
  rintro _ m1 ⟨rfl, hS1, hE1⟩
  have hA1 := gA_eq gStc_45 hI.1 hE1
  simp +contextual (disch := (first | omega | assumption | decide)) only [↓zbrT, ↓zbrF, zw162_0, zw162_2, zw162_3, zw162_4, zw162_5, zw162_6, zw162_7, zw162_8, zw162_9, zw162_10, zr_1, zr_2, zr_3, zr_4, zr_5, zr_7, zr_8, zr_10, zr_12, zr_26, zr_37, zr_39, zr_40, zr_41, zr_46, zr_47, zr_52, zr_53, zr_54, zr_58, zr_61, zr_62, zr_68, zr_70, zr_73, zlg_0, zlg_s, zls_0, zls_1, zls_s, zkl_i, zkl_r, zkl_l, zkl_n, zlL_0, zlL_1, zlL_s, zrc_1, zrc_s, zcat_n, zcat_i, zcat_l, zcat_r, zkd_0, zkd_105, zkd_20, zkd_21, zkd_3, zkd_43, zkd_45, zkd_51, zkd_53, zkd_55, zkd_57, zkd_59, zkd_67, zkd_86, zkd_a50, zrf_0_2, zrf_0_3, zrf_0_6, zrf_0_7, Int.cast_ofNat_Int, Int.reduceAdd, zw_id, zwl_id, zldiv_pos, zlrem_pos, false_and, and_false, true_and, and_true, true_or, or_true, false_or, or_false, Option.toList, List.nil_append, List.cons_append, zif0, zif1, zif01, zem1, zem2, Int.reduceEq, Int.reduceLT, Int.reduceLE, Int.reduceNeg, Int.reduceSub, Int.reduceMul, if_true, if_false, not_false_eq_true, not_true_eq_false, true_implies, false_implies, Classical.not_not, Nat.reduceAdd, Nat.reduceLeDiff]
  refine zfor n (fun k lc m' => 0 ≤ k ∧ (∃ x8 x9, lc = [some (.inr (.inr 0)), some (.inr (.inl x)), none, some (.inl n), some (.inr (.inl (gDr V x k.toNat).1)), none, some (.inl (gDr V x k.toNat).2.1), some (.inl k), x8, x9]) ∧ gA V m' ∧ gE2 45 m m' ∧ gSt (gDr V x k.toNat).2.2 45 m') ?_ ?_ (i := 0) hn.1 ?_
  · rintro k lc m' hk' ⟨h0, ⟨x8, x9, rfl⟩, hA, hE, hS⟩ kk
    have ok := gDr_ok hI.1.1 hI.2.1 hx k.toNat (by omega)
    have e2 := gSt_2 hS
    rw [zw162_1]
    by_cases c : (gDr V x k.toNat).2.2 2 = 0
    · have es := gDr_s h0 c
      have lg := gMb_lg (V := V) (S := (gDr V x k.toNat).2.2) (g := gDg V (gDr V x k.toNat).1)
      have m01 := gMb_01 V (gDr V x k.toNat).2.2 (gDg V (gDr V x k.toNat).1)
      generalize gDr V x k.toNat = D at ok e2 c es hS m01 lg ⊢
      have ex : (1103515245 * D.1 + 12345) % 2147483648 = gDx D.1 := rfl
      have bx : 0 ≤ gDx D.1 ∧ gDx D.1 < 2147483648 := by unfold gDx; omega
      have eg : gDx D.1 / 65536 % (V 0 5 + 1) = gDg V D.1 := rfl
      have bg : 0 ≤ gDg V D.1 ∧ gDg V D.1 < V 0 5 + 1 := ⟨Int.emod_nonneg _ (by omega), Int.emod_lt_of_pos _ (by omega)⟩
      have nz : ¬ V 0 5 + 1 = 0 := by omega
      rcases m01 with z | z
      · rw [if_neg (by omega)] at lg es
        simp +contextual (disch := (first | omega | assumption | decide)) only [↓zbrT, ↓zbrF, zw162_0, zw162_2, zw162_3, zw162_4, zw162_5, zw162_6, zw162_7, zw162_8, zw162_9, zw162_10, zr_1, zr_2, zr_3, zr_4, zr_5, zr_7, zr_8, zr_10, zr_12, zr_26, zr_37, zr_39, zr_40, zr_41, zr_46, zr_47, zr_52, zr_53, zr_54, zr_58, zr_61, zr_62, zr_68, zr_70, zr_73, zlg_0, zlg_s, zls_0, zls_1, zls_s, zkl_i, zkl_r, zkl_l, zkl_n, zlL_0, zlL_1, zlL_s, zrc_1, zrc_s, zcat_n, zcat_i, zcat_l, zcat_r, zkd_0, zkd_105, zkd_20, zkd_21, zkd_3, zkd_43, zkd_45, zkd_51, zkd_53, zkd_55, zkd_57, zkd_59, zkd_67, zkd_86, zkd_a50, zrf_0_2, zrf_0_3, zrf_0_6, zrf_0_7, Int.cast_ofNat_Int, Int.reduceAdd, zw_id, zwl_id, zldiv_pos, zlrem_pos, false_and, and_false, true_and, and_true, true_or, or_true, false_or, or_false, Option.toList, List.nil_append, List.cons_append, zif0, zif1, zif01, zem1, zem2, Int.reduceEq, Int.reduceLT, Int.reduceLE, Int.reduceNeg, Int.reduceSub, Int.reduceMul, if_true, if_false, not_false_eq_true, not_true_eq_false, true_implies, false_implies, Classical.not_not, Nat.reduceAdd, Nat.reduceLeDiff, e2, c, ex, gA_0 hA.2.1, gA_1 hA.2.1, gA_2 hA.2.1, gA_3 hA.2.1, gA_4 hA.2.1, gA_5 hA.2.1, gA_6 hA.2.1, gA_7 hA.2.1, gA_8 hA.2.1, gA_9 hA.2.1, gA_r0 hA.2.1, gA_r1 hA.2.1, gA_r2 hA.2.1, gA_r3 hA.2.1, gA_f0 hA.2.1, gA_f1 hA.2.1, gA_f2 hA.2.1, gA_f3 hA.2.1, gA_f4 hA.2.1, gA_d hA, eg, nz, zq44 hA gStc_45 hS ok.1, z]
        refine gK (gz46 hA gStc_45 hS ok.1 lg (by omega)) rfl rfl (Nat.le_of_ble_eq_true rfl) ?_
        rintro _ m2 ⟨rfl, hA2, hS2, hE2⟩
        simp +contextual (disch := (first | omega | assumption | decide)) only [↓zbrT, ↓zbrF, zw162_0, zw162_2, zw162_3, zw162_4, zw162_5, zw162_6, zw162_7, zw162_8, zw162_9, zw162_10, zr_1, zr_2, zr_3, zr_4, zr_5, zr_7, zr_8, zr_10, zr_12, zr_26, zr_37, zr_39, zr_40, zr_41, zr_46, zr_47, zr_52, zr_53, zr_54, zr_58, zr_61, zr_62, zr_68, zr_70, zr_73, zlg_0, zlg_s, zls_0, zls_1, zls_s, zkl_i, zkl_r, zkl_l, zkl_n, zlL_0, zlL_1, zlL_s, zrc_1, zrc_s, zcat_n, zcat_i, zcat_l, zcat_r, zkd_0, zkd_105, zkd_20, zkd_21, zkd_3, zkd_43, zkd_45, zkd_51, zkd_53, zkd_55, zkd_57, zkd_59, zkd_67, zkd_86, zkd_a50, zrf_0_2, zrf_0_3, zrf_0_6, zrf_0_7, Int.cast_ofNat_Int, Int.reduceAdd, zw_id, zwl_id, zldiv_pos, zlrem_pos, false_and, and_false, true_and, and_true, true_or, or_true, false_or, or_false, Option.toList, List.nil_append, List.cons_append, zif0, zif1, zif01, zem1, zem2, Int.reduceEq, Int.reduceLT, Int.reduceLE, Int.reduceNeg, Int.reduceSub, Int.reduceMul, if_true, if_false, not_false_eq_true, not_true_eq_false, true_implies, false_implies, Classical.not_not, Nat.reduceAdd, Nat.reduceLeDiff]
        refine kk _ _ ⟨by omega, ⟨some (.inl (gDg V D.1)), some (.inl 0), ?_⟩, hA2, gE2_tr hE hE2, ?_⟩
        · rw [es, z]
        · rw [es]; exact hS2
      · rw [if_pos z] at lg es
        simp +contextual (disch := (first | omega | assumption | decide)) only [↓zbrT, ↓zbrF, zw162_0, zw162_2, zw162_3, zw162_4, zw162_5, zw162_6, zw162_7, zw162_8, zw162_9, zw162_10, zr_1, zr_2, zr_3, zr_4, zr_5, zr_7, zr_8, zr_10, zr_12, zr_26, zr_37, zr_39, zr_40, zr_41, zr_46, zr_47, zr_52, zr_53, zr_54, zr_58, zr_61, zr_62, zr_68, zr_70, zr_73, zlg_0, zlg_s, zls_0, zls_1, zls_s, zkl_i, zkl_r, zkl_l, zkl_n, zlL_0, zlL_1, zlL_s, zrc_1, zrc_s, zcat_n, zcat_i, zcat_l, zcat_r, zkd_0, zkd_105, zkd_20, zkd_21, zkd_3, zkd_43, zkd_45, zkd_51, zkd_53, zkd_55, zkd_57, zkd_59, zkd_67, zkd_86, zkd_a50, zrf_0_2, zrf_0_3, zrf_0_6, zrf_0_7, Int.cast_ofNat_Int, Int.reduceAdd, zw_id, zwl_id, zldiv_pos, zlrem_pos, false_and, and_false, true_and, and_true, true_or, or_true, false_or, or_false, Option.toList, List.nil_append, List.cons_append, zif0, zif1, zif01, zem1, zem2, Int.reduceEq, Int.reduceLT, Int.reduceLE, Int.reduceNeg, Int.reduceSub, Int.reduceMul, if_true, if_false, not_false_eq_true, not_true_eq_false, true_implies, false_implies, Classical.not_not, Nat.reduceAdd, Nat.reduceLeDiff, e2, c, ex, gA_0 hA.2.1, gA_1 hA.2.1, gA_2 hA.2.1, gA_3 hA.2.1, gA_4 hA.2.1, gA_5 hA.2.1, gA_6 hA.2.1, gA_7 hA.2.1, gA_8 hA.2.1, gA_9 hA.2.1, gA_r0 hA.2.1, gA_r1 hA.2.1, gA_r2 hA.2.1, gA_r3 hA.2.1, gA_f0 hA.2.1, gA_f1 hA.2.1, gA_f2 hA.2.1, gA_f3 hA.2.1, gA_f4 hA.2.1, gA_d hA, eg, nz, zq44 hA gStc_45 hS ok.1, z]
        refine gK (gz46 hA gStc_45 hS ok.1 lg (by omega)) rfl rfl (Nat.le_of_ble_eq_true rfl) ?_
        rintro _ m2 ⟨rfl, hA2, hS2, hE2⟩
        simp +contextual (disch := (first | omega | assumption | decide)) only [↓zbrT, ↓zbrF, zw162_0, zw162_2, zw162_3, zw162_4, zw162_5, zw162_6, zw162_7, zw162_8, zw162_9, zw162_10, zr_1, zr_2, zr_3, zr_4, zr_5, zr_7, zr_8, zr_10, zr_12, zr_26, zr_37, zr_39, zr_40, zr_41, zr_46, zr_47, zr_52, zr_53, zr_54, zr_58, zr_61, zr_62, zr_68, zr_70, zr_73, zlg_0, zlg_s, zls_0, zls_1, zls_s, zkl_i, zkl_r, zkl_l, zkl_n, zlL_0, zlL_1, zlL_s, zrc_1, zrc_s, zcat_n, zcat_i, zcat_l, zcat_r, zkd_0, zkd_105, zkd_20, zkd_21, zkd_3, zkd_43, zkd_45, zkd_51, zkd_53, zkd_55, zkd_57, zkd_59, zkd_67, zkd_86, zkd_a50, zrf_0_2, zrf_0_3, zrf_0_6, zrf_0_7, Int.cast_ofNat_Int, Int.reduceAdd, zw_id, zwl_id, zldiv_pos, zlrem_pos, false_and, and_false, true_and, and_true, true_or, or_true, false_or, or_false, Option.toList, List.nil_append, List.cons_append, zif0, zif1, zif01, zem1, zem2, Int.reduceEq, Int.reduceLT, Int.reduceLE, Int.reduceNeg, Int.reduceSub, Int.reduceMul, if_true, if_false, not_false_eq_true, not_true_eq_false, true_implies, false_implies, Classical.not_not, Nat.reduceAdd, Nat.reduceLeDiff]
        refine kk _ _ ⟨by omega, ⟨some (.inl (gDg V D.1)), some (.inl 1), ?_⟩, hA2, gE2_tr hE hE2, ?_⟩
        · rw [es, z]
        · rw [es]; exact hS2
    · simp +contextual (disch := (first | omega | assumption | decide)) only [↓zbrT, ↓zbrF, zw162_0, zw162_2, zw162_3, zw162_4, zw162_5, zw162_6, zw162_7, zw162_8, zw162_9, zw162_10, zr_1, zr_2, zr_3, zr_4, zr_5, zr_7, zr_8, zr_10, zr_12, zr_26, zr_37, zr_39, zr_40, zr_41, zr_46, zr_47, zr_52, zr_53, zr_54, zr_58, zr_61, zr_62, zr_68, zr_70, zr_73, zlg_0, zlg_s, zls_0, zls_1, zls_s, zkl_i, zkl_r, zkl_l, zkl_n, zlL_0, zlL_1, zlL_s, zrc_1, zrc_s, zcat_n, zcat_i, zcat_l, zcat_r, zkd_0, zkd_105, zkd_20, zkd_21, zkd_3, zkd_43, zkd_45, zkd_51, zkd_53, zkd_55, zkd_57, zkd_59, zkd_67, zkd_86, zkd_a50, zrf_0_2, zrf_0_3, zrf_0_6, zrf_0_7, Int.cast_ofNat_Int, Int.reduceAdd, zw_id, zwl_id, zldiv_pos, zlrem_pos, false_and, and_false, true_and, and_true, true_or, or_true, false_or, or_false, Option.toList, List.nil_append, List.cons_append, zif0, zif1, zif01, zem1, zem2, Int.reduceEq, Int.reduceLT, Int.reduceLE, Int.reduceNeg, Int.reduceSub, Int.reduceMul, if_true, if_false, not_false_eq_true, not_true_eq_false, true_implies, false_implies, Classical.not_not, Nat.reduceAdd, Nat.reduceLeDiff, e2, c]
      have st := gDr_stay (V := V) (seed := x) (k := k.toNat) c (n - k).toNat
      rw [show k.toNat + (n - k).toNat = n.toNat by omega] at st
      have q := gI_45 hI hA hE
      rw [st]
      exact ⟨rfl, q.1, q.2, hS⟩
  · rintro lc m' ⟨h0, ⟨x8, x9, rfl⟩, hA, hE, hS⟩
    rw [zw162_1]
    simp +contextual (disch := (first | omega | assumption | decide)) only [↓zbrT, ↓zbrF, zw162_0, zw162_2, zw162_3, zw162_4, zw162_5, zw162_6, zw162_7, zw162_8, zw162_9, zw162_10, zr_1, zr_2, zr_3, zr_4, zr_5, zr_7, zr_8, zr_10, zr_12, zr_26, zr_37, zr_39, zr_40, zr_41, zr_46, zr_47, zr_52, zr_53, zr_54, zr_58, zr_61, zr_62, zr_68, zr_70, zr_73, zlg_0, zlg_s, zls_0, zls_1, zls_s, zkl_i, zkl_r, zkl_l, zkl_n, zlL_0, zlL_1, zlL_s, zrc_1, zrc_s, zcat_n, zcat_i, zcat_l, zcat_r, zkd_0, zkd_105, zkd_20, zkd_21, zkd_3, zkd_43, zkd_45, zkd_51, zkd_53, zkd_55, zkd_57, zkd_59, zkd_67, zkd_86, zkd_a50, zrf_0_2, zrf_0_3, zrf_0_6, zrf_0_7, Int.cast_ofNat_Int, Int.reduceAdd, zw_id, zwl_id, zldiv_pos, zlrem_pos, false_and, and_false, true_and, and_true, true_or, or_true, false_or, or_false, Option.toList, List.nil_append, List.cons_append, zif0, zif1, zif01, zem1, zem2, Int.reduceEq, Int.reduceLT, Int.reduceLE, Int.reduceNeg, Int.reduceSub, Int.reduceMul, if_true, if_false, not_false_eq_true, not_true_eq_false, true_implies, false_implies, Classical.not_not, Nat.reduceAdd, Nat.reduceLeDiff]
    have q := gI_45 hI hA hE
    exact ⟨q.1, q.2, hS⟩
  · exact ⟨by decide, ⟨_, _, rfl⟩, hA1, gE2_q hE1, hS1⟩
