/-! ===== start, lays; retell ===== -/
/-- the states behind the first acts -/
def gRp (V : zMm) : Nat → Int → Int
  | 0 => gBe V
  | k + 1 => gNi V (gRp V k) (V 3 k)
/-- the acts are such as may be -/
def gAc (V : zMm) : Prop := ∀ k : Nat, (k : Int) < V 0 9 → (V 3 k = -1 ∨ (0 ≤ V 3 k ∧ V 3 k < V 0 5)) ∧ gMp V (gRp V k) (V 3 k) = 1
def gSn (V : zMm) : Int → Int := gRp V (V 0 9).toNat
theorem gMp_lg {V : zMm} {S : Int → Int} {g : Int} (h : gMp V S g = 1) : gLg S g ∧ S 2 = 0 := by
  unfold gMp at h
  by_cases c : g = -1
  · rw [if_pos c] at h
    exact ⟨Or.inl c, by by_cases z : S 2 = 0; exact z; rw [if_neg z] at h; omega⟩
  · rw [if_neg c] at h
    unfold gMb at h
    by_cases z : S 2 = 0 ∧ (0 ≤ g ∧ g < 8 ∧ zbit (S 4) g = 1) ∧ V 0 8 < min (gD V (S 3) (vA V g)) (gD V (S 3) (vB V g))
    · exact ⟨Or.inr z.2.1, z.1⟩
    · rw [if_neg z] at h; omega
theorem gRp_ok {V : zMm} (hV : gOk V) (hA : gAc V) : ∀ k : Nat, (k : Int) ≤ V 0 9 → gSok V (gRp V k) ∧ gRp V k 0 = k
  | 0, _ => ⟨gBe_ok hV, rfl⟩
  | k + 1, h => by
    obtain ⟨i1, i2⟩ := gRp_ok hV hA k (by omega)
    have hb := hV.1
    have l := gMp_lg (hA k (by omega)).2
    have e : gRp V (k + 1) = gNi V (gRp V k) (V 3 k) := rfl
    rw [e]
    exact ⟨gSok_ni hV i1 l.1 (by omega), by rw [gNi_0, i2]; rfl⟩
theorem gz218 {d : Nat} {m : zMm} {V : zMm} (hV : gOk V) (hM : gMo V m) : zC (d + 5) 218 [.inr (.inr 131)] m (fun r' m' => r' = none ∧ gMs V (gBe V) m' ∧ gFr V m' ∧ gEn m m') := by
  refine ze218 ?_
  have hM1 : gMo V (gTab m 145 (gDm V)) := gMo_of hM (fun c i a b => gTab_o (by omega))
  simp +contextual (disch := (first | omega | assumption | decide)) only [↓zbrT, ↓zbrF, zw218_0, zw218_2, zw218_3, zr_1, zr_3, zr_4, zr_7, zr_12, zr_13, zr_15, zr_16, zr_21, zr_53, zr_54, zr_58, zr_68, zr_72, zr_73, zlg_0, zlg_s, zls_0, zls_1, zls_s, zkl_i, zkl_r, zkl_l, zkl_n, zrc_1, zrc_s, zcat_n, zcat_i, zcat_l, zcat_r, zkd_131, zkd_138, zkd_146, zln_138, zln_146, zrf_131_17, zrf_131_34, Int.cast_ofNat_Int, Int.reduceAdd, zbd, zw_id, zmu_same, zmu_c, zmu_i, false_and, and_false, true_and, and_true, true_or, or_true, false_or, or_false, Option.toList, List.nil_append, List.cons_append, zif0, zif1, zif01, zem1, zem2, Int.reduceEq, Int.reduceLT, Int.reduceLE, Int.reduceNeg, Int.reduceSub, Int.reduceMul, if_true, if_false, not_false_eq_true, not_true_eq_false, true_implies, false_implies, Classical.not_not, Nat.reduceAdd, Nat.reduceLeDiff, zq215 hV hM, zq209 hV hM1, gM_0 hM1, gM_1 hM1, gM_2 hM1, gM_3 hM1, gM_4 hM1, gM_5 hM1, gM_6 hM1, gM_7 hM1, gM_8 hM1, gM_9 hM1, gM_10 hM1, gM_r0 hM1, gM_r1 hM1, gM_r2 hM1, gM_r3 hM1, gM_f0 hM1, gM_f1 hM1, gM_f2 hM1, gM_f3 hM1, gM_f4 hM1]
  refine zfor 8 (fun j lc m' => 0 ≤ j ∧ lc = [some (.inr (.inr 131)), some (.inl j)] ∧ m' = gfil (zmu (zmu (zmu (zmu (zmu (zmu (gTab m 145 (gDm V)) 131 28 (gGb V)) 131 29 (V 0 1)) 131 30 0) 131 31 0) 131 32 (V 0 7)) 131 33 0) 146 j 0) ?_ ?_ (i := 0) (by decide) ?_
  · rintro j lc m' hj ⟨h0, rfl, rfl⟩ kk
    rw [zw218_1]
    simp +contextual (disch := (first | omega | assumption | decide)) only [↓zbrT, ↓zbrF, zw218_0, zw218_2, zw218_3, zr_1, zr_3, zr_4, zr_7, zr_12, zr_13, zr_15, zr_16, zr_21, zr_53, zr_54, zr_58, zr_68, zr_72, zr_73, zlg_0, zlg_s, zls_0, zls_1, zls_s, zkl_i, zkl_r, zkl_l, zkl_n, zrc_1, zrc_s, zcat_n, zcat_i, zcat_l, zcat_r, zkd_131, zkd_138, zkd_146, zln_138, zln_146, zrf_131_17, zrf_131_34, Int.cast_ofNat_Int, Int.reduceAdd, zbd, zw_id, zmu_same, zmu_c, zmu_i, false_and, and_false, true_and, and_true, true_or, or_true, false_or, or_false, Option.toList, List.nil_append, List.cons_append, zif0, zif1, zif01, zem1, zem2, Int.reduceEq, Int.reduceLT, Int.reduceLE, Int.reduceNeg, Int.reduceSub, Int.reduceMul, if_true, if_false, not_false_eq_true, not_true_eq_false, true_implies, false_implies, Classical.not_not, Nat.reduceAdd, Nat.reduceLeDiff]
    refine kk _ _ ⟨by omega, rfl, ?_⟩
    funext c' i'
    simp only [zmu, gfil, true_and, and_true]
    (repeat' split) <;> (first | rfl | omega | (exfalso; omega))
  · rintro lc m' ⟨h0, rfl, rfl⟩
    rw [zw218_1]
    simp +contextual (disch := (first | omega | assumption | decide)) only [↓zbrT, ↓zbrF, zw218_0, zw218_2, zw218_3, zr_1, zr_3, zr_4, zr_7, zr_12, zr_13, zr_15, zr_16, zr_21, zr_53, zr_54, zr_58, zr_68, zr_72, zr_73, zlg_0, zlg_s, zls_0, zls_1, zls_s, zkl_i, zkl_r, zkl_l, zkl_n, zrc_1, zrc_s, zcat_n, zcat_i, zcat_l, zcat_r, zkd_131, zkd_138, zkd_146, zln_138, zln_146, zrf_131_17, zrf_131_34, Int.cast_ofNat_Int, Int.reduceAdd, zbd, zw_id, zmu_same, zmu_c, zmu_i, false_and, and_false, true_and, and_true, true_or, or_true, false_or, or_false, Option.toList, List.nil_append, List.cons_append, zif0, zif1, zif01, zem1, zem2, Int.reduceEq, Int.reduceLT, Int.reduceLE, Int.reduceNeg, Int.reduceSub, Int.reduceMul, if_true, if_false, not_false_eq_true, not_true_eq_false, true_implies, false_implies, Classical.not_not, Nat.reduceAdd, Nat.reduceLeDiff]
    refine ⟨⟨?_, fun r a b c e => ?_⟩, gFr_of (gFr_tab (m := m)) (fun i => ?_), fun c i hc => ?_⟩
    · have e : ∀ (m1 : zMm) i, gfil m1 146 8 0 131 i = m1 131 i := fun m1 i => by unfold gfil; rw [if_neg (by omega)]
      simp only [e, zmu, true_and]
      refine ⟨?_, ?_, ?_, ?_, ?_, ?_⟩ <;> simp only [Int.reduceEq, if_true, if_false, gBe]
    · have e2 : gBe V (6 + r) = 0 := by
        unfold gBe
        rw [if_neg (by omega), if_neg (by omega), if_neg (by omega)]
      rw [e2]
      unfold gfil
      rw [if_pos ⟨rfl, a, by have := hV.1; omega⟩]
    · unfold gfil
      rw [if_neg (by omega), zmu_c (by decide), zmu_c (by decide), zmu_c (by decide), zmu_c (by decide), zmu_c (by decide), zmu_c (by decide)]
    · unfold gfil zmu
      rw [if_neg (by omega), if_neg (by omega), if_neg (by omega), if_neg (by omega), if_neg (by omega), if_neg (by omega), if_neg (by omega), gTab_o (by omega)]
  · refine ⟨by decide, rfl, ?_⟩
    funext c' i'
    unfold gfil
    rw [if_neg (by omega)]
/-- the model's acts are V's -/
def gMa (V m : zMm) : Prop := ∀ k, 0 ≤ k → k < V 0 9 → m 141 k = V 3 k
theorem gz219 {d : Nat} {m : zMm} {V : zMm} (hV : gOk V) (hAc : gAc V) (hM : gMo V m) (hMa : gMa V m) : zC (d + 13) 219 [.inr (.inr 131)] m (fun r' m' => r' = none ∧ gMs V (gSn V) m' ∧ gFr V m' ∧ gEn m m') := by
  refine ze219 ?_
  have hb := hV.1
  simp +contextual (disch := (first | omega | assumption | decide)) only [↓zbrT, ↓zbrF, zw219_0, zw219_2, zw219_3, zr_1, zr_3, zr_4, zr_7, zr_12, zr_16, zr_52, zr_53, zr_54, zr_58, zr_68, zr_72, zr_73, zlg_0, zlg_s, zls_0, zls_1, zls_s, zkl_i, zkl_r, zkl_l, zkl_n, zrc_1, zrc_s, zcat_n, zcat_i, zcat_l, zcat_r, zkd_131, zkd_138, zkd_141, zln_138, zln_141, zrf_131_17, zrf_131_20, Int.cast_ofNat_Int, Int.reduceAdd, zbd, zw_id, false_and, and_false, true_and, and_true, true_or, or_true, false_or, or_false, Option.toList, List.nil_append, List.cons_append, zif0, zif1, zif01, zem1, zem2, Int.reduceEq, Int.reduceLT, Int.reduceLE, Int.reduceNeg, Int.reduceSub, Int.reduceMul, if_true, if_false, not_false_eq_true, not_true_eq_false, true_implies, false_implies, Classical.not_not, Nat.reduceAdd, Nat.reduceLeDiff]
  refine gK (gz218 hV hM) rfl rfl (Nat.le_of_ble_eq_true rfl) ?_
  rintro _ m1 ⟨rfl, hS1, hF1, hE1⟩
  simp +contextual (disch := (first | omega | assumption | decide)) only [↓zbrT, ↓zbrF, zw219_0, zw219_2, zw219_3, zr_1, zr_3, zr_4, zr_7, zr_12, zr_16, zr_52, zr_53, zr_54, zr_58, zr_68, zr_72, zr_73, zlg_0, zlg_s, zls_0, zls_1, zls_s, zkl_i, zkl_r, zkl_l, zkl_n, zrc_1, zrc_s, zcat_n, zcat_i, zcat_l, zcat_r, zkd_131, zkd_138, zkd_141, zln_138, zln_141, zrf_131_17, zrf_131_20, Int.cast_ofNat_Int, Int.reduceAdd, zbd, zw_id, false_and, and_false, true_and, and_true, true_or, or_true, false_or, or_false, Option.toList, List.nil_append, List.cons_append, zif0, zif1, zif01, zem1, zem2, Int.reduceEq, Int.reduceLT, Int.reduceLE, Int.reduceNeg, Int.reduceSub, Int.reduceMul, if_true, if_false, not_false_eq_true, not_true_eq_false, true_implies, false_implies, Classical.not_not, Nat.reduceAdd, Nat.reduceLeDiff]
  refine zfor (V 0 9) (fun k lc m' => 0 ≤ k ∧ lc = [some (.inr (.inr 131)), some (.inl k)] ∧ gMs V (gRp V k.toNat) m' ∧ gFr V m' ∧ gEn m m') ?_ ?_ (i := 0) (by omega) ?_
  · rintro k lc m' hk ⟨h0, rfl, hS, hF, hE⟩ kk
    have hM2 := gEn_mo hE hM
    have ea : m' 141 k = V 3 k := by rw [hE 141 k (by omega)]; exact hMa k h0 hk
    have ok := gRp_ok hV hAc k.toNat (by omega)
    have l := hAc k.toNat (by omega)
    rw [show ((k.toNat : Nat) : Int) = k by omega] at l ok
    rw [zw219_1]
    simp +contextual (disch := (first | omega | assumption | decide)) only [↓zbrT, ↓zbrF, zw219_0, zw219_2, zw219_3, zr_1, zr_3, zr_4, zr_7, zr_12, zr_16, zr_52, zr_53, zr_54, zr_58, zr_68, zr_72, zr_73, zlg_0, zlg_s, zls_0, zls_1, zls_s, zkl_i, zkl_r, zkl_l, zkl_n, zrc_1, zrc_s, zcat_n, zcat_i, zcat_l, zcat_r, zkd_131, zkd_138, zkd_141, zln_138, zln_141, zrf_131_17, zrf_131_20, Int.cast_ofNat_Int, Int.reduceAdd, zbd, zw_id, false_and, and_false, true_and, and_true, true_or, or_true, false_or, or_false, Option.toList, List.nil_append, List.cons_append, zif0, zif1, zif01, zem1, zem2, Int.reduceEq, Int.reduceLT, Int.reduceLE, Int.reduceNeg, Int.reduceSub, Int.reduceMul, if_true, if_false, not_false_eq_true, not_true_eq_false, true_implies, false_implies, Classical.not_not, Nat.reduceAdd, Nat.reduceLeDiff, gM_0 hM2, gM_1 hM2, gM_2 hM2, gM_3 hM2, gM_4 hM2, gM_5 hM2, gM_6 hM2, gM_7 hM2, gM_8 hM2, gM_9 hM2, gM_10 hM2, gM_r0 hM2, gM_r1 hM2, gM_r2 hM2, gM_r3 hM2, gM_f0 hM2, gM_f1 hM2, gM_f2 hM2, gM_f3 hM2, gM_f4 hM2, ea]
    refine gK (gz221 hV hM2 hF hS ok.1 (gMp_lg l.2).1 (by omega)) rfl rfl (Nat.le_of_ble_eq_true rfl) ?_
    rintro _ m3 ⟨rfl, hS3, hF3, hE3⟩
    simp +contextual (disch := (first | omega | assumption | decide)) only [↓zbrT, ↓zbrF, zw219_0, zw219_2, zw219_3, zr_1, zr_3, zr_4, zr_7, zr_12, zr_16, zr_52, zr_53, zr_54, zr_58, zr_68, zr_72, zr_73, zlg_0, zlg_s, zls_0, zls_1, zls_s, zkl_i, zkl_r, zkl_l, zkl_n, zrc_1, zrc_s, zcat_n, zcat_i, zcat_l, zcat_r, zkd_131, zkd_138, zkd_141, zln_138, zln_141, zrf_131_17, zrf_131_20, Int.cast_ofNat_Int, Int.reduceAdd, zbd, zw_id, false_and, and_false, true_and, and_true, true_or, or_true, false_or, or_false, Option.toList, List.nil_append, List.cons_append, zif0, zif1, zif01, zem1, zem2, Int.reduceEq, Int.reduceLT, Int.reduceLE, Int.reduceNeg, Int.reduceSub, Int.reduceMul, if_true, if_false, not_false_eq_true, not_true_eq_false, true_implies, false_implies, Classical.not_not, Nat.reduceAdd, Nat.reduceLeDiff]
    refine kk _ _ ⟨by omega, rfl, ?_, hF3, gEn_tr hE hE3⟩
    rw [show (k + 1).toNat = k.toNat + 1 by omega]
    show gMs V (gNi V (gRp V k.toNat) (V 3 (k.toNat : Nat))) m3
    rw [show ((k.toNat : Nat) : Int) = k by omega]
    exact hS3
  · rintro lc m' ⟨h0, rfl, hS, hF, hE⟩
    have hM2 := gEn_mo hE hM
    rw [zw219_1]
    simp +contextual (disch := (first | omega | assumption | decide)) only [↓zbrT, ↓zbrF, zw219_0, zw219_2, zw219_3, zr_1, zr_3, zr_4, zr_7, zr_12, zr_16, zr_52, zr_53, zr_54, zr_58, zr_68, zr_72, zr_73, zlg_0, zlg_s, zls_0, zls_1, zls_s, zkl_i, zkl_r, zkl_l, zkl_n, zrc_1, zrc_s, zcat_n, zcat_i, zcat_l, zcat_r, zkd_131, zkd_138, zkd_141, zln_138, zln_141, zrf_131_17, zrf_131_20, Int.cast_ofNat_Int, Int.reduceAdd, zbd, zw_id, false_and, and_false, true_and, and_true, true_or, or_true, false_or, or_false, Option.toList, List.nil_append, List.cons_append, zif0, zif1, zif01, zem1, zem2, Int.reduceEq, Int.reduceLT, Int.reduceLE, Int.reduceNeg, Int.reduceSub, Int.reduceMul, if_true, if_false, not_false_eq_true, not_true_eq_false, true_implies, false_implies, Classical.not_not, Nat.reduceAdd, Nat.reduceLeDiff, gM_0 hM2, gM_1 hM2, gM_2 hM2, gM_3 hM2, gM_4 hM2, gM_5 hM2, gM_6 hM2, gM_7 hM2, gM_8 hM2, gM_9 hM2, gM_10 hM2, gM_r0 hM2, gM_r1 hM2, gM_r2 hM2, gM_r3 hM2, gM_f0 hM2, gM_f1 hM2, gM_f2 hM2, gM_f3 hM2, gM_f4 hM2]
    exact ⟨hS, hF, hE⟩
  · exact ⟨by decide, rfl, hS1, hF1, hE1⟩
theorem zq27 {d : Nat} {m : zMm} {rest : List zV} {k : List zV → zMm → Prop} : zcl (zEx (d + 1)) 27 1 (.inr (.inr 48) :: rest) m k = (zcat rest ≤ 8 ∧ k rest (zmu m 48 3 0)) := by
  refine zcl_eq (as := [.inr (.inr 48)]) (r := none) (zC_eq.mp (ze27 ?_)) rfl rfl
  simp +contextual (disch := (first | omega | assumption | decide)) only [zw27_0, zr_3, zr_7, zr_15, zr_72, zlg_0, zlg_s, zkd_48, Int.cast_ofNat_Int, Int.reduceAdd, zmu_same, zmu_c, zmu_i, false_and, and_false, true_and, and_true, true_or, or_true, false_or, or_false, Option.toList, List.nil_append, List.cons_append, zif0, zif1, zif01, zem1, zem2, Int.reduceEq, Int.reduceLT, Int.reduceLE, Int.reduceNeg, Int.reduceSub, Int.reduceMul, if_true, if_false, not_false_eq_true, not_true_eq_false, true_implies, false_implies, Classical.not_not, Nat.reduceAdd, Nat.reduceLeDiff]
/-- the class's acts are V's -/
def gCa (V m : zMm) : Prop := m 0 5 = V 0 9 ∧ ∀ k, 0 ≤ k → k < V 0 9 → m 42 k = V 3 k
theorem gz73 {d : Nat} {m : zMm} {V : zMm} (hA : gA V m) (hAc : gAc V) (hCa : gCa V m) : zC (d + 6) 73 [.inr (.inr 0)] m (fun r' m' => r' = none ∧ gA V m' ∧ gSt (gSn V) 43 m' ∧ m' 48 3 = 0 ∧ ∀ c i, (c ≠ 39 ∧ c ≠ 40 ∧ c ≠ 41 ∧ c ≠ 20) ∧ c ≠ 43 ∧ c ≠ 44 ∧ (c ≠ 48 ∨ i ≠ 3) → m' c i = m c i) := by
  refine ze73 ?_
  have hb := hA.1.1
  simp +contextual (disch := (first | omega | assumption | decide)) only [↓zbrT, ↓zbrF, zw73_0, zw73_2, zw73_3, zr_1, zr_3, zr_4, zr_7, zr_10, zr_12, zr_16, zr_52, zr_53, zr_54, zr_58, zr_68, zr_72, zr_73, zlg_0, zlg_s, zls_0, zls_1, zls_s, zkl_i, zkl_r, zkl_l, zkl_n, zrc_1, zrc_s, zcat_n, zcat_i, zcat_l, zcat_r, zkd_0, zkd_20, zkd_21, zkd_42, zkd_43, zkd_45, zkd_48, zkd_51, zkd_53, zkd_55, zkd_57, zkd_59, zkd_a50, zln_42, zrf_0_2, zrf_0_3, zrf_0_4, zrf_0_6, zrf_0_9, Int.cast_ofNat_Int, Int.reduceAdd, zbd, zw_id, false_and, and_false, true_and, and_true, true_or, or_true, false_or, or_false, Option.toList, List.nil_append, List.cons_append, zif0, zif1, zif01, zem1, zem2, Int.reduceEq, Int.reduceLT, Int.reduceLE, Int.reduceNeg, Int.reduceSub, Int.reduceMul, if_true, if_false, not_false_eq_true, not_true_eq_false, true_implies, false_implies, Classical.not_not, Nat.reduceAdd, Nat.reduceLeDiff]
  refine gK (gz41 hA.1 hA.2.1 gStc_43) rfl rfl (Nat.le_of_ble_eq_true rfl) ?_
  rintro _ m1 ⟨rfl, hS1, hE1⟩
  have hA1 := gA_eq gStc_43 hA hE1
  simp +contextual (disch := (first | omega | assumption | decide)) only [↓zbrT, ↓zbrF, zw73_0, zw73_2, zw73_3, zr_1, zr_3, zr_4, zr_7, zr_10, zr_12, zr_16, zr_52, zr_53, zr_54, zr_58, zr_68, zr_72, zr_73, zlg_0, zlg_s, zls_0, zls_1, zls_s, zkl_i, zkl_r, zkl_l, zkl_n, zrc_1, zrc_s, zcat_n, zcat_i, zcat_l, zcat_r, zkd_0, zkd_20, zkd_21, zkd_42, zkd_43, zkd_45, zkd_48, zkd_51, zkd_53, zkd_55, zkd_57, zkd_59, zkd_a50, zln_42, zrf_0_2, zrf_0_3, zrf_0_4, zrf_0_6, zrf_0_9, Int.cast_ofNat_Int, Int.reduceAdd, zbd, zw_id, false_and, and_false, true_and, and_true, true_or, or_true, false_or, or_false, Option.toList, List.nil_append, List.cons_append, zif0, zif1, zif01, zem1, zem2, Int.reduceEq, Int.reduceLT, Int.reduceLE, Int.reduceNeg, Int.reduceSub, Int.reduceMul, if_true, if_false, not_false_eq_true, not_true_eq_false, true_implies, false_implies, Classical.not_not, Nat.reduceAdd, Nat.reduceLeDiff]
  refine zfor (V 0 9) (fun k lc m' => 0 ≤ k ∧ lc = [some (.inr (.inr 0)), some (.inl k)] ∧ gA V m' ∧ gSt (gRp V k.toNat) 43 m' ∧ gE2 43 m m') ?_ ?_ (i := 0) (by omega) ?_
  · rintro k lc m' hk ⟨h0, rfl, hA2, hS, hE⟩ kk
    have e5 : m' 0 5 = V 0 9 := by rw [hE 0 5 (by decide)]; exact hCa.1
    have ea : m' 42 k = V 3 k := by rw [hE 42 k (by omega)]; exact hCa.2 k h0 hk
    have ok := gRp_ok hA.1 hAc k.toNat (by omega)
    have l := hAc k.toNat (by omega)
    rw [show ((k.toNat : Nat) : Int) = k by omega] at l ok
    rw [zw73_1]
    simp +contextual (disch := (first | omega | assumption | decide)) only [↓zbrT, ↓zbrF, zw73_0, zw73_2, zw73_3, zr_1, zr_3, zr_4, zr_7, zr_10, zr_12, zr_16, zr_52, zr_53, zr_54, zr_58, zr_68, zr_72, zr_73, zlg_0, zlg_s, zls_0, zls_1, zls_s, zkl_i, zkl_r, zkl_l, zkl_n, zrc_1, zrc_s, zcat_n, zcat_i, zcat_l, zcat_r, zkd_0, zkd_20, zkd_21, zkd_42, zkd_43, zkd_45, zkd_48, zkd_51, zkd_53, zkd_55, zkd_57, zkd_59, zkd_a50, zln_42, zrf_0_2, zrf_0_3, zrf_0_4, zrf_0_6, zrf_0_9, Int.cast_ofNat_Int, Int.reduceAdd, zbd, zw_id, false_and, and_false, true_and, and_true, true_or, or_true, false_or, or_false, Option.toList, List.nil_append, List.cons_append, zif0, zif1, zif01, zem1, zem2, Int.reduceEq, Int.reduceLT, Int.reduceLE, Int.reduceNeg, Int.reduceSub, Int.reduceMul, if_true, if_false, not_false_eq_true, not_true_eq_false, true_implies, false_implies, Classical.not_not, Nat.reduceAdd, Nat.reduceLeDiff, e5, ea]
    refine gK (gz46 hA2 gStc_43 hS ok.1 (gMp_lg l.2).1 (by omega)) rfl rfl (Nat.le_of_ble_eq_true rfl) ?_
    rintro _ m3 ⟨rfl, hA3, hS3, hE3⟩
    simp +contextual (disch := (first | omega | assumption | decide)) only [↓zbrT, ↓zbrF, zw73_0, zw73_2, zw73_3, zr_1, zr_3, zr_4, zr_7, zr_10, zr_12, zr_16, zr_52, zr_53, zr_54, zr_58, zr_68, zr_72, zr_73, zlg_0, zlg_s, zls_0, zls_1, zls_s, zkl_i, zkl_r, zkl_l, zkl_n, zrc_1, zrc_s, zcat_n, zcat_i, zcat_l, zcat_r, zkd_0, zkd_20, zkd_21, zkd_42, zkd_43, zkd_45, zkd_48, zkd_51, zkd_53, zkd_55, zkd_57, zkd_59, zkd_a50, zln_42, zrf_0_2, zrf_0_3, zrf_0_4, zrf_0_6, zrf_0_9, Int.cast_ofNat_Int, Int.reduceAdd, zbd, zw_id, false_and, and_false, true_and, and_true, true_or, or_true, false_or, or_false, Option.toList, List.nil_append, List.cons_append, zif0, zif1, zif01, zem1, zem2, Int.reduceEq, Int.reduceLT, Int.reduceLE, Int.reduceNeg, Int.reduceSub, Int.reduceMul, if_true, if_false, not_false_eq_true, not_true_eq_false, true_implies, false_implies, Classical.not_not, Nat.reduceAdd, Nat.reduceLeDiff]
    refine kk _ _ ⟨by omega, rfl, hA3, ?_, gE2_tr hE hE3⟩
    rw [show (k + 1).toNat = k.toNat + 1 by omega]
    show gSt (gNi V (gRp V k.toNat) (V 3 (k.toNat : Nat))) 43 m3
    rw [show ((k.toNat : Nat) : Int) = k by omega]
    exact hS3
  · rintro lc m' ⟨h0, rfl, hA2, hS, hE⟩
    have e5 : m' 0 5 = V 0 9 := by rw [hE 0 5 (by decide)]; exact hCa.1
    rw [zw73_1]
    simp +contextual (disch := (first | omega | assumption | decide)) only [↓zbrT, ↓zbrF, zw73_0, zw73_2, zw73_3, zr_1, zr_3, zr_4, zr_7, zr_10, zr_12, zr_16, zr_52, zr_53, zr_54, zr_58, zr_68, zr_72, zr_73, zlg_0, zlg_s, zls_0, zls_1, zls_s, zkl_i, zkl_r, zkl_l, zkl_n, zrc_1, zrc_s, zcat_n, zcat_i, zcat_l, zcat_r, zkd_0, zkd_20, zkd_21, zkd_42, zkd_43, zkd_45, zkd_48, zkd_51, zkd_53, zkd_55, zkd_57, zkd_59, zkd_a50, zln_42, zrf_0_2, zrf_0_3, zrf_0_4, zrf_0_6, zrf_0_9, Int.cast_ofNat_Int, Int.reduceAdd, zbd, zw_id, false_and, and_false, true_and, and_true, true_or, or_true, false_or, or_false, Option.toList, List.nil_append, List.cons_append, zif0, zif1, zif01, zem1, zem2, Int.reduceEq, Int.reduceLT, Int.reduceLE, Int.reduceNeg, Int.reduceSub, Int.reduceMul, if_true, if_false, not_false_eq_true, not_true_eq_false, true_implies, false_implies, Classical.not_not, Nat.reduceAdd, Nat.reduceLeDiff, e5, zq27]
    refine ⟨gA_of hA2 (fun c i a b => zmu_c (by omega)), gSt_of hS (fun i => zmu_c (by decide)) (fun i => zmu_c (by decide)), zmu_same, fun c i hc => ?_⟩
    unfold zmu
    rw [if_neg (by omega)]
    exact hE c i (by omega)
  · exact ⟨by decide, rfl, hA1, hS1, gE2_q hE1⟩
