/-! ===== calls that change the shire in use ===== -/
/-- alike where questions and changes don't write, in the class -/
def gZ (m m' : zMm) : Prop := ∀ c i, (c < 0 ∨ c = 1 ∨ c = 2 ∨ 64 ≤ c) → m' c i = m c i
theorem gZ_x {m m' : zMm} (h : gX m m') : gZ m m' := fun c i hc => h c i (by omega)
theorem gZ_refl {m : zMm} : gZ m m := fun _ _ _ => rfl
/-- .. and in the model -/
def gZm (m m' : zMm) : Prop := ∀ c i, (c < 131 ∨ c = 132 ∨ c = 133 ∨ c = 134 ∨ c = 136 ∨ c = 142 ∨ (c = 131 ∧ (i = 6 ∨ i = 14 ∨ i = 15)) ∨ (c = 137 ∧ 1 ≤ i) ∨ (c = 138 ∧ 10 ≤ i) ∨ (c = 139 ∧ 32 ≤ i) ∨ (c = 140 ∧ 30 ≤ i) ∨ (c = 141 ∧ 40 ≤ i)) → m' c i = m c i
theorem gZm_y {m m' : zMm} (h : gY m m') : gZm m m' := fun c i hc => h c i (by omega)
theorem gZm_tr {m m' m'' : zMm} (h1 : gZm m m') (h2 : gZm m' m'') : gZm m m'' := fun c i h => by rw [h2 c i h, h1 c i h]
/-- the same shire, acts aside -/
def gSame (V V' : zMm) : Prop := (∀ i, i ≠ 9 → V' 0 i = V 0 i) ∧ (∀ i, V' 1 i = V 1 i) ∧ (∀ i, V' 2 i = V 2 i)
theorem gSa_A {V V' : zMm} (h : gSame V V') : vA V' = vA V := funext fun r => h.2.1 _
theorem gSa_B {V V' : zMm} (h : gSame V V') : vB V' = vB V := funext fun r => h.2.1 _
theorem gSa_M {V V' : zMm} (h : gSame V V') : vM V' = vM V := funext fun r => h.2.1 _
theorem gSa_T {V V' : zMm} (h : gSame V V') : vT V' = vT V := funext fun r => h.2.1 _
theorem gSa_F {V V' : zMm} (h : gSame V V') : vF V' = vF V := funext fun f => funext fun i => h.2.2 _
theorem gSa_W {V V' : zMm} (h : gSame V V') (s : Int) : vW V' s = vW V s := by
  funext r
  unfold vW
  rw [gSa_T h, gSa_M h]
theorem gSa_D {V V' : zMm} (h : gSame V V') : gD V' = gD V := by
  unfold gD
  rw [gSa_A h, gSa_B h, gSa_M h, h.1 5 (by decide), h.1 0 (by decide)]
theorem gSa_C {V V' : zMm} (h : gSame V V') (s x : Int) : gC V' s x = gC V s x := by
  unfold gC
  rw [gSa_A h, gSa_B h, gSa_W h, h.1 5 (by decide), h.1 0 (by decide)]
theorem gSa_Tk {V V' : zMm} (h : gSame V V') (s : Int) : gTk V' s = gTk V s := by
  unfold gTk
  rw [h.1 6 (by decide)]
  refine gSm_c _ (fun f _ => ?_)
  unfold gFa
  rw [gSa_C h, gSa_F h]
theorem gSa_Gb {V V' : zMm} (h : gSame V V') : gGb V' = gGb V := by
  unfold gGb
  rw [h.1 5 (by decide), gSa_T h]
theorem gSa_Be {V V' : zMm} (h : gSame V V') : gBe V' = gBe V := by
  unfold gBe
  rw [gSa_Gb h, h.1 1 (by decide), h.1 7 (by decide)]
theorem gSa_Bk {V V' : zMm} (h : gSame V V') (S : Int → Int) (g : Int) : gBk V' S g = gBk V S g := by
  funext i
  unfold gBk gFl
  rw [gSa_A h, gSa_B h, gSa_T h, h.1 5 (by decide)]
theorem gSa_Ni {V V' : zMm} (h : gSame V V') (S : Int → Int) (g : Int) : gNi V' S g = gNi V S g := by
  unfold gNi
  rw [gSa_Bk h, gSa_Tk h, h.1 2 (by decide), h.1 3 (by decide)]
theorem gSa_Mp {V V' : zMm} (h : gSame V V') (S : Int → Int) (g : Int) : gMp V' S g = gMp V S g := by
  unfold gMp gMb
  rw [gSa_A h, gSa_B h, gSa_D h, h.1 8 (by decide)]
theorem gSa_Rp {V V' : zMm} (h : gSame V V') : ∀ k : Nat, (∀ j : Nat, j < k → V' 3 j = V 3 j) → gRp V' k = gRp V k
  | 0, _ => gSa_Be h
  | k + 1, hj => by
    show gNi V' (gRp V' k) (V' 3 k) = gNi V (gRp V k) (V 3 k)
    rw [gSa_Rp h k (fun j a => hj j (by omega)), hj k (by omega), gSa_Ni h]
theorem gSa_ok {V V' : zMm} (h : gSame V V') (hV : gOk V) (h9 : 0 ≤ V' 0 9 ∧ V' 0 9 ≤ 40) (h0 : V 0 10 = 0 → V' 0 9 = 0) : gOk V' := by
  refine ⟨?_, ?_, ?_⟩
  · rw [h.1 0 (by decide), h.1 1 (by decide), h.1 2 (by decide), h.1 3 (by decide), h.1 4 (by decide), h.1 5 (by decide), h.1 6 (by decide), h.1 7 (by decide), h.1 8 (by decide), h.1 10 (by decide)]
    have := hV.1
    refine ⟨this.1, this.2.1, this.2.2.1, this.2.2.2.1, this.2.2.2.2.1, this.2.2.2.2.2.1, this.2.2.2.2.2.2.1, this.2.2.2.2.2.2.2.1, this.2.2.2.2.2.2.2.2.1, h9, this.2.2.2.2.2.2.2.2.2.2.1, fun z => ?_, this.2.2.2.2.2.2.2.2.2.2.2.2⟩
    have q := this.2.2.2.2.2.2.2.2.2.2.2.1 z
    exact ⟨q.1, q.2.1, q.2.2.1, h0 z⟩
  · rw [gSa_A h, gSa_B h, gSa_M h, gSa_T h, h.1 5 (by decide), h.1 0 (by decide)]; exact hV.2.1
  · rw [gSa_F h, h.1 6 (by decide), h.1 0 (by decide)]; exact hV.2.2
theorem gSa_CV {V V' m : zMm} (h : gSame V V') (hv : gCV V m) : gCV V' m := by
  refine ⟨?_, ?_, ?_⟩
  · rw [h.1 0 (by decide), h.1 1 (by decide), h.1 2 (by decide), h.1 3 (by decide), h.1 4 (by decide), h.1 5 (by decide), h.1 6 (by decide), h.1 7 (by decide), h.1 8 (by decide), h.1 10 (by decide)]; exact hv.1
  · rw [gSa_A h, gSa_B h, gSa_M h, gSa_T h, h.1 5 (by decide)]; exact hv.2.1
  · rw [gSa_F h, h.1 6 (by decide)]; exact hv.2.2
theorem gSa_gA {V V' m : zMm} (h : gSame V V') (hk : gOk V') (hA : gA V m) : gA V' m := by
  refine ⟨hk, gSa_CV h hA.2.1, ?_, ?_, ?_⟩
  · rw [gSa_D h, h.1 0 (by decide)]; exact hA.2.2.1
  · intro s a b
    rw [gSa_Tk h]; exact hA.2.2.2.1 s a b
  · intro s x a b c e f p q
    rw [gSa_C h, h.1 0 (by decide)]; exact hA.2.2.2.2 s x a b c e f p q
theorem gSa_Mo {V V' m m' : zMm} (h : gSame V V') (hM : gMo V m) (h1 : ∀ c i, 137 ≤ c → c ≤ 140 → ¬ (c = 138 ∧ i = 9) → m' c i = m c i) (h9 : m' 138 9 = V' 0 9) : gMo V' m' := by
  refine ⟨?_, fun r a b => ?_, fun f a b => ?_⟩
  · rw [h1 138 0 (by decide) (by decide) (by decide), h1 138 1 (by decide) (by decide) (by decide), h1 138 2 (by decide) (by decide) (by decide), h1 138 3 (by decide) (by decide) (by decide), h1 138 4 (by decide) (by decide) (by decide), h1 138 5 (by decide) (by decide) (by decide), h1 138 6 (by decide) (by decide) (by decide), h1 138 7 (by decide) (by decide) (by decide), h1 138 8 (by decide) (by decide) (by decide), h1 137 0 (by decide) (by decide) (by decide), h.1 0 (by decide), h.1 1 (by decide), h.1 2 (by decide), h.1 3 (by decide), h.1 4 (by decide), h.1 5 (by decide), h.1 6 (by decide), h.1 7 (by decide), h.1 8 (by decide), h.1 10 (by decide)]
    have q := hM.1
    exact ⟨q.1, q.2.1, q.2.2.1, q.2.2.2.1, q.2.2.2.2.1, q.2.2.2.2.2.1, q.2.2.2.2.2.2.1, q.2.2.2.2.2.2.2.1, q.2.2.2.2.2.2.2.2.1, h9, q.2.2.2.2.2.2.2.2.2.2⟩
  · rw [h.1 5 (by decide)] at b
    rw [gSa_A h, gSa_B h, gSa_M h, gSa_T h, h1 139 _ (by decide) (by decide) (by omega), h1 139 _ (by decide) (by decide) (by omega), h1 139 _ (by decide) (by decide) (by omega), h1 139 _ (by decide) (by decide) (by omega)]
    exact hM.2.1 r a b
  · rw [h.1 6 (by decide)] at b
    rw [gSa_F h, h1 140 _ (by decide) (by decide) (by omega), h1 140 _ (by decide) (by decide) (by omega), h1 140 _ (by decide) (by decide) (by omega), h1 140 _ (by decide) (by decide) (by omega), h1 140 _ (by decide) (by decide) (by omega)]
    exact hM.2.2 f a b
/-! ===== night ===== -/
def gNv (V : zMm) (g : Int) : zMm := zmu (zmu V 3 (V 0 9) g) 0 9 (V 0 9 + 1)
theorem gNv_same {V : zMm} {g : Int} : gSame V (gNv V g) := ⟨fun i hi => by unfold gNv; rw [zmu_i hi, zmu_c (by decide)], fun i => by unfold gNv; rw [zmu_c (by decide), zmu_c (by decide)], fun i => by unfold gNv; rw [zmu_c (by decide), zmu_c (by decide)]⟩
theorem gNv_9 {V : zMm} {g : Int} : gNv V g 0 9 = V 0 9 + 1 := by unfold gNv; rw [zmu_same]
theorem gNv_3 {V : zMm} {g j : Int} : gNv V g 3 j = if j = V 0 9 then g else V 3 j := by
  unfold gNv
  rw [zmu_c (by decide), zmu_ci]
def gNk (V : zMm) (g : Int) : Prop := (¬ V 0 10 = 0 ∧ (g = -1 ∨ ((0 ≤ g ∧ g < V 0 5) ∧ 0 < vT V g))) ∧ V 0 9 < 40 ∧ gMp V (gSn V) g = 1
theorem gNv_ok {V : zMm} {g : Int} (hV : gOk V) (hA : gAc V) (h : gNk V g) : gOk (gNv V g) ∧ gAc (gNv V g) ∧ gSn (gNv V g) = gNi V (gSn V) g := by
  have hb := hV.1
  have s := gNv_same (V := V) (g := g)
  have e : gRp (gNv V g) (V 0 9).toNat = gRp V (V 0 9).toNat := gSa_Rp s _ (fun j hj => by rw [gNv_3, if_neg (by omega)])
  refine ⟨gSa_ok s hV (by rw [gNv_9]; have := h.2.1; omega) (fun z => absurd z h.1.1), fun k hk => ?_, ?_⟩
  · rw [gNv_9] at hk
    have e2 : gRp (gNv V g) k = gRp V k := gSa_Rp s k (fun j hj => by rw [gNv_3, if_neg (by omega)])
    rw [gSa_Mp s, e2, s.1 5 (by decide), gNv_3]
    by_cases c : (k : Int) = V 0 9
    · rw [if_pos c, show k = (V 0 9).toNat by omega]
      exact ⟨by have := h.1.2; omega, h.2.2⟩
    · rw [if_neg c]; exact hA k (by omega)
  · unfold gSn
    rw [gNv_9, show (V 0 9 + 1).toNat = (V 0 9).toNat + 1 by omega]
    show gNi (gNv V g) (gRp (gNv V g) (V 0 9).toNat) (gNv V g 3 ((V 0 9).toNat : Nat)) = _
    rw [e, gSa_Ni s, gNv_3, if_pos (by omega)]
def sp128 (V : zMm) (g : Int) : Int := if ¬ V 0 10 = 0 ∧ (g = -1 ∨ ((0 ≤ g ∧ g < V 0 5) ∧ 0 < vT V g)) then (if V 0 9 < 40 ∧ gMp V (gSn V) g = 1 then gTk V (gS1 (gSn V) g) else -5) else -2
/-- behind the call: the shire in use is V1 -/
def gV1 (V : zMm) (ok : Prop) (V' V1 : zMm) : Prop := (ok → V1 = V') ∧ (¬ ok → V1 = V)
theorem gz128 {d : Nat} {m : zMm} {g : Int} {V V1 : zMm} (hI : gI V m) (hg : -2147483648 ≤ g ∧ g < 2147483648) (h1 : gV1 V (gNk V g) (gNv V g) V1) : zC (d + 6) 128 [.inr (.inr 0), .inl g] m (fun r' m' => r' = some (.inl (sp128 V g)) ∧ gI V1 m' ∧ gZ m m') := by
  refine ze128 ?_
  have hb := hI.1.1.1
  have hk := (gI_k hI).1
  have hk0 := (gI_k hI).2
  unfold sp128
  by_cases c1 : V 0 10 = 0
  · have n : ¬ gNk V g := fun z => z.1.1 c1
    rw [if_neg (fun z => z.1 c1), h1.2 n]
    simp +contextual (disch := (first | omega | assumption | decide)) only [↓zbrT, ↓zbrF, zw128_0, zw128_1, zw128_2, zw128_3, zw128_4, zw128_5, zw128_6, zw128_7, zr_1, zr_3, zr_7, zr_10, zr_12, zr_13, zr_21, zr_26, zr_46, zr_50, zr_50b, zr_55, zr_58, zr_62, zr_68, zr_70, zlg_0, zlg_s, zrc_1, zrc_s, zcat_n, zcat_i, zcat_l, zcat_r, zkd_0, zkd_20, zkd_42, zkd_43, zkd_45, zkd_48, zkd_51, zkd_53, zkd_55, zkd_57, zkd_59, zkd_a50, zln_42, zrf_0_2, zrf_0_4, zrf_0_6, zrf_0_9, Int.cast_ofNat_Int, Int.reduceAdd, zbd, zw_id, zmu_same, zmu_c, zmu_i, false_and, and_false, true_and, and_true, true_or, or_true, false_or, or_false, Option.toList, List.nil_append, List.cons_append, zif0, zif1, zif01, zem1, zem2, Int.reduceEq, Int.reduceLT, Int.reduceLE, Int.reduceNeg, Int.reduceSub, Int.reduceMul, if_true, if_false, not_false_eq_true, not_true_eq_false, true_implies, false_implies, Classical.not_not, Nat.reduceAdd, Nat.reduceLeDiff, zq74, gA_0 hI.1.2.1, gA_1 hI.1.2.1, gA_2 hI.1.2.1, gA_3 hI.1.2.1, gA_4 hI.1.2.1, gA_5 hI.1.2.1, gA_6 hI.1.2.1, gA_7 hI.1.2.1, gA_8 hI.1.2.1, gA_9 hI.1.2.1, gA_r0 hI.1.2.1, gA_r1 hI.1.2.1, gA_r2 hI.1.2.1, gA_r3 hI.1.2.1, gA_f0 hI.1.2.1, gA_f1 hI.1.2.1, gA_f2 hI.1.2.1, gA_f3 hI.1.2.1, gA_f4 hI.1.2.1, gA_d hI.1, gI_s0 hI, gI_s1 hI, gI_s2 hI, gI_s3 hI, gI_s4 hI, gI_s5 hI, gI_n hI, if_pos c1]
    exact ⟨hI, gZ_refl⟩
  · by_cases c2 : g = -1 ∨ ((0 ≤ g ∧ g < V 0 5) ∧ 0 < vT V g)
    · rw [if_pos ⟨c1, c2⟩]
      have go : zWP (zEx (d + 5)) 128 4 [some (.inr (.inr 0)), some (.inl g)] [] m (fun r' m' => r' = some (.inl (if V 0 9 < 40 ∧ gMp V (gSn V) g = 1 then gTk V (gS1 (gSn V) g) else -5)) ∧ gI V1 m' ∧ gZ m m') := by
        by_cases c3 : V 0 9 < 40
        · rcases gMp_01 V (gSn V) g with z | z
          · have n : ¬ gNk V g := fun y => by have := y.2.2; omega
            rw [if_neg (fun y => by have := y.2; omega), h1.2 n]
            simp +contextual (disch := (first | omega | assumption | decide)) only [↓zbrT, ↓zbrF, zw128_0, zw128_1, zw128_2, zw128_3, zw128_4, zw128_5, zw128_6, zw128_7, zr_1, zr_3, zr_7, zr_10, zr_12, zr_13, zr_21, zr_26, zr_46, zr_50, zr_50b, zr_55, zr_58, zr_62, zr_68, zr_70, zlg_0, zlg_s, zrc_1, zrc_s, zcat_n, zcat_i, zcat_l, zcat_r, zkd_0, zkd_20, zkd_42, zkd_43, zkd_45, zkd_48, zkd_51, zkd_53, zkd_55, zkd_57, zkd_59, zkd_a50, zln_42, zrf_0_2, zrf_0_4, zrf_0_6, zrf_0_9, Int.cast_ofNat_Int, Int.reduceAdd, zbd, zw_id, zmu_same, zmu_c, zmu_i, false_and, and_false, true_and, and_true, true_or, or_true, false_or, or_false, Option.toList, List.nil_append, List.cons_append, zif0, zif1, zif01, zem1, zem2, Int.reduceEq, Int.reduceLT, Int.reduceLE, Int.reduceNeg, Int.reduceSub, Int.reduceMul, if_true, if_false, not_false_eq_true, not_true_eq_false, true_implies, false_implies, Classical.not_not, Nat.reduceAdd, Nat.reduceLeDiff, gA_0 hI.1.2.1, gA_1 hI.1.2.1, gA_2 hI.1.2.1, gA_3 hI.1.2.1, gA_4 hI.1.2.1, gA_5 hI.1.2.1, gA_6 hI.1.2.1, gA_7 hI.1.2.1, gA_8 hI.1.2.1, gA_9 hI.1.2.1, gA_r0 hI.1.2.1, gA_r1 hI.1.2.1, gA_r2 hI.1.2.1, gA_r3 hI.1.2.1, gA_f0 hI.1.2.1, gA_f1 hI.1.2.1, gA_f2 hI.1.2.1, gA_f3 hI.1.2.1, gA_f4 hI.1.2.1, gA_d hI.1, gI_s0 hI, gI_s1 hI, gI_s2 hI, gI_s3 hI, gI_s4 hI, gI_s5 hI, gI_n hI, zq45 hI.1 gStc_43 hI.2.2.2.1 hk, z]
            exact ⟨hI, gZ_refl⟩
          · have n : gNk V g := ⟨⟨c1, c2⟩, c3, z⟩
            have nv := gNv_ok hI.1.1 hI.2.1 n
            rw [if_pos ⟨c3, z⟩, h1.1 n]
            simp +contextual (disch := (first | omega | assumption | decide)) only [↓zbrT, ↓zbrF, zw128_0, zw128_1, zw128_2, zw128_3, zw128_4, zw128_5, zw128_6, zw128_7, zr_1, zr_3, zr_7, zr_10, zr_12, zr_13, zr_21, zr_26, zr_46, zr_50, zr_50b, zr_55, zr_58, zr_62, zr_68, zr_70, zlg_0, zlg_s, zrc_1, zrc_s, zcat_n, zcat_i, zcat_l, zcat_r, zkd_0, zkd_20, zkd_42, zkd_43, zkd_45, zkd_48, zkd_51, zkd_53, zkd_55, zkd_57, zkd_59, zkd_a50, zln_42, zrf_0_2, zrf_0_4, zrf_0_6, zrf_0_9, Int.cast_ofNat_Int, Int.reduceAdd, zbd, zw_id, zmu_same, zmu_c, zmu_i, false_and, and_false, true_and, and_true, true_or, or_true, false_or, or_false, Option.toList, List.nil_append, List.cons_append, zif0, zif1, zif01, zem1, zem2, Int.reduceEq, Int.reduceLT, Int.reduceLE, Int.reduceNeg, Int.reduceSub, Int.reduceMul, if_true, if_false, not_false_eq_true, not_true_eq_false, true_implies, false_implies, Classical.not_not, Nat.reduceAdd, Nat.reduceLeDiff, gA_0 hI.1.2.1, gA_1 hI.1.2.1, gA_2 hI.1.2.1, gA_3 hI.1.2.1, gA_4 hI.1.2.1, gA_5 hI.1.2.1, gA_6 hI.1.2.1, gA_7 hI.1.2.1, gA_8 hI.1.2.1, gA_9 hI.1.2.1, gA_r0 hI.1.2.1, gA_r1 hI.1.2.1, gA_r2 hI.1.2.1, gA_r3 hI.1.2.1, gA_f0 hI.1.2.1, gA_f1 hI.1.2.1, gA_f2 hI.1.2.1, gA_f3 hI.1.2.1, gA_f4 hI.1.2.1, gA_d hI.1, gI_s0 hI, gI_s1 hI, gI_s2 hI, gI_s3 hI, gI_s4 hI, gI_s5 hI, gI_n hI, zq45 hI.1 gStc_43 hI.2.2.2.1 hk, z, zq27]
            have fr : ∀ c i, c ≠ 42 ∧ c ≠ 0 ∧ c ≠ 48 → zmu (zmu (zmu m 42 (V 0 9) g) 0 5 (V 0 9 + 1)) 48 3 0 c i = m c i := fun c i hc => by rw [zmu_c hc.2.2, zmu_c hc.2.1, zmu_c hc.1]
            have hA1 : gA V (zmu (zmu (zmu m 42 (V 0 9) g) 0 5 (V 0 9 + 1)) 48 3 0) := gA_of hI.1 (fun c i a b => fr c i (by omega))
            have hS1 : gSt (gSn V) 43 (zmu (zmu (zmu m 42 (V 0 9) g) 0 5 (V 0 9 + 1)) 48 3 0) := gSt_of hI.2.2.2.1 (fun i => fr 43 i (by decide)) (fun i => fr _ i (by decide))
            refine gK (gz46 hA1 gStc_43 hS1 hk (gMp_lg z).1 (by omega)) rfl rfl (Nat.le_of_ble_eq_true rfl) ?_
            rintro _ m2 ⟨rfl, hA2, hS2, hE2⟩
            (try simp +contextual (disch := (first | omega | assumption | decide)) only [↓zbrT, ↓zbrF, zw128_0, zw128_1, zw128_2, zw128_3, zw128_4, zw128_5, zw128_6, zw128_7, zr_1, zr_3, zr_7, zr_10, zr_12, zr_13, zr_21, zr_26, zr_46, zr_50, zr_50b, zr_55, zr_58, zr_62, zr_68, zr_70, zlg_0, zlg_s, zrc_1, zrc_s, zcat_n, zcat_i, zcat_l, zcat_r, zkd_0, zkd_20, zkd_42, zkd_43, zkd_45, zkd_48, zkd_51, zkd_53, zkd_55, zkd_57, zkd_59, zkd_a50, zln_42, zrf_0_2, zrf_0_4, zrf_0_6, zrf_0_9, Int.cast_ofNat_Int, Int.reduceAdd, zbd, zw_id, zmu_same, zmu_c, zmu_i, false_and, and_false, true_and, and_true, true_or, or_true, false_or, or_false, Option.toList, List.nil_append, List.cons_append, zif0, zif1, zif01, zem1, zem2, Int.reduceEq, Int.reduceLT, Int.reduceLE, Int.reduceNeg, Int.reduceSub, Int.reduceMul, if_true, if_false, not_false_eq_true, not_true_eq_false, true_implies, false_implies, Classical.not_not, Nat.reduceAdd, Nat.reduceLeDiff])
            have res : gI (gNv V g) m2 ∧ gZ m m2 := by
              refine ⟨⟨gSa_gA gNv_same nv.1 hA2, nv.2.1, ⟨?_, fun k a b => ?_⟩, ?_, ?_⟩, fun c i hc => ?_⟩
              · rw [hE2 0 5 (by decide), zmu_c (by decide), zmu_same, gNv_9]
              · rw [gNv_9] at b
                rw [hE2 42 k (by decide), zmu_c (by decide), zmu_c (by decide), zmu_ci, gNv_3]
                by_cases e : k = V 0 9
                · rw [if_pos e, if_pos e]
                · rw [if_neg e, if_neg e]; exact hI.2.2.1.2 k a (by omega)
              · rw [nv.2.2]; exact hS2
              · left
                rw [hE2 48 3 (by decide), zmu_same]
              · rw [hE2 c i (by omega), fr c i (by omega)]
            (first | exact res | exact ⟨rfl, res⟩)
        · have n : ¬ gNk V g := fun y => c3 y.2.1
          rw [if_neg (fun y => c3 y.1), h1.2 n]
          simp +contextual (disch := (first | omega | assumption | decide)) only [↓zbrT, ↓zbrF, zw128_0, zw128_1, zw128_2, zw128_3, zw128_4, zw128_5, zw128_6, zw128_7, zr_1, zr_3, zr_7, zr_10, zr_12, zr_13, zr_21, zr_26, zr_46, zr_50, zr_50b, zr_55, zr_58, zr_62, zr_68, zr_70, zlg_0, zlg_s, zrc_1, zrc_s, zcat_n, zcat_i, zcat_l, zcat_r, zkd_0, zkd_20, zkd_42, zkd_43, zkd_45, zkd_48, zkd_51, zkd_53, zkd_55, zkd_57, zkd_59, zkd_a50, zln_42, zrf_0_2, zrf_0_4, zrf_0_6, zrf_0_9, Int.cast_ofNat_Int, Int.reduceAdd, zbd, zw_id, zmu_same, zmu_c, zmu_i, false_and, and_false, true_and, and_true, true_or, or_true, false_or, or_false, Option.toList, List.nil_append, List.cons_append, zif0, zif1, zif01, zem1, zem2, Int.reduceEq, Int.reduceLT, Int.reduceLE, Int.reduceNeg, Int.reduceSub, Int.reduceMul, if_true, if_false, not_false_eq_true, not_true_eq_false, true_implies, false_implies, Classical.not_not, Nat.reduceAdd, Nat.reduceLeDiff, gA_0 hI.1.2.1, gA_1 hI.1.2.1, gA_2 hI.1.2.1, gA_3 hI.1.2.1, gA_4 hI.1.2.1, gA_5 hI.1.2.1, gA_6 hI.1.2.1, gA_7 hI.1.2.1, gA_8 hI.1.2.1, gA_9 hI.1.2.1, gA_r0 hI.1.2.1, gA_r1 hI.1.2.1, gA_r2 hI.1.2.1, gA_r3 hI.1.2.1, gA_f0 hI.1.2.1, gA_f1 hI.1.2.1, gA_f2 hI.1.2.1, gA_f3 hI.1.2.1, gA_f4 hI.1.2.1, gA_d hI.1, gI_s0 hI, gI_s1 hI, gI_s2 hI, gI_s3 hI, gI_s4 hI, gI_s5 hI, gI_n hI]
          exact ⟨hI, gZ_refl⟩
      by_cases c0 : g = -1
      · simp +contextual (disch := (first | omega | assumption | decide)) only [↓zbrT, ↓zbrF, zw128_0, zw128_1, zw128_2, zw128_3, zw128_5, zw128_6, zw128_7, zr_1, zr_3, zr_7, zr_10, zr_12, zr_13, zr_21, zr_26, zr_46, zr_50, zr_50b, zr_55, zr_58, zr_62, zr_68, zr_70, zlg_0, zlg_s, zrc_1, zrc_s, zcat_n, zcat_i, zcat_l, zcat_r, zkd_0, zkd_20, zkd_42, zkd_43, zkd_45, zkd_48, zkd_51, zkd_53, zkd_55, zkd_57, zkd_59, zkd_a50, zln_42, zrf_0_2, zrf_0_4, zrf_0_6, zrf_0_9, Int.cast_ofNat_Int, Int.reduceAdd, zbd, zw_id, zmu_same, zmu_c, zmu_i, false_and, and_false, true_and, and_true, true_or, or_true, false_or, or_false, Option.toList, List.nil_append, List.cons_append, zif0, zif1, zif01, zem1, zem2, Int.reduceEq, Int.reduceLT, Int.reduceLE, Int.reduceNeg, Int.reduceSub, Int.reduceMul, if_true, if_false, not_false_eq_true, not_true_eq_false, true_implies, false_implies, Classical.not_not, Nat.reduceAdd, Nat.reduceLeDiff, zq74, gA_0 hI.1.2.1, gA_1 hI.1.2.1, gA_2 hI.1.2.1, gA_3 hI.1.2.1, gA_4 hI.1.2.1, gA_5 hI.1.2.1, gA_6 hI.1.2.1, gA_7 hI.1.2.1, gA_8 hI.1.2.1, gA_9 hI.1.2.1, gA_r0 hI.1.2.1, gA_r1 hI.1.2.1, gA_r2 hI.1.2.1, gA_r3 hI.1.2.1, gA_f0 hI.1.2.1, gA_f1 hI.1.2.1, gA_f2 hI.1.2.1, gA_f3 hI.1.2.1, gA_f4 hI.1.2.1, gA_d hI.1, gI_s0 hI, gI_s1 hI, gI_s2 hI, gI_s3 hI, gI_s4 hI, gI_s5 hI, gI_n hI, if_neg c1, c0]
        rw [c0] at go
        exact go
      · have cc : (0 ≤ g ∧ g < V 0 5) ∧ 0 < vT V g := by omega
        simp +contextual (disch := (first | omega | assumption | decide)) only [↓zbrT, ↓zbrF, zw128_0, zw128_1, zw128_2, zw128_3, zw128_5, zw128_6, zw128_7, zr_1, zr_3, zr_7, zr_10, zr_12, zr_13, zr_21, zr_26, zr_46, zr_50, zr_50b, zr_55, zr_58, zr_62, zr_68, zr_70, zlg_0, zlg_s, zrc_1, zrc_s, zcat_n, zcat_i, zcat_l, zcat_r, zkd_0, zkd_20, zkd_42, zkd_43, zkd_45, zkd_48, zkd_51, zkd_53, zkd_55, zkd_57, zkd_59, zkd_a50, zln_42, zrf_0_2, zrf_0_4, zrf_0_6, zrf_0_9, Int.cast_ofNat_Int, Int.reduceAdd, zbd, zw_id, zmu_same, zmu_c, zmu_i, false_and, and_false, true_and, and_true, true_or, or_true, false_or, or_false, Option.toList, List.nil_append, List.cons_append, zif0, zif1, zif01, zem1, zem2, Int.reduceEq, Int.reduceLT, Int.reduceLE, Int.reduceNeg, Int.reduceSub, Int.reduceMul, if_true, if_false, not_false_eq_true, not_true_eq_false, true_implies, false_implies, Classical.not_not, Nat.reduceAdd, Nat.reduceLeDiff, zq74, gA_0 hI.1.2.1, gA_1 hI.1.2.1, gA_2 hI.1.2.1, gA_3 hI.1.2.1, gA_4 hI.1.2.1, gA_5 hI.1.2.1, gA_6 hI.1.2.1, gA_7 hI.1.2.1, gA_8 hI.1.2.1, gA_9 hI.1.2.1, gA_r0 hI.1.2.1, gA_r1 hI.1.2.1, gA_r2 hI.1.2.1, gA_r3 hI.1.2.1, gA_f0 hI.1.2.1, gA_f1 hI.1.2.1, gA_f2 hI.1.2.1, gA_f3 hI.1.2.1, gA_f4 hI.1.2.1, gA_d hI.1, gI_s0 hI, gI_s1 hI, gI_s2 hI, gI_s3 hI, gI_s4 hI, gI_s5 hI, gI_n hI, if_neg c1, c0, zq77L hI.1, if_pos cc]
        exact go
    · have n : ¬ gNk V g := fun z => c2 z.1.2
      have c0 : ¬ g = -1 := fun z => c2 (Or.inl z)
      have cc : ¬ ((0 ≤ g ∧ g < V 0 5) ∧ 0 < vT V g) := fun z => c2 (Or.inr z)
      rw [if_neg (fun z => c2 z.2), h1.2 n]
      simp +contextual (disch := (first | omega | assumption | decide)) only [↓zbrT, ↓zbrF, zw128_0, zw128_1, zw128_2, zw128_3, zw128_4, zw128_5, zw128_6, zw128_7, zr_1, zr_3, zr_7, zr_10, zr_12, zr_13, zr_21, zr_26, zr_46, zr_50, zr_50b, zr_55, zr_58, zr_62, zr_68, zr_70, zlg_0, zlg_s, zrc_1, zrc_s, zcat_n, zcat_i, zcat_l, zcat_r, zkd_0, zkd_20, zkd_42, zkd_43, zkd_45, zkd_48, zkd_51, zkd_53, zkd_55, zkd_57, zkd_59, zkd_a50, zln_42, zrf_0_2, zrf_0_4, zrf_0_6, zrf_0_9, Int.cast_ofNat_Int, Int.reduceAdd, zbd, zw_id, zmu_same, zmu_c, zmu_i, false_and, and_false, true_and, and_true, true_or, or_true, false_or, or_false, Option.toList, List.nil_append, List.cons_append, zif0, zif1, zif01, zem1, zem2, Int.reduceEq, Int.reduceLT, Int.reduceLE, Int.reduceNeg, Int.reduceSub, Int.reduceMul, if_true, if_false, not_false_eq_true, not_true_eq_false, true_implies, false_implies, Classical.not_not, Nat.reduceAdd, Nat.reduceLeDiff, zq74, gA_0 hI.1.2.1, gA_1 hI.1.2.1, gA_2 hI.1.2.1, gA_3 hI.1.2.1, gA_4 hI.1.2.1, gA_5 hI.1.2.1, gA_6 hI.1.2.1, gA_7 hI.1.2.1, gA_8 hI.1.2.1, gA_9 hI.1.2.1, gA_r0 hI.1.2.1, gA_r1 hI.1.2.1, gA_r2 hI.1.2.1, gA_r3 hI.1.2.1, gA_f0 hI.1.2.1, gA_f1 hI.1.2.1, gA_f2 hI.1.2.1, gA_f3 hI.1.2.1, gA_f4 hI.1.2.1, gA_d hI.1, gI_s0 hI, gI_s1 hI, gI_s2 hI, gI_s3 hI, gI_s4 hI, gI_s5 hI, gI_n hI, if_neg c1, c0, zq77L hI.1, if_neg cc]
      exact ⟨hI, gZ_refl⟩
theorem gz270 {d : Nat} {m : zMm} {g : Int} {V V1 : zMm} (hQ : gQ V m) (h1 : gV1 V (gNk V g) (gNv V g) V1) : zC (d + 14) 270 [.inr (.inr 131), .inl g] m (fun r' m' => r' = some (.inl (sp128 V g)) ∧ gQ V1 m' ∧ gZm m m') := by
  refine ze270 ?_
  have hb := hQ.1.1
  have hY0 : gY m (zmu m 131 0 0) := gY_u (by decide)
  have hQ0 := gQ_y hQ hY0
  have h5 : 0 ≤ zmu m 131 0 0 138 5 ∧ zmu m 131 0 0 138 5 ≤ 8 := by rw [gM_5 hQ0.2.2.1]; omega
  have h6 : 0 ≤ zmu m 131 0 0 138 6 ∧ zmu m 131 0 0 138 6 ≤ 6 := by rw [gM_6 hQ0.2.2.1]; omega
  have h0 : 0 ≤ zmu m 131 0 0 138 0 ∧ zmu m 131 0 0 138 0 ≤ 6 := by rw [gM_0 hQ0.2.2.1]; omega
  have hk := gSk hQ
  have ok0 := gSn_0 hQ.1 hQ.2.1
  unfold sp128
  by_cases c1 : V 0 10 = 0
  · have n : ¬ gNk V g := fun z => z.1.1 c1
    rw [if_neg (fun z => z.1 c1), h1.2 n]
    simp +contextual (disch := (first | omega | assumption | decide)) only [↓zbrT, ↓zbrF, zw270_0, zw270_1, zw270_2, zw270_3, zw270_4, zw270_5, zw270_6, zw270_7, zr_1, zr_3, zr_7, zr_12, zr_13, zr_16, zr_21, zr_26, zr_46, zr_51, zr_55, zr_56, zr_61, zr_62, zr_68, zr_70, zlg_0, zlg_s, zrc_1, zrc_s, zcat_n, zcat_i, zcat_l, zcat_r, zkd_131, zkd_138, zkd_141, zln_138, zln_141, zrf_131_17, zrf_131_20, Int.cast_ofNat_Int, Int.reduceAdd, zbd, zw_id, zmu_same, zmu_c, zmu_i, false_and, and_false, true_and, and_true, true_or, or_true, false_or, or_false, Option.toList, List.nil_append, List.cons_append, zif0, zif1, zif01, zem1, zem2, Int.reduceEq, Int.reduceLT, Int.reduceLE, Int.reduceNeg, Int.reduceSub, Int.reduceMul, if_true, if_false, not_false_eq_true, not_true_eq_false, true_implies, false_implies, Classical.not_not, Nat.reduceAdd, Nat.reduceLeDiff, zq202, gM_0 hQ.2.2.1, gM_1 hQ.2.2.1, gM_2 hQ.2.2.1, gM_3 hQ.2.2.1, gM_4 hQ.2.2.1, gM_5 hQ.2.2.1, gM_6 hQ.2.2.1, gM_7 hQ.2.2.1, gM_8 hQ.2.2.1, gM_9 hQ.2.2.1, gM_10 hQ.2.2.1, gM_r0 hQ.2.2.1, gM_r1 hQ.2.2.1, gM_r2 hQ.2.2.1, gM_r3 hQ.2.2.1, gM_f0 hQ.2.2.1, gM_f1 hQ.2.2.1, gM_f2 hQ.2.2.1, gM_f3 hQ.2.2.1, gM_f4 hQ.2.2.1]
    exact ⟨hQ0, gZm_y hY0⟩
  · by_cases c2 : g = -1 ∨ ((0 ≤ g ∧ g < V 0 5) ∧ 0 < vT V g)
    · rw [if_pos ⟨c1, c2⟩]
      have hgg : g = -1 ∨ (0 ≤ g ∧ g < V 0 5) := by omega
      have go : zWP (zEx (d + 13)) 270 4 [some (.inr (.inr 131)), some (.inl g)] [] (zmu m 131 0 0) (fun r' m' => r' = some (.inl (if V 0 9 < 40 ∧ gMp V (gSn V) g = 1 then gTk V (gS1 (gSn V) g) else -5)) ∧ gQ V1 m' ∧ gZm m m') := by
        simp +contextual (disch := (first | omega | assumption | decide)) only [↓zbrT, ↓zbrF, zw270_0, zw270_1, zw270_2, zw270_3, zw270_4, zw270_5, zw270_6, zw270_7, zr_1, zr_3, zr_7, zr_12, zr_13, zr_16, zr_21, zr_26, zr_46, zr_51, zr_55, zr_56, zr_61, zr_62, zr_68, zr_70, zlg_0, zlg_s, zrc_1, zrc_s, zcat_n, zcat_i, zcat_l, zcat_r, zkd_131, zkd_138, zkd_141, zln_138, zln_141, zrf_131_17, zrf_131_20, Int.cast_ofNat_Int, Int.reduceAdd, zbd, zw_id, zmu_same, zmu_c, zmu_i, false_and, and_false, true_and, and_true, true_or, or_true, false_or, or_false, Option.toList, List.nil_append, List.cons_append, zif0, zif1, zif01, zem1, zem2, Int.reduceEq, Int.reduceLT, Int.reduceLE, Int.reduceNeg, Int.reduceSub, Int.reduceMul, if_true, if_false, not_false_eq_true, not_true_eq_false, true_implies, false_implies, Classical.not_not, Nat.reduceAdd, Nat.reduceLeDiff]
        refine gK (gzL hQ0) rfl rfl (Nat.le_of_ble_eq_true rfl) ?_
        rintro _ m1 ⟨rfl, hL, hY⟩
        have hQ1 := gQ_y hQ0 hY
        have fin : gY m m1 := gY_tr hY0 hY
        rcases gMp_01 V (gSn V) g with z | z
        · have n : ¬ gNk V g := fun y => by have := y.2.2; omega
          rw [if_neg (fun y => by have := y.2; omega), h1.2 n]
          simp +contextual (disch := (first | omega | assumption | decide)) only [↓zbrT, ↓zbrF, zw270_0, zw270_1, zw270_2, zw270_3, zw270_4, zw270_5, zw270_6, zw270_7, zr_1, zr_3, zr_7, zr_12, zr_13, zr_16, zr_21, zr_26, zr_46, zr_51, zr_55, zr_56, zr_61, zr_62, zr_68, zr_70, zlg_0, zlg_s, zrc_1, zrc_s, zcat_n, zcat_i, zcat_l, zcat_r, zkd_131, zkd_138, zkd_141, zln_138, zln_141, zrf_131_17, zrf_131_20, Int.cast_ofNat_Int, Int.reduceAdd, zbd, zw_id, zmu_same, zmu_c, zmu_i, false_and, and_false, true_and, and_true, true_or, or_true, false_or, or_false, Option.toList, List.nil_append, List.cons_append, zif0, zif1, zif01, zem1, zem2, Int.reduceEq, Int.reduceLT, Int.reduceLE, Int.reduceNeg, Int.reduceSub, Int.reduceMul, if_true, if_false, not_false_eq_true, not_true_eq_false, true_implies, false_implies, Classical.not_not, Nat.reduceAdd, Nat.reduceLeDiff, zq220 hQ.1 hQ1.2.2.1 hL.2 hL.1 hk hgg, z]
          exact ⟨hQ1, gZm_y fin⟩
        · by_cases c3 : V 0 9 = 40
          · have n : ¬ gNk V g := fun y => by have := y.2.1; omega
            rw [if_neg (fun y => by have := y.1; omega), h1.2 n]
            simp +contextual (disch := (first | omega | assumption | decide)) only [↓zbrT, ↓zbrF, zw270_0, zw270_1, zw270_2, zw270_3, zw270_4, zw270_5, zw270_6, zw270_7, zr_1, zr_3, zr_7, zr_12, zr_13, zr_16, zr_21, zr_26, zr_46, zr_51, zr_55, zr_56, zr_61, zr_62, zr_68, zr_70, zlg_0, zlg_s, zrc_1, zrc_s, zcat_n, zcat_i, zcat_l, zcat_r, zkd_131, zkd_138, zkd_141, zln_138, zln_141, zrf_131_17, zrf_131_20, Int.cast_ofNat_Int, Int.reduceAdd, zbd, zw_id, zmu_same, zmu_c, zmu_i, false_and, and_false, true_and, and_true, true_or, or_true, false_or, or_false, Option.toList, List.nil_append, List.cons_append, zif0, zif1, zif01, zem1, zem2, Int.reduceEq, Int.reduceLT, Int.reduceLE, Int.reduceNeg, Int.reduceSub, Int.reduceMul, if_true, if_false, not_false_eq_true, not_true_eq_false, true_implies, false_implies, Classical.not_not, Nat.reduceAdd, Nat.reduceLeDiff, zq220 hQ.1 hQ1.2.2.1 hL.2 hL.1 hk hgg, z, gM_0 hQ1.2.2.1, gM_1 hQ1.2.2.1, gM_2 hQ1.2.2.1, gM_3 hQ1.2.2.1, gM_4 hQ1.2.2.1, gM_5 hQ1.2.2.1, gM_6 hQ1.2.2.1, gM_7 hQ1.2.2.1, gM_8 hQ1.2.2.1, gM_9 hQ1.2.2.1, gM_10 hQ1.2.2.1, gM_r0 hQ1.2.2.1, gM_r1 hQ1.2.2.1, gM_r2 hQ1.2.2.1, gM_r3 hQ1.2.2.1, gM_f0 hQ1.2.2.1, gM_f1 hQ1.2.2.1, gM_f2 hQ1.2.2.1, gM_f3 hQ1.2.2.1, gM_f4 hQ1.2.2.1, c3]
            exact ⟨hQ1, gZm_y fin⟩
          · have n : gNk V g := ⟨⟨c1, c2⟩, by omega, z⟩
            have nv := gNv_ok hQ.1 hQ.2.1 n
            have e9 : zmu m1 141 (V 0 9) g 138 9 = V 0 9 := by rw [zmu_c (by decide)]; exact gM_9 hQ1.2.2.1
            rw [if_pos ⟨by omega, z⟩, h1.1 n]
            simp +contextual (disch := (first | omega | assumption | decide)) only [↓zbrT, ↓zbrF, zw270_0, zw270_1, zw270_2, zw270_3, zw270_4, zw270_5, zw270_6, zw270_7, zr_1, zr_3, zr_7, zr_12, zr_13, zr_16, zr_21, zr_26, zr_46, zr_51, zr_55, zr_56, zr_61, zr_62, zr_68, zr_70, zlg_0, zlg_s, zrc_1, zrc_s, zcat_n, zcat_i, zcat_l, zcat_r, zkd_131, zkd_138, zkd_141, zln_138, zln_141, zrf_131_17, zrf_131_20, Int.cast_ofNat_Int, Int.reduceAdd, zbd, zw_id, zmu_same, zmu_c, zmu_i, false_and, and_false, true_and, and_true, true_or, or_true, false_or, or_false, Option.toList, List.nil_append, List.cons_append, zif0, zif1, zif01, zem1, zem2, Int.reduceEq, Int.reduceLT, Int.reduceLE, Int.reduceNeg, Int.reduceSub, Int.reduceMul, if_true, if_false, not_false_eq_true, not_true_eq_false, true_implies, false_implies, Classical.not_not, Nat.reduceAdd, Nat.reduceLeDiff, zq220 hQ.1 hQ1.2.2.1 hL.2 hL.1 hk hgg, z, gM_0 hQ1.2.2.1, gM_1 hQ1.2.2.1, gM_2 hQ1.2.2.1, gM_3 hQ1.2.2.1, gM_4 hQ1.2.2.1, gM_5 hQ1.2.2.1, gM_6 hQ1.2.2.1, gM_7 hQ1.2.2.1, gM_8 hQ1.2.2.1, gM_9 hQ1.2.2.1, gM_10 hQ1.2.2.1, gM_r0 hQ1.2.2.1, gM_r1 hQ1.2.2.1, gM_r2 hQ1.2.2.1, gM_r3 hQ1.2.2.1, gM_f0 hQ1.2.2.1, gM_f1 hQ1.2.2.1, gM_f2 hQ1.2.2.1, gM_f3 hQ1.2.2.1, gM_f4 hQ1.2.2.1, c3]
            have hM2 : gMo (gNv V g) (zmu (zmu m1 141 (V 0 9) g) 138 9 (V 0 9 + 1)) := gSa_Mo gNv_same hQ1.2.2.1 (fun c i a b e => by
              unfold zmu
              rw [if_neg e, if_neg (by omega)]) (by rw [zmu_same, gNv_9])
            have hS2 : gMs (gNv V g) (gSn V) (zmu (zmu m1 141 (V 0 9) g) 138 9 (V 0 9 + 1)) := by
              have q := gMs_of hL.1 (m' := zmu (zmu m1 141 (V 0 9) g) 138 9 (V 0 9 + 1)) (fun i a b => by rw [zmu_c (by decide), zmu_c (by decide)]) (fun i => by rw [zmu_c (by decide), zmu_c (by decide)])
              refine ⟨q.1, ?_⟩
              rw [gNv_same.1 5 (by decide), gSa_T gNv_same]; exact q.2
            have hF2 : gFr (gNv V g) (zmu (zmu m1 141 (V 0 9) g) 138 9 (V 0 9 + 1)) := by
              have q := gFr_of hL.2 (m' := zmu (zmu m1 141 (V 0 9) g) 138 9 (V 0 9 + 1)) (fun i => by rw [zmu_c (by decide), zmu_c (by decide)])
              unfold gFr gDm at q ⊢
              rw [gSa_A gNv_same, gSa_B gNv_same, gSa_M gNv_same, gNv_same.1 5 (by decide)]; exact q
            have hk2 : gSok (gNv V g) (gSn V) := by
              unfold gSok at hk ⊢
              rw [gNv_same.1 5 (by decide), gNv_same.1 10 (by decide), gNv_same.1 0 (by decide), gSa_T gNv_same]; exact hk
            refine gK (gz221 nv.1 hM2 hF2 hS2 hk2 (gMp_lg z).1 (by omega)) rfl rfl (Nat.le_of_ble_eq_true rfl) ?_
            rintro _ m3 ⟨rfl, hS3, hF3, hE3⟩
            rw [gSa_Tk gNv_same]
            (try simp +contextual (disch := (first | omega | assumption | decide)) only [↓zbrT, ↓zbrF, zw270_0, zw270_1, zw270_2, zw270_3, zw270_4, zw270_5, zw270_6, zw270_7, zr_1, zr_3, zr_7, zr_12, zr_13, zr_16, zr_21, zr_26, zr_46, zr_51, zr_55, zr_56, zr_61, zr_62, zr_68, zr_70, zlg_0, zlg_s, zrc_1, zrc_s, zcat_n, zcat_i, zcat_l, zcat_r, zkd_131, zkd_138, zkd_141, zln_138, zln_141, zrf_131_17, zrf_131_20, Int.cast_ofNat_Int, Int.reduceAdd, zbd, zw_id, zmu_same, zmu_c, zmu_i, false_and, and_false, true_and, and_true, true_or, or_true, false_or, or_false, Option.toList, List.nil_append, List.cons_append, zif0, zif1, zif01, zem1, zem2, Int.reduceEq, Int.reduceLT, Int.reduceLE, Int.reduceNeg, Int.reduceSub, Int.reduceMul, if_true, if_false, not_false_eq_true, not_true_eq_false, true_implies, false_implies, Classical.not_not, Nat.reduceAdd, Nat.reduceLeDiff])
            have res : gQ (gNv V g) m3 ∧ gZm m m3 := by
              refine ⟨⟨nv.1, nv.2.1, gEn_mo hE3 hM2, fun k a b => ?_⟩, fun c i hc => ?_⟩
              · rw [gNv_9] at b
                rw [hE3 141 k (by omega), zmu_c (by decide), zmu_ci, gNv_3]
                by_cases e : k = V 0 9
                · rw [if_pos e, if_pos e]
                · rw [if_neg e, if_neg e]; exact hQ1.2.2.2 k a (by omega)
              · rw [hE3 c i (by omega)]
                unfold zmu
                rw [if_neg (by omega), if_neg (by omega)]
                exact gZm_y fin c i hc
            (first | exact res | exact ⟨rfl, res⟩)
      by_cases c0 : g = -1
      · simp +contextual (disch := (first | omega | assumption | decide)) only [↓zbrT, ↓zbrF, zw270_0, zw270_1, zw270_2, zw270_3, zw270_5, zw270_6, zw270_7, zr_1, zr_3, zr_7, zr_12, zr_13, zr_16, zr_21, zr_26, zr_46, zr_51, zr_55, zr_56, zr_61, zr_62, zr_68, zr_70, zlg_0, zlg_s, zrc_1, zrc_s, zcat_n, zcat_i, zcat_l, zcat_r, zkd_131, zkd_138, zkd_141, zln_138, zln_141, zrf_131_17, zrf_131_20, Int.cast_ofNat_Int, Int.reduceAdd, zbd, zw_id, zmu_same, zmu_c, zmu_i, false_and, and_false, true_and, and_true, true_or, or_true, false_or, or_false, Option.toList, List.nil_append, List.cons_append, zif0, zif1, zif01, zem1, zem2, Int.reduceEq, Int.reduceLT, Int.reduceLE, Int.reduceNeg, Int.reduceSub, Int.reduceMul, if_true, if_false, not_false_eq_true, not_true_eq_false, true_implies, false_implies, Classical.not_not, Nat.reduceAdd, Nat.reduceLeDiff, zq202, gM_0 hQ.2.2.1, gM_1 hQ.2.2.1, gM_2 hQ.2.2.1, gM_3 hQ.2.2.1, gM_4 hQ.2.2.1, gM_5 hQ.2.2.1, gM_6 hQ.2.2.1, gM_7 hQ.2.2.1, gM_8 hQ.2.2.1, gM_9 hQ.2.2.1, gM_10 hQ.2.2.1, gM_r0 hQ.2.2.1, gM_r1 hQ.2.2.1, gM_r2 hQ.2.2.1, gM_r3 hQ.2.2.1, gM_f0 hQ.2.2.1, gM_f1 hQ.2.2.1, gM_f2 hQ.2.2.1, gM_f3 hQ.2.2.1, gM_f4 hQ.2.2.1, c0]
        rw [c0] at go
        exact go
      · have cc : (0 ≤ g ∧ g ≤ V 0 5 - 1) ∧ 0 < vT V g := by omega
        have e3 := gM_r3 hQ.2.2.1 cc.1.1 (by omega)
        simp +contextual (disch := (first | omega | assumption | decide)) only [↓zbrT, ↓zbrF, zw270_0, zw270_1, zw270_2, zw270_3, zw270_5, zw270_6, zw270_7, zr_1, zr_3, zr_7, zr_12, zr_13, zr_16, zr_21, zr_26, zr_46, zr_51, zr_55, zr_56, zr_61, zr_62, zr_68, zr_70, zlg_0, zlg_s, zrc_1, zrc_s, zcat_n, zcat_i, zcat_l, zcat_r, zkd_131, zkd_138, zkd_141, zln_138, zln_141, zrf_131_17, zrf_131_20, Int.cast_ofNat_Int, Int.reduceAdd, zbd, zw_id, zmu_same, zmu_c, zmu_i, false_and, and_false, true_and, and_true, true_or, or_true, false_or, or_false, Option.toList, List.nil_append, List.cons_append, zif0, zif1, zif01, zem1, zem2, Int.reduceEq, Int.reduceLT, Int.reduceLE, Int.reduceNeg, Int.reduceSub, Int.reduceMul, if_true, if_false, not_false_eq_true, not_true_eq_false, true_implies, false_implies, Classical.not_not, Nat.reduceAdd, Nat.reduceLeDiff, zq202, gM_0 hQ.2.2.1, gM_1 hQ.2.2.1, gM_2 hQ.2.2.1, gM_3 hQ.2.2.1, gM_4 hQ.2.2.1, gM_5 hQ.2.2.1, gM_6 hQ.2.2.1, gM_7 hQ.2.2.1, gM_8 hQ.2.2.1, gM_9 hQ.2.2.1, gM_10 hQ.2.2.1, gM_r0 hQ.2.2.1, gM_r1 hQ.2.2.1, gM_r2 hQ.2.2.1, gM_r3 hQ.2.2.1, gM_f0 hQ.2.2.1, gM_f1 hQ.2.2.1, gM_f2 hQ.2.2.1, gM_f3 hQ.2.2.1, gM_f4 hQ.2.2.1, c0, zq204 h5, if_pos cc]
        exact go
    · have n : ¬ gNk V g := fun z => c2 z.1.2
      have c0 : ¬ g = -1 := fun z => c2 (Or.inl z)
      have cc : ¬ ((0 ≤ g ∧ g ≤ V 0 5 - 1) ∧ 0 < m 139 (4 * g + 3)) := by
        rintro ⟨y1, y2⟩
        rw [gM_r3 hQ.2.2.1 y1.1 (by omega)] at y2
        exact c2 (Or.inr ⟨by omega, y2⟩)
      have e5 := gM_5 hQ.2.2.1
      have e10 := gM_10 hQ.2.2.1
      rw [if_neg (fun z => c2 z.2), h1.2 n]
      simp +contextual (disch := (first | omega | assumption | decide)) only [↓zbrT, ↓zbrF, zw270_0, zw270_1, zw270_2, zw270_3, zw270_4, zw270_5, zw270_6, zw270_7, zr_1, zr_3, zr_7, zr_12, zr_13, zr_16, zr_21, zr_26, zr_46, zr_51, zr_55, zr_56, zr_61, zr_62, zr_68, zr_70, zlg_0, zlg_s, zrc_1, zrc_s, zcat_n, zcat_i, zcat_l, zcat_r, zkd_131, zkd_138, zkd_141, zln_138, zln_141, zrf_131_17, zrf_131_20, Int.cast_ofNat_Int, Int.reduceAdd, zbd, zw_id, zmu_same, zmu_c, zmu_i, false_and, and_false, true_and, and_true, true_or, or_true, false_or, or_false, Option.toList, List.nil_append, List.cons_append, zif0, zif1, zif01, zem1, zem2, Int.reduceEq, Int.reduceLT, Int.reduceLE, Int.reduceNeg, Int.reduceSub, Int.reduceMul, if_true, if_false, not_false_eq_true, not_true_eq_false, true_implies, false_implies, Classical.not_not, Nat.reduceAdd, Nat.reduceLeDiff, zq202, e10, c0, zq204 h5, e5, if_neg cc]
      exact ⟨hQ0, gZm_y hY0⟩
