/-! ===== another toll of one gate ===== -/
def gTo (V : zMm) (g t : Int) : zMm := zmu V 1 (4 * g + 3) t
theorem gTo_0 {V : zMm} {g t i : Int} : gTo V g t 0 i = V 0 i := zmu_c (by decide)
theorem gTo_2 {V : zMm} {g t i : Int} : gTo V g t 2 i = V 2 i := zmu_c (by decide)
theorem gTo_F {V : zMm} {g t f i : Int} : vF (gTo V g t) f i = vF V f i := by unfold vF gTo; exact zmu_c (by decide)
theorem gTo_A {V : zMm} {g t : Int} : vA (gTo V g t) = vA V := by funext r; exact zmu_i (by omega)
theorem gTo_B {V : zMm} {g t : Int} : vB (gTo V g t) = vB V := by funext r; exact zmu_i (by omega)
theorem gTo_M {V : zMm} {g t : Int} : vM (gTo V g t) = vM V := by funext r; exact zmu_i (by omega)
theorem gTo_T {V : zMm} {g t r : Int} : vT (gTo V g t) r = if r = g then t else vT V r := by
  unfold vT gTo
  rw [zmu_ci]
  by_cases c : r = g
  · rw [if_pos c, if_pos (by omega)]
  · rw [if_neg c, if_neg (by omega)]
theorem gTo_ok {V : zMm} (h : gOk V) {g t : Int} (ht : 0 ≤ t ∧ t ≤ 99) : gOk (gTo V g t) := by
  refine ⟨by simp only [gTo_0]; exact h.1, fun r a b => ?_, fun f a b => ?_⟩
  · rw [gTo_0] at b ⊢
    rw [gTo_A, gTo_B, gTo_M, gTo_T]
    have := h.2.1 r a b
    split <;> omega
  · rw [gTo_0] at b ⊢
    simp only [gTo_F]
    exact h.2.2 f a b
theorem gTo_W {V : zMm} {g t s r : Int} (hg : zbit s g = 1) : vW (gTo V g t) s r = if r = g then t * 1024 + vM V g else vW V s r := by
  unfold vW
  rw [gTo_M, gTo_T]
  by_cases c : r = g
  · subst c
    rw [if_pos rfl, if_pos rfl, if_pos hg]
  · rw [if_neg c, if_neg c]
/-- by the table without the gate's road -/
def gOv (V : zMm) (s g t p q : Int) : Int := min (gC V s g p q) (min (gC V s g p (vA V g) + (t * 1024 + vM V g) + gC V s g (vB V g) q) (gC V s g p (vB V g) + (t * 1024 + vM V g) + gC V s g (vA V g) q))
theorem gWt_c {N : Int} {a b w w' : Int → Int} {o : Int → Prop} (h : ∀ r, 0 ≤ r → r < N → o r → w r = w' r) : ∀ {l : List Int} {p q : Int}, gWk N a b o l p q → gWt w l = gWt w' l
  | [], _, _, _ => rfl
  | r :: t, _, _, ⟨h1, h2, _, h4⟩ => by
    show w r + gWt w t = w' r + gWt w' t
    rw [h r h1.1 h1.2 h2, gWt_c h h4]
theorem gOv_eq {V : zMm} (h : gOk V) {s g t p q : Int} (hg : 0 ≤ g ∧ g < V 0 5) (hs : zbit s g = 1) (ht : 0 ≤ t ∧ t ≤ 99) : (gOv V s g t p q < 268435456 ∧ gC (gTo V g t) s (-1) p q = gOv V s g t p q) ∨ (268435456 ≤ gOv V s g t p q ∧ gC (gTo V g t) s (-1) p q = 268435456) := by
  have h' := gTo_ok h (g := g) ht
  have hT := gC_cl1 h' s
  have h0 := gC_cl h s g
  have hr : ∀ r, 0 ≤ r → r < V 0 5 → True → (0 ≤ vA V r ∧ vA V r < V 0 0) ∧ 0 ≤ vB V r ∧ vB V r < V 0 0 := fun r a b _ => by have := h.2.1 r a b; omega
  rw [gTo_0, gTo_0, gTo_A, gTo_B] at hT
  have bg := h.2.1 g hg.1 hg.2
  have eg : vW (gTo V g t) s g = t * 1024 + vM V g := by rw [gTo_W hs, if_pos rfl]
  have le0 : ∀ p q, gC (gTo V g t) s (-1) p q ≤ gC V s g p q := by
    intro p q
    by_cases c : gC V s g p q < 268435456
    · obtain ⟨l, l1, l2⟩ := h0.2.2.2.2.1 p q c
      have l3 := gWt_c (w := vW V s) (w' := vW (gTo V g t) s) (fun r a b o => by rw [gTo_W hs, if_neg o]) l1
      have l4 := gCl_min hT hr (gWk_o (fun _ _ _ _ => trivial) l1)
      omega
    · have := hT.2.1 p q
      omega
  have up : gC (gTo V g t) s (-1) p q ≤ gOv V s g t p q := by
    have a1 := le0 p q
    have a2 := le0 p (vA V g)
    have a3 := le0 p (vB V g)
    have a4 := le0 (vB V g) q
    have a5 := le0 (vA V g) q
    have t1 := hT.2.2.1 p q (vA V g) bg.1.1 bg.1.2
    have t2 := hT.2.2.1 (vA V g) q (vB V g) bg.2.1.1 bg.2.1.2
    have t3 := hT.2.2.1 p q (vB V g) bg.2.1.1 bg.2.1.2
    have t4 := hT.2.2.1 (vB V g) q (vA V g) bg.1.1 bg.1.2
    have t5 := hT.2.2.2.1 g hg.1 hg.2 trivial
    rw [eg] at t5
    unfold gOv
    omega
  have lo : ∀ (l : List Int) (p : Int), gWk (V 0 5) (vA V) (vB V) (fun _ => True) l p q → gOv V s g t p q ≤ gWt (vW (gTo V g t) s) l := by
    intro l
    induction l with
    | nil =>
      intro p hp
      have e : p = q := hp
      subst e
      have := h0.1 p
      show gOv V s g t p p ≤ 0
      unfold gOv
      omega
    | cons r l ih =>
      rintro p ⟨h1, _, h3, h4⟩
      have i := ih _ h4
      show gOv V s g t p q ≤ vW (gTo V g t) s r + gWt (vW (gTo V g t) s) l
      have br := h.2.1 r h1.1 h1.2
      have z1 := h0.1 (vA V g)
      have z2 := h0.1 (vB V g)
      have n1 := h0.2.1 (vA V g) (vB V g)
      have n2 := h0.2.1 (vB V g) (vA V g)
      have n3 := h0.2.1 (vA V g) q
      have n4 := h0.2.1 (vB V g) q
      by_cases c : r = g
      · subst c
        rw [eg]
        have e : (p = vA V r ∧ gBy (vA V) (vB V) r p = vB V r) ∨ (p = vB V r ∧ gBy (vA V) (vB V) r p = vA V r) := by
          rcases h3 with e | e
          · exact Or.inl ⟨e, by rw [e]; exact gBy_a⟩
          · exact Or.inr ⟨e, by rw [e]; exact gBy_b br.2.2.1⟩
        rcases e with ⟨e1, e2⟩ | ⟨e1, e2⟩
        · rw [e2] at i
          rw [e1]
          unfold gOv at i ⊢
          omega
        · rw [e2] at i
          rw [e1]
          unfold gOv at i ⊢
          omega
      · rw [gTo_W hs, if_neg c]
        have hy := gBy_in (gRd_of h s) (r := r) (u := p) h1.1 h1.2
        have e := gCl_min h0 (fun r a b _ => hr r a b trivial) (l := [r]) (p := p) (q := gBy (vA V) (vB V) r p) ⟨h1, c, h3, rfl⟩
        have e2 : gWt (vW V s) [r] = vW V s r + 0 := rfl
        have t1 := h0.2.2.1 p q _ hy.1 hy.2
        have t2 := h0.2.2.1 p (vA V g) _ hy.1 hy.2
        have t3 := h0.2.2.1 p (vB V g) _ hy.1 hy.2
        unfold gOv at i ⊢
        omega
  have bd := hT.2.1 p q
  by_cases c : gC (gTo V g t) s (-1) p q < 268435456
  · obtain ⟨l, l1, l2⟩ := hT.2.2.2.2.1 p q c
    have := lo l p l1
    left; omega
  · right; omega
theorem zq20 {d : Nat} {m : zMm} {f : Int} {g : Int} {t : Int} {rest : List zV} {k : List zV → zMm → Prop} {V : zMm} {s : Int} (hA : gA V m) (hC : gCo V s g m) (hf : 0 ≤ f ∧ f < V 0 6) (hg : 0 ≤ g ∧ g < V 0 5) (hs : zbit s g = 1) (ht : 0 ≤ t ∧ t ≤ 99) : zcl (zEx (d + 2)) 20 4 (.inl t :: .inl g :: .inl f :: .inr (.inr 20) :: rest) m k = (zcat rest ≤ 8 ∧ k (.inl (max 0 (gFa (gTo V g t) s f)) :: rest) m) := by
  refine zcl_eq (as := [.inr (.inr 20), .inl f, .inl g, .inl t]) (r := some (.inl (max 0 (gFa (gTo V g t) s f)))) (zC_eq.mp (ze20 ?_)) rfl rfl
  have hb := gA_b hA
  have b := hA.1.2.2 f hf.1 hf.2
  have bg := hA.1.2.1 g hg.1 hg.2
  have hC' : ∀ p q, 0 ≤ p → p < V 0 0 → 0 ≤ q → q < V 0 0 → m 39 (p * 6 + q) = gC V s g p q := hC
  have d1 := gC_bd hA.1 (s := s) (x := g) (p := vF V f 0) (q := vF V f 1)
  have d2 := gC_bd hA.1 (s := s) (x := g) (p := vF V f 0) (q := vA V g)
  have d3 := gC_bd hA.1 (s := s) (x := g) (p := vF V f 0) (q := vB V g)
  have d4 := gC_bd hA.1 (s := s) (x := g) (p := vB V g) (q := vF V f 1)
  have d5 := gC_bd hA.1 (s := s) (x := g) (p := vA V g) (q := vF V f 1)
  have ov := gOv_eq hA.1 (p := vF V f 0) (q := vF V f 1) hg hs ht
  have bd := gC_bd (gTo_ok hA.1 (g := g) ht) (s := s) (x := -1) (p := vF V f 0) (q := vF V f 1)
  have eX : min (gC V s g (vF V f 0) (vF V f 1)) (min (gC V s g (vF V f 0) (vA V g) + (t * 1024 + vM V g) + gC V s g (vB V g) (vF V f 1)) (gC V s g (vF V f 0) (vB V g) + (t * 1024 + vM V g) + gC V s g (vA V g) (vF V f 1))) = gOv V s g t (vF V f 0) (vF V f 1) := rfl
  have bO : 0 ≤ gOv V s g t (vF V f 0) (vF V f 1) ∧ gOv V s g t (vF V f 0) (vF V f 1) < 1000000000 := by
    unfold gOv
    omega
  by_cases c : 268435456 ≤ gOv V s g t (vF V f 0) (vF V f 1)
  · simp +contextual (disch := (first | omega | assumption | decide)) only [zw20_0, zr_1, zr_3, zr_4, zr_6, zr_7, zr_10, zr_12, zr_16, zr_20, zr_26, zr_28, zr_69, zr_70, zlg_0, zlg_s, zls_0, zls_1, zls_s, zkl_i, zkl_r, zkl_l, zkl_n, zcat_n, zcat_i, zcat_l, zcat_r, zkd_105, zkd_106, zkd_107, zkd_20, zkd_21, zkd_22, zkd_23, zkd_3, zkd_39, zkd_4, zkd_5, zkd_67, zkd_68, zkd_69, zkd_86, zkd_87, zkd_88, zkd_a106, zkd_a107, zkd_a22, zkd_a23, zkd_a4, zkd_a5, zkd_a68, zkd_a69, zkd_a87, zkd_a88, zln_106, zln_107, zln_22, zln_23, zln_39, zln_4, zln_5, zln_68, zln_69, zln_87, zln_88, zrf_105_10, zrf_105_11, zrf_20_0, zrf_20_2, zrf_21_10, zrf_21_11, zrf_3_10, zrf_3_11, zrf_67_10, zrf_67_11, zrf_86_10, zrf_86_11, zrf_a106, zrf_a107, zrf_a22, zrf_a23, zrf_a4, zrf_a5, zrf_a68, zrf_a69, zrf_a87, zrf_a88, Int.cast_ofNat_Int, Int.reduceAdd, zbd, zw_id, false_and, and_false, true_and, and_true, true_or, or_true, false_or, or_false, Option.toList, List.nil_append, List.cons_append, zif0, zif1, zif01, zem1, zem2, Int.reduceEq, Int.reduceLT, Int.reduceLE, Int.reduceNeg, Int.reduceSub, Int.reduceMul, if_true, if_false, not_false_eq_true, not_true_eq_false, true_implies, false_implies, Classical.not_not, Nat.reduceAdd, Nat.reduceLeDiff, gA_0 hA.2.1, gA_1 hA.2.1, gA_2 hA.2.1, gA_3 hA.2.1, gA_4 hA.2.1, gA_5 hA.2.1, gA_6 hA.2.1, gA_7 hA.2.1, gA_8 hA.2.1, gA_9 hA.2.1, gA_r0 hA.2.1, gA_r1 hA.2.1, gA_r2 hA.2.1, gA_r3 hA.2.1, gA_f0 hA.2.1, gA_f1 hA.2.1, gA_f2 hA.2.1, gA_f3 hA.2.1, gA_f4 hA.2.1, gA_d hA, zq7, hC', zq1, zq2, eX, zq15, if_pos c]
    unfold gFa
    rw [gTo_F, gTo_F, if_pos (by omega), show max (0 : Int) (-1) = 0 from rfl, Int.zero_mul]
    rfl
  · have hd : 0 ≤ gOv V s g t (vF V f 0) (vF V f 1) / 1024 ∧ gOv V s g t (vF V f 0) (vF V f 1) / 1024 ≤ 10000 := by omega
    have hm : 0 ≤ gOv V s g t (vF V f 0) (vF V f 1) / 1024 * vF V f 2 ∧ gOv V s g t (vF V f 0) (vF V f 1) / 1024 * vF V f 2 ≤ 10000 * 9 := ⟨Int.mul_nonneg hd.1 b.2.2.2.1.1, Int.mul_le_mul hd.2 b.2.2.2.1.2 b.2.2.2.1.1 (by decide)⟩
    have hx : max 0 (gOv V s g t (vF V f 0) (vF V f 1) / 1024) = gOv V s g t (vF V f 0) (vF V f 1) / 1024 := by omega
    simp +contextual (disch := (first | omega | assumption | decide)) only [zw20_0, zr_1, zr_3, zr_4, zr_6, zr_7, zr_10, zr_12, zr_16, zr_20, zr_26, zr_28, zr_69, zr_70, zlg_0, zlg_s, zls_0, zls_1, zls_s, zkl_i, zkl_r, zkl_l, zkl_n, zcat_n, zcat_i, zcat_l, zcat_r, zkd_105, zkd_106, zkd_107, zkd_20, zkd_21, zkd_22, zkd_23, zkd_3, zkd_39, zkd_4, zkd_5, zkd_67, zkd_68, zkd_69, zkd_86, zkd_87, zkd_88, zkd_a106, zkd_a107, zkd_a22, zkd_a23, zkd_a4, zkd_a5, zkd_a68, zkd_a69, zkd_a87, zkd_a88, zln_106, zln_107, zln_22, zln_23, zln_39, zln_4, zln_5, zln_68, zln_69, zln_87, zln_88, zrf_105_10, zrf_105_11, zrf_20_0, zrf_20_2, zrf_21_10, zrf_21_11, zrf_3_10, zrf_3_11, zrf_67_10, zrf_67_11, zrf_86_10, zrf_86_11, zrf_a106, zrf_a107, zrf_a22, zrf_a23, zrf_a4, zrf_a5, zrf_a68, zrf_a69, zrf_a87, zrf_a88, Int.cast_ofNat_Int, Int.reduceAdd, zbd, zw_id, false_and, and_false, true_and, and_true, true_or, or_true, false_or, or_false, Option.toList, List.nil_append, List.cons_append, zif0, zif1, zif01, zem1, zem2, Int.reduceEq, Int.reduceLT, Int.reduceLE, Int.reduceNeg, Int.reduceSub, Int.reduceMul, if_true, if_false, not_false_eq_true, not_true_eq_false, true_implies, false_implies, Classical.not_not, Nat.reduceAdd, Nat.reduceLeDiff, gA_0 hA.2.1, gA_1 hA.2.1, gA_2 hA.2.1, gA_3 hA.2.1, gA_4 hA.2.1, gA_5 hA.2.1, gA_6 hA.2.1, gA_7 hA.2.1, gA_8 hA.2.1, gA_9 hA.2.1, gA_r0 hA.2.1, gA_r1 hA.2.1, gA_r2 hA.2.1, gA_r3 hA.2.1, gA_f0 hA.2.1, gA_f1 hA.2.1, gA_f2 hA.2.1, gA_f3 hA.2.1, gA_f4 hA.2.1, gA_d hA, zq7, hC', zq1, zq2, eX, zq15, if_neg c, hx]
    unfold gFa
    rw [gTo_F, gTo_F, gTo_F, if_neg (by omega)]
    have e : gC (gTo V g t) s (-1) (vF V f 0) (vF V f 1) = gOv V s g t (vF V f 0) (vF V f 1) := by omega
    rw [e, show max 0 (gOv V s g t (vF V f 0) (vF V f 1) / 1024 * vF V f 2) = gOv V s g t (vF V f 0) (vF V f 1) / 1024 * vF V f 2 by omega]
theorem zq21 {d : Nat} {m : zMm} {g : Int} {t : Int} {rest : List zV} {k : List zV → zMm → Prop} {V : zMm} {s : Int} (hA : gA V m) (hC : gCo V s g m) (hg : 0 ≤ g ∧ g < V 0 5) (hs : zbit s g = 1) (ht : 0 ≤ t ∧ t ≤ 99) : zcl (zEx (d + 3)) 21 3 (.inl t :: .inl g :: .inr (.inr 20) :: rest) m k = (zcat rest ≤ 8 ∧ k (.inl (gTk (gTo V g t) s) :: rest) m) := by
  refine zcl_eq (as := [.inr (.inr 20), .inl g, .inl t]) (r := some (.inl (gTk (gTo V g t) s))) (zC_eq.mp (ze21 ?_)) rfl rfl
  have hb := gA_b hA
  have hk := gTo_ok hA.1 (g := g) ht
  simp +contextual (disch := (first | omega | assumption | decide)) only [↓zbrT, ↓zbrF, zw21_0, zw21_2, zw21_3, zr_1, zr_3, zr_4, zr_7, zr_10, zr_12, zr_26, zr_53, zr_54, zr_58, zr_68, zr_70, zr_73, zlg_0, zlg_s, zls_0, zls_1, zls_s, zkl_i, zkl_r, zkl_l, zkl_n, zrc_1, zrc_s, zcat_n, zcat_i, zcat_l, zcat_r, zkd_105, zkd_20, zkd_21, zkd_3, zkd_67, zkd_86, zrf_20_0, Int.cast_ofNat_Int, Int.reduceAdd, zw_id, false_and, and_false, true_and, and_true, true_or, or_true, false_or, or_false, Option.toList, List.nil_append, List.cons_append, zif0, zif1, zif01, zem1, zem2, Int.reduceEq, Int.reduceLT, Int.reduceLE, Int.reduceNeg, Int.reduceSub, Int.reduceMul, if_true, if_false, not_false_eq_true, not_true_eq_false, true_implies, false_implies, Classical.not_not, Nat.reduceAdd, Nat.reduceLeDiff]
  refine zfor (V 0 6) (fun f lc m' => 0 ≤ f ∧ lc = [some (.inr (.inr 20)), some (.inl g), some (.inl t), some (.inl (gSm (fun f => max 0 (gFa (gTo V g t) s f)) f.toNat)), some (.inl f)] ∧ m' = m) ?_ ?_ (i := 0) hb.2.2.1 ?_
  · rintro f lc m' hf ⟨h0, rfl, rfl⟩ kk
    have b1 := gTk_bd' hk (s := s) (k := f.toNat) (by rw [gTo_0]; omega)
    have b2 := gFa_bd hk (s := s) (f := f) h0 (by rw [gTo_0]; exact hf)
    rw [zw21_1]
    simp +contextual (disch := (first | omega | assumption | decide)) only [↓zbrT, ↓zbrF, zw21_0, zw21_2, zw21_3, zr_1, zr_3, zr_4, zr_7, zr_10, zr_12, zr_26, zr_53, zr_54, zr_58, zr_68, zr_70, zr_73, zlg_0, zlg_s, zls_0, zls_1, zls_s, zkl_i, zkl_r, zkl_l, zkl_n, zrc_1, zrc_s, zcat_n, zcat_i, zcat_l, zcat_r, zkd_105, zkd_20, zkd_21, zkd_3, zkd_67, zkd_86, zrf_20_0, Int.cast_ofNat_Int, Int.reduceAdd, zw_id, false_and, and_false, true_and, and_true, true_or, or_true, false_or, or_false, Option.toList, List.nil_append, List.cons_append, zif0, zif1, zif01, zem1, zem2, Int.reduceEq, Int.reduceLT, Int.reduceLE, Int.reduceNeg, Int.reduceSub, Int.reduceMul, if_true, if_false, not_false_eq_true, not_true_eq_false, true_implies, false_implies, Classical.not_not, Nat.reduceAdd, Nat.reduceLeDiff, gA_0 hA.2.1, gA_1 hA.2.1, gA_2 hA.2.1, gA_3 hA.2.1, gA_4 hA.2.1, gA_5 hA.2.1, gA_6 hA.2.1, gA_7 hA.2.1, gA_8 hA.2.1, gA_9 hA.2.1, gA_r0 hA.2.1, gA_r1 hA.2.1, gA_r2 hA.2.1, gA_r3 hA.2.1, gA_f0 hA.2.1, gA_f1 hA.2.1, gA_f2 hA.2.1, gA_f3 hA.2.1, gA_f4 hA.2.1, gA_d hA, zq20 hA hC]
    refine kk _ _ ⟨by omega, ?_, rfl⟩
    rw [gSm_s h0]
  · rintro lc m' ⟨h0, rfl, rfl⟩
    rw [zw21_1]
    simp +contextual (disch := (first | omega | assumption | decide)) only [↓zbrT, ↓zbrF, zw21_0, zw21_2, zw21_3, zr_1, zr_3, zr_4, zr_7, zr_10, zr_12, zr_26, zr_53, zr_54, zr_58, zr_68, zr_70, zr_73, zlg_0, zlg_s, zls_0, zls_1, zls_s, zkl_i, zkl_r, zkl_l, zkl_n, zrc_1, zrc_s, zcat_n, zcat_i, zcat_l, zcat_r, zkd_105, zkd_20, zkd_21, zkd_3, zkd_67, zkd_86, zrf_20_0, Int.cast_ofNat_Int, Int.reduceAdd, zw_id, false_and, and_false, true_and, and_true, true_or, or_true, false_or, or_false, Option.toList, List.nil_append, List.cons_append, zif0, zif1, zif01, zem1, zem2, Int.reduceEq, Int.reduceLT, Int.reduceLE, Int.reduceNeg, Int.reduceSub, Int.reduceMul, if_true, if_false, not_false_eq_true, not_true_eq_false, true_implies, false_implies, Classical.not_not, Nat.reduceAdd, Nat.reduceLeDiff, gA_0 hA.2.1, gA_1 hA.2.1, gA_2 hA.2.1, gA_3 hA.2.1, gA_4 hA.2.1, gA_5 hA.2.1, gA_6 hA.2.1, gA_7 hA.2.1, gA_8 hA.2.1, gA_9 hA.2.1, gA_r0 hA.2.1, gA_r1 hA.2.1, gA_r2 hA.2.1, gA_r3 hA.2.1, gA_f0 hA.2.1, gA_f1 hA.2.1, gA_f2 hA.2.1, gA_f3 hA.2.1, gA_f4 hA.2.1, gA_d hA]
    unfold gTk
    rw [gTo_0]
  · exact ⟨by decide, rfl, rfl⟩
def gAn (V : zMm) (s : Int) (N : Nat) : Int := gFst (fun f => vF V f 3 < max 0 (gFa V s f)) N
theorem zq22 {d : Nat} {m : zMm} {g : Int} {t : Int} {rest : List zV} {k : List zV → zMm → Prop} {V : zMm} {s : Int} (hA : gA V m) (hC : gCo V s g m) (hg : 0 ≤ g ∧ g < V 0 5) (hs : zbit s g = 1) (ht : 0 ≤ t ∧ t ≤ 99) : zcl (zEx (d + 3)) 22 3 (.inl t :: .inl g :: .inr (.inr 20) :: rest) m k = (zcat rest ≤ 8 ∧ k (.inl (if gAn (gTo V g t) s (V 0 6).toNat = -1 then 0 else 1) :: rest) m) := by
  refine zcl_eq (as := [.inr (.inr 20), .inl g, .inl t]) (r := some (.inl (if gAn (gTo V g t) s (V 0 6).toNat = -1 then 0 else 1))) (zC_eq.mp (ze22 ?_)) rfl rfl
  have hb := gA_b hA
  have hk := gTo_ok hA.1 (g := g) ht
  simp +contextual (disch := (first | omega | assumption | decide)) only [↓zbrT, ↓zbrF, zw22_0, zw22_2, zw22_3, zw22_4, zw22_5, zr_1, zr_3, zr_4, zr_7, zr_10, zr_12, zr_20, zr_53, zr_54, zr_58, zr_60, zr_68, zr_73, zr_76, zlg_0, zlg_s, zls_0, zls_1, zls_s, zkl_i, zkl_r, zkl_l, zkl_n, zrc_1, zrc_s, zcat_n, zcat_i, zcat_l, zcat_r, zkd_105, zkd_107, zkd_20, zkd_21, zkd_23, zkd_3, zkd_5, zkd_67, zkd_69, zkd_86, zkd_88, zkd_a107, zkd_a23, zkd_a5, zkd_a69, zkd_a88, zln_107, zln_23, zln_5, zln_69, zln_88, zrf_105_11, zrf_20_0, zrf_21_11, zrf_3_11, zrf_67_11, zrf_86_11, zrf_a107, zrf_a23, zrf_a5, zrf_a69, zrf_a88, Int.cast_ofNat_Int, Int.reduceAdd, zbd, zw_id, false_and, and_false, true_and, and_true, true_or, or_true, false_or, or_false, Option.toList, List.nil_append, List.cons_append, zif0, zif1, zif01, zem1, zem2, Int.reduceEq, Int.reduceLT, Int.reduceLE, Int.reduceNeg, Int.reduceSub, Int.reduceMul, if_true, if_false, not_false_eq_true, not_true_eq_false, true_implies, false_implies, Classical.not_not, Nat.reduceAdd, Nat.reduceLeDiff]
  refine zfor (V 0 6) (fun f lc m' => 0 ≤ f ∧ lc = [some (.inr (.inr 20)), some (.inl g), some (.inl t), some (.inl f)] ∧ m' = m ∧ gAn (gTo V g t) s f.toNat = -1) ?_ ?_ (i := 0) hb.2.2.1 ?_
  · rintro f lc m' hf ⟨h0, rfl, rfl, hn⟩ kk
    have b2 := gFa_bd hk (s := s) (f := f) h0 (by rw [gTo_0]; exact hf)
    have e1 : (f + 1).toNat = f.toNat + 1 := by omega
    have e2 : ((f.toNat : Nat) : Int) = f := by omega
    rw [zw22_1]
    by_cases c : vF V f 3 < max 0 (gFa (gTo V g t) s f)
    · simp +contextual (disch := (first | omega | assumption | decide)) only [↓zbrT, ↓zbrF, zw22_0, zw22_2, zw22_3, zw22_4, zw22_5, zr_1, zr_3, zr_4, zr_7, zr_10, zr_12, zr_20, zr_53, zr_54, zr_58, zr_60, zr_68, zr_73, zr_76, zlg_0, zlg_s, zls_0, zls_1, zls_s, zkl_i, zkl_r, zkl_l, zkl_n, zrc_1, zrc_s, zcat_n, zcat_i, zcat_l, zcat_r, zkd_105, zkd_107, zkd_20, zkd_21, zkd_23, zkd_3, zkd_5, zkd_67, zkd_69, zkd_86, zkd_88, zkd_a107, zkd_a23, zkd_a5, zkd_a69, zkd_a88, zln_107, zln_23, zln_5, zln_69, zln_88, zrf_105_11, zrf_20_0, zrf_21_11, zrf_3_11, zrf_67_11, zrf_86_11, zrf_a107, zrf_a23, zrf_a5, zrf_a69, zrf_a88, Int.cast_ofNat_Int, Int.reduceAdd, zbd, zw_id, false_and, and_false, true_and, and_true, true_or, or_true, false_or, or_false, Option.toList, List.nil_append, List.cons_append, zif0, zif1, zif01, zem1, zem2, Int.reduceEq, Int.reduceLT, Int.reduceLE, Int.reduceNeg, Int.reduceSub, Int.reduceMul, if_true, if_false, not_false_eq_true, not_true_eq_false, true_implies, false_implies, Classical.not_not, Nat.reduceAdd, Nat.reduceLeDiff, gA_0 hA.2.1, gA_1 hA.2.1, gA_2 hA.2.1, gA_3 hA.2.1, gA_4 hA.2.1, gA_5 hA.2.1, gA_6 hA.2.1, gA_7 hA.2.1, gA_8 hA.2.1, gA_9 hA.2.1, gA_r0 hA.2.1, gA_r1 hA.2.1, gA_r2 hA.2.1, gA_r3 hA.2.1, gA_f0 hA.2.1, gA_f1 hA.2.1, gA_f2 hA.2.1, gA_f3 hA.2.1, gA_f4 hA.2.1, gA_d hA, zq20 hA hC]
      have := gFst_at (c := fun f => vF (gTo V g t) f 3 < max 0 (gFa (gTo V g t) s f)) (r := f.toNat) hn (by rw [gTo_F, e2]; exact c) (V 0 6).toNat (by omega)
      unfold gAn
      rw [this, if_neg (by omega)]
    · simp +contextual (disch := (first | omega | assumption | decide)) only [↓zbrT, ↓zbrF, zw22_0, zw22_2, zw22_3, zw22_4, zw22_5, zr_1, zr_3, zr_4, zr_7, zr_10, zr_12, zr_20, zr_53, zr_54, zr_58, zr_60, zr_68, zr_73, zr_76, zlg_0, zlg_s, zls_0, zls_1, zls_s, zkl_i, zkl_r, zkl_l, zkl_n, zrc_1, zrc_s, zcat_n, zcat_i, zcat_l, zcat_r, zkd_105, zkd_107, zkd_20, zkd_21, zkd_23, zkd_3, zkd_5, zkd_67, zkd_69, zkd_86, zkd_88, zkd_a107, zkd_a23, zkd_a5, zkd_a69, zkd_a88, zln_107, zln_23, zln_5, zln_69, zln_88, zrf_105_11, zrf_20_0, zrf_21_11, zrf_3_11, zrf_67_11, zrf_86_11, zrf_a107, zrf_a23, zrf_a5, zrf_a69, zrf_a88, Int.cast_ofNat_Int, Int.reduceAdd, zbd, zw_id, false_and, and_false, true_and, and_true, true_or, or_true, false_or, or_false, Option.toList, List.nil_append, List.cons_append, zif0, zif1, zif01, zem1, zem2, Int.reduceEq, Int.reduceLT, Int.reduceLE, Int.reduceNeg, Int.reduceSub, Int.reduceMul, if_true, if_false, not_false_eq_true, not_true_eq_false, true_implies, false_implies, Classical.not_not, Nat.reduceAdd, Nat.reduceLeDiff, gA_0 hA.2.1, gA_1 hA.2.1, gA_2 hA.2.1, gA_3 hA.2.1, gA_4 hA.2.1, gA_5 hA.2.1, gA_6 hA.2.1, gA_7 hA.2.1, gA_8 hA.2.1, gA_9 hA.2.1, gA_r0 hA.2.1, gA_r1 hA.2.1, gA_r2 hA.2.1, gA_r3 hA.2.1, gA_f0 hA.2.1, gA_f1 hA.2.1, gA_f2 hA.2.1, gA_f3 hA.2.1, gA_f4 hA.2.1, gA_d hA, zq20 hA hC]
      refine kk _ _ ⟨by omega, rfl, rfl, ?_⟩
      rw [e1]
      show (if gAn (gTo V g t) s f.toNat = -1 then (if vF (gTo V g t) (f.toNat : Nat) 3 < max 0 (gFa (gTo V g t) s (f.toNat : Nat)) then ((f.toNat : Nat) : Int) else -1) else gAn (gTo V g t) s f.toNat) = -1
      rw [if_pos hn, gTo_F, e2, if_neg c]
  · rintro lc m' ⟨h0, rfl, rfl, hn⟩
    rw [zw22_1]
    simp +contextual (disch := (first | omega | assumption | decide)) only [↓zbrT, ↓zbrF, zw22_0, zw22_2, zw22_3, zw22_4, zw22_5, zr_1, zr_3, zr_4, zr_7, zr_10, zr_12, zr_20, zr_53, zr_54, zr_58, zr_60, zr_68, zr_73, zr_76, zlg_0, zlg_s, zls_0, zls_1, zls_s, zkl_i, zkl_r, zkl_l, zkl_n, zrc_1, zrc_s, zcat_n, zcat_i, zcat_l, zcat_r, zkd_105, zkd_107, zkd_20, zkd_21, zkd_23, zkd_3, zkd_5, zkd_67, zkd_69, zkd_86, zkd_88, zkd_a107, zkd_a23, zkd_a5, zkd_a69, zkd_a88, zln_107, zln_23, zln_5, zln_69, zln_88, zrf_105_11, zrf_20_0, zrf_21_11, zrf_3_11, zrf_67_11, zrf_86_11, zrf_a107, zrf_a23, zrf_a5, zrf_a69, zrf_a88, Int.cast_ofNat_Int, Int.reduceAdd, zbd, zw_id, false_and, and_false, true_and, and_true, true_or, or_true, false_or, or_false, Option.toList, List.nil_append, List.cons_append, zif0, zif1, zif01, zem1, zem2, Int.reduceEq, Int.reduceLT, Int.reduceLE, Int.reduceNeg, Int.reduceSub, Int.reduceMul, if_true, if_false, not_false_eq_true, not_true_eq_false, true_implies, false_implies, Classical.not_not, Nat.reduceAdd, Nat.reduceLeDiff, gA_0 hA.2.1, gA_1 hA.2.1, gA_2 hA.2.1, gA_3 hA.2.1, gA_4 hA.2.1, gA_5 hA.2.1, gA_6 hA.2.1, gA_7 hA.2.1, gA_8 hA.2.1, gA_9 hA.2.1, gA_r0 hA.2.1, gA_r1 hA.2.1, gA_r2 hA.2.1, gA_r3 hA.2.1, gA_f0 hA.2.1, gA_f1 hA.2.1, gA_f2 hA.2.1, gA_f3 hA.2.1, gA_f4 hA.2.1, gA_d hA]
    rw [if_pos hn]
  · exact ⟨by decide, rfl, rfl, rfl⟩
