/-! ===== the model takes a shire ===== -/
def gIp (s : Int × Int × Int) : Prop := s.2.1 = 0 → s.2.2 = -1
theorem pBl_p {T : zMm} {c : Int} {s : Int × Int × Int} (h : c ≠ 0) : gIp (pBl T c s) := fun z => absurd z (pBl_g h)
theorem pTw_p {T : zMm} {w : Int} {s : Int × Int × Int} (h : gIp s) : gIp (pTw T w s) := by
  unfold pTw
  split
  · exact h
  · exact pBl_p (by decide)
theorem pNu_p {T : zMm} {lo hi : Int} {s : Int × Int × Int} (h : gIp s) : gIp (pNu T lo hi s) := by
  unfold pNu
  split
  · exact h
  · split
    · exact pBl_p (by decide)
    · exact pBl_p (by decide)
theorem pDn_p {T : zMm} {x : Int} {s : Int × Int × Int} (h : gIp s) : gIp (pDn T x s) := by
  unfold pDn
  split
  · exact pBl_p (by decide)
  · exact h
theorem pSg_p {T : zMm} {s : Int × Int × Int} (h : gIp s) : gIp (pSg T s) := by
  unfold pSg
  split
  · exact h
  · exact pBl_p (by decide)
theorem pN_p {T : zMm} {w lo hi : Int} {s : Int × Int × Int} (h : gIp s) : gIp (pN T w lo hi s) := pNu_p (pTw_p h)
theorem pQ_p {T : zMm} {w P x : Int} {s : Int × Int × Int} (h : gIp s) : gIp (pQ T w P x s) := pNu_p (pDn_p (pTw_p h))
theorem pL_p {T D : zMm} {s : Int × Int × Int} (h : gIp s) : gIp (pL T s D) := by
  unfold pL
  split
  · exact pN_p (pN_p (pN_p (pN_p (pN_p (pTw_p h)))))
  · split
    · split
      · have a := pN_p (T := T) (w := gWc 8) (lo := 1) (hi := 20) (pQ_p (T := T) (w := gWc 7) (P := D 0 0) (x := pRa T (D 0 0) s) (pQ_p (T := T) (w := gWc 6) (P := D 0 0) (x := -1) h))
        unfold pR4
        split
        · exact pN_p a
        · exact a
      · exact pBl_p (by decide)
    · split
      · split
        · exact pN_p (pN_p (pN_p (pQ_p (pQ_p (pTw_p h)))))
        · exact pBl_p (by decide)
      · split
        · exact pN_p (pQ_p (pTw_p h))
        · exact pBl_p (by decide)
theorem pRun_p {T : zMm} : ∀ (n : Nat) (s : Int × Int × Int) (D : zMm), gIp s → gIp (pRun T n s D).1
  | 0, _, _, h => h
  | n + 1, s, D, h => by
    unfold pRun
    split
    · exact pRun_p n _ _ (pSg_p (pL_p h))
    · exact h
theorem pR0_p {T : zMm} : gIp (pR0 T).1 := pRun_p 901 _ _ (fun _ => rfl)
theorem gS4_l {D m : zMm} {v : Int} (h : gS4 D m) : gS4 (zmu D 0 10 v) (zmu m 137 4 v) := by
  have e5 : zmu D 0 10 v 0 5 = D 0 5 := zmu_i (by decide)
  have e6 : zmu D 0 10 v 0 6 = D 0 6 := zmu_i (by decide)
  have e1 : ∀ k, zmu D 0 10 v 1 k = D 1 k := fun k => zmu_c (by decide)
  have e2 : ∀ k, zmu D 0 10 v 2 k = D 2 k := fun k => zmu_c (by decide)
  refine ⟨?_, fun r a b => ?_, fun f a b => ?_⟩
  · obtain ⟨h0, h1, h2, h3, h4, h5, h6, h7, h8, h9, h10⟩ := h.1
    simp (disch := decide) only [zmu_i, zmu_c, zmu_same, true_and, and_true, h0, h1, h2, h3, h4, h5, h6, h7, h8, h9, h10]
  · rw [e5] at b
    unfold vA vB vM vT
    simp only [e1, zmu_c (show (139 : Int) ≠ 137 by decide)]; exact h.2.1 r a b
  · rw [e6] at b
    unfold vF
    simp only [e2, zmu_c (show (140 : Int) ≠ 137 by decide)]; exact h.2.2 f a b
def gFc4 (m m' : zMm) : Prop := ∀ c i, ¬ (c = 137 ∧ i = 4) ∧ ¬ (c = 138 ∧ 40 ≤ i ∧ i < 50) → m' c i = m c i
theorem gz198 {d : Nat} {m : zMm}  : zC (d + 2) 198 [.inr (.inr 131)] m (fun r' m' => r' = none ∧ gS4 gD0 m' ∧ gFc4 m m') := by
  refine ze198 ?_
  simp +contextual (disch := (first | omega | assumption | decide)) only [↓zbrT, ↓zbrF, zw198_0, zw198_2, zw198_3, zr_1, zr_3, zr_4, zr_7, zr_12, zr_21, zr_53, zr_54, zr_58, zr_68, zr_72, zr_73, zlg_0, zlg_s, zls_0, zls_1, zls_s, zkl_i, zkl_r, zkl_l, zkl_n, zrc_1, zrc_s, zcat_n, zcat_i, zcat_l, zcat_r, zkd_131, zkd_137, zln_137, zrf_131_16, Int.cast_ofNat_Int, Int.reduceAdd, zbd, zw_id, zmu_same, zmu_c, zmu_i, false_and, and_false, true_and, and_true, true_or, or_true, false_or, or_false, Option.toList, List.nil_append, List.cons_append, zif0, zif1, zif01, zem1, zem2, Int.reduceEq, Int.reduceLT, Int.reduceLE, Int.reduceNeg, Int.reduceSub, Int.reduceMul, if_true, if_false, not_false_eq_true, not_true_eq_false, true_implies, false_implies, Classical.not_not, Nat.reduceAdd, Nat.reduceLeDiff]
  refine zfor 10 (fun k lc m' => 0 ≤ k ∧ lc = [some (.inr (.inr 131)), some (.inl k)] ∧ (m' 137 4 = 0 ∧ ∀ i, 40 ≤ i → i < 40 + k → m' 138 i = 0) ∧ gFc4 m m') ?_ ?_ (i := 0) (by decide) ?_
  · rintro k lc m' hk ⟨h0, rfl, ⟨h4, hz⟩, hf⟩ kk
    rw [zw198_1]
    simp +contextual (disch := (first | omega | assumption | decide)) only [↓zbrT, ↓zbrF, zw198_0, zw198_2, zw198_3, zr_1, zr_3, zr_4, zr_7, zr_12, zr_21, zr_53, zr_54, zr_58, zr_68, zr_72, zr_73, zlg_0, zlg_s, zls_0, zls_1, zls_s, zkl_i, zkl_r, zkl_l, zkl_n, zrc_1, zrc_s, zcat_n, zcat_i, zcat_l, zcat_r, zkd_131, zkd_137, zln_137, zrf_131_16, Int.cast_ofNat_Int, Int.reduceAdd, zbd, zw_id, zmu_same, zmu_c, zmu_i, false_and, and_false, true_and, and_true, true_or, or_true, false_or, or_false, Option.toList, List.nil_append, List.cons_append, zif0, zif1, zif01, zem1, zem2, Int.reduceEq, Int.reduceLT, Int.reduceLE, Int.reduceNeg, Int.reduceSub, Int.reduceMul, if_true, if_false, not_false_eq_true, not_true_eq_false, true_implies, false_implies, Classical.not_not, Nat.reduceAdd, Nat.reduceLeDiff, zq193]
    refine kk _ _ ⟨by omega, rfl, ⟨by rw [zmu_c (by decide)]; exact h4, fun i a b => ?_⟩, fun c i hc => ?_⟩
    · by_cases e : i = 40 + k
      · rw [e, zmu_same]
      · rw [zmu_i e]; exact hz i a (by omega)
    · rw [zmu_o (by omega)]; exact hf c i hc
  · rintro lc m' ⟨h0, rfl, ⟨h4, hz⟩, hf⟩
    rw [zw198_1]
    simp +contextual (disch := (first | omega | assumption | decide)) only [↓zbrT, ↓zbrF, zw198_0, zw198_2, zw198_3, zr_1, zr_3, zr_4, zr_7, zr_12, zr_21, zr_53, zr_54, zr_58, zr_68, zr_72, zr_73, zlg_0, zlg_s, zls_0, zls_1, zls_s, zkl_i, zkl_r, zkl_l, zkl_n, zrc_1, zrc_s, zcat_n, zcat_i, zcat_l, zcat_r, zkd_131, zkd_137, zln_137, zrf_131_16, Int.cast_ofNat_Int, Int.reduceAdd, zbd, zw_id, zmu_same, zmu_c, zmu_i, false_and, and_false, true_and, and_true, true_or, or_true, false_or, or_false, Option.toList, List.nil_append, List.cons_append, zif0, zif1, zif01, zem1, zem2, Int.reduceEq, Int.reduceLT, Int.reduceLE, Int.reduceNeg, Int.reduceSub, Int.reduceMul, if_true, if_false, not_false_eq_true, not_true_eq_false, true_implies, false_implies, Classical.not_not, Nat.reduceAdd, Nat.reduceLeDiff]
    refine ⟨⟨⟨hz 40 (by decide) (by decide), hz 41 (by decide) (by decide), hz 42 (by decide) (by decide), hz 43 (by decide) (by decide), hz 44 (by decide) (by decide), hz 45 (by decide) (by decide), hz 46 (by decide) (by decide), hz 47 (by decide) (by decide), hz 48 (by decide) (by decide), hz 49 (by decide) (by decide), h4⟩, fun r a b => ?_, fun f a b => ?_⟩, hf⟩
    · unfold gD0 at b; omega
    · unfold gD0 at b; omega
  · exact ⟨by decide, rfl, ⟨zmu_same, fun i a b => by omega⟩, fun c i hc => zmu_o hc.1⟩
theorem gz189 {d : Nat} {m : zMm} {T : zMm} (hk : gTo1 T) (ht : gTn T m) : zC (d + 3) 189 [.inr (.inr 131)] m (fun r' m' => r' = none ∧ gPd T (0, 0, -1) m' ∧ gFn m m') := by
  refine ze189 ?_
  have hb := hk.1
  simp +contextual (disch := (first | omega | assumption | decide)) only [zw189_0, zr_3, zr_7, zr_13, zr_68, zr_72, zlg_0, zlg_s, zrc_1, zrc_s, zcat_n, zcat_i, zcat_l, zcat_r, zkd_131, Int.cast_ofNat_Int, Int.reduceAdd, zmu_same, zmu_c, zmu_i, false_and, and_false, true_and, and_true, true_or, or_true, false_or, or_false, Option.toList, List.nil_append, List.cons_append, zif0, zif1, zif01, zem1, zem2, Int.reduceEq, Int.reduceLT, Int.reduceLE, Int.reduceNeg, Int.reduceSub, Int.reduceMul, if_true, if_false, not_false_eq_true, not_true_eq_false, true_implies, false_implies, Classical.not_not, Nat.reduceAdd, Nat.reduceLeDiff]
  have t1 : gTn T (zmu (zmu (zmu m 131 12 0) 131 13 (-1)) 131 7 0) := gTn_of ht (by simp (disch := decide) only [zmu_i]) (fun i => by simp (disch := decide) only [zmu_c])
  refine gK (gz180 (q := 0) hk t1 zmu_same ⟨Int.le_refl _, hb.1⟩) rfl rfl (Nat.le_of_ble_eq_true rfl) ?_
  rintro _ m2 ⟨rfl, p2, k2⟩
  simp +contextual (disch := (first | omega | assumption | decide)) only [zw189_0, zr_3, zr_7, zr_13, zr_68, zr_72, zlg_0, zlg_s, zrc_1, zrc_s, zcat_n, zcat_i, zcat_l, zcat_r, zkd_131, Int.cast_ofNat_Int, Int.reduceAdd, zmu_same, zmu_c, zmu_i, false_and, and_false, true_and, and_true, true_or, or_true, false_or, or_false, Option.toList, List.nil_append, List.cons_append, zif0, zif1, zif01, zem1, zem2, Int.reduceEq, Int.reduceLT, Int.reduceLE, Int.reduceNeg, Int.reduceSub, Int.reduceMul, if_true, if_false, not_false_eq_true, not_true_eq_false, true_implies, false_implies, Classical.not_not, Nat.reduceAdd, Nat.reduceLeDiff]
  refine ⟨⟨gTn_of t1 (k2 131 6 (by omega)) (fun i => k2 136 i (by omega)), p2, ?_, ?_, Int.le_refl _, hb.1⟩, fun c i hc => ?_⟩
  · rw [k2 131 12 (by omega)]; simp (disch := decide) only [zmu_i, zmu_same]
  · rw [k2 131 13 (by omega)]; simp (disch := decide) only [zmu_i, zmu_same]
  · rw [k2 c i (by omega), zmu_o (by omega), zmu_o (by omega), zmu_o (by omega)]
theorem gHeadm {d : Nat} {m T D : zMm} {s : Int × Int × Int} {Q : Option zV → zMm → Prop} (hk : gTo1 T) (hp : gPd T s m) (hc : gS4 D m) (h10 : D 0 10 = 0) (hQ : ∀ m', gPd T (pL T s D) m' → ((pL T s D).2.1 = 0 → gS4 (dL T s D) m') → gFm4 m m' → zWP (zEx (d + 6)) 199 6 [some (.inr (.inr 131))] [] m' Q) : zWP (zEx (d + 6)) 199 4 [some (.inr (.inr 131))] [] m Q := by
  unfold pL dL at hQ
  rw [if_pos h10, if_pos h10] at hQ
  simp +contextual (disch := (first | omega | assumption | decide)) only [↓zbrT, ↓zbrF, zw199_0, zw199_2, zw199_3, zw199_4, zw199_5, zw199_7, zw199_8, zw199_9, zw199_10, zw199_11, zr_3, zr_7, zr_8, zr_10, zr_12, zr_13, zr_16, zr_21, zr_26, zr_51, zr_54, zr_61, zr_62, zr_68, zr_70, zr_73, zlg_0, zlg_s, zrc_1, zrc_s, zcat_n, zcat_i, zcat_l, zcat_r, zkd_131, zkd_137, zln_137, zrf_131_16, Int.cast_ofNat_Int, Int.reduceAdd, zbd, zw_id, zmu_same, zmu_c, zmu_i, false_and, and_false, true_and, and_true, true_or, or_true, false_or, or_false, Option.toList, List.nil_append, List.cons_append, zif0, zif1, zif01, zem1, zem2, Int.reduceEq, Int.reduceLT, Int.reduceLE, Int.reduceNeg, Int.reduceSub, Int.reduceMul, if_true, if_false, not_false_eq_true, not_true_eq_false, true_implies, false_implies, Classical.not_not, Nat.reduceAdd, Nat.reduceLeDiff]
  refine gK (gz185 (w := 10261895) hk hp) rfl rfl (Nat.le_of_ble_eq_true rfl) ?_
  rintro _ m1 ⟨rfl, p1, f1⟩
  rw [← gWc_0] at p1
  simp +contextual (disch := (first | omega | assumption | decide)) only [↓zbrT, ↓zbrF, zw199_0, zw199_2, zw199_3, zw199_4, zw199_5, zw199_7, zw199_8, zw199_9, zw199_10, zw199_11, zr_3, zr_7, zr_8, zr_10, zr_12, zr_13, zr_16, zr_21, zr_26, zr_51, zr_54, zr_61, zr_62, zr_68, zr_70, zr_73, zlg_0, zlg_s, zrc_1, zrc_s, zcat_n, zcat_i, zcat_l, zcat_r, zkd_131, zkd_137, zln_137, zrf_131_16, Int.cast_ofNat_Int, Int.reduceAdd, zbd, zw_id, zmu_same, zmu_c, zmu_i, false_and, and_false, true_and, and_true, true_or, or_true, false_or, or_false, Option.toList, List.nil_append, List.cons_append, zif0, zif1, zif01, zem1, zem2, Int.reduceEq, Int.reduceLT, Int.reduceLE, Int.reduceNeg, Int.reduceSub, Int.reduceMul, if_true, if_false, not_false_eq_true, not_true_eq_false, true_implies, false_implies, Classical.not_not, Nat.reduceAdd, Nat.reduceLeDiff]
  refine gK (gz187 (w := 235981828) (x := 2) (y := 6) hk (by decide) p1) rfl rfl (Nat.le_of_ble_eq_true rfl) ?_
  rintro _ m2 ⟨rfl, p2, f2⟩
  rw [← gWc_1] at p2 ⊢
  have c2 := gS4_u (v := pV T (gWc 1) 2 6 2 (pTw T (gWc 0) s)) (i := 40) (j := 0) (by omega) (gS4_n hc (gFn_tr f1 f2))
  simp +contextual (disch := (first | omega | assumption | decide)) only [↓zbrT, ↓zbrF, zw199_0, zw199_2, zw199_3, zw199_4, zw199_5, zw199_7, zw199_8, zw199_9, zw199_10, zw199_11, zr_3, zr_7, zr_8, zr_10, zr_12, zr_13, zr_16, zr_21, zr_26, zr_51, zr_54, zr_61, zr_62, zr_68, zr_70, zr_73, zlg_0, zlg_s, zrc_1, zrc_s, zcat_n, zcat_i, zcat_l, zcat_r, zkd_131, zkd_137, zln_137, zrf_131_16, Int.cast_ofNat_Int, Int.reduceAdd, zbd, zw_id, zmu_same, zmu_c, zmu_i, false_and, and_false, true_and, and_true, true_or, or_true, false_or, or_false, Option.toList, List.nil_append, List.cons_append, zif0, zif1, zif01, zem1, zem2, Int.reduceEq, Int.reduceLT, Int.reduceLE, Int.reduceNeg, Int.reduceSub, Int.reduceMul, if_true, if_false, not_false_eq_true, not_true_eq_false, true_implies, false_implies, Classical.not_not, Nat.reduceAdd, Nat.reduceLeDiff, zq193]
  refine gK (gz187 (w := 5878) (x := 0) (y := 9999) hk (by decide) (gPd_u p2 (by decide))) rfl rfl (Nat.le_of_ble_eq_true rfl) ?_
  rintro _ m3 ⟨rfl, p3, f3⟩
  rw [← gWc_2] at p3 ⊢
  have c3 := gS4_u (v := pV T (gWc 2) 0 9999 0 (pH1 T s)) (i := 41) (j := 1) (by omega) (gS4_n c2 f3)
  simp +contextual (disch := (first | omega | assumption | decide)) only [↓zbrT, ↓zbrF, zw199_0, zw199_2, zw199_3, zw199_4, zw199_5, zw199_7, zw199_8, zw199_9, zw199_10, zw199_11, zr_3, zr_7, zr_8, zr_10, zr_12, zr_13, zr_16, zr_21, zr_26, zr_51, zr_54, zr_61, zr_62, zr_68, zr_70, zr_73, zlg_0, zlg_s, zrc_1, zrc_s, zcat_n, zcat_i, zcat_l, zcat_r, zkd_131, zkd_137, zln_137, zrf_131_16, Int.cast_ofNat_Int, Int.reduceAdd, zbd, zw_id, zmu_same, zmu_c, zmu_i, false_and, and_false, true_and, and_true, true_or, or_true, false_or, or_false, Option.toList, List.nil_append, List.cons_append, zif0, zif1, zif01, zem1, zem2, Int.reduceEq, Int.reduceLT, Int.reduceLE, Int.reduceNeg, Int.reduceSub, Int.reduceMul, if_true, if_false, not_false_eq_true, not_true_eq_false, true_implies, false_implies, Classical.not_not, Nat.reduceAdd, Nat.reduceLeDiff, zq193]
  refine gK (gz187 (w := 312166) (x := 0) (y := 999) hk (by decide) (gPd_u p3 (by decide))) rfl rfl (Nat.le_of_ble_eq_true rfl) ?_
  rintro _ m4 ⟨rfl, p4, f4⟩
  rw [← gWc_3] at p4 ⊢
  have c4 := gS4_u (v := pV T (gWc 3) 0 999 0 (pH2 T s)) (i := 42) (j := 2) (by omega) (gS4_n c3 f4)
  simp +contextual (disch := (first | omega | assumption | decide)) only [↓zbrT, ↓zbrF, zw199_0, zw199_2, zw199_3, zw199_4, zw199_5, zw199_7, zw199_8, zw199_9, zw199_10, zw199_11, zr_3, zr_7, zr_8, zr_10, zr_12, zr_13, zr_16, zr_21, zr_26, zr_51, zr_54, zr_61, zr_62, zr_68, zr_70, zr_73, zlg_0, zlg_s, zrc_1, zrc_s, zcat_n, zcat_i, zcat_l, zcat_r, zkd_131, zkd_137, zln_137, zrf_131_16, Int.cast_ofNat_Int, Int.reduceAdd, zbd, zw_id, zmu_same, zmu_c, zmu_i, false_and, and_false, true_and, and_true, true_or, or_true, false_or, or_false, Option.toList, List.nil_append, List.cons_append, zif0, zif1, zif01, zem1, zem2, Int.reduceEq, Int.reduceLT, Int.reduceLE, Int.reduceNeg, Int.reduceSub, Int.reduceMul, if_true, if_false, not_false_eq_true, not_true_eq_false, true_implies, false_implies, Classical.not_not, Nat.reduceAdd, Nat.reduceLeDiff, zq193]
  refine gK (gz187 (w := 40044097) (x := 1) (y := 999) hk (by decide) (gPd_u p4 (by decide))) rfl rfl (Nat.le_of_ble_eq_true rfl) ?_
  rintro _ m5 ⟨rfl, p5, f5⟩
  rw [← gWc_4] at p5 ⊢
  have c5 := gS4_u (v := pV T (gWc 4) 1 999 1 (pH3 T s)) (i := 43) (j := 3) (by omega) (gS4_n c4 f5)
  simp +contextual (disch := (first | omega | assumption | decide)) only [↓zbrT, ↓zbrF, zw199_0, zw199_2, zw199_3, zw199_4, zw199_5, zw199_7, zw199_8, zw199_9, zw199_10, zw199_11, zr_3, zr_7, zr_8, zr_10, zr_12, zr_13, zr_16, zr_21, zr_26, zr_51, zr_54, zr_61, zr_62, zr_68, zr_70, zr_73, zlg_0, zlg_s, zrc_1, zrc_s, zcat_n, zcat_i, zcat_l, zcat_r, zkd_131, zkd_137, zln_137, zrf_131_16, Int.cast_ofNat_Int, Int.reduceAdd, zbd, zw_id, zmu_same, zmu_c, zmu_i, false_and, and_false, true_and, and_true, true_or, or_true, false_or, or_false, Option.toList, List.nil_append, List.cons_append, zif0, zif1, zif01, zem1, zem2, Int.reduceEq, Int.reduceLT, Int.reduceLE, Int.reduceNeg, Int.reduceSub, Int.reduceMul, if_true, if_false, not_false_eq_true, not_true_eq_false, true_implies, false_implies, Classical.not_not, Nat.reduceAdd, Nat.reduceLeDiff, zq193]
  refine gK (gz187 (w := 453773) (x := 0) (y := 60) hk (by decide) (gPd_u p5 (by decide))) rfl rfl (Nat.le_of_ble_eq_true rfl) ?_
  rintro _ m6 ⟨rfl, p6, f6⟩
  rw [← gWc_5] at p6 ⊢
  have c6 := gS4_u (v := pV T (gWc 5) 0 60 0 (pH4 T s)) (i := 44) (j := 4) (by omega) (gS4_n c5 f6)
  simp +contextual (disch := (first | omega | assumption | decide)) only [↓zbrT, ↓zbrF, zw199_0, zw199_2, zw199_3, zw199_4, zw199_5, zw199_7, zw199_8, zw199_9, zw199_10, zw199_11, zr_3, zr_7, zr_8, zr_10, zr_12, zr_13, zr_16, zr_21, zr_26, zr_51, zr_54, zr_61, zr_62, zr_68, zr_70, zr_73, zlg_0, zlg_s, zrc_1, zrc_s, zcat_n, zcat_i, zcat_l, zcat_r, zkd_131, zkd_137, zln_137, zrf_131_16, Int.cast_ofNat_Int, Int.reduceAdd, zbd, zw_id, zmu_same, zmu_c, zmu_i, false_and, and_false, true_and, and_true, true_or, or_true, false_or, or_false, Option.toList, List.nil_append, List.cons_append, zif0, zif1, zif01, zem1, zem2, Int.reduceEq, Int.reduceLT, Int.reduceLE, Int.reduceNeg, Int.reduceSub, Int.reduceMul, if_true, if_false, not_false_eq_true, not_true_eq_false, true_implies, false_implies, Classical.not_not, Nat.reduceAdd, Nat.reduceLeDiff, zq193]
  refine hQ _ (gPd_u p6 (by decide)) (fun z => ?_) (gFm4_tr (gFm4_n (gFn_tr f1 f2)) (gFm4_tr (gFm4_u (by omega)) (gFm4_tr (gFm4_n f3) (gFm4_tr (gFm4_u (by omega)) (gFm4_tr (gFm4_n f4) (gFm4_tr (gFm4_u (by omega)) (gFm4_tr (gFm4_n f5) (gFm4_tr (gFm4_u (by omega)) (gFm4_tr (gFm4_n f6) (gFm4_u (by omega)))))))))))
  have a5 := (pN_g (e := 0) z).1
  have a4 := (pN_g (e := 0) a5).1
  have a3 := (pN_g (e := 0) a4).1
  have a2 := (pN_g (e := 0) a3).1
  unfold dH
  rw [pV_e (e := 0) (e' := 2) a2, pV_e (e := 0) (e' := 1) a5]
  exact c6
