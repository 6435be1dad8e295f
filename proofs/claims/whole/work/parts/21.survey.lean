theorem gMi_good {m : zMm} (h : gRok m) : gG (gMi m) 268435456 := by
  obtain ⟨h1, h2, h3⟩ := h
  refine gJ_good (N := (m 21 8).toNat) (by decide) (fun r hr => ?_) _ (Nat.le_refl _)
  have := h3 r (by omega) (by omega)
  exact ⟨by omega, fun _ => this.2.2.1⟩
/-- the memory behind survey: the caches empty, the miles found -/
def gSv (m : zMm) : zMm := gTb (gTab (gfor m) 38 (gMi m)) 38 (gMi m) (m 21 1).toNat 0 0 (m 21 1)
theorem ga5 {d : Nat} {m : zMm} (h : gRok m) : zEx (d + 3) 5 [.inr (.inr 20)] m none (gSv m) := by
  have hg := gMi_good h
  obtain ⟨h1, h2, h3⟩ := h
  refine zC_eq.mp (ze5 ?_)
  simp +contextual (disch := (first | omega | rfl)) only [↓zbrT, ↓zbrF, zw5_0, zw5_2, zw5_3, zr_1, zr_3, zr_4, zr_7, zr_10, zr_12, zr_20, zr_53, zr_54, zr_58, zr_68, zr_69, zr_72, zr_73, zlg_0, zlg_s, zls_0, zls_1, zls_s, zkl_i, zkl_r, zkl_l, zkl_n, zrc_1, zrc_s, zcat_n, zcat_i, zcat_l, zcat_r, zkd_105, zkd_106, zkd_20, zkd_21, zkd_22, zkd_3, zkd_38, zkd_4, zkd_67, zkd_68, zkd_86, zkd_87, zkd_a106, zkd_a22, zkd_a4, zkd_a68, zkd_a87, zln_106, zln_22, zln_38, zln_4, zln_68, zln_87, zrf_105_10, zrf_20_0, zrf_20_1, zrf_21_10, zrf_3_10, zrf_67_10, zrf_86_10, zrf_a106, zrf_a22, zrf_a4, zrf_a68, zrf_a87, Int.cast_ofNat_Int, Int.reduceAdd, zbd, zw_id, false_and, and_false, true_and, and_true, true_or, or_true, false_or, or_false, Option.toList, List.nil_append, List.cons_append, zif0, zif1, zif01, zem1, zem2, Int.reduceEq, Int.reduceLT, Int.reduceLE, Int.reduceNeg, Int.reduceSub, Int.reduceMul, if_true, if_false, not_false_eq_true, not_true_eq_false, true_implies, false_implies, Classical.not_not, Nat.reduceAdd, Nat.reduceLeDiff, zq6, zq8 (c := 38) rfl rfl]
  rw [gclr_tab (a := fun r => m (24 + r) 0) (b := fun r => m (24 + r) 1) (w := fun r => m (24 + r) 2) (o := fun _ => True)]
  refine zfor (m 21 8) (fun r lc m' => 0 ≤ r ∧ lc = [some (.inr (.inr 20)), some (.inl r)] ∧ m' = gTab (gfor m) 38 (gJ 268435456 (fun r => m (24 + r) 0) (fun r => m (24 + r) 1) (fun r => m (24 + r) 2) (fun _ => True) r.toNat)) ?_ ?_ (i := 0) h1.1 ?_
  · rintro r lc m' hr ⟨h0, rfl, rfl⟩ k
    obtain ⟨n, rfl⟩ : ∃ n : Nat, r = n := ⟨r.toNat, by omega⟩
    rw [Int.toNat_natCast]
    have hn := h3 n h0 hr
    have e0 : ∀ T, gTab (gfor m) 38 T 21 8 = m 21 8 := fun T => by rw [gTab_o (by decide), gfor_o (by decide) (by decide)]
    have e1 : ∀ T i, gTab (gfor m) 38 T (24 + (n : Int)) i = m (24 + n) i := fun T i => by rw [gTab_o (by omega), gfor_o (by omega) (by omega)]
    rw [zw5_1]
    simp +contextual (disch := (first | omega | exact rfl | exact zkd_a22 h0 (by omega))) only [↓zbrT, ↓zbrF, zw5_0, zw5_2, zw5_3, zr_1, zr_3, zr_4, zr_7, zr_10, zr_12, zr_20, zr_53, zr_54, zr_58, zr_68, zr_69, zr_72, zr_73, zlg_0, zlg_s, zls_0, zls_1, zls_s, zkl_i, zkl_r, zkl_l, zkl_n, zrc_1, zrc_s, zcat_n, zcat_i, zcat_l, zcat_r, zkd_105, zkd_106, zkd_20, zkd_21, zkd_22, zkd_3, zkd_38, zkd_4, zkd_67, zkd_68, zkd_86, zkd_87, zkd_a106, zkd_a22, zkd_a4, zkd_a68, zkd_a87, zln_106, zln_22, zln_38, zln_4, zln_68, zln_87, zrf_105_10, zrf_20_0, zrf_20_1, zrf_21_10, zrf_3_10, zrf_67_10, zrf_86_10, zrf_a106, zrf_a22, zrf_a4, zrf_a68, zrf_a87, Int.cast_ofNat_Int, Int.reduceAdd, zbd, zw_id, false_and, and_false, true_and, and_true, true_or, or_true, false_or, or_false, Option.toList, List.nil_append, List.cons_append, zif0, zif1, zif01, zem1, zem2, Int.reduceEq, Int.reduceLT, Int.reduceLE, Int.reduceNeg, Int.reduceSub, Int.reduceMul, if_true, if_false, not_false_eq_true, not_true_eq_false, true_implies, false_implies, Classical.not_not, Nat.reduceAdd, Nat.reduceLeDiff, e0, e1]
    rw [zq9 (c := 38) rfl rfl (zkd_a22 h0 (by omega)) (by rw [e1]; omega) (by rw [e1]; omega) (by omega), e1, e1]
    refine ⟨by decide, ?_⟩
    refine k _ _ ⟨by omega, rfl, ?_⟩
    rw [show ((n : Int) + 1).toNat = n + 1 by omega]
    exact gjoi_tab (a := fun r => m (24 + r) 0) (b := fun r => m (24 + r) 1) (w := fun r => m (24 + r) 2) (o := fun _ => True) trivial ⟨hn.1.1, by show m (24 + n) 0 < 6; omega⟩ ⟨hn.2.1.1, by show m (24 + n) 1 < 6; omega⟩
  · rintro lc m' ⟨h0, rfl, rfl⟩
    have e0 : ∀ T i, gTab (gfor m) 38 T 21 i = m 21 i := fun T i => by rw [gTab_o (by decide), gfor_o (by decide) (by omega)]
    rw [zw5_1]
    simp +contextual (disch := (first | omega | rfl)) only [↓zbrT, ↓zbrF, zw5_0, zw5_2, zw5_3, zr_1, zr_3, zr_4, zr_7, zr_10, zr_12, zr_20, zr_53, zr_54, zr_58, zr_68, zr_69, zr_72, zr_73, zlg_0, zlg_s, zls_0, zls_1, zls_s, zkl_i, zkl_r, zkl_l, zkl_n, zrc_1, zrc_s, zcat_n, zcat_i, zcat_l, zcat_r, zkd_105, zkd_106, zkd_20, zkd_21, zkd_22, zkd_3, zkd_38, zkd_4, zkd_67, zkd_68, zkd_86, zkd_87, zkd_a106, zkd_a22, zkd_a4, zkd_a68, zkd_a87, zln_106, zln_22, zln_38, zln_4, zln_68, zln_87, zrf_105_10, zrf_20_0, zrf_20_1, zrf_21_10, zrf_3_10, zrf_67_10, zrf_86_10, zrf_a106, zrf_a22, zrf_a4, zrf_a68, zrf_a87, Int.cast_ofNat_Int, Int.reduceAdd, zbd, zw_id, false_and, and_false, true_and, and_true, true_or, or_true, false_or, or_false, Option.toList, List.nil_append, List.cons_append, zif0, zif1, zif01, zem1, zem2, Int.reduceEq, Int.reduceLT, Int.reduceLE, Int.reduceNeg, Int.reduceSub, Int.reduceMul, if_true, if_false, not_false_eq_true, not_true_eq_false, true_implies, false_implies, Classical.not_not, Nat.reduceAdd, Nat.reduceLeDiff, e0]
    rw [show gJ 268435456 (fun r => m (24 + r) 0) (fun r => m (24 + r) 1) (fun r => m (24 + r) 2) (fun _ => True) (m 21 8).toNat = gMi m from rfl]
    rw [zq10 (T := gMi m) (n := m 21 1) rfl rfl (e0 _ 1) h2 (by decide) hg (fun p q a1 a2 a3 a4 => gTab_at ⟨a1, by omega⟩ ⟨a3, by omega⟩)]
    simp +contextual (disch := (first | omega | rfl)) only [↓zbrT, ↓zbrF, zw5_0, zw5_2, zw5_3, zr_1, zr_3, zr_4, zr_7, zr_10, zr_12, zr_20, zr_53, zr_54, zr_58, zr_68, zr_69, zr_72, zr_73, zlg_0, zlg_s, zls_0, zls_1, zls_s, zkl_i, zkl_r, zkl_l, zkl_n, zrc_1, zrc_s, zcat_n, zcat_i, zcat_l, zcat_r, zkd_105, zkd_106, zkd_20, zkd_21, zkd_22, zkd_3, zkd_38, zkd_4, zkd_67, zkd_68, zkd_86, zkd_87, zkd_a106, zkd_a22, zkd_a4, zkd_a68, zkd_a87, zln_106, zln_22, zln_38, zln_4, zln_68, zln_87, zrf_105_10, zrf_20_0, zrf_20_1, zrf_21_10, zrf_3_10, zrf_67_10, zrf_86_10, zrf_a106, zrf_a22, zrf_a4, zrf_a68, zrf_a87, Int.cast_ofNat_Int, Int.reduceAdd, zbd, zw_id, false_and, and_false, true_and, and_true, true_or, or_true, false_or, or_false, Option.toList, List.nil_append, List.cons_append, zif0, zif1, zif01, zem1, zem2, Int.reduceEq, Int.reduceLT, Int.reduceLE, Int.reduceNeg, Int.reduceSub, Int.reduceMul, if_true, if_false, not_false_eq_true, not_true_eq_false, true_implies, false_implies, Classical.not_not, Nat.reduceAdd, Nat.reduceLeDiff]
    rfl
  · exact ⟨by decide, rfl, rfl⟩
