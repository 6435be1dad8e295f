/-! ===== the model's miles ===== -/
def gDm (V : zMm) : Int → Int → Int := gF (gJ 100000000 (vA V) (vB V) (vM V) (fun _ => True) (V 0 5).toNat) 6
theorem gDm_eq {V : zMm} (h : gOk V) (p q : Int) : (gD V p q < 268435456 ∧ gDm V p q = gD V p q) ∨ (gD V p q = 268435456 ∧ gDm V p q = 100000000) := by
  have h6 : gCl 6 (V 0 5) (vA V) (vB V) (vM V) (fun _ => True) 100000000 1280 (gDm V) :=
    gCl_of (n := 6) (W := 20) (by decide) (by have := h.1; omega) (by decide) (by decide) (fun r hr => by have := h.2.1 r (by omega) hr; omega)
  have h7 : gCl (V 0 0) (V 0 5) (vA V) (vB V) (vM V) (fun _ => True) 100000000 1280 (gDm V) := ⟨h6.1, h6.2.1, fun p q k a b => h6.2.2.1 p q k a (by have := h.1; omega), h6.2.2.2⟩
  exact gCl_eq (gD_cl h) h7 (fun r a b _ => by have := h.2.1 r a b; omega) (by decide) (by decide) p q
def gTf (m0 : zMm) (T : Int → Int → Int) (k : Nat) (j : Int) : zMm := fun c' i' => if c' = 145 ∧ 0 ≤ i' ∧ i' < 36 then (if i' < j then gF T (k + 1) (i' / 6) (i' % 6) else gF T k (i' / 6) (i' % 6)) else m0 c' i'
theorem gTf_at {m0 : zMm} {T : Int → Int → Int} {k : Nat} {j p q : Int} (hp : 0 ≤ p ∧ p < 6) (hq : 0 ≤ q ∧ q < 6) : gTf m0 T k j 145 (6 * p + q) = if 6 * p + q < j then gF T (k + 1) p q else gF T k p q := by
  unfold gTf
  rw [if_pos ⟨rfl, by omega, by omega⟩, show (6 * p + q) / 6 = p by omega, show (6 * p + q) % 6 = q by omega]
theorem gTf_o {m0 : zMm} {T : Int → Int → Int} {k : Nat} {j c' i' : Int} (h : c' ≠ 145) : gTf m0 T k j c' i' = m0 c' i' := by
  unfold gTf
  rw [if_neg (fun q => h q.1)]
def gTi (m0 : zMm) (j : Int) : zMm := fun c' i' => if c' = 145 ∧ 0 ≤ i' ∧ i' < j then (if i' / 6 = i' % 6 then 0 else 100000000) else m0 c' i'
theorem gTab_at6 {m0 : zMm} {c : Int} {T : Int → Int → Int} {p q : Int} (hp : 0 ≤ p ∧ p < 6) (hq : 0 ≤ q ∧ q < 6) : gTab m0 c T c (6 * p + q) = T p q := by
  rw [Int.mul_comm]; exact gTab_at hp hq
theorem gJ_lay {m0 : zMm} {far : Int} {a b w : Int → Int} {r : Nat} {m' : zMm} (ha : 0 ≤ a r ∧ a r < 6) (hb : 0 ≤ b r ∧ b r < 6) (h : ∀ c i, m' c i = if c = 145 ∧ (i = 6 * a r + b r ∨ i = 6 * b r + a r) then min (w r) (gJ far a b w (fun _ => True) r (a r) (b r)) else gTab m0 145 (gJ far a b w (fun _ => True) r) c i) : m' = gTab m0 145 (gJ far a b w (fun _ => True) (r + 1)) := by
  funext c' i'
  rw [h]
  by_cases h1 : c' = 145 ∧ 0 ≤ i' ∧ i' < 36
  · have e1 : gTab m0 145 (gJ far a b w (fun _ => True) r) c' i' = gJ far a b w (fun _ => True) r (i' / 6) (i' % 6) := by unfold gTab; rw [if_pos h1]
    have e2 : gTab m0 145 (gJ far a b w (fun _ => True) (r + 1)) c' i' = gJ far a b w (fun _ => True) (r + 1) (i' / 6) (i' % 6) := by unfold gTab; rw [if_pos h1]
    rw [e1, e2]
    show _ = if True ∧ ((i' / 6 = a r ∧ i' % 6 = b r) ∨ (i' / 6 = b r ∧ i' % 6 = a r)) then min (w r) (gJ far a b w (fun _ => True) r (a r) (b r)) else gJ far a b w (fun _ => True) r (i' / 6) (i' % 6)
    by_cases h2 : i' = 6 * a r + b r ∨ i' = 6 * b r + a r
    · rw [if_pos ⟨h1.1, h2⟩, if_pos ⟨trivial, by omega⟩]
    · rw [if_neg (fun z => h2 z.2), if_neg (fun z => h2 (by omega))]
  · rw [if_neg (by omega)]
    unfold gTab
    rw [if_neg h1, if_neg h1]
theorem ga215 {d : Nat} {m V : zMm} (hV : gOk V) (hM : gMo V m) : zEx (d + 1) 215 [.inr (.inr 131)] m none (gTab m 145 (gDm V)) := by
  have hb := hV.1
  refine zC_eq.mp (ze215 ?_)
  have hg : ∀ N : Nat, (N : Int) ≤ V 0 5 → gG (gJ 100000000 (vA V) (vB V) (vM V) (fun _ => True) N) 100000000 := fun N hN => gJ_good (N := N) (by decide) (fun r h => by
    have := hV.2.1 r (by omega) (by omega)
    exact ⟨by omega, fun _ => by omega⟩) _ (Nat.le_refl _)
  simp +contextual (disch := (first | omega | assumption | decide)) only [↓zbrT, ↓zbrF, zw215_0, zw215_2, zw215_3, zw215_4, zw215_5, zw215_6, zw215_8, zw215_9, zw215_10, zw215_11, zw215_13, zw215_15, zw215_16, zw215_17, zw215_18, zw215_19, zr_1, zr_3, zr_4, zr_7, zr_12, zr_16, zr_21, zr_26, zr_27, zr_28, zr_29, zr_30, zr_53, zr_54, zr_56, zr_58, zr_72, zr_73, zlg_0, zlg_s, zls_0, zls_1, zls_s, zkl_i, zkl_r, zkl_l, zkl_n, zkd_131, zkd_138, zkd_139, zkd_145, zln_138, zln_139, zln_145, zrf_131_17, zrf_131_18, zrf_131_27, Int.cast_ofNat_Int, Int.reduceAdd, zbd, zw_id, zmu_same, zmu_c, zmu_i, zdiv_pos, zrem_pos, false_and, and_false, true_and, and_true, true_or, or_true, false_or, or_false, Option.toList, List.nil_append, List.cons_append, zif0, zif1, zif01, zem1, zem2, Int.reduceEq, Int.reduceLT, Int.reduceLE, Int.reduceNeg, Int.reduceSub, Int.reduceMul, if_true, if_false, not_false_eq_true, not_true_eq_false, true_implies, false_implies, Classical.not_not, Nat.reduceAdd, Nat.reduceLeDiff]
  refine zfor 36 (fun j lc m' => 0 ≤ j ∧ (∃ x2, lc = [some (.inr (.inr 131)), some (.inl j), x2]) ∧ m' = gTi m j) ?_ ?_ (i := 0) (by decide) ?_
  · rintro j lc m' hj ⟨h0, ⟨x2, rfl⟩, rfl⟩ kk
    rw [zw215_1]
    by_cases c : j / 6 = j % 6
    · simp +contextual (disch := (first | omega | assumption | decide)) only [↓zbrT, ↓zbrF, zw215_0, zw215_2, zw215_3, zw215_4, zw215_5, zw215_6, zw215_8, zw215_9, zw215_10, zw215_11, zw215_13, zw215_15, zw215_16, zw215_17, zw215_18, zw215_19, zr_1, zr_3, zr_4, zr_7, zr_12, zr_16, zr_21, zr_26, zr_27, zr_28, zr_29, zr_30, zr_53, zr_54, zr_56, zr_58, zr_72, zr_73, zlg_0, zlg_s, zls_0, zls_1, zls_s, zkl_i, zkl_r, zkl_l, zkl_n, zkd_131, zkd_138, zkd_139, zkd_145, zln_138, zln_139, zln_145, zrf_131_17, zrf_131_18, zrf_131_27, Int.cast_ofNat_Int, Int.reduceAdd, zbd, zw_id, zmu_same, zmu_c, zmu_i, zdiv_pos, zrem_pos, false_and, and_false, true_and, and_true, true_or, or_true, false_or, or_false, Option.toList, List.nil_append, List.cons_append, zif0, zif1, zif01, zem1, zem2, Int.reduceEq, Int.reduceLT, Int.reduceLE, Int.reduceNeg, Int.reduceSub, Int.reduceMul, if_true, if_false, not_false_eq_true, not_true_eq_false, true_implies, false_implies, Classical.not_not, Nat.reduceAdd, Nat.reduceLeDiff, c]
      refine kk _ _ ⟨by omega, ⟨_, rfl⟩, ?_⟩
      funext c' i'
      simp only [zmu, gTi]
      (repeat' split) <;> (first | rfl | omega | (exfalso; omega))
    · simp +contextual (disch := (first | omega | assumption | decide)) only [↓zbrT, ↓zbrF, zw215_0, zw215_2, zw215_3, zw215_4, zw215_5, zw215_6, zw215_8, zw215_9, zw215_10, zw215_11, zw215_13, zw215_15, zw215_16, zw215_17, zw215_18, zw215_19, zr_1, zr_3, zr_4, zr_7, zr_12, zr_16, zr_21, zr_26, zr_27, zr_28, zr_29, zr_30, zr_53, zr_54, zr_56, zr_58, zr_72, zr_73, zlg_0, zlg_s, zls_0, zls_1, zls_s, zkl_i, zkl_r, zkl_l, zkl_n, zkd_131, zkd_138, zkd_139, zkd_145, zln_138, zln_139, zln_145, zrf_131_17, zrf_131_18, zrf_131_27, Int.cast_ofNat_Int, Int.reduceAdd, zbd, zw_id, zmu_same, zmu_c, zmu_i, zdiv_pos, zrem_pos, false_and, and_false, true_and, and_true, true_or, or_true, false_or, or_false, Option.toList, List.nil_append, List.cons_append, zif0, zif1, zif01, zem1, zem2, Int.reduceEq, Int.reduceLT, Int.reduceLE, Int.reduceNeg, Int.reduceSub, Int.reduceMul, if_true, if_false, not_false_eq_true, not_true_eq_false, true_implies, false_implies, Classical.not_not, Nat.reduceAdd, Nat.reduceLeDiff, c]
      refine kk _ _ ⟨by omega, ⟨_, rfl⟩, ?_⟩
      funext c' i'
      simp only [zmu, gTi]
      (repeat' split) <;> (first | rfl | omega | (exfalso; omega))
  · rintro lc m' ⟨h0, ⟨x2, rfl⟩, rfl⟩
    rw [zw215_1]
    simp +contextual (disch := (first | omega | assumption | decide)) only [↓zbrT, ↓zbrF, zw215_0, zw215_2, zw215_3, zw215_4, zw215_5, zw215_6, zw215_8, zw215_9, zw215_10, zw215_11, zw215_13, zw215_15, zw215_16, zw215_17, zw215_18, zw215_19, zr_1, zr_3, zr_4, zr_7, zr_12, zr_16, zr_21, zr_26, zr_27, zr_28, zr_29, zr_30, zr_53, zr_54, zr_56, zr_58, zr_72, zr_73, zlg_0, zlg_s, zls_0, zls_1, zls_s, zkl_i, zkl_r, zkl_l, zkl_n, zkd_131, zkd_138, zkd_139, zkd_145, zln_138, zln_139, zln_145, zrf_131_17, zrf_131_18, zrf_131_27, Int.cast_ofNat_Int, Int.reduceAdd, zbd, zw_id, zmu_same, zmu_c, zmu_i, zdiv_pos, zrem_pos, false_and, and_false, true_and, and_true, true_or, or_true, false_or, or_false, Option.toList, List.nil_append, List.cons_append, zif0, zif1, zif01, zem1, zem2, Int.reduceEq, Int.reduceLT, Int.reduceLE, Int.reduceNeg, Int.reduceSub, Int.reduceMul, if_true, if_false, not_false_eq_true, not_true_eq_false, true_implies, false_implies, Classical.not_not, Nat.reduceAdd, Nat.reduceLeDiff]
    have e0 : gTi m 36 = gTab m 145 (gJ 100000000 (vA V) (vB V) (vM V) (fun _ => True) 0) := rfl
    rw [e0]
    have eo : ∀ T c i, c ≠ 145 → gTab m 145 T c i = m c i := fun T c i h => gTab_o h
    refine zfor (V 0 5) (fun r lc m' => 0 ≤ r ∧ (∃ x2, lc = [some (.inr (.inr 131)), some (.inl r), x2]) ∧ m' = gTab m 145 (gJ 100000000 (vA V) (vB V) (vM V) (fun _ => True) r.toNat)) ?_ ?_ (i := 0) (by omega) ?_
    · rintro r lc m' hr ⟨h0, ⟨x2, rfl⟩, rfl⟩ kk
      obtain ⟨n, rfl⟩ : ∃ n : Nat, r = n := ⟨r.toNat, by omega⟩
      rw [Int.toNat_natCast]
      have b := hV.2.1 n h0 hr
      have hM' : gMo V (gTab m 145 (gJ 100000000 (vA V) (vB V) (vM V) (fun _ => True) n)) := gMo_of hM (fun c i a b => eo _ c i (by omega))
      have e1 := gTab_at6 (m0 := m) (c := 145) (T := gJ 100000000 (vA V) (vB V) (vM V) (fun _ => True) n) (p := vA V n) (q := vB V n) ⟨b.1.1, by omega⟩ ⟨b.2.1.1, by omega⟩
      rw [zw215_7]
      by_cases c : vM V n < gJ 100000000 (vA V) (vB V) (vM V) (fun _ => True) n (vA V n) (vB V n)
      · simp +contextual (disch := (first | omega | assumption | decide)) only [↓zbrT, ↓zbrF, zw215_0, zw215_2, zw215_3, zw215_4, zw215_5, zw215_6, zw215_8, zw215_9, zw215_10, zw215_11, zw215_13, zw215_15, zw215_16, zw215_17, zw215_18, zw215_19, zr_1, zr_3, zr_4, zr_7, zr_12, zr_16, zr_21, zr_26, zr_27, zr_28, zr_29, zr_30, zr_53, zr_54, zr_56, zr_58, zr_72, zr_73, zlg_0, zlg_s, zls_0, zls_1, zls_s, zkl_i, zkl_r, zkl_l, zkl_n, zkd_131, zkd_138, zkd_139, zkd_145, zln_138, zln_139, zln_145, zrf_131_17, zrf_131_18, zrf_131_27, Int.cast_ofNat_Int, Int.reduceAdd, zbd, zw_id, zmu_same, zmu_c, zmu_i, zdiv_pos, zrem_pos, false_and, and_false, true_and, and_true, true_or, or_true, false_or, or_false, Option.toList, List.nil_append, List.cons_append, zif0, zif1, zif01, zem1, zem2, Int.reduceEq, Int.reduceLT, Int.reduceLE, Int.reduceNeg, Int.reduceSub, Int.reduceMul, if_true, if_false, not_false_eq_true, not_true_eq_false, true_implies, false_implies, Classical.not_not, Nat.reduceAdd, Nat.reduceLeDiff, gM_0 hM', gM_1 hM', gM_2 hM', gM_3 hM', gM_4 hM', gM_5 hM', gM_6 hM', gM_7 hM', gM_8 hM', gM_9 hM', gM_10 hM', gM_r0 hM', gM_r1 hM', gM_r2 hM', gM_r3 hM', gM_f0 hM', gM_f1 hM', gM_f2 hM', gM_f3 hM', gM_f4 hM', e1]
        refine kk _ _ ⟨by omega, ⟨_, rfl⟩, ?_⟩
        rw [show ((n : Int) + 1).toNat = n + 1 by omega]
        refine gJ_lay ⟨b.1.1, by omega⟩ ⟨b.2.1.1, by omega⟩ (fun c i => ?_)
        simp only [zmu]
        (repeat' split) <;> (first | rfl | omega | (exfalso; omega))
      · simp +contextual (disch := (first | omega | assumption | decide)) only [↓zbrT, ↓zbrF, zw215_0, zw215_2, zw215_3, zw215_4, zw215_5, zw215_6, zw215_8, zw215_9, zw215_10, zw215_11, zw215_13, zw215_15, zw215_16, zw215_17, zw215_18, zw215_19, zr_1, zr_3, zr_4, zr_7, zr_12, zr_16, zr_21, zr_26, zr_27, zr_28, zr_29, zr_30, zr_53, zr_54, zr_56, zr_58, zr_72, zr_73, zlg_0, zlg_s, zls_0, zls_1, zls_s, zkl_i, zkl_r, zkl_l, zkl_n, zkd_131, zkd_138, zkd_139, zkd_145, zln_138, zln_139, zln_145, zrf_131_17, zrf_131_18, zrf_131_27, Int.cast_ofNat_Int, Int.reduceAdd, zbd, zw_id, zmu_same, zmu_c, zmu_i, zdiv_pos, zrem_pos, false_and, and_false, true_and, and_true, true_or, or_true, false_or, or_false, Option.toList, List.nil_append, List.cons_append, zif0, zif1, zif01, zem1, zem2, Int.reduceEq, Int.reduceLT, Int.reduceLE, Int.reduceNeg, Int.reduceSub, Int.reduceMul, if_true, if_false, not_false_eq_true, not_true_eq_false, true_implies, false_implies, Classical.not_not, Nat.reduceAdd, Nat.reduceLeDiff, gM_0 hM', gM_1 hM', gM_2 hM', gM_3 hM', gM_4 hM', gM_5 hM', gM_6 hM', gM_7 hM', gM_8 hM', gM_9 hM', gM_10 hM', gM_r0 hM', gM_r1 hM', gM_r2 hM', gM_r3 hM', gM_f0 hM', gM_f1 hM', gM_f2 hM', gM_f3 hM', gM_f4 hM', e1]
        refine kk _ _ ⟨by omega, ⟨_, rfl⟩, ?_⟩
        rw [show ((n : Int) + 1).toNat = n + 1 by omega]
        refine gJ_lay ⟨b.1.1, by omega⟩ ⟨b.2.1.1, by omega⟩ (fun c i => ?_)
        by_cases c2 : c = 145 ∧ i = 6 * vA V n + vB V n
        · rw [if_pos ⟨c2.1, Or.inl c2.2⟩, c2.1, c2.2]
          simp only [zmu]
          rw [if_neg (by omega), e1]; omega
        · simp only [zmu]
          (repeat' split) <;> (first | rfl | omega | (exfalso; omega))
    · rintro lc m' ⟨h0, ⟨x2, rfl⟩, rfl⟩
      have hM' : gMo V (gTab m 145 (gJ 100000000 (vA V) (vB V) (vM V) (fun _ => True) (V 0 5).toNat)) := gMo_of hM (fun c i a b => eo _ c i (by omega))
      rw [zw215_7]
      simp +contextual (disch := (first | omega | assumption | decide)) only [↓zbrT, ↓zbrF, zw215_0, zw215_2, zw215_3, zw215_4, zw215_5, zw215_6, zw215_8, zw215_9, zw215_10, zw215_11, zw215_13, zw215_15, zw215_16, zw215_17, zw215_18, zw215_19, zr_1, zr_3, zr_4, zr_7, zr_12, zr_16, zr_21, zr_26, zr_27, zr_28, zr_29, zr_30, zr_53, zr_54, zr_56, zr_58, zr_72, zr_73, zlg_0, zlg_s, zls_0, zls_1, zls_s, zkl_i, zkl_r, zkl_l, zkl_n, zkd_131, zkd_138, zkd_139, zkd_145, zln_138, zln_139, zln_145, zrf_131_17, zrf_131_18, zrf_131_27, Int.cast_ofNat_Int, Int.reduceAdd, zbd, zw_id, zmu_same, zmu_c, zmu_i, zdiv_pos, zrem_pos, false_and, and_false, true_and, and_true, true_or, or_true, false_or, or_false, Option.toList, List.nil_append, List.cons_append, zif0, zif1, zif01, zem1, zem2, Int.reduceEq, Int.reduceLT, Int.reduceLE, Int.reduceNeg, Int.reduceSub, Int.reduceMul, if_true, if_false, not_false_eq_true, not_true_eq_false, true_implies, false_implies, Classical.not_not, Nat.reduceAdd, Nat.reduceLeDiff, gM_0 hM', gM_1 hM', gM_2 hM', gM_3 hM', gM_4 hM', gM_5 hM', gM_6 hM', gM_7 hM', gM_8 hM', gM_9 hM', gM_10 hM', gM_r0 hM', gM_r1 hM', gM_r2 hM', gM_r3 hM', gM_f0 hM', gM_f1 hM', gM_f2 hM', gM_f3 hM', gM_f4 hM']
      have hG := hg (V 0 5).toNat (by omega)
      have ed : gDm V = gF (gJ 100000000 (vA V) (vB V) (vM V) (fun _ => True) (V 0 5).toNat) 6 := rfl
      revert hG ed
      generalize gJ 100000000 (vA V) (vB V) (vM V) (fun _ => True) (V 0 5).toNat = T
      intro hG ed
      refine zfor 6 (fun k lc m' => 0 ≤ k ∧ (∃ x2, lc = [some (.inr (.inr 131)), some (.inl k), x2]) ∧ m' = gTf m T k.toNat 0) ?_ ?_ (i := 0) (by decide) ?_
      · rintro k lc m' hk ⟨h0, ⟨x2, rfl⟩, rfl⟩ k1
        obtain ⟨n, rfl⟩ : ∃ n : Nat, k = n := ⟨k.toNat, by omega⟩
        rw [Int.toNat_natCast]
        rw [zw215_12]
        simp +contextual (disch := (first | omega | assumption | decide)) only [↓zbrT, ↓zbrF, zw215_0, zw215_2, zw215_3, zw215_4, zw215_5, zw215_6, zw215_8, zw215_9, zw215_10, zw215_11, zw215_13, zw215_15, zw215_16, zw215_17, zw215_18, zw215_19, zr_1, zr_3, zr_4, zr_7, zr_12, zr_16, zr_21, zr_26, zr_27, zr_28, zr_29, zr_30, zr_53, zr_54, zr_56, zr_58, zr_72, zr_73, zlg_0, zlg_s, zls_0, zls_1, zls_s, zkl_i, zkl_r, zkl_l, zkl_n, zkd_131, zkd_138, zkd_139, zkd_145, zln_138, zln_139, zln_145, zrf_131_17, zrf_131_18, zrf_131_27, Int.cast_ofNat_Int, Int.reduceAdd, zbd, zw_id, zmu_same, zmu_c, zmu_i, zdiv_pos, zrem_pos, false_and, and_false, true_and, and_true, true_or, or_true, false_or, or_false, Option.toList, List.nil_append, List.cons_append, zif0, zif1, zif01, zem1, zem2, Int.reduceEq, Int.reduceLT, Int.reduceLE, Int.reduceNeg, Int.reduceSub, Int.reduceMul, if_true, if_false, not_false_eq_true, not_true_eq_false, true_implies, false_implies, Classical.not_not, Nat.reduceAdd, Nat.reduceLeDiff]
        refine zfor 36 (fun j lc m' => 0 ≤ j ∧ lc = [some (.inr (.inr 131)), some (.inl n), some (.inl j)] ∧ m' = gTf m T n j) ?_ ?_ (i := 0) (by decide) ?_
        · rintro j lc m' hj ⟨h0, rfl, rfl⟩ k2
          obtain ⟨p, q, hp, hq, rfl⟩ : ∃ p q, (0 ≤ p ∧ p < 6) ∧ (0 ≤ q ∧ q < 6) ∧ j = 6 * p + q := ⟨j / 6, j % 6, by omega, by omega, by omega⟩
          have i1 : (6 * p + q) % 6 = q := by omega
          have i2 : 6 * p + q - q + (n : Int) = 6 * p + n := by omega
          have e1 : gTf m T n (6 * p + q) 145 (6 * p + n) = gF T n p n := by
            rw [gTf_at hp ⟨by omega, by omega⟩]
            split
            · exact gF_col hG n p
            · rfl
          have e2 : gTf m T n (6 * p + q) 145 (6 * (n : Int) + q) = gF T n n q := by
            rw [gTf_at ⟨by omega, by omega⟩ hq]
            split
            · exact gF_row hG n q
            · rfl
          have e3 : gTf m T n (6 * p + q) 145 (6 * p + q) = gF T n p q := by
            rw [gTf_at hp hq, if_neg (by omega)]
          have e4 : gF T (n + 1) p q = min (gF T n p q) (gF T n p n + gF T n n q) := rfl
          have g1 := (gF_good hG n).2 p n
          have g2 := (gF_good hG n).2 n q
          have g3 := (gF_good hG n).2 p q
          have ends : ∀ m', (∀ c' i', m' c' i' = if c' = 145 ∧ i' = 6 * p + q then gF T (n + 1) p q else gTf m T n (6 * p + q) c' i') → m' = gTf m T n (6 * p + q + 1) := by
            intro m' h
            funext c' i'
            rw [h]
            by_cases h1 : c' = 145 ∧ i' = 6 * p + q
            · obtain ⟨rfl, rfl⟩ := h1
              rw [if_pos ⟨rfl, rfl⟩, gTf_at hp hq, if_pos (by omega)]
            · rw [if_neg h1]
              unfold gTf
              (repeat' split) <;> (first | rfl | omega | (exfalso; omega))
          rw [zw215_14]
          by_cases c : gF T n p n + gF T n n q < gF T n p q
          · simp +contextual (disch := (first | omega | assumption | decide)) only [↓zbrT, ↓zbrF, zw215_0, zw215_2, zw215_3, zw215_4, zw215_5, zw215_6, zw215_8, zw215_9, zw215_10, zw215_11, zw215_13, zw215_15, zw215_16, zw215_17, zw215_18, zw215_19, zr_1, zr_3, zr_4, zr_7, zr_12, zr_16, zr_21, zr_26, zr_27, zr_28, zr_29, zr_30, zr_53, zr_54, zr_56, zr_58, zr_72, zr_73, zlg_0, zlg_s, zls_0, zls_1, zls_s, zkl_i, zkl_r, zkl_l, zkl_n, zkd_131, zkd_138, zkd_139, zkd_145, zln_138, zln_139, zln_145, zrf_131_17, zrf_131_18, zrf_131_27, Int.cast_ofNat_Int, Int.reduceAdd, zbd, zw_id, zmu_same, zmu_c, zmu_i, zdiv_pos, zrem_pos, false_and, and_false, true_and, and_true, true_or, or_true, false_or, or_false, Option.toList, List.nil_append, List.cons_append, zif0, zif1, zif01, zem1, zem2, Int.reduceEq, Int.reduceLT, Int.reduceLE, Int.reduceNeg, Int.reduceSub, Int.reduceMul, if_true, if_false, not_false_eq_true, not_true_eq_false, true_implies, false_implies, Classical.not_not, Nat.reduceAdd, Nat.reduceLeDiff, i1, i2, e1, e2, e3]
            refine k2 _ _ ⟨by omega, rfl, ends _ (fun c' i' => ?_)⟩
            unfold zmu
            rw [e4, show min (gF T n p q) (gF T n p n + gF T n n q) = gF T n p n + gF T n n q by omega]
          · simp +contextual (disch := (first | omega | assumption | decide)) only [↓zbrT, ↓zbrF, zw215_0, zw215_2, zw215_3, zw215_4, zw215_5, zw215_6, zw215_8, zw215_9, zw215_10, zw215_11, zw215_13, zw215_15, zw215_16, zw215_17, zw215_18, zw215_19, zr_1, zr_3, zr_4, zr_7, zr_12, zr_16, zr_21, zr_26, zr_27, zr_28, zr_29, zr_30, zr_53, zr_54, zr_56, zr_58, zr_72, zr_73, zlg_0, zlg_s, zls_0, zls_1, zls_s, zkl_i, zkl_r, zkl_l, zkl_n, zkd_131, zkd_138, zkd_139, zkd_145, zln_138, zln_139, zln_145, zrf_131_17, zrf_131_18, zrf_131_27, Int.cast_ofNat_Int, Int.reduceAdd, zbd, zw_id, zmu_same, zmu_c, zmu_i, zdiv_pos, zrem_pos, false_and, and_false, true_and, and_true, true_or, or_true, false_or, or_false, Option.toList, List.nil_append, List.cons_append, zif0, zif1, zif01, zem1, zem2, Int.reduceEq, Int.reduceLT, Int.reduceLE, Int.reduceNeg, Int.reduceSub, Int.reduceMul, if_true, if_false, not_false_eq_true, not_true_eq_false, true_implies, false_implies, Classical.not_not, Nat.reduceAdd, Nat.reduceLeDiff, i1, i2, e1, e2, e3]
            refine k2 _ _ ⟨by omega, rfl, ends _ (fun c' i' => ?_)⟩
            by_cases h1 : c' = 145 ∧ i' = 6 * p + q
            · rw [if_pos h1, h1.1, h1.2, e3, e4]; omega
            · rw [if_neg h1]
        · rintro lc m' ⟨h0, rfl, rfl⟩
          rw [zw215_14]
          simp +contextual (disch := (first | omega | assumption | decide)) only [↓zbrT, ↓zbrF, zw215_0, zw215_2, zw215_3, zw215_4, zw215_5, zw215_6, zw215_8, zw215_9, zw215_10, zw215_11, zw215_13, zw215_15, zw215_16, zw215_17, zw215_18, zw215_19, zr_1, zr_3, zr_4, zr_7, zr_12, zr_16, zr_21, zr_26, zr_27, zr_28, zr_29, zr_30, zr_53, zr_54, zr_56, zr_58, zr_72, zr_73, zlg_0, zlg_s, zls_0, zls_1, zls_s, zkl_i, zkl_r, zkl_l, zkl_n, zkd_131, zkd_138, zkd_139, zkd_145, zln_138, zln_139, zln_145, zrf_131_17, zrf_131_18, zrf_131_27, Int.cast_ofNat_Int, Int.reduceAdd, zbd, zw_id, zmu_same, zmu_c, zmu_i, zdiv_pos, zrem_pos, false_and, and_false, true_and, and_true, true_or, or_true, false_or, or_false, Option.toList, List.nil_append, List.cons_append, zif0, zif1, zif01, zem1, zem2, Int.reduceEq, Int.reduceLT, Int.reduceLE, Int.reduceNeg, Int.reduceSub, Int.reduceMul, if_true, if_false, not_false_eq_true, not_true_eq_false, true_implies, false_implies, Classical.not_not, Nat.reduceAdd, Nat.reduceLeDiff]
          refine k1 _ _ ⟨by omega, ⟨_, rfl⟩, ?_⟩
          rw [show ((n : Int) + 1).toNat = n + 1 by omega]
          funext c' i'
          unfold gTf
          (repeat' split) <;> (first | rfl | omega | (exfalso; omega))
        · exact ⟨by decide, rfl, rfl⟩
      · rintro lc m' ⟨h0, ⟨x2, rfl⟩, rfl⟩
        rw [zw215_12]
        simp +contextual (disch := (first | omega | assumption | decide)) only [↓zbrT, ↓zbrF, zw215_0, zw215_2, zw215_3, zw215_4, zw215_5, zw215_6, zw215_8, zw215_9, zw215_10, zw215_11, zw215_13, zw215_15, zw215_16, zw215_17, zw215_18, zw215_19, zr_1, zr_3, zr_4, zr_7, zr_12, zr_16, zr_21, zr_26, zr_27, zr_28, zr_29, zr_30, zr_53, zr_54, zr_56, zr_58, zr_72, zr_73, zlg_0, zlg_s, zls_0, zls_1, zls_s, zkl_i, zkl_r, zkl_l, zkl_n, zkd_131, zkd_138, zkd_139, zkd_145, zln_138, zln_139, zln_145, zrf_131_17, zrf_131_18, zrf_131_27, Int.cast_ofNat_Int, Int.reduceAdd, zbd, zw_id, zmu_same, zmu_c, zmu_i, zdiv_pos, zrem_pos, false_and, and_false, true_and, and_true, true_or, or_true, false_or, or_false, Option.toList, List.nil_append, List.cons_append, zif0, zif1, zif01, zem1, zem2, Int.reduceEq, Int.reduceLT, Int.reduceLE, Int.reduceNeg, Int.reduceSub, Int.reduceMul, if_true, if_false, not_false_eq_true, not_true_eq_false, true_implies, false_implies, Classical.not_not, Nat.reduceAdd, Nat.reduceLeDiff]
        rw [ed]
        funext c' i'
        unfold gTf gTab
        (repeat' split) <;> (first | rfl | omega | (exfalso; omega))
      · refine ⟨by decide, ⟨_, rfl⟩, ?_⟩
        funext c' i'
        unfold gTf gTab
        (repeat' split) <;> (first | rfl | omega | (exfalso; omega))
    · exact ⟨by decide, ⟨_, rfl⟩, rfl⟩
  · refine ⟨by decide, ⟨_, rfl⟩, ?_⟩
    funext c' i'
    simp only [gTi]
    rw [if_neg (by omega)]
theorem zq215 {d : Nat} {m V : zMm} {rest : List zV} {k : List zV → zMm → Prop} (hV : gOk V) (hM : gMo V m) : zcl (zEx (d + 1)) 215 1 (.inr (.inr 131) :: rest) m k = (zcat rest ≤ 8 ∧ k rest (gTab m 145 (gDm V))) := zcl_eq (as := [.inr (.inr 131)]) (r := none) (ga215 hV hM) rfl rfl
/-- the model's miles lie there -/
def gFr (V m : zMm) : Prop := ∀ p q, 0 ≤ p → p < 6 → 0 ≤ q → q < 6 → m 145 (6 * p + q) = gDm V p q
theorem gFr_tab {V m : zMm} : gFr V (gTab m 145 (gDm V)) := fun p q a b c d => gTab_at6 ⟨a, b⟩ ⟨c, d⟩
theorem zq216 {d : Nat} {m : zMm} {p : Int} {g : Int} {rest : List zV} {k : List zV → zMm → Prop} {V : zMm} (hV : gOk V) (hM : gMo V m) (hF : gFr V m) (hp : 0 ≤ p ∧ p < 6) (hg : 0 ≤ g ∧ g < V 0 5) : zcl (zEx (d + 1)) 216 3 (.inl g :: .inl p :: .inr (.inr 131) :: rest) m k = (zcat rest ≤ 8 ∧ k (.inl (min (gDm V p (vA V g)) (gDm V p (vB V g))) :: rest) m) := by
  refine zcl_eq (as := [.inr (.inr 131), .inl p, .inl g]) (r := some (.inl (min (gDm V p (vA V g)) (gDm V p (vB V g))))) (zC_eq.mp (ze216 ?_)) rfl rfl
  have hb := hV.1
  have b := hV.2.1 g hg.1 hg.2
  have e1 := hF p (vA V g) hp.1 hp.2 b.1.1 (by omega)
  have e2 := hF p (vB V g) hp.1 hp.2 b.2.1.1 (by omega)
  by_cases c : gDm V p (vA V g) < gDm V p (vB V g)
  · simp +contextual (disch := (first | omega | assumption | decide)) only [↓zbrT, ↓zbrF, zw216_0, zw216_1, zw216_2, zw216_3, zr_1, zr_3, zr_4, zr_7, zr_12, zr_16, zr_26, zr_28, zr_54, zr_58, zr_70, zr_73, zlg_0, zlg_s, zls_0, zls_1, zls_s, zkl_i, zkl_r, zkl_l, zkl_n, zkd_131, zkd_139, zkd_145, zln_139, zln_145, zrf_131_18, zrf_131_27, Int.cast_ofNat_Int, Int.reduceAdd, zbd, zw_id, false_and, and_false, true_and, and_true, true_or, or_true, false_or, or_false, Option.toList, List.nil_append, List.cons_append, zif0, zif1, zif01, zem1, zem2, Int.reduceEq, Int.reduceLT, Int.reduceLE, Int.reduceNeg, Int.reduceSub, Int.reduceMul, if_true, if_false, not_false_eq_true, not_true_eq_false, true_implies, false_implies, Classical.not_not, Nat.reduceAdd, Nat.reduceLeDiff, gM_0 hM, gM_1 hM, gM_2 hM, gM_3 hM, gM_4 hM, gM_5 hM, gM_6 hM, gM_7 hM, gM_8 hM, gM_9 hM, gM_10 hM, gM_r0 hM, gM_r1 hM, gM_r2 hM, gM_r3 hM, gM_f0 hM, gM_f1 hM, gM_f2 hM, gM_f3 hM, gM_f4 hM, e1, e2]
    rw [show min (gDm V p (vA V g)) (gDm V p (vB V g)) = gDm V p (vA V g) by omega]
  · simp +contextual (disch := (first | omega | assumption | decide)) only [↓zbrT, ↓zbrF, zw216_0, zw216_1, zw216_2, zw216_3, zr_1, zr_3, zr_4, zr_7, zr_12, zr_16, zr_26, zr_28, zr_54, zr_58, zr_70, zr_73, zlg_0, zlg_s, zls_0, zls_1, zls_s, zkl_i, zkl_r, zkl_l, zkl_n, zkd_131, zkd_139, zkd_145, zln_139, zln_145, zrf_131_18, zrf_131_27, Int.cast_ofNat_Int, Int.reduceAdd, zbd, zw_id, false_and, and_false, true_and, and_true, true_or, or_true, false_or, or_false, Option.toList, List.nil_append, List.cons_append, zif0, zif1, zif01, zem1, zem2, Int.reduceEq, Int.reduceLT, Int.reduceLE, Int.reduceNeg, Int.reduceSub, Int.reduceMul, if_true, if_false, not_false_eq_true, not_true_eq_false, true_implies, false_implies, Classical.not_not, Nat.reduceAdd, Nat.reduceLeDiff, gM_0 hM, gM_1 hM, gM_2 hM, gM_3 hM, gM_4 hM, gM_5 hM, gM_6 hM, gM_7 hM, gM_8 hM, gM_9 hM, gM_10 hM, gM_r0 hM, gM_r1 hM, gM_r2 hM, gM_r3 hM, gM_f0 hM, gM_f1 hM, gM_f2 hM, gM_f3 hM, gM_f4 hM, e1, e2]
    rw [show min (gDm V p (vA V g)) (gDm V p (vB V g)) = gDm V p (vB V g) by omega]
theorem zq217 {d : Nat} {m : zMm} {p : Int} {g : Int} {rest : List zV} {k : List zV → zMm → Prop} {V : zMm} (hV : gOk V) (hM : gMo V m) (hF : gFr V m) (hp : 0 ≤ p ∧ p < 6) (hg : 0 ≤ g ∧ g < V 0 5) : zcl (zEx (d + 2)) 217 3 (.inl g :: .inl p :: .inr (.inr 131) :: rest) m k = (zcat rest ≤ 8 ∧ k (.inl (if V 0 8 < min (gD V p (vA V g)) (gD V p (vB V g)) then 1 else 0) :: rest) m) := by
  refine zcl_eq (as := [.inr (.inr 131), .inl p, .inl g]) (r := some (.inl (if V 0 8 < min (gD V p (vA V g)) (gD V p (vB V g)) then 1 else 0))) (zC_eq.mp (ze217 ?_)) rfl rfl
  have hb := hV.1
  have d1 := gDm_eq hV p (vA V g)
  have d2 := gDm_eq hV p (vB V g)
  by_cases c : V 0 8 < min (gD V p (vA V g)) (gD V p (vB V g))
  · simp +contextual (disch := (first | omega | assumption | decide)) only [↓zbrT, ↓zbrF, zw217_0, zw217_1, zw217_2, zw217_3, zr_1, zr_3, zr_7, zr_12, zr_16, zr_54, zr_60, zr_68, zr_73, zr_76, zlg_0, zlg_s, zrc_1, zrc_s, zcat_n, zcat_i, zcat_l, zcat_r, zkd_131, zkd_138, zln_138, zrf_131_17, Int.cast_ofNat_Int, Int.reduceAdd, zbd, false_and, and_false, true_and, and_true, true_or, or_true, false_or, or_false, Option.toList, List.nil_append, List.cons_append, zif0, zif1, zif01, zem1, zem2, Int.reduceEq, Int.reduceLT, Int.reduceLE, Int.reduceNeg, Int.reduceSub, Int.reduceMul, if_true, if_false, not_false_eq_true, not_true_eq_false, true_implies, false_implies, Classical.not_not, Nat.reduceAdd, Nat.reduceLeDiff, gM_0 hM, gM_1 hM, gM_2 hM, gM_3 hM, gM_4 hM, gM_5 hM, gM_6 hM, gM_7 hM, gM_8 hM, gM_9 hM, gM_10 hM, gM_r0 hM, gM_r1 hM, gM_r2 hM, gM_r3 hM, gM_f0 hM, gM_f1 hM, gM_f2 hM, gM_f3 hM, gM_f4 hM, zq216 hV hM hF, if_pos c]
  · simp +contextual (disch := (first | omega | assumption | decide)) only [↓zbrT, ↓zbrF, zw217_0, zw217_1, zw217_2, zw217_3, zr_1, zr_3, zr_7, zr_12, zr_16, zr_54, zr_60, zr_68, zr_73, zr_76, zlg_0, zlg_s, zrc_1, zrc_s, zcat_n, zcat_i, zcat_l, zcat_r, zkd_131, zkd_138, zln_138, zrf_131_17, Int.cast_ofNat_Int, Int.reduceAdd, zbd, false_and, and_false, true_and, and_true, true_or, or_true, false_or, or_false, Option.toList, List.nil_append, List.cons_append, zif0, zif1, zif01, zem1, zem2, Int.reduceEq, Int.reduceLT, Int.reduceLE, Int.reduceNeg, Int.reduceSub, Int.reduceMul, if_true, if_false, not_false_eq_true, not_true_eq_false, true_implies, false_implies, Classical.not_not, Nat.reduceAdd, Nat.reduceLeDiff, gM_0 hM, gM_1 hM, gM_2 hM, gM_3 hM, gM_4 hM, gM_5 hM, gM_6 hM, gM_7 hM, gM_8 hM, gM_9 hM, gM_10 hM, gM_r0 hM, gM_r1 hM, gM_r2 hM, gM_r3 hM, gM_f0 hM, gM_f1 hM, gM_f2 hM, gM_f3 hM, gM_f4 hM, zq216 hV hM hF, if_neg c]
