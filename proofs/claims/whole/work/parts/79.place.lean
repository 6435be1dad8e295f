/-! ===== places, room, what is told ===== -/
theorem pDn_m {T : zMm} {s : Int × Int × Int} (h : s.1 ≤ T 0 0) : pDn T (-1) s = s := by
  unfold pDn
  rw [if_neg]
  rintro ⟨⟨a, b⟩, c⟩
  have := gVk_x h b
  omega
theorem pBl_b {T : zMm} {c : Int} {s : Int × Int × Int} (h : s.2.1 ≠ 0) : pBl T c s = s := by unfold pBl; rw [if_neg h]
theorem pTw_b {T : zMm} {w : Int} {s : Int × Int × Int} (h : s.2.1 ≠ 0) : pTw T w s = s := by
  unfold pTw
  rw [if_neg (fun z => h (pIs_t.mp z).1), pBl_b h]
theorem pNu_b {T : zMm} {lo hi : Int} {s : Int × Int × Int} (h : s.2.1 ≠ 0) : pNu T lo hi s = s := by
  unfold pNu
  rw [if_neg (fun z => h (pIn_t.mp z).1.1), if_neg (fun z => h z.1), pBl_b h]
theorem pDn_b {T : zMm} {x : Int} {s : Int × Int × Int} (h : s.2.1 ≠ 0) : pDn T x s = s := by
  unfold pDn
  rw [if_neg (fun z => h z.1.1)]
theorem pN_b {T : zMm} {w lo hi : Int} {s : Int × Int × Int} (h : s.2.1 ≠ 0) : pN T w lo hi s = s := by unfold pN; rw [pTw_b h, pNu_b h]
theorem pQ_b {T : zMm} {w P x : Int} {s : Int × Int × Int} (h : s.2.1 ≠ 0) : pQ T w P x s = s := by unfold pQ pPl; rw [pTw_b h, pDn_b h, pNu_b h]
theorem pTw_t {T : zMm} {w : Int} {s : Int × Int × Int} (h : pIs T w s = true) : pTw T w s = pAd T s := by unfold pTw; rw [if_pos h]
theorem pTw_f {T : zMm} {w : Int} {s : Int × Int × Int} (h : ¬ pIs T w s = true) : pTw T w s = pBl T 1 s := by unfold pTw; rw [if_neg h]
theorem ga193 {d : Nat} {m : zMm} {i v : Int} (h : 0 ≤ i ∧ i < 10) : zEx (d + 1) 193 [.inr (.inr 131), .inl i, .inl v] m none (zmu m 138 (40 + i) v) := by
  refine zC_eq.mp (ze193 ?_)
  simp +contextual (disch := (first | omega | assumption | decide)) only [zw193_0, zr_1, zr_3, zr_7, zr_12, zr_21, zr_26, zr_72, zlg_0, zlg_s, zkd_131, zkd_138, zln_138, zrf_131_17, Int.cast_ofNat_Int, Int.reduceAdd, zbd, zw_id, zmu_same, zmu_c, zmu_i, false_and, and_false, true_and, and_true, true_or, or_true, false_or, or_false, Option.toList, List.nil_append, List.cons_append, zif0, zif1, zif01, zem1, zem2, Int.reduceEq, Int.reduceLT, Int.reduceLE, Int.reduceNeg, Int.reduceSub, Int.reduceMul, if_true, if_false, not_false_eq_true, not_true_eq_false, true_implies, false_implies, Classical.not_not, Nat.reduceAdd, Nat.reduceLeDiff]
theorem zq193 {d : Nat} {m : zMm} {i v : Int} {rest : List zV} {k : List zV → zMm → Prop} (h : 0 ≤ i ∧ i < 10) : zcl (zEx (d + 1)) 193 3 (.inl v :: .inl i :: .inr (.inr 131) :: rest) m k = (zcat rest ≤ 8 ∧ k rest (zmu m 138 (40 + i) v)) := zcl_eq (as := [.inr (.inr 131), .inl i, .inl v]) (r := none) (ga193 h) rfl rfl
theorem gz194 {d : Nat} {m : zMm} {T : zMm} {P : Int} {s : Int × Int × Int} (hk : gTo1 T) (hP : m 138 40 = P) (hP0 : 0 ≤ P ∧ P ≤ 6) (hp : gPd T s m) : zC (d + 4) 194 [.inr (.inr 131)] m (fun r' m' => r' = some (.inl (pVa T 0 (P - 1) 0 s)) ∧ gPd T (pNu T 0 (P - 1) s) m' ∧ gFn m m') := by
  refine ze194 ?_
  have h0 : m 138 (40 + 0) = P := hP
  simp +contextual (disch := (first | omega | assumption | decide)) only [zw194_0, zr_3, zr_7, zr_27, zr_68, zr_70, zlg_0, zlg_s, zrc_1, zrc_s, zcat_n, zcat_i, zcat_l, zcat_r, zkd_131, Int.cast_ofNat_Int, Int.reduceAdd, zw_id, false_and, and_false, true_and, and_true, true_or, or_true, false_or, or_false, Option.toList, List.nil_append, List.cons_append, zif0, zif1, zif01, zem1, zem2, Int.reduceEq, Int.reduceLT, Int.reduceLE, Int.reduceNeg, Int.reduceSub, Int.reduceMul, if_true, if_false, not_false_eq_true, not_true_eq_false, true_implies, false_implies, Classical.not_not, Nat.reduceAdd, Nat.reduceLeDiff, zq192, hP, h0]
  refine gK (gz186 hk (show P - 1 < 100000 by omega) hp) rfl rfl (Nat.le_of_ble_eq_true rfl) ?_
  rintro _ m2 ⟨rfl, r1, r2⟩
  simp +contextual (disch := (first | omega | assumption | decide)) only [zw194_0, zr_3, zr_7, zr_27, zr_68, zr_70, zlg_0, zlg_s, zrc_1, zrc_s, zcat_n, zcat_i, zcat_l, zcat_r, zkd_131, Int.cast_ofNat_Int, Int.reduceAdd, zw_id, false_and, and_false, true_and, and_true, true_or, or_true, false_or, or_false, Option.toList, List.nil_append, List.cons_append, zif0, zif1, zif01, zem1, zem2, Int.reduceEq, Int.reduceLT, Int.reduceLE, Int.reduceNeg, Int.reduceSub, Int.reduceMul, if_true, if_false, not_false_eq_true, not_true_eq_false, true_implies, false_implies, Classical.not_not, Nat.reduceAdd, Nat.reduceLeDiff]
  exact ⟨r1, r2⟩
theorem gz195 {d : Nat} {m : zMm} {x : Int} {T : zMm} {P : Int} {s : Int × Int × Int} (hk : gTo1 T) (hP : m 138 40 = P) (hP0 : 0 ≤ P ∧ P ≤ 6) (hx : 0 ≤ x ∧ x ≤ 100) (hp : gPd T s m) : zC (d + 5) 195 [.inr (.inr 131), .inl x] m (fun r' m' => r' = some (.inl (pR T 555 P x s)) ∧ gPd T (pQ T 555 P x s) m' ∧ gFn m m') := by
  refine ze195 ?_
  simp +contextual (disch := (first | omega | assumption | decide)) only [↓zbrT, ↓zbrF, zw195_0, zw195_1, zw195_2, zw195_3, zw195_4, zr_1, zr_3, zr_7, zr_8, zr_10, zr_56, zr_62, zr_68, zr_70, zr_73, zlg_0, zlg_s, zrc_1, zrc_s, zcat_n, zcat_i, zcat_l, zcat_r, zkd_131, Int.cast_ofNat_Int, Int.reduceAdd, false_and, and_false, true_and, and_true, true_or, or_true, false_or, or_false, Option.toList, List.nil_append, List.cons_append, zif0, zif1, zif01, zem1, zem2, Int.reduceEq, Int.reduceLT, Int.reduceLE, Int.reduceNeg, Int.reduceSub, Int.reduceMul, if_true, if_false, not_false_eq_true, not_true_eq_false, true_implies, false_implies, Classical.not_not, Nat.reduceAdd, Nat.reduceLeDiff]
  refine gK (gz185 hk hp) rfl rfl (Nat.le_of_ble_eq_true rfl) ?_
  rintro _ m2 ⟨rfl, r1, r2⟩
  have hP2 : m2 138 40 = P := by rw [gFn_u r2 (by decide)]; exact hP
  have r10 := r1
  obtain ⟨ht, ⟨q7, q8, q9, q10, q11⟩, f1, f2, hq⟩ := r1
  unfold pR pQ pPl pDn
  by_cases c : ((pTw T 555 s).2.1 = 0 ∧ gKi T (pTw T 555 s).1 = 2) ∧ gVl T (pTw T 555 s).1 = x
  · rw [if_pos c]
    have v := gVk_x hq.2 c.1.2
    rw [v.2.1 (by omega), c.2] at q10
    rw [c.1.1] at f1
    rw [c.1.2] at q8
    simp +contextual (disch := (first | omega | assumption | decide)) only [↓zbrT, ↓zbrF, zw195_0, zw195_1, zw195_2, zw195_3, zw195_4, zr_1, zr_3, zr_7, zr_8, zr_10, zr_56, zr_62, zr_68, zr_70, zr_73, zlg_0, zlg_s, zrc_1, zrc_s, zcat_n, zcat_i, zcat_l, zcat_r, zkd_131, Int.cast_ofNat_Int, Int.reduceAdd, false_and, and_false, true_and, and_true, true_or, or_true, false_or, or_false, Option.toList, List.nil_append, List.cons_append, zif0, zif1, zif01, zem1, zem2, Int.reduceEq, Int.reduceLT, Int.reduceLE, Int.reduceNeg, Int.reduceSub, Int.reduceMul, if_true, if_false, not_false_eq_true, not_true_eq_false, true_implies, false_implies, Classical.not_not, Nat.reduceAdd, Nat.reduceLeDiff, f1, q8, q10]
    refine gK (gz182 r10) rfl rfl (Nat.le_of_ble_eq_true rfl) ?_
    rintro _ m3 ⟨rfl, r3, r4⟩
    have hP3 : m3 138 40 = P := by rw [gFn_u r4 (by decide)]; exact hP2
    simp +contextual (disch := (first | omega | assumption | decide)) only [↓zbrT, ↓zbrF, zw195_0, zw195_1, zw195_2, zw195_3, zw195_4, zr_1, zr_3, zr_7, zr_8, zr_10, zr_56, zr_62, zr_68, zr_70, zr_73, zlg_0, zlg_s, zrc_1, zrc_s, zcat_n, zcat_i, zcat_l, zcat_r, zkd_131, Int.cast_ofNat_Int, Int.reduceAdd, false_and, and_false, true_and, and_true, true_or, or_true, false_or, or_false, Option.toList, List.nil_append, List.cons_append, zif0, zif1, zif01, zem1, zem2, Int.reduceEq, Int.reduceLT, Int.reduceLE, Int.reduceNeg, Int.reduceSub, Int.reduceMul, if_true, if_false, not_false_eq_true, not_true_eq_false, true_implies, false_implies, Classical.not_not, Nat.reduceAdd, Nat.reduceLeDiff]
    refine gK (gz194 hk hP3 hP0 r3) rfl rfl (Nat.le_of_ble_eq_true rfl) ?_
    rintro _ m4 ⟨rfl, r5, r6⟩
    simp +contextual (disch := (first | omega | assumption | decide)) only [↓zbrT, ↓zbrF, zw195_0, zw195_1, zw195_2, zw195_3, zw195_4, zr_1, zr_3, zr_7, zr_8, zr_10, zr_56, zr_62, zr_68, zr_70, zr_73, zlg_0, zlg_s, zrc_1, zrc_s, zcat_n, zcat_i, zcat_l, zcat_r, zkd_131, Int.cast_ofNat_Int, Int.reduceAdd, false_and, and_false, true_and, and_true, true_or, or_true, false_or, or_false, Option.toList, List.nil_append, List.cons_append, zif0, zif1, zif01, zem1, zem2, Int.reduceEq, Int.reduceLT, Int.reduceLE, Int.reduceNeg, Int.reduceSub, Int.reduceMul, if_true, if_false, not_false_eq_true, not_true_eq_false, true_implies, false_implies, Classical.not_not, Nat.reduceAdd, Nat.reduceLeDiff]
    exact ⟨r5, gFn_tr r2 (gFn_tr r4 r6)⟩
  · rw [if_neg c]
    have go : zcl (zEx (d + 4)) 194 1 [.inr (.inr 131)] m2 (fun s_1 m_1 => zrun (zEx (d + 4)) [(70, 0, 0, 0)] [some (.inr (.inr 131)), some (.inl x)] s_1 m_1 (fun b' l' s' m' => zWP (zEx (d + 4)) 195 b' l' s' m' (fun r' m' => r' = some (.inl (pVa T 0 (P - 1) 0 (pTw T 555 s))) ∧ gPd T (pNu T 0 (P - 1) (pTw T 555 s)) m' ∧ gFn m m')) (fun r' m' => r' = some (.inl (pVa T 0 (P - 1) 0 (pTw T 555 s))) ∧ gPd T (pNu T 0 (P - 1) (pTw T 555 s)) m' ∧ gFn m m')) := by
      refine gK (gz194 hk hP2 hP0 r10) rfl rfl (Nat.le_of_ble_eq_true rfl) ?_
      rintro _ m4 ⟨rfl, r5, r6⟩
      simp +contextual (disch := (first | omega | assumption | decide)) only [↓zbrT, ↓zbrF, zw195_0, zw195_1, zw195_2, zw195_3, zw195_4, zr_1, zr_3, zr_7, zr_8, zr_10, zr_56, zr_62, zr_68, zr_70, zr_73, zlg_0, zlg_s, zrc_1, zrc_s, zcat_n, zcat_i, zcat_l, zcat_r, zkd_131, Int.cast_ofNat_Int, Int.reduceAdd, false_and, and_false, true_and, and_true, true_or, or_true, false_or, or_false, Option.toList, List.nil_append, List.cons_append, zif0, zif1, zif01, zem1, zem2, Int.reduceEq, Int.reduceLT, Int.reduceLE, Int.reduceNeg, Int.reduceSub, Int.reduceMul, if_true, if_false, not_false_eq_true, not_true_eq_false, true_implies, false_implies, Classical.not_not, Nat.reduceAdd, Nat.reduceLeDiff]
      exact ⟨r5, gFn_tr r2 r6⟩
    by_cases c0 : (pTw T 555 s).2.1 = 0
    · rw [c0] at f1
      by_cases c1 : gKi T (pTw T 555 s).1 = 2
      · have c2 : ¬ gVl T (pTw T 555 s).1 = x := fun z => c ⟨⟨c0, c1⟩, z⟩
        have v := gVk_x hq.2 c1
        have c3 : ¬ m2 131 10 = x := by omega
        rw [c1] at q8
        simp +contextual (disch := (first | omega | assumption | decide)) only [↓zbrT, ↓zbrF, zw195_0, zw195_1, zw195_2, zw195_3, zw195_4, zr_1, zr_3, zr_7, zr_8, zr_10, zr_56, zr_62, zr_68, zr_70, zr_73, zlg_0, zlg_s, zrc_1, zrc_s, zcat_n, zcat_i, zcat_l, zcat_r, zkd_131, Int.cast_ofNat_Int, Int.reduceAdd, false_and, and_false, true_and, and_true, true_or, or_true, false_or, or_false, Option.toList, List.nil_append, List.cons_append, zif0, zif1, zif01, zem1, zem2, Int.reduceEq, Int.reduceLT, Int.reduceLE, Int.reduceNeg, Int.reduceSub, Int.reduceMul, if_true, if_false, not_false_eq_true, not_true_eq_false, true_implies, false_implies, Classical.not_not, Nat.reduceAdd, Nat.reduceLeDiff, f1, q8, c3]
        exact go
      · clear c
        rw [← q8] at c1
        simp +contextual (disch := (first | omega | assumption | decide)) only [↓zbrT, ↓zbrF, zw195_0, zw195_1, zw195_2, zw195_3, zw195_4, zr_1, zr_3, zr_7, zr_8, zr_10, zr_56, zr_62, zr_68, zr_70, zr_73, zlg_0, zlg_s, zrc_1, zrc_s, zcat_n, zcat_i, zcat_l, zcat_r, zkd_131, Int.cast_ofNat_Int, Int.reduceAdd, false_and, and_false, true_and, and_true, true_or, or_true, false_or, or_false, Option.toList, List.nil_append, List.cons_append, zif0, zif1, zif01, zem1, zem2, Int.reduceEq, Int.reduceLT, Int.reduceLE, Int.reduceNeg, Int.reduceSub, Int.reduceMul, if_true, if_false, not_false_eq_true, not_true_eq_false, true_implies, false_implies, Classical.not_not, Nat.reduceAdd, Nat.reduceLeDiff, f1, c1]
        exact go
    · clear c
      rw [← f1] at c0
      simp +contextual (disch := (first | omega | assumption | decide)) only [↓zbrT, ↓zbrF, zw195_0, zw195_1, zw195_2, zw195_3, zw195_4, zr_1, zr_3, zr_7, zr_8, zr_10, zr_56, zr_62, zr_68, zr_70, zr_73, zlg_0, zlg_s, zrc_1, zrc_s, zcat_n, zcat_i, zcat_l, zcat_r, zkd_131, Int.cast_ofNat_Int, Int.reduceAdd, false_and, and_false, true_and, and_true, true_or, or_true, false_or, or_false, Option.toList, List.nil_append, List.cons_append, zif0, zif1, zif01, zem1, zem2, Int.reduceEq, Int.reduceLT, Int.reduceLE, Int.reduceNeg, Int.reduceSub, Int.reduceMul, if_true, if_false, not_false_eq_true, not_true_eq_false, true_implies, false_implies, Classical.not_not, Nat.reduceAdd, Nat.reduceLeDiff, c0]
      exact go
theorem gz196z {d : Nat} {m : zMm} {i n : Int} : zC (d + 1) 196 [.inr (.inr 131), .inl 0, .inl i, .inl n] m (fun r' m' => r' = some (.inl 0) ∧ m' = m) := by
  refine ze196 ?_
  simp +contextual (disch := (first | omega | assumption | decide)) only [↓zbrT, ↓zbrF, zw196_0, zw196_1, zw196_2, zw196_3, zw196_4, zw196_5, zw196_6, zw196_7, zw196_8, zw196_9, zw196_10, zr_1, zr_3, zr_7, zr_10, zr_54, zr_56, zr_61, zr_62, zr_68, zr_73, zr_76, zlg_0, zlg_s, zrc_1, zrc_s, zcat_n, zcat_i, zcat_l, zcat_r, zkd_131, Int.cast_ofNat_Int, Int.reduceAdd, false_and, and_false, true_and, and_true, true_or, or_true, false_or, or_false, Option.toList, List.nil_append, List.cons_append, zif0, zif1, zif01, zem1, zem2, Int.reduceEq, Int.reduceLT, Int.reduceLE, Int.reduceNeg, Int.reduceSub, Int.reduceMul, if_true, if_false, not_false_eq_true, not_true_eq_false, true_implies, false_implies, Classical.not_not, Nat.reduceAdd, Nat.reduceLeDiff]
theorem gz196 {d : Nat} {m : zMm} {i : Int} {n : Int} {T : zMm} {s : Int × Int × Int} (hk : gTo1 T) (hi : 0 ≤ i ∧ i < 10) (hg : s.2.1 = 0) (hp : gPd T s m) : zC (d + 3) 196 [.inr (.inr 131), .inl 1, .inl i, .inl n] m (fun r' m' => r' = some (.inl (if m 138 (40 + i) = n then 0 else 1)) ∧ gPd T (if m 138 (40 + i) = n then pBl T 3 s else pAd T s) m' ∧ gFn m m') := by
  refine ze196 ?_
  have f1 := hp.2.2.1
  rw [hg] at f1
  by_cases c : m 138 (40 + i) = n
  · rw [if_pos c, if_pos c]
    simp +contextual (disch := (first | omega | assumption | decide)) only [↓zbrT, ↓zbrF, zw196_0, zw196_1, zw196_2, zw196_3, zw196_4, zw196_5, zw196_6, zw196_7, zw196_8, zw196_9, zw196_10, zr_1, zr_3, zr_7, zr_10, zr_54, zr_56, zr_61, zr_62, zr_68, zr_73, zr_76, zlg_0, zlg_s, zrc_1, zrc_s, zcat_n, zcat_i, zcat_l, zcat_r, zkd_131, Int.cast_ofNat_Int, Int.reduceAdd, false_and, and_false, true_and, and_true, true_or, or_true, false_or, or_false, Option.toList, List.nil_append, List.cons_append, zif0, zif1, zif01, zem1, zem2, Int.reduceEq, Int.reduceLT, Int.reduceLE, Int.reduceNeg, Int.reduceSub, Int.reduceMul, if_true, if_false, not_false_eq_true, not_true_eq_false, true_implies, false_implies, Classical.not_not, Nat.reduceAdd, Nat.reduceLeDiff, zq192 hi, c]
    refine gK (gz182 hp) rfl rfl (Nat.le_of_ble_eq_true rfl) ?_
    rintro _ m2 ⟨rfl, r1, r2⟩
    have nb : ¬ m2 131 12 = 0 := by rw [r1.2.2.1]; exact pBl_g (by decide)
    simp +contextual (disch := (first | omega | assumption | decide)) only [↓zbrT, ↓zbrF, zw196_0, zw196_1, zw196_2, zw196_3, zw196_4, zw196_5, zw196_6, zw196_7, zw196_8, zw196_9, zw196_10, zr_1, zr_3, zr_7, zr_10, zr_54, zr_56, zr_61, zr_62, zr_68, zr_73, zr_76, zlg_0, zlg_s, zrc_1, zrc_s, zcat_n, zcat_i, zcat_l, zcat_r, zkd_131, Int.cast_ofNat_Int, Int.reduceAdd, false_and, and_false, true_and, and_true, true_or, or_true, false_or, or_false, Option.toList, List.nil_append, List.cons_append, zif0, zif1, zif01, zem1, zem2, Int.reduceEq, Int.reduceLT, Int.reduceLE, Int.reduceNeg, Int.reduceSub, Int.reduceMul, if_true, if_false, not_false_eq_true, not_true_eq_false, true_implies, false_implies, Classical.not_not, Nat.reduceAdd, Nat.reduceLeDiff, nb]
    exact ⟨r1, r2⟩
  · rw [if_neg c, if_neg c]
    simp +contextual (disch := (first | omega | assumption | decide)) only [↓zbrT, ↓zbrF, zw196_0, zw196_1, zw196_2, zw196_3, zw196_4, zw196_5, zw196_6, zw196_7, zw196_8, zw196_9, zw196_10, zr_1, zr_3, zr_7, zr_10, zr_54, zr_56, zr_61, zr_62, zr_68, zr_73, zr_76, zlg_0, zlg_s, zrc_1, zrc_s, zcat_n, zcat_i, zcat_l, zcat_r, zkd_131, Int.cast_ofNat_Int, Int.reduceAdd, false_and, and_false, true_and, and_true, true_or, or_true, false_or, or_false, Option.toList, List.nil_append, List.cons_append, zif0, zif1, zif01, zem1, zem2, Int.reduceEq, Int.reduceLT, Int.reduceLE, Int.reduceNeg, Int.reduceSub, Int.reduceMul, if_true, if_false, not_false_eq_true, not_true_eq_false, true_implies, false_implies, Classical.not_not, Nat.reduceAdd, Nat.reduceLeDiff, zq192 hi, c, f1]
    refine gK (gPd_ad hk hp) rfl rfl (Nat.le_of_ble_eq_true rfl) ?_
    rintro _ m2 ⟨rfl, r1, r2⟩
    have nb : m2 131 12 = 0 := by rw [r1.2.2.1]; exact hg
    simp +contextual (disch := (first | omega | assumption | decide)) only [↓zbrT, ↓zbrF, zw196_0, zw196_1, zw196_2, zw196_3, zw196_4, zw196_5, zw196_6, zw196_7, zw196_8, zw196_9, zw196_10, zr_1, zr_3, zr_7, zr_10, zr_54, zr_56, zr_61, zr_62, zr_68, zr_73, zr_76, zlg_0, zlg_s, zrc_1, zrc_s, zcat_n, zcat_i, zcat_l, zcat_r, zkd_131, Int.cast_ofNat_Int, Int.reduceAdd, false_and, and_false, true_and, and_true, true_or, or_true, false_or, or_false, Option.toList, List.nil_append, List.cons_append, zif0, zif1, zif01, zem1, zem2, Int.reduceEq, Int.reduceLT, Int.reduceLE, Int.reduceNeg, Int.reduceSub, Int.reduceMul, if_true, if_false, not_false_eq_true, not_true_eq_false, true_implies, false_implies, Classical.not_not, Nat.reduceAdd, Nat.reduceLeDiff, nb]
    exact ⟨r1, r2⟩
