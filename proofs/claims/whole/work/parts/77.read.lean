/-! ===== the class reads, takes a shire ===== -/
theorem pRun_ok {T : zMm} (hT : T 0 0 ≤ 900) : ∀ (n : Nat) (s : Int × Int × Int) (D : zMm), s.1 ≤ T 0 0 → (s.2.1 = 0 → gDk D ∧ D 0 10 ≤ s.1) → (pRun T n s D).1.2.1 = 0 → gDk (pRun T n s D).2
  | 0, s, D, _, h, g => (h g).1
  | n + 1, s, D, h0, h, g => by
    unfold pRun at g ⊢
    by_cases c : s.2.1 = 0 ∧ gKi T s.1 ≠ 0
    · rw [if_pos c] at g ⊢
      have l := pSg_g (pL_1 (D := D) h0).2
      exact pRun_ok hT n _ _ l.1.2 (fun z => dS_ok (h c.1).1 hT h0 (h c.1).2 z) g
    · rw [if_neg c] at g ⊢
      exact (h g).1
def gD0 : zMm := fun _ _ => 0
theorem gD0_k : gDk gD0 := by
  refine ⟨⟨?_, fun r x y => ?_, fun f x y => ?_⟩, rfl, fun _ => rfl⟩
  · unfold gD0; omega
  · unfold gD0 at y; omega
  · unfold gD0 at y; omega
def pR0 (T : zMm) : (Int × Int × Int) × zMm := pRun T 901 (0, 0, -1) gD0
theorem pR0_ok {T : zMm} (hk : gTo1 T) (h : (pR0 T).1.2.1 = 0) : gDk (pR0 T).2 := pRun_ok hk.1.2 901 _ _ hk.1.1 (fun _ => ⟨gD0_k, Int.le_refl _⟩) h
theorem gz33 {d : Nat} {m : zMm}  : zC (d + 1) 33 [.inr (.inr 3)] m (fun r' m' => r' = none ∧ gCS 3 gD0 m' ∧ ∀ c i, c ≠ 3 → m' c i = m c i) := by
  refine ze33 ?_
  simp +contextual (disch := (first | omega | assumption | decide)) only [zw33_0, zr_3, zr_7, zr_13, zr_72, zlg_0, zlg_s, zkd_105, zkd_21, zkd_3, zkd_67, zkd_86, Int.cast_ofNat_Int, Int.reduceAdd, zmu_same, zmu_c, zmu_i, false_and, and_false, true_and, and_true, true_or, or_true, false_or, or_false, Option.toList, List.nil_append, List.cons_append, zif0, zif1, zif01, zem1, zem2, Int.reduceEq, Int.reduceLT, Int.reduceLE, Int.reduceNeg, Int.reduceSub, Int.reduceMul, if_true, if_false, not_false_eq_true, not_true_eq_false, true_implies, false_implies, Classical.not_not, Nat.reduceAdd, Nat.reduceLeDiff]
  refine ⟨⟨?_, fun r x y => ?_, fun f x y => ?_⟩, fun c i hc => ?_⟩
  · unfold gD0
    simp (disch := decide) only [zmu_i, zmu_same, and_self]
  · unfold gD0 at y; omega
  · unfold gD0 at y; omega
  · simp (disch := exact hc) only [zmu_c]
theorem gR50 {d : Nat} {T : zMm} (hk : gTo1 T) : ∀ (n : Nat) (s : Int × Int × Int) (D m : zMm), gPc T s m → gCS 3 D m → (0 ≤ D 0 10 ∧ D 0 10 ≤ 900) → (s.2.1 = 0 → gDk D ∧ D 0 10 ≤ s.1 ∧ T 0 0 - s.1 < n) → zWP (zEx (d + 7)) 50 1 [some (.inr (.inr 1)), some (.inr (.inr 3)), some (.inl (D 0 10))] [] m (fun r' m' => r' = none ∧ gPc T (pRun T n s D).1 m' ∧ gCS 3 (pRun T n s D).2 m' ∧ gFdr m m')
  | n, s, D, m, hp, hc, hl, h => by
    have hb := hk.1
    have hp0 := hp
    obtain ⟨ht, ⟨q4, q5, q6, q7⟩, f1, f2, hq⟩ := hp
    rw [zw50_1]
    by_cases c0 : s.2.1 = 0
    · rw [c0] at f1
      have g := h c0
      by_cases c1 : gKi T s.1 = 0
      · rw [c1] at q5
        have e : pRun T n s D = (s, D) := by
          cases n with
          | zero => rfl
          | succ n => unfold pRun; rw [if_neg (fun z => z.2 c1)]
        rw [e]
        simp +contextual (disch := (first | omega | assumption | decide)) only [↓zbrT, ↓zbrF, zw50_0, zw50_2, zw50_3, zw50_4, zw50_5, zr_1, zr_3, zr_4, zr_7, zr_10, zr_13, zr_26, zr_50, zr_50b, zr_53, zr_54, zr_59, zr_61, zr_62, zr_68, zr_72, zr_73, zlg_0, zlg_s, zls_0, zls_1, zls_s, zkl_i, zkl_r, zkl_l, zkl_n, zrc_1, zrc_s, zcat_n, zcat_i, zcat_l, zcat_r, zkd_1, zkd_105, zkd_21, zkd_3, zkd_67, zkd_86, Int.cast_ofNat_Int, Int.reduceAdd, zw_id, zmu_same, zmu_c, zmu_i, false_and, and_false, true_and, and_true, true_or, or_true, false_or, or_false, Option.toList, List.nil_append, List.cons_append, zif0, zif1, zif01, zem1, zem2, Int.reduceEq, Int.reduceLT, Int.reduceLE, Int.reduceNeg, Int.reduceSub, Int.reduceMul, if_true, if_false, not_false_eq_true, not_true_eq_false, true_implies, false_implies, Classical.not_not, Nat.reduceAdd, Nat.reduceLeDiff, f1, q5]
        exact ⟨hp0, hc, fun _ _ _ => rfl⟩
      · have lt := gKi_lt hq.2 c1
        cases n with
        | zero => omega
        | succ n =>
          have e : pRun T (n + 1) s D = pRun T n (pS1 T s D) (dS1 T s D) := by
            show (if s.2.1 = 0 ∧ gKi T s.1 ≠ 0 then pRun T n (pS1 T s D) (dS1 T s D) else (s, D)) = _
            rw [if_pos ⟨c0, c1⟩]
          rw [e]
          rw [← q5] at c1
          have b := g.1.1.1
          simp +contextual (disch := (first | omega | assumption | decide)) only [↓zbrT, ↓zbrF, zw50_0, zw50_2, zw50_3, zw50_4, zw50_5, zr_1, zr_3, zr_4, zr_7, zr_10, zr_13, zr_26, zr_50, zr_50b, zr_53, zr_54, zr_59, zr_61, zr_62, zr_68, zr_72, zr_73, zlg_0, zlg_s, zls_0, zls_1, zls_s, zkl_i, zkl_r, zkl_l, zkl_n, zrc_1, zrc_s, zcat_n, zcat_i, zcat_l, zcat_r, zkd_1, zkd_105, zkd_21, zkd_3, zkd_67, zkd_86, Int.cast_ofNat_Int, Int.reduceAdd, zw_id, zmu_same, zmu_c, zmu_i, false_and, and_false, true_and, and_true, true_or, or_true, false_or, or_false, Option.toList, List.nil_append, List.cons_append, zif0, zif1, zif01, zem1, zem2, Int.reduceEq, Int.reduceLT, Int.reduceLE, Int.reduceNeg, Int.reduceSub, Int.reduceMul, if_true, if_false, not_false_eq_true, not_true_eq_false, true_implies, false_implies, Classical.not_not, Nat.reduceAdd, Nat.reduceLeDiff, f1, c1]
          refine gK (gz51 hk hp0 hc b.1 (show 0 ≤ D 0 5 ∧ D 0 5 ≤ 8 by omega) (show 0 ≤ D 0 6 ∧ D 0 6 ≤ 6 by omega)) rfl rfl (Nat.le_of_ble_eq_true rfl) ?_
          rintro _ m1 ⟨rfl, p1, g1, k1⟩
          simp +contextual (disch := (first | omega | assumption | decide)) only [↓zbrT, ↓zbrF, zw50_0, zw50_2, zw50_3, zw50_4, zw50_5, zr_1, zr_3, zr_4, zr_7, zr_10, zr_13, zr_26, zr_50, zr_50b, zr_53, zr_54, zr_59, zr_61, zr_62, zr_68, zr_72, zr_73, zlg_0, zlg_s, zls_0, zls_1, zls_s, zkl_i, zkl_r, zkl_l, zkl_n, zrc_1, zrc_s, zcat_n, zcat_i, zcat_l, zcat_r, zkd_1, zkd_105, zkd_21, zkd_3, zkd_67, zkd_86, Int.cast_ofNat_Int, Int.reduceAdd, zw_id, zmu_same, zmu_c, zmu_i, false_and, and_false, true_and, and_true, true_or, or_true, false_or, or_false, Option.toList, List.nil_append, List.cons_append, zif0, zif1, zif01, zem1, zem2, Int.reduceEq, Int.reduceLT, Int.reduceLE, Int.reduceNeg, Int.reduceSub, Int.reduceMul, if_true, if_false, not_false_eq_true, not_true_eq_false, true_implies, false_implies, Classical.not_not, Nat.reduceAdd, Nat.reduceLeDiff]
          refine gK (gz59 hk p1) rfl rfl (Nat.le_of_ble_eq_true rfl) ?_
          rintro _ m2 ⟨rfl, p2, k2⟩
          have g2 := gCS_p g1 k2
          have l0 : m2 3 0 = D 0 10 := by rw [(gCS_l g2).1, dL_f.2]
          have g3 : gCS 3 (dS1 T s D) (zmu m2 3 0 (D 0 10 + 1)) := gCS_u (i := 0) (j := 10) (by decide) g2
          simp +contextual (disch := (first | omega | assumption | decide)) only [↓zbrT, ↓zbrF, zw50_0, zw50_2, zw50_3, zw50_4, zw50_5, zr_1, zr_3, zr_4, zr_7, zr_10, zr_13, zr_26, zr_50, zr_50b, zr_53, zr_54, zr_59, zr_61, zr_62, zr_68, zr_72, zr_73, zlg_0, zlg_s, zls_0, zls_1, zls_s, zkl_i, zkl_r, zkl_l, zkl_n, zrc_1, zrc_s, zcat_n, zcat_i, zcat_l, zcat_r, zkd_1, zkd_105, zkd_21, zkd_3, zkd_67, zkd_86, Int.cast_ofNat_Int, Int.reduceAdd, zw_id, zmu_same, zmu_c, zmu_i, false_and, and_false, true_and, and_true, true_or, or_true, false_or, or_false, Option.toList, List.nil_append, List.cons_append, zif0, zif1, zif01, zem1, zem2, Int.reduceEq, Int.reduceLT, Int.reduceLE, Int.reduceNeg, Int.reduceSub, Int.reduceMul, if_true, if_false, not_false_eq_true, not_true_eq_false, true_implies, false_implies, Classical.not_not, Nat.reduceAdd, Nat.reduceLeDiff, l0]
          have e10 : dS1 T s D 0 10 = D 0 10 + 1 := by unfold dS1; rw [zmu_same]
          have l := pSg_g (pL_1 (D := D) hq.2).2
          have p3 : gPc T (pS1 T s D) (zmu m2 3 0 (D 0 10 + 1)) := gPc_u p2 (by decide)
          have r := gR50 (d := d) hk n (pS1 T s D) (dS1 T s D) _ p3 g3 (by rw [e10]; omega) (fun z => by
            have := dS_ok g.1 hb.2 hq.2 g.2.1 z
            have y : (pS1 T s D).1 ≤ T 0 0 := p3.2.2.2.2.2
            have w : s.1 + 1 ≤ (pS1 T s D).1 := by
              have := (pL_1 (D := D) hq.2).1
              have := (l.2 z).2
              unfold pS1
              omega
            exact ⟨this.1, this.2, by omega⟩)
          rw [e10] at r
          exact zWP_im r (fun r' m' ⟨a, b, c, e⟩ => ⟨a, b, c, gFdr_tr k1 (gFdr_tr (gFdr_p k2) (gFdr_tr (gFdr_u (by decide)) e))⟩)
    · have e : pRun T n s D = (s, D) := by
        cases n with
        | zero => rfl
        | succ n => unfold pRun; rw [if_neg (fun z => c0 z.1)]
      rw [e]
      rw [← f1] at c0
      simp +contextual (disch := (first | omega | assumption | decide)) only [↓zbrT, ↓zbrF, zw50_0, zw50_2, zw50_3, zw50_4, zw50_5, zr_1, zr_3, zr_4, zr_7, zr_10, zr_13, zr_26, zr_50, zr_50b, zr_53, zr_54, zr_59, zr_61, zr_62, zr_68, zr_72, zr_73, zlg_0, zlg_s, zls_0, zls_1, zls_s, zkl_i, zkl_r, zkl_l, zkl_n, zrc_1, zrc_s, zcat_n, zcat_i, zcat_l, zcat_r, zkd_1, zkd_105, zkd_21, zkd_3, zkd_67, zkd_86, Int.cast_ofNat_Int, Int.reduceAdd, zw_id, zmu_same, zmu_c, zmu_i, false_and, and_false, true_and, and_true, true_or, or_true, false_or, or_false, Option.toList, List.nil_append, List.cons_append, zif0, zif1, zif01, zem1, zem2, Int.reduceEq, Int.reduceLT, Int.reduceLE, Int.reduceNeg, Int.reduceSub, Int.reduceMul, if_true, if_false, not_false_eq_true, not_true_eq_false, true_implies, false_implies, Classical.not_not, Nat.reduceAdd, Nat.reduceLeDiff, c0]
      exact ⟨hp0, hc, fun _ _ _ => rfl⟩
theorem gz50 {d : Nat} {m : zMm} {T : zMm} (hk : gTo1 T) (ht : gTp T m) : zC (d + 8) 50 [.inr (.inr 1), .inr (.inr 3)] m (fun r' m' => r' = none ∧ gPc T (pR0 T).1 m' ∧ gCS 3 (pR0 T).2 m' ∧ gFdr m m') := by
  refine ze50 ?_
  have hb := hk.1
  simp +contextual (disch := (first | omega | assumption | decide)) only [↓zbrT, ↓zbrF, zw50_0, zw50_2, zw50_3, zw50_4, zw50_5, zr_1, zr_3, zr_4, zr_7, zr_10, zr_13, zr_26, zr_50, zr_50b, zr_53, zr_54, zr_59, zr_61, zr_62, zr_68, zr_72, zr_73, zlg_0, zlg_s, zls_0, zls_1, zls_s, zkl_i, zkl_r, zkl_l, zkl_n, zrc_1, zrc_s, zcat_n, zcat_i, zcat_l, zcat_r, zkd_1, zkd_105, zkd_21, zkd_3, zkd_67, zkd_86, Int.cast_ofNat_Int, Int.reduceAdd, zw_id, zmu_same, zmu_c, zmu_i, false_and, and_false, true_and, and_true, true_or, or_true, false_or, or_false, Option.toList, List.nil_append, List.cons_append, zif0, zif1, zif01, zem1, zem2, Int.reduceEq, Int.reduceLT, Int.reduceLE, Int.reduceNeg, Int.reduceSub, Int.reduceMul, if_true, if_false, not_false_eq_true, not_true_eq_false, true_implies, false_implies, Classical.not_not, Nat.reduceAdd, Nat.reduceLeDiff]
  refine gK (gz33) rfl rfl (Nat.le_of_ble_eq_true rfl) ?_
  rintro _ m1 ⟨rfl, g1, k1⟩
  have t1 : gTp T m1 := gTp_of ht (by rw [k1 1 0 (by decide)]; simp (disch := decide) only [zmu_i]) (fun i => by rw [k1 2 i (by decide)]; simp (disch := decide) only [zmu_c])
  have q1 : m1 1 4 = 0 := by rw [k1 1 4 (by decide)]; simp (disch := decide) only [zmu_i, zmu_same]
  simp +contextual (disch := (first | omega | assumption | decide)) only [↓zbrT, ↓zbrF, zw50_0, zw50_2, zw50_3, zw50_4, zw50_5, zr_1, zr_3, zr_4, zr_7, zr_10, zr_13, zr_26, zr_50, zr_50b, zr_53, zr_54, zr_59, zr_61, zr_62, zr_68, zr_72, zr_73, zlg_0, zlg_s, zls_0, zls_1, zls_s, zkl_i, zkl_r, zkl_l, zkl_n, zrc_1, zrc_s, zcat_n, zcat_i, zcat_l, zcat_r, zkd_1, zkd_105, zkd_21, zkd_3, zkd_67, zkd_86, Int.cast_ofNat_Int, Int.reduceAdd, zw_id, zmu_same, zmu_c, zmu_i, false_and, and_false, true_and, and_true, true_or, or_true, false_or, or_false, Option.toList, List.nil_append, List.cons_append, zif0, zif1, zif01, zem1, zem2, Int.reduceEq, Int.reduceLT, Int.reduceLE, Int.reduceNeg, Int.reduceSub, Int.reduceMul, if_true, if_false, not_false_eq_true, not_true_eq_false, true_implies, false_implies, Classical.not_not, Nat.reduceAdd, Nat.reduceLeDiff]
  refine gK (gz65 (q := 0) hk t1 q1 ⟨Int.le_refl _, hb.1⟩) rfl rfl (Nat.le_of_ble_eq_true rfl) ?_
  rintro _ m2 ⟨rfl, p2, k2⟩
  have fr : ∀ c i, c ≠ 1 → m2 c i = m1 c i := fun c i hc => k2 c i (by omega)
  have p : gPc T (0, 0, -1) m2 := by
    refine ⟨gTp_of t1 (k2 1 0 (by omega)) (fun i => k2 2 i (by omega)), p2, ?_, ?_, Int.le_refl _, hb.1⟩
    · rw [k2 1 1 (by omega), k1 1 1 (by decide)]; simp (disch := decide) only [zmu_i, zmu_same]
    · rw [k2 1 2 (by omega), k1 1 2 (by decide)]; simp (disch := decide) only [zmu_i, zmu_same]
  have g2 : gCS 3 gD0 m2 := gCS_p g1 (fun c i hc => by
    by_cases c1 : c = 1
    · have : i = 0 := by omega
      rw [c1, this]; exact k2 1 0 (by omega)
    · exact fr c i c1)
  have r := gR50 (d := d) hk 901 (0, 0, -1) gD0 m2 p g2 (by unfold gD0; omega) (fun _ => ⟨gD0_k, Int.le_refl _, by show T 0 0 - 0 < ((901 : Nat) : Int); omega⟩)
  simp +contextual (disch := (first | omega | assumption | decide)) only [↓zbrT, ↓zbrF, zw50_0, zw50_2, zw50_3, zw50_4, zw50_5, zr_1, zr_3, zr_4, zr_7, zr_10, zr_13, zr_26, zr_50, zr_50b, zr_53, zr_54, zr_59, zr_61, zr_62, zr_68, zr_72, zr_73, zlg_0, zlg_s, zls_0, zls_1, zls_s, zkl_i, zkl_r, zkl_l, zkl_n, zrc_1, zrc_s, zcat_n, zcat_i, zcat_l, zcat_r, zkd_1, zkd_105, zkd_21, zkd_3, zkd_67, zkd_86, Int.cast_ofNat_Int, Int.reduceAdd, zw_id, zmu_same, zmu_c, zmu_i, false_and, and_false, true_and, and_true, true_or, or_true, false_or, or_false, Option.toList, List.nil_append, List.cons_append, zif0, zif1, zif01, zem1, zem2, Int.reduceEq, Int.reduceLT, Int.reduceLE, Int.reduceNeg, Int.reduceSub, Int.reduceMul, if_true, if_false, not_false_eq_true, not_true_eq_false, true_implies, false_implies, Classical.not_not, Nat.reduceAdd, Nat.reduceLeDiff]
  refine zWP_im r (fun r' m' ⟨a, b, c, e⟩ => ⟨a, b, c, fun c' i' hc => ?_⟩)
  rw [e c' i' hc, k2 c' i' (by omega), k1 c' i' (by omega)]
  unfold zmu
  rw [if_neg (by omega), if_neg (by omega), if_neg (by omega)]
/-- the tape behind shire -/
def gTz (T : zMm) : zMm := zmu (zmu (zmu T 0 0 0) 0 1 (pR0 T).1.2.1) 0 2 (pR0 T).1.2.2
def sp71 (T : zMm) : Int := if (pR0 T).1.2.1 = 0 then (pR0 T).2 0 10 else -4
theorem gTz_k {T : zMm} : gTo1 (gTz T) := by
  have e : gTz T 0 0 = 0 := by
    unfold gTz
    simp (disch := decide) only [zmu_i, zmu_same]
  exact ⟨by rw [e]; decide, fun i a b => by rw [e] at b; omega⟩
theorem gTz_c {T m : zMm} (h0 : m 1 0 = 0) (h1 : m 1 1 = (pR0 T).1.2.1) (h2 : m 1 2 = (pR0 T).1.2.2) : gTc (gTz T) m := by
  have e0 : gTz T 0 0 = 0 := by
    unfold gTz
    simp (disch := decide) only [zmu_i, zmu_same]
  have e1 : gTz T 0 1 = (pR0 T).1.2.1 := by
    unfold gTz
    simp (disch := decide) only [zmu_i, zmu_same]
  have e2 : gTz T 0 2 = (pR0 T).1.2.2 := by
    unfold gTz
    simp (disch := decide) only [zmu_i, zmu_same]
  exact ⟨by rw [e0]; exact h0, by rw [e1]; exact h1, by rw [e2]; exact h2, fun i a b => by rw [e0] at b; omega⟩
theorem gI_of {V m m' : zMm} (h : gI V m) (hf : ∀ c i, c = 0 ∨ 20 ≤ c → m' c i = m c i) : gI V m' := by
  refine ⟨gA_of h.1 (fun c i a b => hf c i (by omega)), h.2.1, ⟨by rw [hf 0 5 (by decide)]; exact h.2.2.1.1, fun k a b => by rw [hf 42 k (by decide)]; exact h.2.2.1.2 k a b⟩, gSt_of h.2.2.2.1 (fun i => hf 43 i (by decide)) (fun i => hf 44 i (by decide)), ?_⟩
  rcases h.2.2.2.2 with z | z
  · exact Or.inl (by rw [hf 48 3 (by decide)]; exact z)
  · exact Or.inr ⟨by rw [hf 48 3 (by decide)]; exact z.1, by rw [hf 48 2 (by decide)]; exact z.2.1, fun i hi => by rw [hf 49 i (by decide)]; exact z.2.2 i hi⟩
theorem gz71 {d : Nat} {m : zMm} {V V1 T : zMm} (hI : gI V m) (hk : gTo1 T) (ht : gTc T m) (h1 : gV1 V ((pR0 T).1.2.1 = 0) (pR0 T).2 V1) : zC (d + 9) 71 [.inr (.inr 0)] m (fun r' m' => r' = some (.inl (sp71 T)) ∧ gI V1 m' ∧ gTc (gTz T) m' ∧ ∀ c i, c < 0 ∨ c = 2 ∨ 64 ≤ c → m' c i = m c i) := by
  refine ze71 ?_
  have ht' : gTp T m := ⟨ht.1, ht.2.2.2⟩
  unfold sp71
  simp +contextual (disch := (first | omega | assumption | decide)) only [↓zbrT, ↓zbrF, zw71_0, zw71_1, zw71_2, zr_3, zr_7, zr_10, zr_12, zr_13, zr_61, zr_68, zr_70, zlg_0, zlg_s, zrc_1, zrc_s, zcat_n, zcat_i, zcat_l, zcat_r, zkd_0, zkd_1, zkd_105, zkd_20, zkd_21, zkd_3, zkd_67, zkd_86, zrf_0_0, zrf_0_1, zrf_0_2, zrf_0_3, Int.cast_ofNat_Int, Int.reduceAdd, zmu_same, zmu_c, zmu_i, false_and, and_false, true_and, and_true, true_or, or_true, false_or, or_false, Option.toList, List.nil_append, List.cons_append, zif0, zif1, zif01, zem1, zem2, Int.reduceEq, Int.reduceLT, Int.reduceLE, Int.reduceNeg, Int.reduceSub, Int.reduceMul, if_true, if_false, not_false_eq_true, not_true_eq_false, true_implies, false_implies, Classical.not_not, Nat.reduceAdd, Nat.reduceLeDiff]
  refine gK (gz50 hk ht') rfl rfl (Nat.le_of_ble_eq_true rfl) ?_
  rintro _ m1 ⟨rfl, p1, g1, k1⟩
  have f1 := p1.2.2.1
  have f2 := p1.2.2.2.1
  by_cases c : (pR0 T).1.2.1 = 0
  · have dk := pR0_ok hk c
    have hb := dk.1.1
    rw [if_pos c, h1.1 c]
    have f1' : m1 1 1 = 0 := by rw [f1, c]
    have l := gCS_l g1
    have b8 : 0 ≤ zmu m1 1 0 0 3 8 ∧ zmu m1 1 0 0 3 8 ≤ 8 := by rw [zmu_c (by decide), l.2.2.1]; omega
    have b9 : 0 ≤ zmu m1 1 0 0 3 9 ∧ zmu m1 1 0 0 3 9 ≤ 6 := by rw [zmu_c (by decide), l.2.2.2]; omega
    have g2 : gCS 3 (pR0 T).2 (zmu m1 1 0 0) := gCS_of g1 dk.1 (fun c i a b => zmu_c (by omega))
    have g3 := gCS_21.mp (gCS_cp (S := 21) g2 dk.1 (by omega))
    have e8 : zmu m1 1 0 0 3 8 = m1 3 8 := zmu_c (by decide)
    have e9 : zmu m1 1 0 0 3 9 = m1 3 9 := zmu_c (by decide)
    rw [e8, e9] at g3
    have hv : gCV (pR0 T).2 (zmu (gcps (zmu m1 1 0 0) 21 3 (m1 3 8) (m1 3 9)) 0 5 0) := gCV_of g3 (fun c i a b => zmu_c (by omega)) dk.1
    have sv := gA_sv dk.1 hv
    have hAc : gAc (pR0 T).2 := fun k z => by rw [dk.2.1] at z; omega
    have hC : gCa (pR0 T).2 (gSv (zmu (gcps (zmu m1 1 0 0) 21 3 (m1 3 8) (m1 3 9)) 0 5 0)) := ⟨by rw [sv.2.2 0 5 (by decide), zmu_same, dk.2.1], fun j a b => by rw [dk.2.1] at b; omega⟩
    have sv1 := sv.1
    have b8' : m1 3 8 ≤ 8 := by rw [← e8]; exact b8.2
    have b9' : m1 3 9 ≤ 6 := by rw [← e9]; exact b9.2
    simp +contextual (disch := (first | omega | assumption | decide)) only [↓zbrT, ↓zbrF, zw71_0, zw71_1, zw71_2, zr_3, zr_7, zr_10, zr_12, zr_13, zr_61, zr_68, zr_70, zlg_0, zlg_s, zrc_1, zrc_s, zcat_n, zcat_i, zcat_l, zcat_r, zkd_0, zkd_1, zkd_105, zkd_20, zkd_21, zkd_3, zkd_67, zkd_86, zrf_0_0, zrf_0_1, zrf_0_2, zrf_0_3, Int.cast_ofNat_Int, Int.reduceAdd, zmu_same, zmu_c, zmu_i, false_and, and_false, true_and, and_true, true_or, or_true, false_or, or_false, Option.toList, List.nil_append, List.cons_append, zif0, zif1, zif01, zem1, zem2, Int.reduceEq, Int.reduceLT, Int.reduceLE, Int.reduceNeg, Int.reduceSub, Int.reduceMul, if_true, if_false, not_false_eq_true, not_true_eq_false, true_implies, false_implies, Classical.not_not, Nat.reduceAdd, Nat.reduceLeDiff, f1', zq34 (S := 21) (O := 3) gS_21 (Or.inl rfl) (by decide) b8 b9, zq5 sv1]
    refine gK (gz73 sv.2.1 hAc hC) rfl rfl (Nat.le_of_ble_eq_true rfl) ?_
    rintro _ m2 ⟨rfl, hA2, hS2, h3, hE2⟩
    have e21 := hA2.2.1.1.1
    simp +contextual (disch := (first | omega | assumption | decide)) only [↓zbrT, ↓zbrF, zw71_0, zw71_1, zw71_2, zr_3, zr_7, zr_10, zr_12, zr_13, zr_61, zr_68, zr_70, zlg_0, zlg_s, zrc_1, zrc_s, zcat_n, zcat_i, zcat_l, zcat_r, zkd_0, zkd_1, zkd_105, zkd_20, zkd_21, zkd_3, zkd_67, zkd_86, zrf_0_0, zrf_0_1, zrf_0_2, zrf_0_3, Int.cast_ofNat_Int, Int.reduceAdd, zmu_same, zmu_c, zmu_i, false_and, and_false, true_and, and_true, true_or, or_true, false_or, or_false, Option.toList, List.nil_append, List.cons_append, zif0, zif1, zif01, zem1, zem2, Int.reduceEq, Int.reduceLT, Int.reduceLE, Int.reduceNeg, Int.reduceSub, Int.reduceMul, if_true, if_false, not_false_eq_true, not_true_eq_false, true_implies, false_implies, Classical.not_not, Nat.reduceAdd, Nat.reduceLeDiff, e21]
    have fr : ∀ c i, (c = 1 ∧ i ≠ 0) ∨ c < 0 ∨ c = 2 ∨ 64 ≤ c → m2 c i = m1 c i := fun c i hc => by
      rw [hE2 c i (by omega), sv.2.2 c i (by omega), zmu_c (by omega), gcps_o b8' b9' (by omega)]
      unfold zmu
      rw [if_neg (by omega)]
    have e10 : m2 1 0 = 0 := by rw [hE2 1 0 (by omega), sv.2.2 1 0 (by omega), zmu_c (by omega), gcps_o b8' b9' (by omega), zmu_same]
    refine ⟨⟨hA2, hAc, ⟨by rw [hE2 0 5 (by decide)]; exact hC.1, fun j a b => by rw [hE2 42 j (by omega)]; exact hC.2 j a b⟩, hS2, Or.inl h3⟩, gTz_c e10 (by rw [fr 1 1 (by omega)]; exact f1) (by rw [fr 1 2 (by omega)]; exact f2), fun c i hc => ?_⟩
    rw [fr c i (by omega), k1 c i (by omega)]
  · rw [if_neg c, h1.2 c]
    rw [← f1] at c
    simp +contextual (disch := (first | omega | assumption | decide)) only [↓zbrT, ↓zbrF, zw71_0, zw71_1, zw71_2, zr_3, zr_7, zr_10, zr_12, zr_13, zr_61, zr_68, zr_70, zlg_0, zlg_s, zrc_1, zrc_s, zcat_n, zcat_i, zcat_l, zcat_r, zkd_0, zkd_1, zkd_105, zkd_20, zkd_21, zkd_3, zkd_67, zkd_86, zrf_0_0, zrf_0_1, zrf_0_2, zrf_0_3, Int.cast_ofNat_Int, Int.reduceAdd, zmu_same, zmu_c, zmu_i, false_and, and_false, true_and, and_true, true_or, or_true, false_or, or_false, Option.toList, List.nil_append, List.cons_append, zif0, zif1, zif01, zem1, zem2, Int.reduceEq, Int.reduceLT, Int.reduceLE, Int.reduceNeg, Int.reduceSub, Int.reduceMul, if_true, if_false, not_false_eq_true, not_true_eq_false, true_implies, false_implies, Classical.not_not, Nat.reduceAdd, Nat.reduceLeDiff, c]
    refine ⟨gI_of hI (fun c i hc => by rw [zmu_c (by omega), k1 c i (by omega)]), gTz_c zmu_same (by rw [zmu_i (by decide)]; exact f1) (by rw [zmu_i (by decide)]; exact f2), fun c i hc => k1 c i (by omega)⟩
