/-! ===== the class reads a token ===== -/
def gUb (b : Int) : Int := if b < 0 then b + 256 else b
theorem gUb_f : ∀ j : Fin 8, ∀ k : Fin 32, zand (32 * (j.val : Int) + (k.val : Int) - 128) 255 = gUb (32 * (j.val : Int) + (k.val : Int) - 128) := by decide
theorem zand_255 {b : Int} (h : -128 ≤ b ∧ b ≤ 127) : zand b 255 = gUb b := by
  have := gUb_f ⟨((b + 128) / 32).toNat, by omega⟩ ⟨((b + 128) % 32).toNat, by omega⟩
  rw [show 32 * ((⟨((b + 128) / 32).toNat, by omega⟩ : Fin 8).val : Int) + ((⟨((b + 128) % 32).toNat, by omega⟩ : Fin 32).val : Int) - 128 = b from by show 32 * ((((b + 128) / 32).toNat : Nat) : Int) + ((((b + 128) % 32).toNat : Nat) : Int) - 128 = b; omega] at this
  exact this
/-- the class's tape -/
def gTp (T m : zMm) : Prop := m 1 0 = T 0 0 ∧ ∀ i, 0 ≤ i → i < T 0 0 → m 2 i = T 1 i
theorem gTp_of {T m m' : zMm} (h : gTp T m) (h0 : m' 1 0 = m 1 0) (h1 : ∀ i, m' 2 i = m 2 i) : gTp T m' := ⟨by rw [h0]; exact h.1, fun i a b => by rw [h1]; exact h.2 i a b⟩
def gBa (T : zMm) (i : Int) : Int := if 0 ≤ i ∧ i < T 0 0 then gUb (T 1 i) else -1
theorem zq62T {d : Nat} {m T : zMm} {p : Int} {rest : List zV} {k : List zV → zMm → Prop} (hk : gTo1 T) (ht : gTp T m) : zcl (zEx (d + 1)) 62 2 (.inl p :: .inr (.inr 1) :: rest) m k = (zcat rest ≤ 8 ∧ k (.inl (gBa T p) :: rest) m) := by
  have hb := hk.1
  rw [zq62 (by rw [ht.1]; omega), ht.1]
  unfold gBa
  by_cases c : 0 ≤ p ∧ p < T 0 0
  · rw [if_pos c, if_pos c, ht.2 p c.1 c.2, zand_255 (hk.2 p c.1 c.2)]
  · rw [if_neg c, if_neg c]
theorem gSt1_s {T : zMm} {q : Int} (h : q ≤ T 0 0) : (q ≤ gSt1 T q ∧ gSt1 T q ≤ T 0 0) ∧ (∀ i, q ≤ i → i < gSt1 T q → T 1 i = 32 ∨ T 1 i = 10) ∧ (gSt1 T q = T 0 0 ∨ ¬ (T 1 (gSt1 T q) = 32 ∨ T 1 (gSt1 T q) = 10)) := by
  have r := gEnd_s (T := T) (P := gWs) h
  exact ⟨r.1, fun i a b => gWs_t.mp (r.2.1 i a b), r.2.2.imp id (fun z => gWs_f.mp z)⟩
theorem gUb_e {b x : Int} (h : -128 ≤ b ∧ b ≤ 127) (hx : 0 ≤ x ∧ x ≤ 127) : gUb b = x ↔ b = x := by
  unfold gUb
  split <;> omega
theorem gUb_i {b x y : Int} (h : -128 ≤ b ∧ b ≤ 127) (hx : 0 ≤ x ∧ x ≤ 127) (hy : 0 ≤ y ∧ y ≤ 127) : (x ≤ gUb b ∧ gUb b ≤ y) ↔ (x ≤ b ∧ b ≤ y) := by
  unfold gUb
  split <;> omega
/-- the class's token: read from q -/
def gTq (T : zMm) (q : Int) (m : zMm) : Prop := m 1 4 = gEd T q ∧ m 1 5 = gKi T q ∧ m 1 6 = gSt1 T q ∧ m 1 7 = gVl T q
def gFa1 (m m' : zMm) : Prop := ∀ c i, ¬ (c = 1 ∧ 4 ≤ i) → m' c i = m c i
theorem gz65 {d : Nat} {m : zMm} {T : zMm} {q : Int} (hk : gTo1 T) (ht : gTp T m) (hq : m 1 4 = q) (hq0 : 0 ≤ q ∧ q ≤ T 0 0) : zC (d + 3) 65 [.inr (.inr 1)] m (fun r' m' => r' = none ∧ gTq T q m' ∧ gFa1 m m') := by
  refine ze65 ?_
  have hb := hk.1
  have s := gSt1_s hq0.2
  refine zfor (gSt1 T q) (fun i lc m' => q ≤ i ∧ (∃ x, lc = [some (.inr (.inr 1)), x]) ∧ m' 1 4 = i ∧ gFa1 m m') ?_ ?_ (i := q) s.1.1 ?_
  · rintro i lc m' hi ⟨h0, ⟨x, rfl⟩, e4, hf⟩ kk
    have e0 : m' 1 0 = T 0 0 := by rw [hf 1 0 (by omega)]; exact ht.1
    have ht' : gTp T m' := gTp_of ht (hf 1 0 (by omega)) (fun i => hf 2 i (by omega))
    have w := s.2.1 i h0 hi
    have ba : gBa T i = T 1 i := by
      unfold gBa gUb
      rw [if_pos (by omega), if_neg (by omega)]
    rw [zw65_0]
    have fin : ∃ x', [some (.inr (.inr 1)), x] = ([some (.inr (.inr 1)), x'] : zLc) := ⟨x, rfl⟩
    have hf2 : gFa1 m (zmu m' 1 4 (i + 1)) := fun c j hc => by
      unfold zmu
      rw [if_neg (by omega)]; exact hf c j hc
    by_cases c : T 1 i = 32
    · simp +contextual (disch := (first | omega | assumption | decide)) only [↓zbrT, ↓zbrF, zw65_1, zw65_2, zw65_3, zw65_4, zw65_5, zw65_6, zw65_7, zw65_9, zw65_10, zw65_11, zw65_12, zw65_14, zw65_15, zw65_16, zw65_17, zw65_18, zw65_19, zw65_20, zr_1, zr_3, zr_4, zr_7, zr_10, zr_13, zr_26, zr_27, zr_28, zr_50, zr_50b, zr_54, zr_55, zr_56, zr_58, zr_61, zr_68, zr_69, zr_72, zr_73, zlg_0, zlg_s, zls_0, zls_1, zls_s, zkl_i, zkl_r, zkl_l, zkl_n, zrc_1, zrc_s, zcat_n, zcat_i, zcat_l, zcat_r, zkd_1, Int.cast_ofNat_Int, Int.reduceAdd, zw_id, zmu_same, zmu_c, zmu_i, false_and, and_false, true_and, and_true, true_or, or_true, false_or, or_false, Option.toList, List.nil_append, List.cons_append, zif0, zif1, zif01, zem1, zem2, Int.reduceEq, Int.reduceLT, Int.reduceLE, Int.reduceNeg, Int.reduceSub, Int.reduceMul, if_true, if_false, not_false_eq_true, not_true_eq_false, true_implies, false_implies, Classical.not_not, Nat.reduceAdd, Nat.reduceLeDiff, e4, e0, zq62T hk ht', ba, c]
      exact kk _ _ ⟨by omega, fin, zmu_same, hf2⟩
    · have c2 : T 1 i = 10 := by omega
      simp +contextual (disch := (first | omega | assumption | decide)) only [↓zbrT, ↓zbrF, zw65_1, zw65_2, zw65_3, zw65_4, zw65_5, zw65_6, zw65_7, zw65_9, zw65_10, zw65_11, zw65_12, zw65_14, zw65_15, zw65_16, zw65_17, zw65_18, zw65_19, zw65_20, zr_1, zr_3, zr_4, zr_7, zr_10, zr_13, zr_26, zr_27, zr_28, zr_50, zr_50b, zr_54, zr_55, zr_56, zr_58, zr_61, zr_68, zr_69, zr_72, zr_73, zlg_0, zlg_s, zls_0, zls_1, zls_s, zkl_i, zkl_r, zkl_l, zkl_n, zrc_1, zrc_s, zcat_n, zcat_i, zcat_l, zcat_r, zkd_1, Int.cast_ofNat_Int, Int.reduceAdd, zw_id, zmu_same, zmu_c, zmu_i, false_and, and_false, true_and, and_true, true_or, or_true, false_or, or_false, Option.toList, List.nil_append, List.cons_append, zif0, zif1, zif01, zem1, zem2, Int.reduceEq, Int.reduceLT, Int.reduceLE, Int.reduceNeg, Int.reduceSub, Int.reduceMul, if_true, if_false, not_false_eq_true, not_true_eq_false, true_implies, false_implies, Classical.not_not, Nat.reduceAdd, Nat.reduceLeDiff, e4, e0, zq62T hk ht', ba, c2]
      exact kk _ _ ⟨by omega, fin, zmu_same, hf2⟩
  · rintro lc m' ⟨h0, ⟨x, rfl⟩, e4, hf⟩
    have e0 : m' 1 0 = T 0 0 := by rw [hf 1 0 (by omega)]; exact ht.1
    have ht' : gTp T m' := gTp_of ht (hf 1 0 (by omega)) (fun i => hf 2 i (by omega))
    rw [zw65_0]
    have h4 : zWP (zEx (d + 2)) 65 4 [some (.inr (.inr 1)), x] [] m' (fun r' m' => r' = none ∧ gTq T q m' ∧ gFa1 m m') := by
      have ht2 : gTp T (zmu (zmu m' 1 6 (gSt1 T q)) 1 7 0) := gTp_of ht' (by rw [zmu_i (by decide), zmu_i (by decide)]) (fun i => by rw [zmu_c (by decide), zmu_c (by decide)])
      by_cases c : gSt1 T q = T 0 0
      · have ba : gBa T (gSt1 T q) = -1 := by
          unfold gBa
          rw [if_neg (by omega)]
        have k0 : gKi T q = 0 := by
          unfold gKi
          rw [if_pos c]
        simp +contextual (disch := (first | omega | assumption | decide)) only [↓zbrT, ↓zbrF, zw65_1, zw65_2, zw65_3, zw65_4, zw65_5, zw65_6, zw65_7, zw65_9, zw65_10, zw65_11, zw65_12, zw65_14, zw65_15, zw65_16, zw65_17, zw65_18, zw65_19, zw65_20, zr_1, zr_3, zr_4, zr_7, zr_10, zr_13, zr_26, zr_27, zr_28, zr_50, zr_50b, zr_54, zr_55, zr_56, zr_58, zr_61, zr_68, zr_69, zr_72, zr_73, zlg_0, zlg_s, zls_0, zls_1, zls_s, zkl_i, zkl_r, zkl_l, zkl_n, zrc_1, zrc_s, zcat_n, zcat_i, zcat_l, zcat_r, zkd_1, Int.cast_ofNat_Int, Int.reduceAdd, zw_id, zmu_same, zmu_c, zmu_i, false_and, and_false, true_and, and_true, true_or, or_true, false_or, or_false, Option.toList, List.nil_append, List.cons_append, zif0, zif1, zif01, zem1, zem2, Int.reduceEq, Int.reduceLT, Int.reduceLE, Int.reduceNeg, Int.reduceSub, Int.reduceMul, if_true, if_false, not_false_eq_true, not_true_eq_false, true_implies, false_implies, Classical.not_not, Nat.reduceAdd, Nat.reduceLeDiff, e4, zq62T hk ht2, ba]
        refine ⟨⟨?_, ?_, ?_, ?_⟩, fun c' i' hc => ?_⟩
        · rw [zmu_i (by decide), zmu_i (by decide), zmu_i (by decide), e4]
          unfold gEd
          rw [if_pos k0]
        · rw [zmu_same, k0]
        · rw [zmu_i (by decide), zmu_i (by decide), zmu_same]
        · rw [zmu_i (by decide), zmu_same]
          unfold gVl
          rw [if_neg (by omega)]
        · unfold zmu
          rw [if_neg (by omega), if_neg (by omega), if_neg (by omega)]; exact hf c' i' hc
      · have ba : gBa T (gSt1 T q) = gUb (T 1 (gSt1 T q)) := by
          unfold gBa
          rw [if_pos (by omega)]
        have b1 := hk.2 (gSt1 T q) (by omega) (by omega)
        have bn : ¬ gUb (T 1 (gSt1 T q)) = -1 := by
          unfold gUb
          split <;> omega
        by_cases cl : 97 ≤ T 1 (gSt1 T q) ∧ T 1 (gSt1 T q) ≤ 122
        · have cl' := (gUb_i b1 (x := 97) (y := 122) (by decide) (by decide)).mpr cl
          have k1 : gKi T q = 1 := by
            unfold gKi
            rw [if_neg c, if_pos (gLt_t.mpr cl)]
          have E := gEnd_s (T := T) (P := gLt) s.1.2
          have ed : gEd T q = gEnd T gLt (gSt1 T q) := by
            unfold gEd
            rw [if_neg (by omega), if_pos k1]
          simp +contextual (disch := (first | omega | assumption | decide)) only [↓zbrT, ↓zbrF, zw65_1, zw65_2, zw65_3, zw65_4, zw65_5, zw65_6, zw65_7, zw65_9, zw65_10, zw65_11, zw65_12, zw65_14, zw65_15, zw65_16, zw65_17, zw65_18, zw65_19, zw65_20, zr_1, zr_3, zr_4, zr_7, zr_10, zr_13, zr_26, zr_27, zr_28, zr_50, zr_50b, zr_54, zr_55, zr_56, zr_58, zr_61, zr_68, zr_69, zr_72, zr_73, zlg_0, zlg_s, zls_0, zls_1, zls_s, zkl_i, zkl_r, zkl_l, zkl_n, zrc_1, zrc_s, zcat_n, zcat_i, zcat_l, zcat_r, zkd_1, Int.cast_ofNat_Int, Int.reduceAdd, zw_id, zmu_same, zmu_c, zmu_i, false_and, and_false, true_and, and_true, true_or, or_true, false_or, or_false, Option.toList, List.nil_append, List.cons_append, zif0, zif1, zif01, zem1, zem2, Int.reduceEq, Int.reduceLT, Int.reduceLE, Int.reduceNeg, Int.reduceSub, Int.reduceMul, if_true, if_false, not_false_eq_true, not_true_eq_false, true_implies, false_implies, Classical.not_not, Nat.reduceAdd, Nat.reduceLeDiff, e4, zq62T hk ht2, ba, bn, zq63, if_pos cl']
          refine zfor (gEnd T gLt (gSt1 T q)) (fun i lc m3 => gSt1 T q ≤ i ∧ (∃ x, lc = [some (.inr (.inr 1)), x]) ∧ m3 1 4 = i ∧ m3 1 5 = 1 ∧ m3 1 6 = gSt1 T q ∧ m3 1 7 = 0 ∧ gFa1 m m3) ?_ ?_ (i := gSt1 T q) E.1.1 ?_
          · rintro i lc m3 hi ⟨h0', ⟨x, rfl⟩, f4, f5, f6, f7, hf3⟩ kk
            have e03 : m3 1 0 = T 0 0 := by rw [hf3 1 0 (by omega)]; exact ht.1
            have ht3 : gTp T m3 := gTp_of ht (hf3 1 0 (by omega)) (fun i => hf3 2 i (by omega))
            have w := gLt_t.mp (E.2.1 i h0' hi)
            have ba3 : gBa T i = T 1 i := by
              unfold gBa gUb
              rw [if_pos (by omega), if_neg (by omega)]
            rw [zw65_8]
            simp +contextual (disch := (first | omega | assumption | decide)) only [↓zbrT, ↓zbrF, zw65_1, zw65_2, zw65_3, zw65_4, zw65_5, zw65_6, zw65_7, zw65_9, zw65_10, zw65_11, zw65_12, zw65_14, zw65_15, zw65_16, zw65_17, zw65_18, zw65_19, zw65_20, zr_1, zr_3, zr_4, zr_7, zr_10, zr_13, zr_26, zr_27, zr_28, zr_50, zr_50b, zr_54, zr_55, zr_56, zr_58, zr_61, zr_68, zr_69, zr_72, zr_73, zlg_0, zlg_s, zls_0, zls_1, zls_s, zkl_i, zkl_r, zkl_l, zkl_n, zrc_1, zrc_s, zcat_n, zcat_i, zcat_l, zcat_r, zkd_1, Int.cast_ofNat_Int, Int.reduceAdd, zw_id, zmu_same, zmu_c, zmu_i, false_and, and_false, true_and, and_true, true_or, or_true, false_or, or_false, Option.toList, List.nil_append, List.cons_append, zif0, zif1, zif01, zem1, zem2, Int.reduceEq, Int.reduceLT, Int.reduceLE, Int.reduceNeg, Int.reduceSub, Int.reduceMul, if_true, if_false, not_false_eq_true, not_true_eq_false, true_implies, false_implies, Classical.not_not, Nat.reduceAdd, Nat.reduceLeDiff, f4, e03, zq62T hk ht3, ba3, zq63, if_pos w]
            exact kk _ _ ⟨by omega, ⟨_, rfl⟩, zmu_same, by rw [zmu_i (by decide)]; exact f5, by rw [zmu_i (by decide)]; exact f6, by rw [zmu_i (by decide)]; exact f7, fun c' i' hc => by
              unfold zmu
              rw [if_neg (by omega)]; exact hf3 c' i' hc⟩
          · rintro lc m3 ⟨h0', ⟨x, rfl⟩, f4, f5, f6, f7, hf3⟩
            have e03 : m3 1 0 = T 0 0 := by rw [hf3 1 0 (by omega)]; exact ht.1
            have ht3 : gTp T m3 := gTp_of ht (hf3 1 0 (by omega)) (fun i => hf3 2 i (by omega))
            have res : gTq T q m3 ∧ gFa1 m m3 := ⟨⟨by rw [f4, ed], by rw [f5, k1], f6, by rw [f7]; unfold gVl; rw [if_neg (by omega)]⟩, hf3⟩
            rw [zw65_8]
            by_cases ce : gEnd T gLt (gSt1 T q) = T 0 0
            · rw [ce] at f4
              simp +contextual (disch := (first | omega | assumption | decide)) only [↓zbrT, ↓zbrF, zw65_1, zw65_2, zw65_3, zw65_4, zw65_5, zw65_6, zw65_7, zw65_9, zw65_10, zw65_11, zw65_12, zw65_14, zw65_15, zw65_16, zw65_17, zw65_18, zw65_19, zw65_20, zr_1, zr_3, zr_4, zr_7, zr_10, zr_13, zr_26, zr_27, zr_28, zr_50, zr_50b, zr_54, zr_55, zr_56, zr_58, zr_61, zr_68, zr_69, zr_72, zr_73, zlg_0, zlg_s, zls_0, zls_1, zls_s, zkl_i, zkl_r, zkl_l, zkl_n, zrc_1, zrc_s, zcat_n, zcat_i, zcat_l, zcat_r, zkd_1, Int.cast_ofNat_Int, Int.reduceAdd, zw_id, zmu_same, zmu_c, zmu_i, false_and, and_false, true_and, and_true, true_or, or_true, false_or, or_false, Option.toList, List.nil_append, List.cons_append, zif0, zif1, zif01, zem1, zem2, Int.reduceEq, Int.reduceLT, Int.reduceLE, Int.reduceNeg, Int.reduceSub, Int.reduceMul, if_true, if_false, not_false_eq_true, not_true_eq_false, true_implies, false_implies, Classical.not_not, Nat.reduceAdd, Nat.reduceLeDiff, f4, e03]
              exact res
            · have w := gLt_f.mp (E.2.2.resolve_left ce)
              have b3 := hk.2 (gEnd T gLt (gSt1 T q)) (by omega) (by omega)
              have w' : ¬ (97 ≤ gBa T (gEnd T gLt (gSt1 T q)) ∧ gBa T (gEnd T gLt (gSt1 T q)) ≤ 122) := by
                unfold gBa
                rw [if_pos (by omega), gUb_i b3 (by decide) (by decide)]; exact w
              simp +contextual (disch := (first | omega | assumption | decide)) only [↓zbrT, ↓zbrF, zw65_1, zw65_2, zw65_3, zw65_4, zw65_5, zw65_6, zw65_7, zw65_9, zw65_10, zw65_11, zw65_12, zw65_14, zw65_15, zw65_16, zw65_17, zw65_18, zw65_19, zw65_20, zr_1, zr_3, zr_4, zr_7, zr_10, zr_13, zr_26, zr_27, zr_28, zr_50, zr_50b, zr_54, zr_55, zr_56, zr_58, zr_61, zr_68, zr_69, zr_72, zr_73, zlg_0, zlg_s, zls_0, zls_1, zls_s, zkl_i, zkl_r, zkl_l, zkl_n, zrc_1, zrc_s, zcat_n, zcat_i, zcat_l, zcat_r, zkd_1, Int.cast_ofNat_Int, Int.reduceAdd, zw_id, zmu_same, zmu_c, zmu_i, false_and, and_false, true_and, and_true, true_or, or_true, false_or, or_false, Option.toList, List.nil_append, List.cons_append, zif0, zif1, zif01, zem1, zem2, Int.reduceEq, Int.reduceLT, Int.reduceLE, Int.reduceNeg, Int.reduceSub, Int.reduceMul, if_true, if_false, not_false_eq_true, not_true_eq_false, true_implies, false_implies, Classical.not_not, Nat.reduceAdd, Nat.reduceLeDiff, f4, e03, zq62T hk ht3, zq63, if_neg w']
              exact res
          · refine ⟨Int.le_refl _, ⟨_, rfl⟩, by simp (disch := decide) only [zmu_i]; exact e4, zmu_same, by simp (disch := decide) only [zmu_i, zmu_same], by simp (disch := decide) only [zmu_i, zmu_same], fun c' i' hc => ?_⟩
            unfold zmu
            rw [if_neg (by omega), if_neg (by omega), if_neg (by omega)]; exact hf c' i' hc
        · have cl' : ¬ (97 ≤ gUb (T 1 (gSt1 T q)) ∧ gUb (T 1 (gSt1 T q)) ≤ 122) := fun z => cl ((gUb_i b1 (by decide) (by decide)).mp z)
          by_cases cd : 48 ≤ T 1 (gSt1 T q) ∧ T 1 (gSt1 T q) ≤ 57
          · have cd' := (gUb_i b1 (x := 48) (y := 57) (by decide) (by decide)).mpr cd
            have k1 : gKi T q = 2 := by
              unfold gKi
              rw [if_neg c, if_neg (fun z => cl (gLt_t.mp z)), if_pos (gDi_t.mpr cd)]
            have E := gEnd_s (T := T) (P := gDi) s.1.2
            have ed : gEd T q = gEnd T gDi (gSt1 T q) := by
              unfold gEd
              rw [if_neg (by omega), if_neg (by omega), if_pos k1]
            simp +contextual (disch := (first | omega | assumption | decide)) only [↓zbrT, ↓zbrF, zw65_1, zw65_2, zw65_3, zw65_4, zw65_5, zw65_6, zw65_7, zw65_9, zw65_10, zw65_11, zw65_12, zw65_14, zw65_15, zw65_16, zw65_17, zw65_18, zw65_19, zw65_20, zr_1, zr_3, zr_4, zr_7, zr_10, zr_13, zr_26, zr_27, zr_28, zr_50, zr_50b, zr_54, zr_55, zr_56, zr_58, zr_61, zr_68, zr_69, zr_72, zr_73, zlg_0, zlg_s, zls_0, zls_1, zls_s, zkl_i, zkl_r, zkl_l, zkl_n, zrc_1, zrc_s, zcat_n, zcat_i, zcat_l, zcat_r, zkd_1, Int.cast_ofNat_Int, Int.reduceAdd, zw_id, zmu_same, zmu_c, zmu_i, false_and, and_false, true_and, and_true, true_or, or_true, false_or, or_false, Option.toList, List.nil_append, List.cons_append, zif0, zif1, zif01, zem1, zem2, Int.reduceEq, Int.reduceLT, Int.reduceLE, Int.reduceNeg, Int.reduceSub, Int.reduceMul, if_true, if_false, not_false_eq_true, not_true_eq_false, true_implies, false_implies, Classical.not_not, Nat.reduceAdd, Nat.reduceLeDiff, e4, zq62T hk ht2, ba, bn, zq63, if_neg cl', zq64, if_pos cd']
            refine zfor (gEnd T gDi (gSt1 T q)) (fun i lc m3 => gSt1 T q ≤ i ∧ (∃ x, lc = [some (.inr (.inr 1)), x]) ∧ m3 1 4 = i ∧ m3 1 5 = 2 ∧ m3 1 6 = gSt1 T q ∧ m3 1 7 = gVx T (gSt1 T q) (i - gSt1 T q).toNat ∧ gFa1 m m3) ?_ ?_ (i := gSt1 T q) E.1.1 ?_
            · rintro i lc m3 hi ⟨h0', ⟨x, rfl⟩, f4, f5, f6, f7, hf3⟩ kk
              have e03 : m3 1 0 = T 0 0 := by rw [hf3 1 0 (by omega)]; exact ht.1
              have ht3 : gTp T m3 := gTp_of ht (hf3 1 0 (by omega)) (fun i => hf3 2 i (by omega))
              have w := gDi_t.mp (E.2.1 i h0' hi)
              have ba3 : gBa T i = T 1 i := by
                unfold gBa gUb
                rw [if_pos (by omega), if_neg (by omega)]
              have vb := (gVm_x (T := T) (s := gSt1 T q) (i - gSt1 T q).toNat (fun j hj => gDi_t.mp (E.2.1 _ (by omega) (by omega)))).1
              have vs : min 100000 (gVx T (gSt1 T q) (i - gSt1 T q).toNat * 10 + T 1 i - 48) = gVx T (gSt1 T q) (i + 1 - gSt1 T q).toNat := by
                rw [show (i + 1 - gSt1 T q).toNat = (i - gSt1 T q).toNat + 1 by omega]
                show _ = min 100000 (10 * gVx T (gSt1 T q) (i - gSt1 T q).toNat + (T 1 (gSt1 T q + ((i - gSt1 T q).toNat : Nat)) - 48))
                rw [show gSt1 T q + (((i - gSt1 T q).toNat : Nat) : Int) = i by omega]
                congr 1
                omega
              rw [zw65_13]
              simp +contextual (disch := (first | omega | assumption | decide)) only [↓zbrT, ↓zbrF, zw65_1, zw65_2, zw65_3, zw65_4, zw65_5, zw65_6, zw65_7, zw65_9, zw65_10, zw65_11, zw65_12, zw65_14, zw65_15, zw65_16, zw65_17, zw65_18, zw65_19, zw65_20, zr_1, zr_3, zr_4, zr_7, zr_10, zr_13, zr_26, zr_27, zr_28, zr_50, zr_50b, zr_54, zr_55, zr_56, zr_58, zr_61, zr_68, zr_69, zr_72, zr_73, zlg_0, zlg_s, zls_0, zls_1, zls_s, zkl_i, zkl_r, zkl_l, zkl_n, zrc_1, zrc_s, zcat_n, zcat_i, zcat_l, zcat_r, zkd_1, Int.cast_ofNat_Int, Int.reduceAdd, zw_id, zmu_same, zmu_c, zmu_i, false_and, and_false, true_and, and_true, true_or, or_true, false_or, or_false, Option.toList, List.nil_append, List.cons_append, zif0, zif1, zif01, zem1, zem2, Int.reduceEq, Int.reduceLT, Int.reduceLE, Int.reduceNeg, Int.reduceSub, Int.reduceMul, if_true, if_false, not_false_eq_true, not_true_eq_false, true_implies, false_implies, Classical.not_not, Nat.reduceAdd, Nat.reduceLeDiff, f4, f7, e03, zq62T hk ht3, ba3, zq64, if_pos w, zq2, vs]
              exact kk _ _ ⟨by omega, ⟨_, rfl⟩, zmu_same, by simp (disch := decide) only [zmu_i]; exact f5, by simp (disch := decide) only [zmu_i]; exact f6, by simp (disch := decide) only [zmu_i, zmu_same], fun c' i' hc => by
                unfold zmu
                rw [if_neg (by omega), if_neg (by omega)]; exact hf3 c' i' hc⟩
            · rintro lc m3 ⟨h0', ⟨x, rfl⟩, f4, f5, f6, f7, hf3⟩
              have e03 : m3 1 0 = T 0 0 := by rw [hf3 1 0 (by omega)]; exact ht.1
              have ht3 : gTp T m3 := gTp_of ht (hf3 1 0 (by omega)) (fun i => hf3 2 i (by omega))
              have res : gTq T q m3 ∧ gFa1 m m3 := ⟨⟨by rw [f4, ed], by rw [f5, k1], f6, by rw [f7]; unfold gVl; rw [if_pos k1, ed]⟩, hf3⟩
              rw [zw65_13]
              by_cases ce : gEnd T gDi (gSt1 T q) = T 0 0
              · rw [ce] at f4
                simp +contextual (disch := (first | omega | assumption | decide)) only [↓zbrT, ↓zbrF, zw65_1, zw65_2, zw65_3, zw65_4, zw65_5, zw65_6, zw65_7, zw65_9, zw65_10, zw65_11, zw65_12, zw65_14, zw65_15, zw65_16, zw65_17, zw65_18, zw65_19, zw65_20, zr_1, zr_3, zr_4, zr_7, zr_10, zr_13, zr_26, zr_27, zr_28, zr_50, zr_50b, zr_54, zr_55, zr_56, zr_58, zr_61, zr_68, zr_69, zr_72, zr_73, zlg_0, zlg_s, zls_0, zls_1, zls_s, zkl_i, zkl_r, zkl_l, zkl_n, zrc_1, zrc_s, zcat_n, zcat_i, zcat_l, zcat_r, zkd_1, Int.cast_ofNat_Int, Int.reduceAdd, zw_id, zmu_same, zmu_c, zmu_i, false_and, and_false, true_and, and_true, true_or, or_true, false_or, or_false, Option.toList, List.nil_append, List.cons_append, zif0, zif1, zif01, zem1, zem2, Int.reduceEq, Int.reduceLT, Int.reduceLE, Int.reduceNeg, Int.reduceSub, Int.reduceMul, if_true, if_false, not_false_eq_true, not_true_eq_false, true_implies, false_implies, Classical.not_not, Nat.reduceAdd, Nat.reduceLeDiff, f4, e03]
                exact res
              · have w := gDi_f.mp (E.2.2.resolve_left ce)
                have b3 := hk.2 (gEnd T gDi (gSt1 T q)) (by omega) (by omega)
                have w' : ¬ (48 ≤ gBa T (gEnd T gDi (gSt1 T q)) ∧ gBa T (gEnd T gDi (gSt1 T q)) ≤ 57) := by
                  unfold gBa
                  rw [if_pos (by omega), gUb_i b3 (by decide) (by decide)]; exact w
                simp +contextual (disch := (first | omega | assumption | decide)) only [↓zbrT, ↓zbrF, zw65_1, zw65_2, zw65_3, zw65_4, zw65_5, zw65_6, zw65_7, zw65_9, zw65_10, zw65_11, zw65_12, zw65_14, zw65_15, zw65_16, zw65_17, zw65_18, zw65_19, zw65_20, zr_1, zr_3, zr_4, zr_7, zr_10, zr_13, zr_26, zr_27, zr_28, zr_50, zr_50b, zr_54, zr_55, zr_56, zr_58, zr_61, zr_68, zr_69, zr_72, zr_73, zlg_0, zlg_s, zls_0, zls_1, zls_s, zkl_i, zkl_r, zkl_l, zkl_n, zrc_1, zrc_s, zcat_n, zcat_i, zcat_l, zcat_r, zkd_1, Int.cast_ofNat_Int, Int.reduceAdd, zw_id, zmu_same, zmu_c, zmu_i, false_and, and_false, true_and, and_true, true_or, or_true, false_or, or_false, Option.toList, List.nil_append, List.cons_append, zif0, zif1, zif01, zem1, zem2, Int.reduceEq, Int.reduceLT, Int.reduceLE, Int.reduceNeg, Int.reduceSub, Int.reduceMul, if_true, if_false, not_false_eq_true, not_true_eq_false, true_implies, false_implies, Classical.not_not, Nat.reduceAdd, Nat.reduceLeDiff, f4, e03, zq62T hk ht3, zq64, if_neg w']
                exact res
            · refine ⟨Int.le_refl _, ⟨_, rfl⟩, by simp (disch := decide) only [zmu_i]; exact e4, zmu_same, by simp (disch := decide) only [zmu_i, zmu_same], by simp (disch := decide) only [zmu_i, zmu_same, Int.sub_self]; rfl, fun c' i' hc => ?_⟩
              unfold zmu
              rw [if_neg (by omega), if_neg (by omega), if_neg (by omega)]; exact hf c' i' hc
          · have cd' : ¬ (48 ≤ gUb (T 1 (gSt1 T q)) ∧ gUb (T 1 (gSt1 T q)) ≤ 57) := fun z => cd ((gUb_i b1 (by decide) (by decide)).mp z)
            have k1 : gKi T q = if T 1 (gSt1 T q) = 59 then 3 else 4 := by
              unfold gKi
              rw [if_neg c, if_neg (fun z => cl (gLt_t.mp z)), if_neg (fun z => cd (gDi_t.mp z))]
            have k2 : gKi T q = 3 ∨ gKi T q = 4 := by rw [k1]; split <;> omega
            have ed : gEd T q = gSt1 T q + 1 := by
              unfold gEd
              rw [if_neg (by omega), if_neg (by omega), if_neg (by omega)]
            have vl : gVl T q = 0 := by
              unfold gVl
              rw [if_neg (by omega)]
            have fin : ∀ k : Int, k = gKi T q → gTq T q (zmu (zmu (zmu (zmu m' 1 6 (gSt1 T q)) 1 7 0) 1 5 k) 1 4 (gSt1 T q + 1)) ∧ gFa1 m (zmu (zmu (zmu (zmu m' 1 6 (gSt1 T q)) 1 7 0) 1 5 k) 1 4 (gSt1 T q + 1)) := fun k ek => by
              refine ⟨⟨by rw [zmu_same, ed], by simp (disch := decide) only [zmu_i, zmu_same]; exact ek, by simp (disch := decide) only [zmu_i, zmu_same], by simp (disch := decide) only [zmu_i, zmu_same]; exact vl.symm⟩, fun c' i' hc => ?_⟩
              unfold zmu
              rw [if_neg (by omega), if_neg (by omega), if_neg (by omega), if_neg (by omega)]; exact hf c' i' hc
            by_cases c5 : T 1 (gSt1 T q) = 59
            · have c5' := (gUb_e b1 (x := 59) (by decide)).mpr c5
              rw [if_pos c5] at k1
              rw [c5'] at ba bn cl' cd'
              simp +contextual (disch := (first | omega | assumption | decide)) only [↓zbrT, ↓zbrF, zw65_1, zw65_2, zw65_3, zw65_4, zw65_5, zw65_6, zw65_7, zw65_9, zw65_10, zw65_11, zw65_12, zw65_14, zw65_15, zw65_16, zw65_17, zw65_18, zw65_19, zw65_20, zr_1, zr_3, zr_4, zr_7, zr_10, zr_13, zr_26, zr_27, zr_28, zr_50, zr_50b, zr_54, zr_55, zr_56, zr_58, zr_61, zr_68, zr_69, zr_72, zr_73, zlg_0, zlg_s, zls_0, zls_1, zls_s, zkl_i, zkl_r, zkl_l, zkl_n, zrc_1, zrc_s, zcat_n, zcat_i, zcat_l, zcat_r, zkd_1, Int.cast_ofNat_Int, Int.reduceAdd, zw_id, zmu_same, zmu_c, zmu_i, false_and, and_false, true_and, and_true, true_or, or_true, false_or, or_false, Option.toList, List.nil_append, List.cons_append, zif0, zif1, zif01, zem1, zem2, Int.reduceEq, Int.reduceLT, Int.reduceLE, Int.reduceNeg, Int.reduceSub, Int.reduceMul, if_true, if_false, not_false_eq_true, not_true_eq_false, true_implies, false_implies, Classical.not_not, Nat.reduceAdd, Nat.reduceLeDiff, e4, zq62T hk ht2, ba, zq63, zq64]
              exact fin 3 k1.symm
            · have c5' : ¬ gUb (T 1 (gSt1 T q)) = 59 := fun z => c5 ((gUb_e b1 (by decide)).mp z)
              rw [if_neg c5] at k1
              simp +contextual (disch := (first | omega | assumption | decide)) only [↓zbrT, ↓zbrF, zw65_1, zw65_2, zw65_3, zw65_4, zw65_5, zw65_6, zw65_7, zw65_9, zw65_10, zw65_11, zw65_12, zw65_14, zw65_15, zw65_16, zw65_17, zw65_18, zw65_19, zw65_20, zr_1, zr_3, zr_4, zr_7, zr_10, zr_13, zr_26, zr_27, zr_28, zr_50, zr_50b, zr_54, zr_55, zr_56, zr_58, zr_61, zr_68, zr_69, zr_72, zr_73, zlg_0, zlg_s, zls_0, zls_1, zls_s, zkl_i, zkl_r, zkl_l, zkl_n, zrc_1, zrc_s, zcat_n, zcat_i, zcat_l, zcat_r, zkd_1, Int.cast_ofNat_Int, Int.reduceAdd, zw_id, zmu_same, zmu_c, zmu_i, false_and, and_false, true_and, and_true, true_or, or_true, false_or, or_false, Option.toList, List.nil_append, List.cons_append, zif0, zif1, zif01, zem1, zem2, Int.reduceEq, Int.reduceLT, Int.reduceLE, Int.reduceNeg, Int.reduceSub, Int.reduceMul, if_true, if_false, not_false_eq_true, not_true_eq_false, true_implies, false_implies, Classical.not_not, Nat.reduceAdd, Nat.reduceLeDiff, e4, zq62T hk ht2, ba, bn, zq63, if_neg cl', zq64, if_neg cd', c5']
              exact fin 4 k1.symm
    by_cases c : gSt1 T q = T 0 0
    · rw [c] at e4
      simp +contextual (disch := (first | omega | assumption | decide)) only [↓zbrT, ↓zbrF, zw65_1, zw65_2, zw65_3, zw65_5, zw65_6, zw65_7, zw65_9, zw65_10, zw65_11, zw65_12, zw65_14, zw65_15, zw65_16, zw65_17, zw65_18, zw65_19, zw65_20, zr_1, zr_3, zr_4, zr_7, zr_10, zr_13, zr_26, zr_27, zr_28, zr_50, zr_50b, zr_54, zr_55, zr_56, zr_58, zr_61, zr_68, zr_69, zr_72, zr_73, zlg_0, zlg_s, zls_0, zls_1, zls_s, zkl_i, zkl_r, zkl_l, zkl_n, zrc_1, zrc_s, zcat_n, zcat_i, zcat_l, zcat_r, zkd_1, Int.cast_ofNat_Int, Int.reduceAdd, zw_id, zmu_same, zmu_c, zmu_i, false_and, and_false, true_and, and_true, true_or, or_true, false_or, or_false, Option.toList, List.nil_append, List.cons_append, zif0, zif1, zif01, zem1, zem2, Int.reduceEq, Int.reduceLT, Int.reduceLE, Int.reduceNeg, Int.reduceSub, Int.reduceMul, if_true, if_false, not_false_eq_true, not_true_eq_false, true_implies, false_implies, Classical.not_not, Nat.reduceAdd, Nat.reduceLeDiff, e4, e0]
      exact h4
    · have c2 := s.2.2.resolve_left c
      have by1 := hk.2 (gSt1 T q) (by omega) (by omega)
      have n1 : ¬ gBa T (gSt1 T q) = 32 := by
        unfold gBa
        rw [if_pos (by omega), gUb_e by1 (by decide)]; omega
      have n2 : ¬ gBa T (gSt1 T q) = 10 := by
        unfold gBa
        rw [if_pos (by omega), gUb_e by1 (by decide)]; omega
      simp +contextual (disch := (first | omega | assumption | decide)) only [↓zbrT, ↓zbrF, zw65_1, zw65_2, zw65_3, zw65_5, zw65_6, zw65_7, zw65_9, zw65_10, zw65_11, zw65_12, zw65_14, zw65_15, zw65_16, zw65_17, zw65_18, zw65_19, zw65_20, zr_1, zr_3, zr_4, zr_7, zr_10, zr_13, zr_26, zr_27, zr_28, zr_50, zr_50b, zr_54, zr_55, zr_56, zr_58, zr_61, zr_68, zr_69, zr_72, zr_73, zlg_0, zlg_s, zls_0, zls_1, zls_s, zkl_i, zkl_r, zkl_l, zkl_n, zrc_1, zrc_s, zcat_n, zcat_i, zcat_l, zcat_r, zkd_1, Int.cast_ofNat_Int, Int.reduceAdd, zw_id, zmu_same, zmu_c, zmu_i, false_and, and_false, true_and, and_true, true_or, or_true, false_or, or_false, Option.toList, List.nil_append, List.cons_append, zif0, zif1, zif01, zem1, zem2, Int.reduceEq, Int.reduceLT, Int.reduceLE, Int.reduceNeg, Int.reduceSub, Int.reduceMul, if_true, if_false, not_false_eq_true, not_true_eq_false, true_implies, false_implies, Classical.not_not, Nat.reduceAdd, Nat.reduceLeDiff, e4, e0, zq62T hk ht', n1, n2]
      exact h4
  · exact ⟨Int.le_refl _, ⟨none, rfl⟩, hq, fun _ _ _ => rfl⟩
