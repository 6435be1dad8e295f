/-! ===== fewest, plan: the class ===== -/
def gFg (V : zMm) (k : Nat) (S : Int → Int) (j : Nat) : Option (List Int) := if gMp V S ((j : Int) - 1) = 1 then (match gFs V k (gNi V S ((j : Int) - 1)) with
    | some l => some (((j : Int) - 1) :: l)
    | none => none) else none
theorem gFs_s {V : zMm} {k : Nat} {S : Int → Int} : gFs V (k + 1) S = gFo (gFg V k S) ((V 0 5).toNat + 1) := rfl
theorem gFo_s {f : Nat → Option (List Int)} {k : Nat} (h : gFo f k = none) : gFo f (k + 1) = f k := by
  show (match gFo f k with | some l => some l | none => f k) = f k
  rw [h]
theorem gFo_at {f : Nat → Option (List Int)} {j : Nat} {l : List Int} (h1 : gFo f j = none) (h2 : f j = some l) : ∀ N : Nat, j < N → gFo f N = some l
  | 0, h => by omega
  | k + 1, h => by
    by_cases c : j = k
    · subst c; rw [gFo_s h1]; exact h2
    · have := gFo_at h1 h2 k (by omega)
      show (match gFo f k with | some l => some l | none => f k) = some l
      rw [this]
theorem gFo_none {f : Nat → Option (List Int)} : ∀ N : Nat, gFo f N = none → ∀ j : Nat, j < N → f j = none
  | 0, _, j, h => by omega
  | k + 1, hn, j, h => by
    have e : gFo f (k + 1) = match gFo f k with | some l => some l | none => f k := rfl
    cases c : gFo f k with
    | some l => rw [e, c] at hn; cases hn
    | none =>
      rw [gFo_s c] at hn
      by_cases z : j = k
      · rw [z]; exact hn
      · exact gFo_none k c j (by omega)
theorem gFo_some {f : Nat → Option (List Int)} {l : List Int} : ∀ N : Nat, gFo f N = some l → ∃ j : Nat, j < N ∧ f j = some l
  | 0, h => by cases h
  | k + 1, h => by
    have e : gFo f (k + 1) = match gFo f k with | some l => some l | none => f k := rfl
    cases c : gFo f k with
    | some l' =>
      rw [e, c] at h
      obtain ⟨j, j1, j2⟩ := gFo_some k c
      cases h
      exact ⟨j, by omega, j2⟩
    | none =>
      rw [gFo_s c] at h
      exact ⟨k, by omega, h⟩
/-- no row of k + 1 nights: none of k behind any first night -/
theorem gFs_kid {V : zMm} {k : Nat} {S : Int → Int} (h : gFs V (k + 1) S = none) {j : Nat} (hj : j < (V 0 5).toNat + 1) (hm : gMp V S ((j : Int) - 1) = 1) : gFs V k (gNi V S ((j : Int) - 1)) = none := by
  have := gFo_none _ (gFs_s ▸ h) j hj
  unfold gFg at this
  rw [if_pos hm] at this
  cases c : gFs V k (gNi V S ((j : Int) - 1)) with
  | none => rfl
  | some l => rw [c] at this; cases this
theorem gFs_len {V : zMm} : ∀ (k : Nat) (S : Int → Int) (l : List Int), gFs V k S = some l → l.length = k
  | 0, S, l, h => by
    have e : gFs V 0 S = if S 2 = 1 then some [] else none := rfl
    rw [e] at h
    split at h
    · cases h; rfl
    · cases h
  | k + 1, S, l, h => by
    obtain ⟨j, _, j2⟩ := gFo_some _ (gFs_s ▸ h)
    unfold gFg at j2
    split at j2
    · cases c : gFs V k (gNi V S ((j : Int) - 1)) with
      | none => rw [c] at j2; cases j2
      | some t =>
        rw [c] at j2
        cases j2
        rw [List.length_cons, gFs_len k _ t c]
    · cases j2
theorem gNi_purse {V : zMm} {S : Int → Int} {g : Int} (hV : gOk V) (h2 : S 2 = 0) : (gNi V S g 2 = 1 ∧ S 1 + gTk V (gS1 S g) < V 0 2) ∨ (gNi V S g 2 = 0 ∧ S 1 - V 0 2 - V 0 3 ≤ gNi V S g 1) := by
  have hb := hV.1
  have bT := gTk_bd hV (s := gS1 S g)
  have bL : 0 ≤ gLn V S g ∧ gLn V S g ≤ 7 := gMx_bd (gFl V S g) 7
  by_cases c : S 1 + gTk V (gS1 S g) < V 0 2
  · left
    rw [gNi_up c]
    exact ⟨rfl, c⟩
  · right
    by_cases c2 : V 0 3 ≤ S 1 + gTk V (gS1 S g) - V 0 2 ∧ 2 ≤ gFl V S g (gLn V S g)
    · rw [gNi_re c c2]
      refine ⟨?_, ?_⟩
      · dsimp only
        rw [if_neg (by decide), if_neg (by decide), if_neg (by decide), if_neg (by omega)]
        exact h2
      · show S 1 - V 0 2 - V 0 3 ≤ S 1 + gTk V (gS1 S g) - V 0 2 - V 0 3
        omega
    · rw [gNi_no c c2]
      refine ⟨h2, ?_⟩
      show S 1 - V 0 2 - V 0 3 ≤ S 1 + gTk V (gS1 S g) - V 0 2
      omega
/-- it gives up in r nights only if it has so little -/
theorem gFs_may {V : zMm} (hV : gOk V) : ∀ (r : Nat) (S : Int → Int) (l : List Int), 0 ≤ S 1 → gFs V (r + 1) S = some l → 0 < V 0 2 ∧ S 1 < ((r : Int) + 1) * V 0 2 + (r : Int) * V 0 3
  | 0, S, l, h1, h => by
    have bT := fun s => gTk_bd hV (s := s)
    obtain ⟨j, _, j2⟩ := gFo_some _ (gFs_s ▸ h)
    unfold gFg at j2
    split at j2
    · rename_i hm
      have l2 := (gMp_lg hm).2
      cases c : gFs V 0 (gNi V S ((j : Int) - 1)) with
      | none => rw [c] at j2; cases j2
      | some t =>
        have e : gFs V 0 (gNi V S ((j : Int) - 1)) = if gNi V S ((j : Int) - 1) 2 = 1 then some [] else none := rfl
        rw [e] at c
        split at c
        · rename_i c1
          rcases gNi_purse (g := (j : Int) - 1) hV l2 with z | z
          · have := bT (gS1 S ((j : Int) - 1))
            have := z.2
            constructor
            · omega
            · show S 1 < (((0 : Nat) : Int) + 1) * V 0 2 + ((0 : Nat) : Int) * V 0 3
              omega
          · omega
        · cases c
    · cases j2
  | r + 1, S, l, h1, h => by
    have hb := hV.1
    obtain ⟨j, _, j2⟩ := gFo_some _ (gFs_s ▸ h)
    unfold gFg at j2
    split at j2
    · rename_i hm
      have l2 := (gMp_lg hm).2
      cases c : gFs V (r + 1) (gNi V S ((j : Int) - 1)) with
      | none => rw [c] at j2; cases j2
      | some t =>
        obtain ⟨i, _, i2⟩ := gFo_some _ (gFs_s ▸ c)
        have z2 : gNi V S ((j : Int) - 1) 2 = 0 := by
          unfold gFg at i2
          split at i2
          · rename_i hm2
            exact (gMp_lg hm2).2
          · cases i2
        rcases gNi_purse (g := (j : Int) - 1) hV l2 with z | z
        · omega
        · have zz := z.2
          have nn : 0 ≤ gNi V S ((j : Int) - 1) 1 := by
            by_cases c0 : S 1 + gTk V (gS1 S ((j : Int) - 1)) < V 0 2
            · rw [gNi_up c0] at z2
              exact absurd z2 (by show ¬ (1 : Int) = 0; decide)
            · by_cases c2 : V 0 3 ≤ S 1 + gTk V (gS1 S ((j : Int) - 1)) - V 0 2 ∧ 2 ≤ gFl V S ((j : Int) - 1) (gLn V S ((j : Int) - 1))
              · rw [gNi_re c0 c2]
                show 0 ≤ S 1 + gTk V (gS1 S ((j : Int) - 1)) - V 0 2 - V 0 3
                omega
              · rw [gNi_no c0 c2]
                show 0 ≤ S 1 + gTk V (gS1 S ((j : Int) - 1)) - V 0 2
                omega
          have ih := gFs_may hV r (gNi V S ((j : Int) - 1)) t nn c
          refine ⟨ih.1, ?_⟩
          have e1 : (((r + 1 : Nat) : Int) + 1) * V 0 2 = ((r : Int) + 1) * V 0 2 + V 0 2 := by
            rw [show ((r + 1 : Nat) : Int) = (r : Int) + 1 from rfl, Int.add_mul ((r : Int) + 1) 1, Int.one_mul]
          have e2 : ((r + 1 : Nat) : Int) * V 0 3 = (r : Int) * V 0 3 + V 0 3 := by
            rw [show ((r + 1 : Nat) : Int) = (r : Int) + 1 from rfl, Int.add_mul, Int.one_mul]
          rw [e1, e2]
          omega
    · cases j2
theorem gStc_p {i : Int} (h1 : 0 ≤ i) (h2 : i < 5) : gStc (51 + 2 * i) := by
  have e : (51 + 2 * i) + 1 = 52 + 2 * i := by omega
  refine ⟨by omega, by omega, zkd_a50 h1 h2, ?_, ?_, ?_⟩
  · rw [e]; exact zrf_a50_6 h1 h2
  · rw [e]; exact zkd_a50_6 h1 h2
  · rw [e]; exact zln_a50_6 h1 h2
theorem zq48 {d : Nat} {m : zMm} {c : Int} {n : Int} {rest : List zV} {k : List zV → zMm → Prop} {V : zMm} {S : Int → Int} (hA : gA V m) (hc : gStc c) (hS : gSt S c m) (hk : gSok V S) (hn : 1 ≤ n ∧ n ≤ 4) : zcl (zEx (d + 1)) 48 3 (.inl n :: .inr (.inr 21) :: .inr (.inr c) :: rest) m k = (zcat rest ≤ 8 ∧ k (.inl (if 0 < V 0 2 ∧ S 1 < n * V 0 2 + (n - 1) * V 0 3 then 1 else 0) :: rest) m) := by
  refine zcl_eq (as := [.inr (.inr c), .inr (.inr 21), .inl n]) (r := some (.inl (if 0 < V 0 2 ∧ S 1 < n * V 0 2 + (n - 1) * V 0 3 then 1 else 0))) (zC_eq.mp (ze48 ?_)) rfl rfl
  have hb := hA.1.1
  have k7 := hc.2.2.1
  have e1 := hS.1.2.1
  have b0 := hk.1
  have b1 := hk.2.1
  have m1 : 0 ≤ n * V 0 2 ∧ n * V 0 2 ≤ 4 * 999 := ⟨Int.mul_nonneg (by omega) (by omega), Int.mul_le_mul hn.2 (by omega) (by omega) (by decide)⟩
  have m2 : 0 ≤ (n - 1) * V 0 3 ∧ (n - 1) * V 0 3 ≤ 3 * 999 := ⟨Int.mul_nonneg (by omega) (by omega), Int.mul_le_mul (by omega) (by omega) (by omega) (by decide)⟩
  by_cases c1 : 0 < V 0 2
  · by_cases c2 : S 1 < n * V 0 2 + (n - 1) * V 0 3
    · rw [if_pos ⟨c1, c2⟩]
      simp +contextual (disch := (first | omega | assumption | decide)) only [↓zbrT, ↓zbrF, zw48_0, zw48_1, zw48_2, zw48_3, zw48_4, zr_1, zr_3, zr_7, zr_10, zr_26, zr_27, zr_28, zr_54, zr_58, zr_66, zr_73, zr_76, zlg_0, zlg_s, zkd_105, zkd_21, zkd_3, zkd_43, zkd_45, zkd_51, zkd_53, zkd_55, zkd_57, zkd_59, zkd_67, zkd_86, zkd_a50, Int.cast_ofNat_Int, Int.reduceAdd, zw_id, false_and, and_false, true_and, and_true, true_or, or_true, false_or, or_false, Option.toList, List.nil_append, List.cons_append, zif0, zif1, zif01, zem1, zem2, Int.reduceEq, Int.reduceLT, Int.reduceLE, Int.reduceNeg, Int.reduceSub, Int.reduceMul, if_true, if_false, not_false_eq_true, not_true_eq_false, true_implies, false_implies, Classical.not_not, Nat.reduceAdd, Nat.reduceLeDiff, k7, gA_0 hA.2.1, gA_1 hA.2.1, gA_2 hA.2.1, gA_3 hA.2.1, gA_4 hA.2.1, gA_5 hA.2.1, gA_6 hA.2.1, gA_7 hA.2.1, gA_8 hA.2.1, gA_9 hA.2.1, gA_r0 hA.2.1, gA_r1 hA.2.1, gA_r2 hA.2.1, gA_r3 hA.2.1, gA_f0 hA.2.1, gA_f1 hA.2.1, gA_f2 hA.2.1, gA_f3 hA.2.1, gA_f4 hA.2.1, gA_d hA, e1]
    · rw [if_neg (fun z => c2 z.2)]
      simp +contextual (disch := (first | omega | assumption | decide)) only [↓zbrT, ↓zbrF, zw48_0, zw48_1, zw48_2, zw48_3, zw48_4, zr_1, zr_3, zr_7, zr_10, zr_26, zr_27, zr_28, zr_54, zr_58, zr_66, zr_73, zr_76, zlg_0, zlg_s, zkd_105, zkd_21, zkd_3, zkd_43, zkd_45, zkd_51, zkd_53, zkd_55, zkd_57, zkd_59, zkd_67, zkd_86, zkd_a50, Int.cast_ofNat_Int, Int.reduceAdd, zw_id, false_and, and_false, true_and, and_true, true_or, or_true, false_or, or_false, Option.toList, List.nil_append, List.cons_append, zif0, zif1, zif01, zem1, zem2, Int.reduceEq, Int.reduceLT, Int.reduceLE, Int.reduceNeg, Int.reduceSub, Int.reduceMul, if_true, if_false, not_false_eq_true, not_true_eq_false, true_implies, false_implies, Classical.not_not, Nat.reduceAdd, Nat.reduceLeDiff, k7, gA_0 hA.2.1, gA_1 hA.2.1, gA_2 hA.2.1, gA_3 hA.2.1, gA_4 hA.2.1, gA_5 hA.2.1, gA_6 hA.2.1, gA_7 hA.2.1, gA_8 hA.2.1, gA_9 hA.2.1, gA_r0 hA.2.1, gA_r1 hA.2.1, gA_r2 hA.2.1, gA_r3 hA.2.1, gA_f0 hA.2.1, gA_f1 hA.2.1, gA_f2 hA.2.1, gA_f3 hA.2.1, gA_f4 hA.2.1, gA_d hA, e1]
  · rw [if_neg (fun z => c1 z.1)]
    simp +contextual (disch := (first | omega | assumption | decide)) only [↓zbrT, ↓zbrF, zw48_0, zw48_1, zw48_2, zw48_3, zw48_4, zr_1, zr_3, zr_7, zr_10, zr_26, zr_27, zr_28, zr_54, zr_58, zr_66, zr_73, zr_76, zlg_0, zlg_s, zkd_105, zkd_21, zkd_3, zkd_43, zkd_45, zkd_51, zkd_53, zkd_55, zkd_57, zkd_59, zkd_67, zkd_86, zkd_a50, Int.cast_ofNat_Int, Int.reduceAdd, zw_id, false_and, and_false, true_and, and_true, true_or, or_true, false_or, or_false, Option.toList, List.nil_append, List.cons_append, zif0, zif1, zif01, zem1, zem2, Int.reduceEq, Int.reduceLT, Int.reduceLE, Int.reduceNeg, Int.reduceSub, Int.reduceMul, if_true, if_false, not_false_eq_true, not_true_eq_false, true_implies, false_implies, Classical.not_not, Nat.reduceAdd, Nat.reduceLeDiff, k7, gA_0 hA.2.1, gA_1 hA.2.1, gA_2 hA.2.1, gA_3 hA.2.1, gA_4 hA.2.1, gA_5 hA.2.1, gA_6 hA.2.1, gA_7 hA.2.1, gA_8 hA.2.1, gA_9 hA.2.1, gA_r0 hA.2.1, gA_r1 hA.2.1, gA_r2 hA.2.1, gA_r3 hA.2.1, gA_f0 hA.2.1, gA_f1 hA.2.1, gA_f2 hA.2.1, gA_f3 hA.2.1, gA_f4 hA.2.1, gA_d hA, e1]
/-- alike but for what a search from depth e on writes -/
def gEf (e : Int) (m m' : zMm) : Prop := ∀ c i, (c ≠ 39 ∧ c ≠ 40 ∧ c ≠ 41 ∧ c ≠ 20) ∧ (c ≠ 49 ∨ i < e) ∧ (c < 53 + 2 * e ∨ 60 < c) → m' c i = m c i
theorem gz29 {V : zMm} : ∀ (r : Nat) {d : Nat} {m : zMm} {e n : Int} {S : Int → Int}, (0 ≤ e ∧ e + r = n ∧ n ≤ 4) → gA V m → gSt S (51 + 2 * e) m → gSok V S → S 0 + r ≤ 1000 → (∀ j : Nat, j < r → gFs V j S = none) → zC (d + r + 7) 29 [.inr (.inr 48), .inr (.inr 20), .inl e, .inl n] m (fun r' m' => r' = some (.inl (if (gFs V r S).isSome ∧ 0 < r then 1 else 0)) ∧ gA V m' ∧ gEf e m m' ∧ (0 < r → ∀ l, gFs V r S = some l → ∀ i : Nat, i < r → m' 49 (e + i) = l.getD i 0))
  | 0, d, m, e, n, S, he, hA, hS, hk, hs, hN => by
    refine ze29 ?_
    simp +contextual (disch := (first | omega | assumption | decide)) only [↓zbrT, ↓zbrF, zw29_0, zw29_1, zw29_2, zw29_3, zw29_4, zw29_5, zw29_6, zw29_8, zw29_9, zw29_10, zw29_11, zw29_12, zw29_13, zw29_14, zr_1, zr_3, zr_4, zr_6, zr_7, zr_10, zr_12, zr_20, zr_21, zr_26, zr_27, zr_52, zr_53, zr_54, zr_57, zr_58, zr_61, zr_62, zr_63, zr_68, zr_73, zr_76, zlg_0, zlg_s, zls_0, zls_1, zls_s, zkl_i, zkl_r, zkl_l, zkl_n, zrc_1, zrc_s, zcat_n, zcat_i, zcat_l, zcat_r, zkd_105, zkd_20, zkd_21, zkd_3, zkd_43, zkd_45, zkd_48, zkd_49, zkd_50, zkd_51, zkd_53, zkd_55, zkd_57, zkd_59, zkd_67, zkd_86, zkd_a50, zln_49, zln_50, zrf_20_0, zrf_48_0, zrf_48_1, zrf_a50, Int.cast_ofNat_Int, Int.reduceAdd, zbd, zw_id, zmu_same, zmu_c, zmu_i, false_and, and_false, true_and, and_true, true_or, or_true, false_or, or_false, Option.toList, List.nil_append, List.cons_append, zif0, zif1, zif01, zem1, zem2, Int.reduceEq, Int.reduceLT, Int.reduceLE, Int.reduceNeg, Int.reduceSub, Int.reduceMul, if_true, if_false, not_false_eq_true, not_true_eq_false, true_implies, false_implies, Classical.not_not, Nat.reduceAdd, Nat.reduceLeDiff]
    refine ⟨by rw [if_neg (by omega)], hA, fun _ _ _ => rfl, fun h => by omega⟩
  | r + 1, d, m, e, n, S, he, hA, hS, hk, hs, hN => by
    have hb := hA.1.1
    have c0 := gStc_p (i := e) he.1 (by omega)
    have c1 := gStc_p (i := e + 1) (by omega) (by omega)
    have z1 := zrf_a50 (i := e) he.1 (by omega)
    have z2 := zrf_a50 (i := e + 1) (by omega) (by omega)
    have k7 := c1.2.2.1
    have pos : 0 < r + 1 := by omega
    show zC (d + r + 7 + 1) 29 _ _ _
    refine ze29 ?_
    have hnr : n - e = (r : Int) + 1 := by omega
    by_cases cm : 0 < V 0 2 ∧ S 1 < (n - e) * V 0 2 + ((n - e) - 1) * V 0 3
    · simp +contextual (disch := (first | omega | assumption | decide)) only [↓zbrT, ↓zbrF, zw29_0, zw29_1, zw29_2, zw29_3, zw29_4, zw29_5, zw29_6, zw29_8, zw29_9, zw29_10, zw29_11, zw29_12, zw29_13, zw29_14, zr_1, zr_3, zr_4, zr_6, zr_7, zr_10, zr_12, zr_20, zr_21, zr_26, zr_27, zr_52, zr_53, zr_54, zr_57, zr_58, zr_61, zr_62, zr_63, zr_68, zr_73, zr_76, zlg_0, zlg_s, zls_0, zls_1, zls_s, zkl_i, zkl_r, zkl_l, zkl_n, zrc_1, zrc_s, zcat_n, zcat_i, zcat_l, zcat_r, zkd_105, zkd_20, zkd_21, zkd_3, zkd_43, zkd_45, zkd_48, zkd_49, zkd_50, zkd_51, zkd_53, zkd_55, zkd_57, zkd_59, zkd_67, zkd_86, zkd_a50, zln_49, zln_50, zrf_20_0, zrf_48_0, zrf_48_1, zrf_a50, Int.cast_ofNat_Int, Int.reduceAdd, zbd, zw_id, zmu_same, zmu_c, zmu_i, false_and, and_false, true_and, and_true, true_or, or_true, false_or, or_false, Option.toList, List.nil_append, List.cons_append, zif0, zif1, zif01, zem1, zem2, Int.reduceEq, Int.reduceLT, Int.reduceLE, Int.reduceNeg, Int.reduceSub, Int.reduceMul, if_true, if_false, not_false_eq_true, not_true_eq_false, true_implies, false_implies, Classical.not_not, Nat.reduceAdd, Nat.reduceLeDiff, z1, z2, gA_0 hA.2.1, gA_1 hA.2.1, gA_2 hA.2.1, gA_3 hA.2.1, gA_4 hA.2.1, gA_5 hA.2.1, gA_6 hA.2.1, gA_7 hA.2.1, gA_8 hA.2.1, gA_9 hA.2.1, gA_r0 hA.2.1, gA_r1 hA.2.1, gA_r2 hA.2.1, gA_r3 hA.2.1, gA_f0 hA.2.1, gA_f1 hA.2.1, gA_f2 hA.2.1, gA_f3 hA.2.1, gA_f4 hA.2.1, gA_d hA, zq48 hA c0 hS hk, if_pos cm]
      refine zfor (V 0 5) (fun g lc m' => -1 ≤ g ∧ lc = [some (.inr (.inr 48)), some (.inr (.inr 20)), some (.inl e), some (.inl n), some (.inr (.inr (51 + 2 * e))), some (.inr (.inr (51 + 2 * (e + 1)))), some (.inl g)] ∧ gA V m' ∧ gEf e m m' ∧ gFo (gFg V r S) (g + 1).toNat = none) ?_ ?_ (i := -1) (by omega) ?_
      · rintro g lc m' hg ⟨h0, rfl, hA1, hE1, hn⟩ kk
        have hS1 : gSt S (51 + 2 * e) m' := gSt_of hS (fun i => hE1 _ i (by omega)) (fun i => hE1 _ i (by omega))
        have eg : (((g + 1).toNat : Nat) : Int) - 1 = g := by omega
        have es := gFo_s hn
        rw [show (g + 1).toNat + 1 = (g + 1 + 1).toNat by omega] at es
        rw [zw29_7]
        rcases gMp_01 V S g with z | z
        · have f0 : gFg V r S (g + 1).toNat = none := by unfold gFg; rw [eg, if_neg (by omega)]
          simp +contextual (disch := (first | omega | assumption | decide)) only [↓zbrT, ↓zbrF, zw29_0, zw29_1, zw29_2, zw29_3, zw29_4, zw29_5, zw29_6, zw29_8, zw29_9, zw29_10, zw29_11, zw29_12, zw29_13, zw29_14, zr_1, zr_3, zr_4, zr_6, zr_7, zr_10, zr_12, zr_20, zr_21, zr_26, zr_27, zr_52, zr_53, zr_54, zr_57, zr_58, zr_61, zr_62, zr_63, zr_68, zr_73, zr_76, zlg_0, zlg_s, zls_0, zls_1, zls_s, zkl_i, zkl_r, zkl_l, zkl_n, zrc_1, zrc_s, zcat_n, zcat_i, zcat_l, zcat_r, zkd_105, zkd_20, zkd_21, zkd_3, zkd_43, zkd_45, zkd_48, zkd_49, zkd_50, zkd_51, zkd_53, zkd_55, zkd_57, zkd_59, zkd_67, zkd_86, zkd_a50, zln_49, zln_50, zrf_20_0, zrf_48_0, zrf_48_1, zrf_a50, Int.cast_ofNat_Int, Int.reduceAdd, zbd, zw_id, zmu_same, zmu_c, zmu_i, false_and, and_false, true_and, and_true, true_or, or_true, false_or, or_false, Option.toList, List.nil_append, List.cons_append, zif0, zif1, zif01, zem1, zem2, Int.reduceEq, Int.reduceLT, Int.reduceLE, Int.reduceNeg, Int.reduceSub, Int.reduceMul, if_true, if_false, not_false_eq_true, not_true_eq_false, true_implies, false_implies, Classical.not_not, Nat.reduceAdd, Nat.reduceLeDiff, gA_0 hA1.2.1, gA_1 hA1.2.1, gA_2 hA1.2.1, gA_3 hA1.2.1, gA_4 hA1.2.1, gA_5 hA1.2.1, gA_6 hA1.2.1, gA_7 hA1.2.1, gA_8 hA1.2.1, gA_9 hA1.2.1, gA_r0 hA1.2.1, gA_r1 hA1.2.1, gA_r2 hA1.2.1, gA_r3 hA1.2.1, gA_f0 hA1.2.1, gA_f1 hA1.2.1, gA_f2 hA1.2.1, gA_f3 hA1.2.1, gA_f4 hA1.2.1, gA_d hA1, zq45 hA1 c0 hS1 hk, z]
          exact kk _ _ ⟨by omega, rfl, hA1, hE1, by rw [es]; exact f0⟩
        · have lg := gMp_lg z
          have f1 : gFg V r S (g + 1).toNat = match gFs V r (gNi V S g) with | some l => some (g :: l) | none => none := by unfold gFg; rw [eg, if_pos z]
          have hA2 : gA V (zmu m' 49 e g) := gA_of hA1 (fun c i a b => zmu_c (by omega))
          have hS2 : gSt S (51 + 2 * e) (zmu m' 49 e g) := gSt_of hS1 (fun i => zmu_c (by omega)) (fun i => zmu_c (by omega))
          simp +contextual (disch := (first | omega | assumption | decide)) only [↓zbrT, ↓zbrF, zw29_0, zw29_1, zw29_2, zw29_3, zw29_4, zw29_5, zw29_6, zw29_8, zw29_9, zw29_10, zw29_11, zw29_12, zw29_13, zw29_14, zr_1, zr_3, zr_4, zr_6, zr_7, zr_10, zr_12, zr_20, zr_21, zr_26, zr_27, zr_52, zr_53, zr_54, zr_57, zr_58, zr_61, zr_62, zr_63, zr_68, zr_73, zr_76, zlg_0, zlg_s, zls_0, zls_1, zls_s, zkl_i, zkl_r, zkl_l, zkl_n, zrc_1, zrc_s, zcat_n, zcat_i, zcat_l, zcat_r, zkd_105, zkd_20, zkd_21, zkd_3, zkd_43, zkd_45, zkd_48, zkd_49, zkd_50, zkd_51, zkd_53, zkd_55, zkd_57, zkd_59, zkd_67, zkd_86, zkd_a50, zln_49, zln_50, zrf_20_0, zrf_48_0, zrf_48_1, zrf_a50, Int.cast_ofNat_Int, Int.reduceAdd, zbd, zw_id, zmu_same, zmu_c, zmu_i, false_and, and_false, true_and, and_true, true_or, or_true, false_or, or_false, Option.toList, List.nil_append, List.cons_append, zif0, zif1, zif01, zem1, zem2, Int.reduceEq, Int.reduceLT, Int.reduceLE, Int.reduceNeg, Int.reduceSub, Int.reduceMul, if_true, if_false, not_false_eq_true, not_true_eq_false, true_implies, false_implies, Classical.not_not, Nat.reduceAdd, Nat.reduceLeDiff, gA_0 hA1.2.1, gA_1 hA1.2.1, gA_2 hA1.2.1, gA_3 hA1.2.1, gA_4 hA1.2.1, gA_5 hA1.2.1, gA_6 hA1.2.1, gA_7 hA1.2.1, gA_8 hA1.2.1, gA_9 hA1.2.1, gA_r0 hA1.2.1, gA_r1 hA1.2.1, gA_r2 hA1.2.1, gA_r3 hA1.2.1, gA_f0 hA1.2.1, gA_f1 hA1.2.1, gA_f2 hA1.2.1, gA_f3 hA1.2.1, gA_f4 hA1.2.1, gA_d hA1, zq45 hA1 c0 hS1 hk, z]
          refine gK (gz42 c1 c0 hS2 (by omega) hk.2.2.1) rfl rfl (Nat.le_of_ble_eq_true rfl) ?_
          rintro _ m3 ⟨rfl, hS3, hE3⟩
          have hA3 := gA_eq c1 hA2 hE3
          simp +contextual (disch := (first | omega | assumption | decide)) only [↓zbrT, ↓zbrF, zw29_0, zw29_1, zw29_2, zw29_3, zw29_4, zw29_5, zw29_6, zw29_8, zw29_9, zw29_10, zw29_11, zw29_12, zw29_13, zw29_14, zr_1, zr_3, zr_4, zr_6, zr_7, zr_10, zr_12, zr_20, zr_21, zr_26, zr_27, zr_52, zr_53, zr_54, zr_57, zr_58, zr_61, zr_62, zr_63, zr_68, zr_73, zr_76, zlg_0, zlg_s, zls_0, zls_1, zls_s, zkl_i, zkl_r, zkl_l, zkl_n, zrc_1, zrc_s, zcat_n, zcat_i, zcat_l, zcat_r, zkd_105, zkd_20, zkd_21, zkd_3, zkd_43, zkd_45, zkd_48, zkd_49, zkd_50, zkd_51, zkd_53, zkd_55, zkd_57, zkd_59, zkd_67, zkd_86, zkd_a50, zln_49, zln_50, zrf_20_0, zrf_48_0, zrf_48_1, zrf_a50, Int.cast_ofNat_Int, Int.reduceAdd, zbd, zw_id, zmu_same, zmu_c, zmu_i, false_and, and_false, true_and, and_true, true_or, or_true, false_or, or_false, Option.toList, List.nil_append, List.cons_append, zif0, zif1, zif01, zem1, zem2, Int.reduceEq, Int.reduceLT, Int.reduceLE, Int.reduceNeg, Int.reduceSub, Int.reduceMul, if_true, if_false, not_false_eq_true, not_true_eq_false, true_implies, false_implies, Classical.not_not, Nat.reduceAdd, Nat.reduceLeDiff]
          refine gK (gz46 hA3 c1 hS3 hk lg.1 (by omega)) rfl rfl (Nat.le_of_ble_eq_true rfl) ?_
          rintro _ m4 ⟨rfl, hA4, hS4, hE4⟩
          have e2 := gSt_2 hS4
          have hE5 : gEf e m m4 := fun c i hc => by
            rw [hE4 c i (by omega), hE3 c i (by omega)]
            unfold zmu
            rw [if_neg (by omega)]; exact hE1 c i hc
          have g49 : m4 49 e = g := by rw [hE4 49 e (by omega), hE3 49 e (by omega), zmu_same]
          have kid : ∀ j : Nat, j < r → gFs V j (gNi V S g) = none := fun j hj => by
            have := gFs_kid (hN (j + 1) (by omega)) (j := (g + 1).toNat) (by omega) (by rw [eg]; exact z)
            rw [eg] at this
            exact this
          by_cases c2 : gNi V S g 2 = 0
          · have n0 : gFs V 0 (gNi V S g) = none := by show (if gNi V S g 2 = 1 then some [] else none) = none; rw [if_neg (by omega)]
            simp +contextual (disch := (first | omega | assumption | decide)) only [↓zbrT, ↓zbrF, zw29_0, zw29_1, zw29_2, zw29_3, zw29_4, zw29_5, zw29_6, zw29_8, zw29_9, zw29_10, zw29_11, zw29_12, zw29_13, zw29_14, zr_1, zr_3, zr_4, zr_6, zr_7, zr_10, zr_12, zr_20, zr_21, zr_26, zr_27, zr_52, zr_53, zr_54, zr_57, zr_58, zr_61, zr_62, zr_63, zr_68, zr_73, zr_76, zlg_0, zlg_s, zls_0, zls_1, zls_s, zkl_i, zkl_r, zkl_l, zkl_n, zrc_1, zrc_s, zcat_n, zcat_i, zcat_l, zcat_r, zkd_105, zkd_20, zkd_21, zkd_3, zkd_43, zkd_45, zkd_48, zkd_49, zkd_50, zkd_51, zkd_53, zkd_55, zkd_57, zkd_59, zkd_67, zkd_86, zkd_a50, zln_49, zln_50, zrf_20_0, zrf_48_0, zrf_48_1, zrf_a50, Int.cast_ofNat_Int, Int.reduceAdd, zbd, zw_id, zmu_same, zmu_c, zmu_i, false_and, and_false, true_and, and_true, true_or, or_true, false_or, or_false, Option.toList, List.nil_append, List.cons_append, zif0, zif1, zif01, zem1, zem2, Int.reduceEq, Int.reduceLT, Int.reduceLE, Int.reduceNeg, Int.reduceSub, Int.reduceMul, if_true, if_false, not_false_eq_true, not_true_eq_false, true_implies, false_implies, Classical.not_not, Nat.reduceAdd, Nat.reduceLeDiff, k7, e2, c2]
            refine gK (gz29 (V := V) r (d := d) (m := m4) (e := e + 1) (n := n) (S := gNi V S g) (by omega) hA4 hS4 (gSok_ni hA.1 hk lg.1 (by omega)) (by rw [gNi_0]; omega) kid) rfl rfl (Nat.le_of_ble_eq_true rfl) ?_
            rintro _ m5 ⟨rfl, hA5, hE6, hl5⟩
            have hE7 : gEf e m m5 := fun c i hc => by rw [hE6 c i (by omega)]; exact hE5 c i hc
            have g49' : m5 49 e = g := by rw [hE6 49 e (by omega)]; exact g49
            by_cases cs : (gFs V r (gNi V S g)).isSome ∧ 0 < r
            · obtain ⟨l, hl⟩ := Option.isSome_iff_exists.mp cs.1
              rw [hl] at f1
              have ff : gFs V (r + 1) S = some (g :: l) := by rw [gFs_s]; exact gFo_at hn f1 _ (by omega)
              simp +contextual (disch := (first | omega | assumption | decide)) only [↓zbrT, ↓zbrF, zw29_0, zw29_1, zw29_2, zw29_3, zw29_4, zw29_5, zw29_6, zw29_8, zw29_9, zw29_10, zw29_11, zw29_12, zw29_13, zw29_14, zr_1, zr_3, zr_4, zr_6, zr_7, zr_10, zr_12, zr_20, zr_21, zr_26, zr_27, zr_52, zr_53, zr_54, zr_57, zr_58, zr_61, zr_62, zr_63, zr_68, zr_73, zr_76, zlg_0, zlg_s, zls_0, zls_1, zls_s, zkl_i, zkl_r, zkl_l, zkl_n, zrc_1, zrc_s, zcat_n, zcat_i, zcat_l, zcat_r, zkd_105, zkd_20, zkd_21, zkd_3, zkd_43, zkd_45, zkd_48, zkd_49, zkd_50, zkd_51, zkd_53, zkd_55, zkd_57, zkd_59, zkd_67, zkd_86, zkd_a50, zln_49, zln_50, zrf_20_0, zrf_48_0, zrf_48_1, zrf_a50, Int.cast_ofNat_Int, Int.reduceAdd, zbd, zw_id, zmu_same, zmu_c, zmu_i, false_and, and_false, true_and, and_true, true_or, or_true, false_or, or_false, Option.toList, List.nil_append, List.cons_append, zif0, zif1, zif01, zem1, zem2, Int.reduceEq, Int.reduceLT, Int.reduceLE, Int.reduceNeg, Int.reduceSub, Int.reduceMul, if_true, if_false, not_false_eq_true, not_true_eq_false, true_implies, false_implies, Classical.not_not, Nat.reduceAdd, Nat.reduceLeDiff, if_pos cs]
              refine ⟨by rw [ff, if_pos ⟨rfl, pos⟩], hA5, hE7, fun _ l' hl' i hi => ?_⟩
              rw [ff] at hl'
              cases hl'
              cases i with
              | zero => rw [show e + ((0 : Nat) : Int) = e by omega]; exact g49'
              | succ i =>
                have := hl5 cs.2 l hl i (by omega)
                rw [List.getD_cons_succ, show e + ((i + 1 : Nat) : Int) = e + 1 + (i : Int) by omega]
                exact this
            · have f2 : gFs V r (gNi V S g) = none := by
                by_cases r0 : 0 < r
                · cases c : gFs V r (gNi V S g) with
                  | none => rfl
                  | some l => exact absurd ⟨by rw [c]; rfl, r0⟩ cs
                · have : r = 0 := by omega
                  rw [this]; exact n0
              rw [f2] at f1
              simp +contextual (disch := (first | omega | assumption | decide)) only [↓zbrT, ↓zbrF, zw29_0, zw29_1, zw29_2, zw29_3, zw29_4, zw29_5, zw29_6, zw29_8, zw29_9, zw29_10, zw29_11, zw29_12, zw29_13, zw29_14, zr_1, zr_3, zr_4, zr_6, zr_7, zr_10, zr_12, zr_20, zr_21, zr_26, zr_27, zr_52, zr_53, zr_54, zr_57, zr_58, zr_61, zr_62, zr_63, zr_68, zr_73, zr_76, zlg_0, zlg_s, zls_0, zls_1, zls_s, zkl_i, zkl_r, zkl_l, zkl_n, zrc_1, zrc_s, zcat_n, zcat_i, zcat_l, zcat_r, zkd_105, zkd_20, zkd_21, zkd_3, zkd_43, zkd_45, zkd_48, zkd_49, zkd_50, zkd_51, zkd_53, zkd_55, zkd_57, zkd_59, zkd_67, zkd_86, zkd_a50, zln_49, zln_50, zrf_20_0, zrf_48_0, zrf_48_1, zrf_a50, Int.cast_ofNat_Int, Int.reduceAdd, zbd, zw_id, zmu_same, zmu_c, zmu_i, false_and, and_false, true_and, and_true, true_or, or_true, false_or, or_false, Option.toList, List.nil_append, List.cons_append, zif0, zif1, zif01, zem1, zem2, Int.reduceEq, Int.reduceLT, Int.reduceLE, Int.reduceNeg, Int.reduceSub, Int.reduceMul, if_true, if_false, not_false_eq_true, not_true_eq_false, true_implies, false_implies, Classical.not_not, Nat.reduceAdd, Nat.reduceLeDiff, if_neg cs]
              exact kk _ _ ⟨by omega, rfl, hA5, hE7, by rw [es]; exact f1⟩
          · have r0 : r = 0 := by
              by_cases y : r = 0
              · exact y
              · exfalso
                have := kid 0 (by omega)
                have t : gFs V 0 (gNi V S g) = if gNi V S g 2 = 1 then some [] else none := rfl
                have o := (gSok_ni hA.1 hk lg.1 (by omega)).2.2.1
                rw [t, if_pos (by omega)] at this
                cases this
            have o := (gSok_ni hA.1 hk lg.1 (by omega)).2.2.1
            have n0 : gFs V r (gNi V S g) = some [] := by rw [r0]; show (if gNi V S g 2 = 1 then some [] else none) = some []; rw [if_pos (by omega)]
            rw [n0] at f1
            have ff : gFs V (r + 1) S = some [g] := by rw [gFs_s]; exact gFo_at hn f1 _ (by omega)
            simp +contextual (disch := (first | omega | assumption | decide)) only [↓zbrT, ↓zbrF, zw29_0, zw29_1, zw29_2, zw29_3, zw29_4, zw29_5, zw29_6, zw29_8, zw29_9, zw29_10, zw29_11, zw29_12, zw29_13, zw29_14, zr_1, zr_3, zr_4, zr_6, zr_7, zr_10, zr_12, zr_20, zr_21, zr_26, zr_27, zr_52, zr_53, zr_54, zr_57, zr_58, zr_61, zr_62, zr_63, zr_68, zr_73, zr_76, zlg_0, zlg_s, zls_0, zls_1, zls_s, zkl_i, zkl_r, zkl_l, zkl_n, zrc_1, zrc_s, zcat_n, zcat_i, zcat_l, zcat_r, zkd_105, zkd_20, zkd_21, zkd_3, zkd_43, zkd_45, zkd_48, zkd_49, zkd_50, zkd_51, zkd_53, zkd_55, zkd_57, zkd_59, zkd_67, zkd_86, zkd_a50, zln_49, zln_50, zrf_20_0, zrf_48_0, zrf_48_1, zrf_a50, Int.cast_ofNat_Int, Int.reduceAdd, zbd, zw_id, zmu_same, zmu_c, zmu_i, false_and, and_false, true_and, and_true, true_or, or_true, false_or, or_false, Option.toList, List.nil_append, List.cons_append, zif0, zif1, zif01, zem1, zem2, Int.reduceEq, Int.reduceLT, Int.reduceLE, Int.reduceNeg, Int.reduceSub, Int.reduceMul, if_true, if_false, not_false_eq_true, not_true_eq_false, true_implies, false_implies, Classical.not_not, Nat.reduceAdd, Nat.reduceLeDiff, k7, e2, c2]
            refine ⟨by rw [ff, if_pos ⟨rfl, pos⟩], hA4, hE5, fun _ l' hl' i hi => ?_⟩
            rw [ff] at hl'
            cases hl'
            have i0 : i = 0 := by omega
            subst i0
            rw [show e + ((0 : Nat) : Int) = e by omega]; exact g49
      · rintro lc m' ⟨h0, rfl, hA1, hE1, hn⟩
        have ff : gFs V (r + 1) S = none := by rw [gFs_s, show (V 0 5).toNat + 1 = (V 0 5 + 1).toNat by omega]; exact hn
        rw [zw29_7]
        simp +contextual (disch := (first | omega | assumption | decide)) only [↓zbrT, ↓zbrF, zw29_0, zw29_1, zw29_2, zw29_3, zw29_4, zw29_5, zw29_6, zw29_8, zw29_9, zw29_10, zw29_11, zw29_12, zw29_13, zw29_14, zr_1, zr_3, zr_4, zr_6, zr_7, zr_10, zr_12, zr_20, zr_21, zr_26, zr_27, zr_52, zr_53, zr_54, zr_57, zr_58, zr_61, zr_62, zr_63, zr_68, zr_73, zr_76, zlg_0, zlg_s, zls_0, zls_1, zls_s, zkl_i, zkl_r, zkl_l, zkl_n, zrc_1, zrc_s, zcat_n, zcat_i, zcat_l, zcat_r, zkd_105, zkd_20, zkd_21, zkd_3, zkd_43, zkd_45, zkd_48, zkd_49, zkd_50, zkd_51, zkd_53, zkd_55, zkd_57, zkd_59, zkd_67, zkd_86, zkd_a50, zln_49, zln_50, zrf_20_0, zrf_48_0, zrf_48_1, zrf_a50, Int.cast_ofNat_Int, Int.reduceAdd, zbd, zw_id, zmu_same, zmu_c, zmu_i, false_and, and_false, true_and, and_true, true_or, or_true, false_or, or_false, Option.toList, List.nil_append, List.cons_append, zif0, zif1, zif01, zem1, zem2, Int.reduceEq, Int.reduceLT, Int.reduceLE, Int.reduceNeg, Int.reduceSub, Int.reduceMul, if_true, if_false, not_false_eq_true, not_true_eq_false, true_implies, false_implies, Classical.not_not, Nat.reduceAdd, Nat.reduceLeDiff, gA_0 hA1.2.1, gA_1 hA1.2.1, gA_2 hA1.2.1, gA_3 hA1.2.1, gA_4 hA1.2.1, gA_5 hA1.2.1, gA_6 hA1.2.1, gA_7 hA1.2.1, gA_8 hA1.2.1, gA_9 hA1.2.1, gA_r0 hA1.2.1, gA_r1 hA1.2.1, gA_r2 hA1.2.1, gA_r3 hA1.2.1, gA_f0 hA1.2.1, gA_f1 hA1.2.1, gA_f2 hA1.2.1, gA_f3 hA1.2.1, gA_f4 hA1.2.1, gA_d hA1]
        refine ⟨by rw [ff, if_neg (fun z => Bool.noConfusion z.1)], hA1, hE1, fun _ l hl => ?_⟩
        rw [ff] at hl; cases hl
      · exact ⟨by decide, rfl, hA, fun _ _ _ => rfl, rfl⟩
    · have ff : gFs V (r + 1) S = none := by
        cases c : gFs V (r + 1) S with
        | none => rfl
        | some l =>
          have := gFs_may hA.1 r S l hk.2.1.1 c
          rw [hnr, show (r : Int) + 1 - 1 = r by omega] at cm
          exact absurd this cm
      simp +contextual (disch := (first | omega | assumption | decide)) only [↓zbrT, ↓zbrF, zw29_0, zw29_1, zw29_2, zw29_3, zw29_4, zw29_5, zw29_6, zw29_8, zw29_9, zw29_10, zw29_11, zw29_12, zw29_13, zw29_14, zr_1, zr_3, zr_4, zr_6, zr_7, zr_10, zr_12, zr_20, zr_21, zr_26, zr_27, zr_52, zr_53, zr_54, zr_57, zr_58, zr_61, zr_62, zr_63, zr_68, zr_73, zr_76, zlg_0, zlg_s, zls_0, zls_1, zls_s, zkl_i, zkl_r, zkl_l, zkl_n, zrc_1, zrc_s, zcat_n, zcat_i, zcat_l, zcat_r, zkd_105, zkd_20, zkd_21, zkd_3, zkd_43, zkd_45, zkd_48, zkd_49, zkd_50, zkd_51, zkd_53, zkd_55, zkd_57, zkd_59, zkd_67, zkd_86, zkd_a50, zln_49, zln_50, zrf_20_0, zrf_48_0, zrf_48_1, zrf_a50, Int.cast_ofNat_Int, Int.reduceAdd, zbd, zw_id, zmu_same, zmu_c, zmu_i, false_and, and_false, true_and, and_true, true_or, or_true, false_or, or_false, Option.toList, List.nil_append, List.cons_append, zif0, zif1, zif01, zem1, zem2, Int.reduceEq, Int.reduceLT, Int.reduceLE, Int.reduceNeg, Int.reduceSub, Int.reduceMul, if_true, if_false, not_false_eq_true, not_true_eq_false, true_implies, false_implies, Classical.not_not, Nat.reduceAdd, Nat.reduceLeDiff, z1, z2, gA_0 hA.2.1, gA_1 hA.2.1, gA_2 hA.2.1, gA_3 hA.2.1, gA_4 hA.2.1, gA_5 hA.2.1, gA_6 hA.2.1, gA_7 hA.2.1, gA_8 hA.2.1, gA_9 hA.2.1, gA_r0 hA.2.1, gA_r1 hA.2.1, gA_r2 hA.2.1, gA_r3 hA.2.1, gA_f0 hA.2.1, gA_f1 hA.2.1, gA_f2 hA.2.1, gA_f3 hA.2.1, gA_f4 hA.2.1, gA_d hA, zq48 hA c0 hS hk, if_neg cm]
      refine ⟨by rw [ff, if_neg (fun z => Bool.noConfusion z.1)], hA, fun _ _ _ => rfl, fun _ l hl => ?_⟩
      rw [ff] at hl; cases hl
