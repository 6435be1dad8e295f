/-! ===== Arrays.fill, Atlas.clear, Atlas.join ===== -/
def gfil (m : zMm) (c n x : Int) : zMm := fun c' i' => if c' = c ∧ 0 ≤ i' ∧ i' < n then x else m c' i'
theorem zsh_in2 {c : Int} (h : zkd c = 1) : zln c ≤ 1000 := by
  have h0 : 0 ≤ c ∧ c < 151 := by
    unfold zkd zsh at h
    by_cases h0 : c < 0
    · rw [if_pos h0] at h; exact absurd h (by decide)
    · rw [if_neg h0] at h
      refine ⟨by omega, ?_⟩
      by_cases h1 : c < 151
      · exact h1
      · exfalso
        have : zSH.length ≤ c.toNat := by rw [show zSH.length = 151 from rfl]; omega
        rw [List.getD_eq_getElem?_getD, List.getElem?_eq_none this] at h
        exact absurd h (by decide)
  have h1 : ∀ c, c < 151 → zln (c : Nat) ≤ 1000 := by decide +kernel
  have := h1 c.toNat (by omega)
  rw [show ((c.toNat : Nat) : Int) = c by omega] at this
  exact this
theorem ga4 {d : Nat} {m : zMm} {c x L : Int} (hc : zkd c = 1) (hl : zln c = L) (hL : 0 ≤ L) : zEx (d + 1) 4 [.inr (.inr c), .inl x] m none (gfil m c L x) := by
  refine zC_eq.mp (ze4 ?_)
  simp +contextual (disch := omega) only [↓zbrT, ↓zbrF, zw4_0, zw4_2, zw4_3, zr_1, zr_3, zr_4, zr_7, zr_21, zr_25, zr_53, zr_54, zr_58, zr_72, zr_73, zlg_0, zlg_s, zls_0, zls_1, zls_s, zkl_i, zkl_r, zkl_l, zkl_n, Int.cast_ofNat_Int, zbd, zw_id, zmu_same, zmu_c, zmu_i, false_and, and_false, true_and, and_true, true_or, or_true, false_or, or_false, Option.toList, List.nil_append, List.cons_append, zif0, zif1, zif01, zem1, zem2, Int.reduceEq, Int.reduceLT, Int.reduceLE, Int.reduceNeg, Int.reduceSub, Int.reduceMul, Int.reduceAdd, if_true, if_false, not_false_eq_true, not_true_eq_false, true_implies, false_implies, Classical.not_not, Nat.reduceAdd, Nat.reduceLeDiff, hc, hl]
  refine zfor L (fun i lc m' => 0 ≤ i ∧ lc = [some (.inr (.inr c)), some (.inl x), some (.inl i), some (.inl L)] ∧ m' = gfil m c i x) ?_ ?_ (i := 0) hL ?_
  · rintro i lc m' hi ⟨h0, rfl, rfl⟩ k
    rw [zw4_1]
    have hL2 : L < 2147483647 := by
      have := zsh_in2 hc
      omega
    simp +contextual (disch := omega) only [↓zbrT, ↓zbrF, zw4_0, zw4_2, zw4_3, zr_1, zr_3, zr_4, zr_7, zr_21, zr_25, zr_53, zr_54, zr_58, zr_72, zr_73, zlg_0, zlg_s, zls_0, zls_1, zls_s, zkl_i, zkl_r, zkl_l, zkl_n, Int.cast_ofNat_Int, zbd, zw_id, zmu_same, zmu_c, zmu_i, false_and, and_false, true_and, and_true, true_or, or_true, false_or, or_false, Option.toList, List.nil_append, List.cons_append, zif0, zif1, zif01, zem1, zem2, Int.reduceEq, Int.reduceLT, Int.reduceLE, Int.reduceNeg, Int.reduceSub, Int.reduceMul, Int.reduceAdd, if_true, if_false, not_false_eq_true, not_true_eq_false, true_implies, false_implies, Classical.not_not, Nat.reduceAdd, Nat.reduceLeDiff, hc, hl]
    refine k _ _ ⟨by omega, rfl, ?_⟩
    funext c' i'
    simp only [zmu, gfil]
    (repeat' split) <;> (first | rfl | omega | (exfalso; omega))
  · rintro lc m' ⟨h0, rfl, rfl⟩
    rw [zw4_1]
    simp +contextual (disch := omega) only [↓zbrT, ↓zbrF, zw4_0, zw4_2, zw4_3, zr_1, zr_3, zr_4, zr_7, zr_21, zr_25, zr_53, zr_54, zr_58, zr_72, zr_73, zlg_0, zlg_s, zls_0, zls_1, zls_s, zkl_i, zkl_r, zkl_l, zkl_n, Int.cast_ofNat_Int, zbd, zw_id, zmu_same, zmu_c, zmu_i, false_and, and_false, true_and, and_true, true_or, or_true, false_or, or_false, Option.toList, List.nil_append, List.cons_append, zif0, zif1, zif01, zem1, zem2, Int.reduceEq, Int.reduceLT, Int.reduceLE, Int.reduceNeg, Int.reduceSub, Int.reduceMul, Int.reduceAdd, if_true, if_false, not_false_eq_true, not_true_eq_false, true_implies, false_implies, Classical.not_not, Nat.reduceAdd, Nat.reduceLeDiff, hc, hl]
  · refine ⟨by decide, rfl, ?_⟩
    funext c' i'
    simp only [gfil]
    rw [if_neg (by omega)]
theorem zq4 {d : Nat} {m : zMm} {c x L : Int} {rest : List zV} {k : List zV → zMm → Prop} (hc : zkd c = 1) (hl : zln c = L) (hL : 0 ≤ L) : zcl (zEx (d + 1)) 4 2 (.inl x :: .inr (.inr c) :: rest) m k = (zcat rest ≤ 8 ∧ k rest (gfil m c L x)) := zcl_eq (as := [.inr (.inr c), .inl x]) (r := none) (ga4 hc hl hL) rfl rfl
/-- a table without roads -/
def gclr (m : zMm) (c n : Int) : zMm := fun c' i' => if c' = c ∧ 0 ≤ i' ∧ i' < 36 then (if i' % 7 = 0 ∧ i' / 7 < n then 0 else 268435456) else m c' i'
theorem ga8 {d : Nat} {m : zMm} {c : Int} (hc : zkd c = 1) (hl : zln c = 36) : zEx (d + 2) 8 [.inr (.inr c)] m none (gclr m c 6) := by
  refine zC_eq.mp (ze8 ?_)
  simp +contextual (disch := (first | omega | exact hl)) only [↓zbrT, ↓zbrF, zw8_0, zw8_2, zw8_3, zr_1, zr_3, zr_4, zr_7, zr_21, zr_53, zr_54, zr_58, zr_69, zr_72, zr_73, zlg_0, zlg_s, zls_0, zls_1, zls_s, zkl_i, zkl_r, zkl_l, zkl_n, zcat_n, zcat_i, zcat_l, zcat_r, Int.cast_ofNat_Int, zbd, zw_id, zmu_same, zmu_c, zmu_i, false_and, and_false, true_and, and_true, true_or, or_true, false_or, or_false, Option.toList, List.nil_append, List.cons_append, zif0, zif1, zif01, zem1, zem2, Int.reduceEq, Int.reduceLT, Int.reduceLE, Int.reduceNeg, Int.reduceSub, Int.reduceMul, Int.reduceAdd, if_true, if_false, not_false_eq_true, not_true_eq_false, true_implies, false_implies, Classical.not_not, Nat.reduceAdd, Nat.reduceLeDiff, hc, hl, zq4]
  refine zfor 6 (fun i lc m' => 0 ≤ i ∧ lc = [some (.inr (.inr c)), some (.inl i)] ∧ m' = gclr m c i) ?_ ?_ (i := 0) (by decide) ?_
  · rintro i lc m' hi ⟨h0, rfl, rfl⟩ k
    rw [zw8_1]
    simp +contextual (disch := omega) only [↓zbrT, ↓zbrF, zw8_0, zw8_2, zw8_3, zr_1, zr_3, zr_4, zr_7, zr_21, zr_53, zr_54, zr_58, zr_69, zr_72, zr_73, zlg_0, zlg_s, zls_0, zls_1, zls_s, zkl_i, zkl_r, zkl_l, zkl_n, zcat_n, zcat_i, zcat_l, zcat_r, Int.cast_ofNat_Int, zbd, zw_id, zmu_same, zmu_c, zmu_i, false_and, and_false, true_and, and_true, true_or, or_true, false_or, or_false, Option.toList, List.nil_append, List.cons_append, zif0, zif1, zif01, zem1, zem2, Int.reduceEq, Int.reduceLT, Int.reduceLE, Int.reduceNeg, Int.reduceSub, Int.reduceMul, Int.reduceAdd, if_true, if_false, not_false_eq_true, not_true_eq_false, true_implies, false_implies, Classical.not_not, Nat.reduceAdd, Nat.reduceLeDiff, hc, hl, zq7]
    refine k _ _ ⟨by omega, rfl, ?_⟩
    funext c' i'
    simp only [zmu, gclr]
    (repeat' split) <;> (first | rfl | omega | (exfalso; omega))
  · rintro lc m' ⟨h0, rfl, rfl⟩
    rw [zw8_1]
    simp +contextual (disch := omega) only [↓zbrT, ↓zbrF, zw8_0, zw8_2, zw8_3, zr_1, zr_3, zr_4, zr_7, zr_21, zr_53, zr_54, zr_58, zr_69, zr_72, zr_73, zlg_0, zlg_s, zls_0, zls_1, zls_s, zkl_i, zkl_r, zkl_l, zkl_n, zcat_n, zcat_i, zcat_l, zcat_r, Int.cast_ofNat_Int, zbd, zw_id, zmu_same, zmu_c, zmu_i, false_and, and_false, true_and, and_true, true_or, or_true, false_or, or_false, Option.toList, List.nil_append, List.cons_append, zif0, zif1, zif01, zem1, zem2, Int.reduceEq, Int.reduceLT, Int.reduceLE, Int.reduceNeg, Int.reduceSub, Int.reduceMul, Int.reduceAdd, if_true, if_false, not_false_eq_true, not_true_eq_false, true_implies, false_implies, Classical.not_not, Nat.reduceAdd, Nat.reduceLeDiff, hc, hl]
  · refine ⟨by decide, rfl, ?_⟩
    funext c' i'
    simp only [gclr, gfil]
    (repeat' split) <;> (first | rfl | omega | (exfalso; omega))
theorem zq8 {d : Nat} {m : zMm} {c : Int} {rest : List zV} {k : List zV → zMm → Prop} (hc : zkd c = 1) (hl : zln c = 36) : zcl (zEx (d + 2)) 8 1 (.inr (.inr c) :: rest) m k = (zcat rest ≤ 8 ∧ k rest (gclr m c 6)) := zcl_eq (as := [.inr (.inr c)]) (r := none) (ga8 hc hl) rfl rfl
/-- a road of weight w laid over a table, between p and q -/
def gjoi (m : zMm) (c p q w : Int) : zMm := fun c' i' => if c' = c ∧ (i' = p * 6 + q ∨ i' = q * 6 + p) then min w (m c (p * 6 + q)) else m c' i'
theorem ga9 {d : Nat} {m : zMm} {c o w : Int} (hc : zkd c = 1) (hl : zln c = 36) (ho : zkd o = 104) (h1 : 0 ≤ m o 0 ∧ m o 0 < 6) (h2 : 0 ≤ m o 1 ∧ m o 1 < 6) (hco : o ≠ c) : zEx (d + 2) 9 [.inr (.inr c), .inr (.inr o), .inl w] m none (gjoi m c (m o 0) (m o 1) w) := by
  refine zC_eq.mp (ze9 ?_)
  simp +contextual (disch := omega) only [zw9_0, zr_1, zr_3, zr_4, zr_10, zr_16, zr_21, zr_69, zr_72, zlg_0, zlg_s, zls_0, zls_1, zls_s, zkl_i, zkl_r, zkl_l, zkl_n, zcat_n, zcat_i, zcat_l, zcat_r, zkd_a106, zkd_a22, zkd_a4, zkd_a68, zkd_a87, Int.cast_ofNat_Int, Int.reduceAdd, zbd, zmu_same, zmu_c, zmu_i, false_and, and_false, true_and, and_true, true_or, or_true, false_or, or_false, Option.toList, List.nil_append, List.cons_append, zif0, zif1, zif01, zem1, zem2, Int.reduceEq, Int.reduceLT, Int.reduceLE, Int.reduceNeg, Int.reduceSub, Int.reduceMul, if_true, if_false, not_false_eq_true, not_true_eq_false, true_implies, false_implies, Classical.not_not, Nat.reduceAdd, Nat.reduceLeDiff, hc, hl, ho, zq7, zq2]
  funext c' i'
  simp only [zmu, gjoi]
  (repeat' split) <;> (first | rfl | omega | (exfalso; omega))
theorem zq9 {d : Nat} {m : zMm} {c o w : Int} {rest : List zV} {k : List zV → zMm → Prop} (hc : zkd c = 1) (hl : zln c = 36) (ho : zkd o = 104) (h1 : 0 ≤ m o 0 ∧ m o 0 < 6) (h2 : 0 ≤ m o 1 ∧ m o 1 < 6) (hco : o ≠ c) : zcl (zEx (d + 2)) 9 3 (.inl w :: .inr (.inr o) :: .inr (.inr c) :: rest) m k = (zcat rest ≤ 8 ∧ k rest (gjoi m c (m o 0) (m o 1) w)) := zcl_eq (as := [.inr (.inr c), .inr (.inr o), .inl w]) (r := none) (ga9 hc hl ho h1 h2 hco) rfl rfl
