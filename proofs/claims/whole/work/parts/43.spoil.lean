/-! ===== spoil, spoils ===== -/
theorem gsz_all : ∀ v, v < 256 → (zpc (v : Nat) = 0 ↔ v = 0) ∧ (v ≠ 0 → zpc (zand (v : Nat) ((v : Nat) - 1)) = zpc (v : Nat) - 1 ∧ 0 ≤ zand (v : Nat) ((v : Nat) - 1) ∧ zand (v : Nat) ((v : Nat) - 1) < 256) ∧ 0 ≤ zpc (v : Nat) ∧ zpc (v : Nat) ≤ 8 := by decide +kernel
theorem gsz {v : Int} (h : 0 ≤ v ∧ v < 256) : (zpc v = 0 ↔ v = 0) ∧ (v ≠ 0 → zpc (zand v (v - 1)) = zpc v - 1 ∧ 0 ≤ zand v (v - 1) ∧ zand v (v - 1) < 256) ∧ 0 ≤ zpc v ∧ zpc v ≤ 8 := by
  obtain ⟨n, rfl⟩ : ∃ n : Nat, v = n := ⟨v.toNat, by omega⟩
  have := gsz_all n (by omega)
  refine ⟨⟨fun z => by have := this.1.mp z; omega, fun z => this.1.mpr (by omega)⟩, fun z => this.2.1 (by omega), this.2.2⟩
theorem zq208 {d : Nat} {m : zMm} {s : Int} {rest : List zV} {k : List zV → zMm → Prop} (hs : 0 ≤ s ∧ s < 256) : zcl (zEx (d + 1)) 208 1 (.inl s :: rest) m k = (zcat rest ≤ 8 ∧ k (.inl (zpc s) :: rest) m) := by
  refine zcl_eq (as := [.inl s]) (r := some (.inl (zpc s))) (zC_eq.mp (ze208 ?_)) rfl rfl
  have q := gsz hs
  simp +contextual (disch := (first | omega | assumption | decide)) only [↓zbrT, ↓zbrF, zw208_0, zw208_2, zw208_3, zr_1, zr_4, zr_7, zr_27, zr_31, zr_53, zr_54, zr_61, zr_70, zr_73, zlg_0, zlg_s, zls_0, zls_1, zls_s, zkl_i, zkl_r, zkl_l, zkl_n, Int.cast_ofNat_Int, zw_id, false_and, and_false, true_and, and_true, true_or, or_true, false_or, or_false, Option.toList, List.nil_append, List.cons_append, zif0, zif1, zif01, zem1, zem2, Int.reduceEq, Int.reduceLT, Int.reduceLE, Int.reduceNeg, Int.reduceSub, Int.reduceMul, Int.reduceAdd, if_true, if_false, not_false_eq_true, not_true_eq_false, true_implies, false_implies, Classical.not_not, Nat.reduceAdd, Nat.reduceLeDiff]
  refine zfor (zpc s) (fun i lc m' => 0 ≤ i ∧ (∃ v, lc = [some (.inl s), some (.inl i), some (.inl v)] ∧ (0 ≤ v ∧ v < 256) ∧ zpc v = zpc s - i) ∧ m' = m) ?_ ?_ (i := 0) q.2.2.1 ?_
  · rintro i lc m' hi ⟨h0, ⟨v, rfl, hv, hz⟩, rfl⟩ kk
    have qv := gsz hv
    have v0 : v ≠ 0 := fun z => by have := qv.1.mpr z; omega
    have q2 := qv.2.1 v0
    rw [zw208_1]
    simp +contextual (disch := (first | omega | assumption | decide)) only [↓zbrT, ↓zbrF, zw208_0, zw208_2, zw208_3, zr_1, zr_4, zr_7, zr_27, zr_31, zr_53, zr_54, zr_61, zr_70, zr_73, zlg_0, zlg_s, zls_0, zls_1, zls_s, zkl_i, zkl_r, zkl_l, zkl_n, Int.cast_ofNat_Int, zw_id, false_and, and_false, true_and, and_true, true_or, or_true, false_or, or_false, Option.toList, List.nil_append, List.cons_append, zif0, zif1, zif01, zem1, zem2, Int.reduceEq, Int.reduceLT, Int.reduceLE, Int.reduceNeg, Int.reduceSub, Int.reduceMul, Int.reduceAdd, if_true, if_false, not_false_eq_true, not_true_eq_false, true_implies, false_implies, Classical.not_not, Nat.reduceAdd, Nat.reduceLeDiff, v0]
    exact kk _ _ ⟨by omega, ⟨_, rfl, q2.2, by omega⟩, rfl⟩
  · rintro lc m' ⟨h0, ⟨v, rfl, hv, hz⟩, rfl⟩
    have v0 : v = 0 := (gsz hv).1.mp (by omega)
    rw [zw208_1]
    simp +contextual (disch := (first | omega | assumption | decide)) only [↓zbrT, ↓zbrF, zw208_0, zw208_2, zw208_3, zr_1, zr_4, zr_7, zr_27, zr_31, zr_53, zr_54, zr_61, zr_70, zr_73, zlg_0, zlg_s, zls_0, zls_1, zls_s, zkl_i, zkl_r, zkl_l, zkl_n, Int.cast_ofNat_Int, zw_id, false_and, and_false, true_and, and_true, true_or, or_true, false_or, or_false, Option.toList, List.nil_append, List.cons_append, zif0, zif1, zif01, zem1, zem2, Int.reduceEq, Int.reduceLT, Int.reduceLE, Int.reduceNeg, Int.reduceSub, Int.reduceMul, Int.reduceAdd, if_true, if_false, not_false_eq_true, not_true_eq_false, true_implies, false_implies, Classical.not_not, Nat.reduceAdd, Nat.reduceLeDiff, v0]
  · exact ⟨by decide, ⟨s, rfl, hs, by omega⟩, rfl⟩
/-- what is left of s without a set -/
def gLe (s t : Int) : Int := zand s (zxor t (-1))
theorem gLe_bd {s t : Int} (hs : 0 ≤ s ∧ s < 256) (ht : 0 ≤ t ∧ t < 256) : 0 ≤ gLe s t ∧ gLe s t < 256 := by
  have := zandn_bd hs ht
  unfold gLe
  omega
/-- the best set below k, and what it leaves (-1: none yet) -/
def gSb (V : zMm) (n : Int) : Nat → Int × Int
  | 0 => (-1, 100000000)
  | k + 1 => if (gLe k (gSn V 4) = 0 ∧ zpc k = min n (zpc (gSn V 4))) ∧ gTk V (gLe (gSn V 4) k) < (gSb V n k).2 then ((k : Int), gTk V (gLe (gSn V 4) k)) else gSb V n k
theorem gSb_ok {V : zMm} (hV : gOk V) {n : Int} : ∀ k : Nat, k ≤ 256 → (gSb V n k = (-1, 100000000) ∧ ∀ j : Nat, j < k → ¬ (gLe j (gSn V 4) = 0 ∧ zpc j = min n (zpc (gSn V 4)))) ∨ ((0 ≤ (gSb V n k).1 ∧ (gSb V n k).1 < k) ∧ (gSb V n k).2 = gTk V (gLe (gSn V 4) (gSb V n k).1))
  | 0, _ => Or.inl ⟨rfl, fun j h => by omega⟩
  | k + 1, h => by
    have i := gSb_ok hV (n := n) k (by omega)
    have b := gTk_bd hV (s := gLe (gSn V 4) k)
    have e : gSb V n (k + 1) = if (gLe k (gSn V 4) = 0 ∧ zpc k = min n (zpc (gSn V 4))) ∧ gTk V (gLe (gSn V 4) k) < (gSb V n k).2 then ((k : Int), gTk V (gLe (gSn V 4) k)) else gSb V n k := rfl
    by_cases c : (gLe k (gSn V 4) = 0 ∧ zpc k = min n (zpc (gSn V 4))) ∧ gTk V (gLe (gSn V 4) k) < (gSb V n k).2
    · rw [if_pos c] at e
      rw [e]
      exact Or.inr ⟨⟨by show (0 : Int) ≤ k; omega, by show (k : Int) < ((k + 1 : Nat) : Int); omega⟩, rfl⟩
    · rw [if_neg c] at e
      rw [e]
      rcases i with ⟨i1, i2⟩ | ⟨i1, i2⟩
      · refine Or.inl ⟨i1, fun j hj => ?_⟩
        by_cases z : j = k
        · rw [z]
          intro y
          rw [i1] at c
          exact c ⟨y, by show gTk V (gLe (gSn V 4) k) < 100000000; omega⟩
        · exact i2 j (by omega)
      · exact Or.inr ⟨⟨i1.1, by omega⟩, i2⟩
def gLw (s k : Int) : Nat → Int
  | 0 => 0
  | j + 1 => if zbit s j = 1 ∧ zpc (gLw s k j) < k then gLw s k j + 2 ^ j else gLw s k j
theorem gLw_all : ∀ s, s < 256 → ∀ k, k < 9 → ((k : Nat) : Int) ≤ zpc (s : Nat) → gLe (gLw (s : Nat) (k : Nat) 8) (s : Nat) = 0 ∧ zpc (gLw (s : Nat) (k : Nat) 8) = (k : Nat) ∧ 0 ≤ gLw (s : Nat) (k : Nat) 8 ∧ gLw (s : Nat) (k : Nat) 8 < 256 := by decide +kernel
theorem gSb_some {V : zMm} (hV : gOk V) (hs : 0 ≤ gSn V 4 ∧ gSn V 4 < 256) {n : Int} (hn : 0 ≤ n ∧ n ≤ 8) : (0 ≤ (gSb V n 256).1 ∧ (gSb V n 256).1 < 256) ∧ (gSb V n 256).2 = gTk V (gLe (gSn V 4) (gSb V n 256).1) := by
  rcases gSb_ok hV (n := n) 256 (by decide) with ⟨_, i2⟩ | i
  · exfalso
    have z := gsz hs
    have q := gLw_all (gSn V 4).toNat (by omega) (min n (zpc (gSn V 4))).toNat (by omega)
    rw [show (((gSn V 4).toNat : Nat) : Int) = gSn V 4 by omega, show (((min n (zpc (gSn V 4))).toNat : Nat) : Int) = min n (zpc (gSn V 4)) by omega] at q
    have q2 := q (by omega)
    refine i2 (gLw (gSn V 4) (min n (zpc (gSn V 4))) 8).toNat (by omega) ?_
    rw [show (((gLw (gSn V 4) (min n (zpc (gSn V 4))) 8).toNat : Nat) : Int) = gLw (gSn V 4) (min n (zpc (gSn V 4))) 8 by omega]
    exact ⟨q2.1, q2.2.1⟩
  · exact i
/-- sets above s aren't among it -/
theorem gLe_le {s t : Int} (hs : 0 ≤ s ∧ s < 256) (ht : 0 ≤ t ∧ t < 256) (h : gLe t s = 0) : t ≤ s := by
  have e : zand s t = t := by
    refine zbit_ext (by have := zand_bd hs ht; omega) ht (fun j a b => ?_)
    rw [zbit_and hs ht a]
    have := zbit_andn ht hs ⟨a, b⟩
    rw [show zand t (zxor s (-1)) = 0 from h, zbit_0] at this
    rcases zbit_01 t j with z | z
    · rw [z, if_neg (by omega)]
    · rcases zbit_01 s j with y | y
      · rw [if_pos ⟨z, y⟩] at this; omega
      · rw [z, y]; rfl
  have := zand_bd hs ht
  omega
theorem gSb_cut {V : zMm} {n : Int} (hs : 0 ≤ gSn V 4 ∧ gSn V 4 < 256) : ∀ k : Nat, k ≤ 255 - (gSn V 4).toNat → gSb V n ((gSn V 4).toNat + 1 + k) = gSb V n ((gSn V 4).toNat + 1)
  | 0, _ => rfl
  | k + 1, h => by
    have e : gSb V n ((gSn V 4).toNat + 1 + (k + 1)) = if (gLe (((gSn V 4).toNat + 1 + k : Nat) : Int) (gSn V 4) = 0 ∧ zpc (((gSn V 4).toNat + 1 + k : Nat) : Int) = min n (zpc (gSn V 4))) ∧ gTk V (gLe (gSn V 4) (((gSn V 4).toNat + 1 + k : Nat) : Int)) < (gSb V n ((gSn V 4).toNat + 1 + k)).2 then ((((gSn V 4).toNat + 1 + k : Nat) : Int), gTk V (gLe (gSn V 4) (((gSn V 4).toNat + 1 + k : Nat) : Int))) else gSb V n ((gSn V 4).toNat + 1 + k) := rfl
    rw [e, if_neg, gSb_cut hs k (by omega)]
    rintro ⟨⟨z, _⟩, _⟩
    have := gLe_le hs (t := (((gSn V 4).toNat + 1 + k : Nat) : Int)) (by omega) z
    omega
theorem gSb_s {V : zMm} {n j : Int} (h : 0 ≤ j) : gSb V n (j + 1).toNat = if (gLe j (gSn V 4) = 0 ∧ zpc j = min n (zpc (gSn V 4))) ∧ gTk V (gLe (gSn V 4) j) < (gSb V n j.toNat).2 then (j, gTk V (gLe (gSn V 4) j)) else gSb V n j.toNat := by
  rw [show (j + 1).toNat = j.toNat + 1 by omega]
  show (if (gLe (j.toNat : Nat) (gSn V 4) = 0 ∧ zpc (j.toNat : Nat) = min n (zpc (gSn V 4))) ∧ gTk V (gLe (gSn V 4) (j.toNat : Nat)) < (gSb V n j.toNat).2 then (((j.toNat : Nat) : Int), gTk V (gLe (gSn V 4) (j.toNat : Nat))) else gSb V n j.toNat) = _
  rw [show ((j.toNat : Nat) : Int) = j by omega]
theorem gz101 {d : Nat} {m : zMm} {n : Int} {V : zMm} (hI : gI V m) (hn : 0 ≤ n ∧ n ≤ 8) : zC (d + 5) 101 [.inr (.inr 0), .inl n] m (fun r' m' => r' = some (.inl (gSb V n 256).1) ∧ gI V m' ∧ gX m m') := by
  refine ze101 ?_
  have hs := (gI_k hI).1.2.2.2.2.1
  simp +contextual (disch := (first | omega | assumption | decide)) only [↓zbrT, ↓zbrF, zw101_0, zw101_2, zw101_3, zw101_4, zw101_5, zw101_6, zw101_7, zw101_8, zr_1, zr_3, zr_4, zr_7, zr_10, zr_12, zr_31, zr_33, zr_53, zr_54, zr_55, zr_58, zr_62, zr_68, zr_69, zr_70, zr_73, zlg_0, zlg_s, zls_0, zls_1, zls_s, zkl_i, zkl_r, zkl_l, zkl_n, zrc_1, zrc_s, zcat_n, zcat_i, zcat_l, zcat_r, zkd_0, zkd_20, zkd_43, zkd_45, zkd_51, zkd_53, zkd_55, zkd_57, zkd_59, zkd_a50, zrf_0_2, zrf_0_6, Int.cast_ofNat_Int, Int.reduceAdd, zw_id, false_and, and_false, true_and, and_true, true_or, or_true, false_or, or_false, Option.toList, List.nil_append, List.cons_append, zif0, zif1, zif01, zem1, zem2, Int.reduceEq, Int.reduceLT, Int.reduceLE, Int.reduceNeg, Int.reduceSub, Int.reduceMul, if_true, if_false, not_false_eq_true, not_true_eq_false, true_implies, false_implies, Classical.not_not, Nat.reduceAdd, Nat.reduceLeDiff, gA_0 hI.1.2.1, gA_1 hI.1.2.1, gA_2 hI.1.2.1, gA_3 hI.1.2.1, gA_4 hI.1.2.1, gA_5 hI.1.2.1, gA_6 hI.1.2.1, gA_7 hI.1.2.1, gA_8 hI.1.2.1, gA_9 hI.1.2.1, gA_r0 hI.1.2.1, gA_r1 hI.1.2.1, gA_r2 hI.1.2.1, gA_r3 hI.1.2.1, gA_f0 hI.1.2.1, gA_f1 hI.1.2.1, gA_f2 hI.1.2.1, gA_f3 hI.1.2.1, gA_f4 hI.1.2.1, gA_d hI.1, gI_s0 hI, gI_s1 hI, gI_s2 hI, gI_s3 hI, gI_s4 hI, gI_s5 hI, gI_n hI, zq0, zq2]
  refine zfor 256 (fun j lc m' => 0 ≤ j ∧ (∃ x6, lc = [some (.inr (.inr 0)), some (.inl n), some (.inl (min n (zpc (gSn V 4)))), some (.inl (if (gSb V n j.toNat).1 = -1 then 0 else (gSb V n j.toNat).1)), some (.inl (if (gSb V n j.toNat).1 = -1 then 268435456 else (gSb V n j.toNat).2)), some (.inl j), x6]) ∧ gI V m' ∧ gX m m') ?_ ?_ (i := 0) (by decide) ?_
  · rintro j lc m' hj ⟨h0, ⟨x6, rfl⟩, hI1, hX⟩ kk
    have e1 : zand j (zxor (gSn V 4) (-1)) = gLe j (gSn V 4) := rfl
    have e2 : zand (gSn V 4) (zxor j (-1)) = gLe (gSn V 4) j := rfl
    have es := gSb_s (V := V) (n := n) h0
    rw [zw101_1]
    by_cases c1 : gLe j (gSn V 4) = 0
    · by_cases c2 : zpc j = min n (zpc (gSn V 4))
      · simp +contextual (disch := (first | omega | assumption | decide)) only [↓zbrT, ↓zbrF, zw101_0, zw101_2, zw101_3, zw101_4, zw101_5, zw101_6, zw101_7, zw101_8, zr_1, zr_3, zr_4, zr_7, zr_10, zr_12, zr_31, zr_33, zr_53, zr_54, zr_55, zr_58, zr_62, zr_68, zr_69, zr_70, zr_73, zlg_0, zlg_s, zls_0, zls_1, zls_s, zkl_i, zkl_r, zkl_l, zkl_n, zrc_1, zrc_s, zcat_n, zcat_i, zcat_l, zcat_r, zkd_0, zkd_20, zkd_43, zkd_45, zkd_51, zkd_53, zkd_55, zkd_57, zkd_59, zkd_a50, zrf_0_2, zrf_0_6, Int.cast_ofNat_Int, Int.reduceAdd, zw_id, false_and, and_false, true_and, and_true, true_or, or_true, false_or, or_false, Option.toList, List.nil_append, List.cons_append, zif0, zif1, zif01, zem1, zem2, Int.reduceEq, Int.reduceLT, Int.reduceLE, Int.reduceNeg, Int.reduceSub, Int.reduceMul, if_true, if_false, not_false_eq_true, not_true_eq_false, true_implies, false_implies, Classical.not_not, Nat.reduceAdd, Nat.reduceLeDiff, gA_0 hI1.1.2.1, gA_1 hI1.1.2.1, gA_2 hI1.1.2.1, gA_3 hI1.1.2.1, gA_4 hI1.1.2.1, gA_5 hI1.1.2.1, gA_6 hI1.1.2.1, gA_7 hI1.1.2.1, gA_8 hI1.1.2.1, gA_9 hI1.1.2.1, gA_r0 hI1.1.2.1, gA_r1 hI1.1.2.1, gA_r2 hI1.1.2.1, gA_r3 hI1.1.2.1, gA_f0 hI1.1.2.1, gA_f1 hI1.1.2.1, gA_f2 hI1.1.2.1, gA_f3 hI1.1.2.1, gA_f4 hI1.1.2.1, gA_d hI1.1, gI_s0 hI1, gI_s1 hI1, gI_s2 hI1, gI_s3 hI1, gI_s4 hI1, gI_s5 hI1, gI_n hI1, e1, c1, zq0, c2, e2]
        refine gK (gz19 hI1.1 (gLe_bd hs ⟨h0, hj⟩)) rfl rfl (Nat.le_of_ble_eq_true rfl) ?_
        rintro _ m2 ⟨rfl, hA2, hE2⟩
        have q := gI_e hI1 hA2 hE2
        have bt := gTk_bd hI.1.1 (s := gLe (gSn V 4) j)
        by_cases c3 : gTk V (gLe (gSn V 4) j) < (gSb V n j.toNat).2
        · rw [if_pos ⟨⟨c1, c2⟩, c3⟩] at es
          have lt : gTk V (gLe (gSn V 4) j) < (if (gSb V n j.toNat).1 = -1 then 268435456 else (gSb V n j.toNat).2) := by split <;> omega
          simp +contextual (disch := (first | omega | assumption | decide)) only [↓zbrT, ↓zbrF, zw101_0, zw101_2, zw101_3, zw101_4, zw101_5, zw101_6, zw101_7, zw101_8, zr_1, zr_3, zr_4, zr_7, zr_10, zr_12, zr_31, zr_33, zr_53, zr_54, zr_55, zr_58, zr_62, zr_68, zr_69, zr_70, zr_73, zlg_0, zlg_s, zls_0, zls_1, zls_s, zkl_i, zkl_r, zkl_l, zkl_n, zrc_1, zrc_s, zcat_n, zcat_i, zcat_l, zcat_r, zkd_0, zkd_20, zkd_43, zkd_45, zkd_51, zkd_53, zkd_55, zkd_57, zkd_59, zkd_a50, zrf_0_2, zrf_0_6, Int.cast_ofNat_Int, Int.reduceAdd, zw_id, false_and, and_false, true_and, and_true, true_or, or_true, false_or, or_false, Option.toList, List.nil_append, List.cons_append, zif0, zif1, zif01, zem1, zem2, Int.reduceEq, Int.reduceLT, Int.reduceLE, Int.reduceNeg, Int.reduceSub, Int.reduceMul, if_true, if_false, not_false_eq_true, not_true_eq_false, true_implies, false_implies, Classical.not_not, Nat.reduceAdd, Nat.reduceLeDiff, lt]
          refine kk _ _ ⟨by omega, ⟨some (.inl (gTk V (gLe (gSn V 4) j))), ?_⟩, q.1, gX_tr hX q.2⟩
          · rw [es, if_neg (show ¬ (j, gTk V (gLe (gSn V 4) j)).1 = -1 by show ¬ j = -1; omega), if_neg (show ¬ (j, gTk V (gLe (gSn V 4) j)).1 = -1 by show ¬ j = -1; omega)]
        · rw [if_neg (fun y => c3 y.2)] at es
          have n1 : ¬ (gSb V n j.toNat).1 = -1 := by
            rcases gSb_ok hI.1.1 (n := n) j.toNat (by omega) with ⟨i1, _⟩ | ⟨i1, _⟩
            · rw [i1] at c3
              exact absurd (show gTk V (gLe (gSn V 4) j) < 100000000 by omega) c3
            · omega
          have lt : ¬ gTk V (gLe (gSn V 4) j) < (if (gSb V n j.toNat).1 = -1 then 268435456 else (gSb V n j.toNat).2) := by rw [if_neg n1]; exact c3
          simp +contextual (disch := (first | omega | assumption | decide)) only [↓zbrT, ↓zbrF, zw101_0, zw101_2, zw101_3, zw101_4, zw101_5, zw101_6, zw101_7, zw101_8, zr_1, zr_3, zr_4, zr_7, zr_10, zr_12, zr_31, zr_33, zr_53, zr_54, zr_55, zr_58, zr_62, zr_68, zr_69, zr_70, zr_73, zlg_0, zlg_s, zls_0, zls_1, zls_s, zkl_i, zkl_r, zkl_l, zkl_n, zrc_1, zrc_s, zcat_n, zcat_i, zcat_l, zcat_r, zkd_0, zkd_20, zkd_43, zkd_45, zkd_51, zkd_53, zkd_55, zkd_57, zkd_59, zkd_a50, zrf_0_2, zrf_0_6, Int.cast_ofNat_Int, Int.reduceAdd, zw_id, false_and, and_false, true_and, and_true, true_or, or_true, false_or, or_false, Option.toList, List.nil_append, List.cons_append, zif0, zif1, zif01, zem1, zem2, Int.reduceEq, Int.reduceLT, Int.reduceLE, Int.reduceNeg, Int.reduceSub, Int.reduceMul, if_true, if_false, not_false_eq_true, not_true_eq_false, true_implies, false_implies, Classical.not_not, Nat.reduceAdd, Nat.reduceLeDiff, lt]
          refine kk _ _ ⟨by omega, ⟨some (.inl (gTk V (gLe (gSn V 4) j))), ?_⟩, q.1, gX_tr hX q.2⟩
          · rw [es, if_neg n1, if_neg n1]
      · rw [if_neg (fun y => c2 y.1.2)] at es
        simp +contextual (disch := (first | omega | assumption | decide)) only [↓zbrT, ↓zbrF, zw101_0, zw101_2, zw101_3, zw101_4, zw101_5, zw101_6, zw101_7, zw101_8, zr_1, zr_3, zr_4, zr_7, zr_10, zr_12, zr_31, zr_33, zr_53, zr_54, zr_55, zr_58, zr_62, zr_68, zr_69, zr_70, zr_73, zlg_0, zlg_s, zls_0, zls_1, zls_s, zkl_i, zkl_r, zkl_l, zkl_n, zrc_1, zrc_s, zcat_n, zcat_i, zcat_l, zcat_r, zkd_0, zkd_20, zkd_43, zkd_45, zkd_51, zkd_53, zkd_55, zkd_57, zkd_59, zkd_a50, zrf_0_2, zrf_0_6, Int.cast_ofNat_Int, Int.reduceAdd, zw_id, false_and, and_false, true_and, and_true, true_or, or_true, false_or, or_false, Option.toList, List.nil_append, List.cons_append, zif0, zif1, zif01, zem1, zem2, Int.reduceEq, Int.reduceLT, Int.reduceLE, Int.reduceNeg, Int.reduceSub, Int.reduceMul, if_true, if_false, not_false_eq_true, not_true_eq_false, true_implies, false_implies, Classical.not_not, Nat.reduceAdd, Nat.reduceLeDiff, gA_0 hI1.1.2.1, gA_1 hI1.1.2.1, gA_2 hI1.1.2.1, gA_3 hI1.1.2.1, gA_4 hI1.1.2.1, gA_5 hI1.1.2.1, gA_6 hI1.1.2.1, gA_7 hI1.1.2.1, gA_8 hI1.1.2.1, gA_9 hI1.1.2.1, gA_r0 hI1.1.2.1, gA_r1 hI1.1.2.1, gA_r2 hI1.1.2.1, gA_r3 hI1.1.2.1, gA_f0 hI1.1.2.1, gA_f1 hI1.1.2.1, gA_f2 hI1.1.2.1, gA_f3 hI1.1.2.1, gA_f4 hI1.1.2.1, gA_d hI1.1, gI_s0 hI1, gI_s1 hI1, gI_s2 hI1, gI_s3 hI1, gI_s4 hI1, gI_s5 hI1, gI_n hI1, e1, c1, zq0, c2]
        exact kk _ _ ⟨by omega, ⟨x6, by rw [es]⟩, hI1, hX⟩
    · rw [if_neg (fun y => c1 y.1.1)] at es
      simp +contextual (disch := (first | omega | assumption | decide)) only [↓zbrT, ↓zbrF, zw101_0, zw101_2, zw101_3, zw101_4, zw101_5, zw101_6, zw101_7, zw101_8, zr_1, zr_3, zr_4, zr_7, zr_10, zr_12, zr_31, zr_33, zr_53, zr_54, zr_55, zr_58, zr_62, zr_68, zr_69, zr_70, zr_73, zlg_0, zlg_s, zls_0, zls_1, zls_s, zkl_i, zkl_r, zkl_l, zkl_n, zrc_1, zrc_s, zcat_n, zcat_i, zcat_l, zcat_r, zkd_0, zkd_20, zkd_43, zkd_45, zkd_51, zkd_53, zkd_55, zkd_57, zkd_59, zkd_a50, zrf_0_2, zrf_0_6, Int.cast_ofNat_Int, Int.reduceAdd, zw_id, false_and, and_false, true_and, and_true, true_or, or_true, false_or, or_false, Option.toList, List.nil_append, List.cons_append, zif0, zif1, zif01, zem1, zem2, Int.reduceEq, Int.reduceLT, Int.reduceLE, Int.reduceNeg, Int.reduceSub, Int.reduceMul, if_true, if_false, not_false_eq_true, not_true_eq_false, true_implies, false_implies, Classical.not_not, Nat.reduceAdd, Nat.reduceLeDiff, gA_0 hI1.1.2.1, gA_1 hI1.1.2.1, gA_2 hI1.1.2.1, gA_3 hI1.1.2.1, gA_4 hI1.1.2.1, gA_5 hI1.1.2.1, gA_6 hI1.1.2.1, gA_7 hI1.1.2.1, gA_8 hI1.1.2.1, gA_9 hI1.1.2.1, gA_r0 hI1.1.2.1, gA_r1 hI1.1.2.1, gA_r2 hI1.1.2.1, gA_r3 hI1.1.2.1, gA_f0 hI1.1.2.1, gA_f1 hI1.1.2.1, gA_f2 hI1.1.2.1, gA_f3 hI1.1.2.1, gA_f4 hI1.1.2.1, gA_d hI1.1, gI_s0 hI1, gI_s1 hI1, gI_s2 hI1, gI_s3 hI1, gI_s4 hI1, gI_s5 hI1, gI_n hI1, e1, c1]
      exact kk _ _ ⟨by omega, ⟨x6, by rw [es]⟩, hI1, hX⟩
  · rintro lc m' ⟨h0, ⟨x6, rfl⟩, hI1, hX⟩
    have q := gSb_some hI.1.1 hs hn
    rw [zw101_1]
    simp +contextual (disch := (first | omega | assumption | decide)) only [↓zbrT, ↓zbrF, zw101_0, zw101_2, zw101_3, zw101_4, zw101_5, zw101_6, zw101_7, zw101_8, zr_1, zr_3, zr_4, zr_7, zr_10, zr_12, zr_31, zr_33, zr_53, zr_54, zr_55, zr_58, zr_62, zr_68, zr_69, zr_70, zr_73, zlg_0, zlg_s, zls_0, zls_1, zls_s, zkl_i, zkl_r, zkl_l, zkl_n, zrc_1, zrc_s, zcat_n, zcat_i, zcat_l, zcat_r, zkd_0, zkd_20, zkd_43, zkd_45, zkd_51, zkd_53, zkd_55, zkd_57, zkd_59, zkd_a50, zrf_0_2, zrf_0_6, Int.cast_ofNat_Int, Int.reduceAdd, zw_id, false_and, and_false, true_and, and_true, true_or, or_true, false_or, or_false, Option.toList, List.nil_append, List.cons_append, zif0, zif1, zif01, zem1, zem2, Int.reduceEq, Int.reduceLT, Int.reduceLE, Int.reduceNeg, Int.reduceSub, Int.reduceMul, if_true, if_false, not_false_eq_true, not_true_eq_false, true_implies, false_implies, Classical.not_not, Nat.reduceAdd, Nat.reduceLeDiff]
    rw [show (256 : Int).toNat = 256 from rfl, if_neg (by omega)]
    exact ⟨rfl, hI1, hX⟩
  · exact ⟨by decide, ⟨_, rfl⟩, hI, gX_refl⟩
theorem gz238 {d : Nat} {m : zMm} {n : Int} {V : zMm} (hQ : gQ V m) (hn : 0 ≤ n ∧ n ≤ 8) : zC (d + 14) 238 [.inr (.inr 131), .inl n] m (fun r' m' => r' = some (.inl (gSb V n 256).1) ∧ m' 131 35 = (gSb V n 256).2 ∧ gY m m') := by
  refine ze238 ?_
  have hs := (gSk hQ).2.2.2.2.1
  have zs := gsz hs
  simp +contextual (disch := (first | omega | assumption | decide)) only [↓zbrT, ↓zbrF, zw238_0, zw238_1, zw238_2, zw238_3, zw238_5, zw238_6, zw238_7, zw238_8, zw238_9, zw238_10, zw238_11, zw238_12, zr_1, zr_3, zr_4, zr_7, zr_10, zr_13, zr_31, zr_33, zr_53, zr_54, zr_55, zr_57, zr_58, zr_59, zr_62, zr_68, zr_69, zr_70, zr_73, zlg_0, zlg_s, zls_0, zls_1, zls_s, zkl_i, zkl_r, zkl_l, zkl_n, zrc_1, zrc_s, zcat_n, zcat_i, zcat_l, zcat_r, zkd_131, Int.cast_ofNat_Int, Int.reduceAdd, zw_id, zmu_same, zmu_c, zmu_i, false_and, and_false, true_and, and_true, true_or, or_true, false_or, or_false, Option.toList, List.nil_append, List.cons_append, zif0, zif1, zif01, zem1, zem2, Int.reduceEq, Int.reduceLT, Int.reduceLE, Int.reduceNeg, Int.reduceSub, Int.reduceMul, if_true, if_false, not_false_eq_true, not_true_eq_false, true_implies, false_implies, Classical.not_not, Nat.reduceAdd, Nat.reduceLeDiff]
  refine gK (gzL hQ) rfl rfl (Nat.le_of_ble_eq_true rfl) ?_
  rintro _ m1 ⟨rfl, hL, hY⟩
  have hQ1 := gQ_y hQ hY
  have go : zWP (zEx (d + 13)) 238 4 [some (.inr (.inr 131)), some (.inl n), some (.inl (min n (zpc (gSn V 4)))), some (.inl (-1)), some (.inl 0), none] [] (zmu m1 131 35 100000000) (fun r' m' => r' = some (.inl (gSb V n 256).1) ∧ m' 131 35 = (gSb V n 256).2 ∧ gY m m') := by
    refine zfor (gSn V 4 + 1) (fun j lc m' => 0 ≤ j ∧ (∃ x5, lc = [some (.inr (.inr 131)), some (.inl n), some (.inl (min n (zpc (gSn V 4)))), some (.inl (gSb V n j.toNat).1), some (.inl j), x5]) ∧ m' 131 35 = (gSb V n j.toNat).2 ∧ gL V (gSn V) m' ∧ gY m m') ?_ ?_ (i := 0) (by omega) ?_
    · rintro j lc m' hj ⟨h0, ⟨x5, rfl⟩, hl, hL1, hY1⟩ kk
      have hM1 := (gQ_y hQ hY1).2.2.1
      have e1 : zand j (zxor (gSn V 4) (-1)) = gLe j (gSn V 4) := rfl
      have e2 : zand (gSn V 4) (zxor j (-1)) = gLe (gSn V 4) j := rfl
      have es := gSb_s (V := V) (n := n) h0
      rw [zw238_4]
      by_cases c1 : gLe j (gSn V 4) = 0
      · by_cases c2 : zpc j = min n (zpc (gSn V 4))
        · simp +contextual (disch := (first | omega | assumption | decide)) only [↓zbrT, ↓zbrF, zw238_0, zw238_1, zw238_2, zw238_3, zw238_5, zw238_6, zw238_7, zw238_8, zw238_9, zw238_10, zw238_11, zw238_12, zr_1, zr_3, zr_4, zr_7, zr_10, zr_13, zr_31, zr_33, zr_53, zr_54, zr_55, zr_57, zr_58, zr_59, zr_62, zr_68, zr_69, zr_70, zr_73, zlg_0, zlg_s, zls_0, zls_1, zls_s, zkl_i, zkl_r, zkl_l, zkl_n, zrc_1, zrc_s, zcat_n, zcat_i, zcat_l, zcat_r, zkd_131, Int.cast_ofNat_Int, Int.reduceAdd, zw_id, zmu_same, zmu_c, zmu_i, false_and, and_false, true_and, and_true, true_or, or_true, false_or, or_false, Option.toList, List.nil_append, List.cons_append, zif0, zif1, zif01, zem1, zem2, Int.reduceEq, Int.reduceLT, Int.reduceLE, Int.reduceNeg, Int.reduceSub, Int.reduceMul, if_true, if_false, not_false_eq_true, not_true_eq_false, true_implies, false_implies, Classical.not_not, Nat.reduceAdd, Nat.reduceLeDiff, gL_4 hL1, e1, c1, zq208, c2, e2]
          refine gK (gz214 hQ.1 hM1 (gLe_bd hs ⟨h0, by omega⟩)) rfl rfl (Nat.le_of_ble_eq_true rfl) ?_
          rintro _ m2 ⟨rfl, hW2⟩
          have hl2 : m2 131 35 = (gSb V n j.toNat).2 := by rw [hW2 131 35 (by decide)]; exact hl
          have hL2 := gL_w hL1 hW2
          have hY2 := gY_tr hY1 (gY_w hW2)
          by_cases c3 : gTk V (gLe (gSn V 4) j) < (gSb V n j.toNat).2
          · rw [if_pos ⟨⟨c1, c2⟩, c3⟩] at es
            simp +contextual (disch := (first | omega | assumption | decide)) only [↓zbrT, ↓zbrF, zw238_0, zw238_1, zw238_2, zw238_3, zw238_5, zw238_6, zw238_7, zw238_8, zw238_9, zw238_10, zw238_11, zw238_12, zr_1, zr_3, zr_4, zr_7, zr_10, zr_13, zr_31, zr_33, zr_53, zr_54, zr_55, zr_57, zr_58, zr_59, zr_62, zr_68, zr_69, zr_70, zr_73, zlg_0, zlg_s, zls_0, zls_1, zls_s, zkl_i, zkl_r, zkl_l, zkl_n, zrc_1, zrc_s, zcat_n, zcat_i, zcat_l, zcat_r, zkd_131, Int.cast_ofNat_Int, Int.reduceAdd, zw_id, zmu_same, zmu_c, zmu_i, false_and, and_false, true_and, and_true, true_or, or_true, false_or, or_false, Option.toList, List.nil_append, List.cons_append, zif0, zif1, zif01, zem1, zem2, Int.reduceEq, Int.reduceLT, Int.reduceLE, Int.reduceNeg, Int.reduceSub, Int.reduceMul, if_true, if_false, not_false_eq_true, not_true_eq_false, true_implies, false_implies, Classical.not_not, Nat.reduceAdd, Nat.reduceLeDiff, hl2, c3]
            refine kk _ _ ⟨by omega, ⟨some (.inl (gTk V (gLe (gSn V 4) j))), by rw [es]⟩, by rw [es, zmu_same], ⟨gMs_of hL2.1 (fun i a b => zmu_i (by omega)) (fun i => zmu_c (by decide)), gFr_of hL2.2 (fun i => zmu_c (by decide))⟩, gY_tr hY2 (gY_u (by decide))⟩
          · rw [if_neg (fun y => c3 y.2)] at es
            simp +contextual (disch := (first | omega | assumption | decide)) only [↓zbrT, ↓zbrF, zw238_0, zw238_1, zw238_2, zw238_3, zw238_5, zw238_6, zw238_7, zw238_8, zw238_9, zw238_10, zw238_11, zw238_12, zr_1, zr_3, zr_4, zr_7, zr_10, zr_13, zr_31, zr_33, zr_53, zr_54, zr_55, zr_57, zr_58, zr_59, zr_62, zr_68, zr_69, zr_70, zr_73, zlg_0, zlg_s, zls_0, zls_1, zls_s, zkl_i, zkl_r, zkl_l, zkl_n, zrc_1, zrc_s, zcat_n, zcat_i, zcat_l, zcat_r, zkd_131, Int.cast_ofNat_Int, Int.reduceAdd, zw_id, zmu_same, zmu_c, zmu_i, false_and, and_false, true_and, and_true, true_or, or_true, false_or, or_false, Option.toList, List.nil_append, List.cons_append, zif0, zif1, zif01, zem1, zem2, Int.reduceEq, Int.reduceLT, Int.reduceLE, Int.reduceNeg, Int.reduceSub, Int.reduceMul, if_true, if_false, not_false_eq_true, not_true_eq_false, true_implies, false_implies, Classical.not_not, Nat.reduceAdd, Nat.reduceLeDiff, hl2, c3]
            exact kk _ _ ⟨by omega, ⟨some (.inl (gTk V (gLe (gSn V 4) j))), by rw [es]⟩, by rw [es]; exact hl2, hL2, hY2⟩
        · rw [if_neg (fun y => c2 y.1.2)] at es
          simp +contextual (disch := (first | omega | assumption | decide)) only [↓zbrT, ↓zbrF, zw238_0, zw238_1, zw238_2, zw238_3, zw238_5, zw238_6, zw238_7, zw238_8, zw238_9, zw238_10, zw238_11, zw238_12, zr_1, zr_3, zr_4, zr_7, zr_10, zr_13, zr_31, zr_33, zr_53, zr_54, zr_55, zr_57, zr_58, zr_59, zr_62, zr_68, zr_69, zr_70, zr_73, zlg_0, zlg_s, zls_0, zls_1, zls_s, zkl_i, zkl_r, zkl_l, zkl_n, zrc_1, zrc_s, zcat_n, zcat_i, zcat_l, zcat_r, zkd_131, Int.cast_ofNat_Int, Int.reduceAdd, zw_id, zmu_same, zmu_c, zmu_i, false_and, and_false, true_and, and_true, true_or, or_true, false_or, or_false, Option.toList, List.nil_append, List.cons_append, zif0, zif1, zif01, zem1, zem2, Int.reduceEq, Int.reduceLT, Int.reduceLE, Int.reduceNeg, Int.reduceSub, Int.reduceMul, if_true, if_false, not_false_eq_true, not_true_eq_false, true_implies, false_implies, Classical.not_not, Nat.reduceAdd, Nat.reduceLeDiff, gL_4 hL1, e1, c1, zq208, c2]
          exact kk _ _ ⟨by omega, ⟨x5, by rw [es]⟩, by rw [es]; exact hl, hL1, hY1⟩
      · rw [if_neg (fun y => c1 y.1.1)] at es
        simp +contextual (disch := (first | omega | assumption | decide)) only [↓zbrT, ↓zbrF, zw238_0, zw238_1, zw238_2, zw238_3, zw238_5, zw238_6, zw238_7, zw238_8, zw238_9, zw238_10, zw238_11, zw238_12, zr_1, zr_3, zr_4, zr_7, zr_10, zr_13, zr_31, zr_33, zr_53, zr_54, zr_55, zr_57, zr_58, zr_59, zr_62, zr_68, zr_69, zr_70, zr_73, zlg_0, zlg_s, zls_0, zls_1, zls_s, zkl_i, zkl_r, zkl_l, zkl_n, zrc_1, zrc_s, zcat_n, zcat_i, zcat_l, zcat_r, zkd_131, Int.cast_ofNat_Int, Int.reduceAdd, zw_id, zmu_same, zmu_c, zmu_i, false_and, and_false, true_and, and_true, true_or, or_true, false_or, or_false, Option.toList, List.nil_append, List.cons_append, zif0, zif1, zif01, zem1, zem2, Int.reduceEq, Int.reduceLT, Int.reduceLE, Int.reduceNeg, Int.reduceSub, Int.reduceMul, if_true, if_false, not_false_eq_true, not_true_eq_false, true_implies, false_implies, Classical.not_not, Nat.reduceAdd, Nat.reduceLeDiff, gL_4 hL1, e1, c1]
        exact kk _ _ ⟨by omega, ⟨x5, by rw [es]⟩, by rw [es]; exact hl, hL1, hY1⟩
    · rintro lc m' ⟨h0, ⟨x5, rfl⟩, hl, hL1, hY1⟩
      have e := gSb_cut (V := V) (n := n) hs (255 - (gSn V 4).toNat) (Nat.le_refl _)
      rw [show (gSn V 4).toNat + 1 + (255 - (gSn V 4).toNat) = 256 by omega, show (gSn V 4).toNat + 1 = (gSn V 4 + 1).toNat by omega] at e
      rw [zw238_4]
      simp +contextual (disch := (first | omega | assumption | decide)) only [↓zbrT, ↓zbrF, zw238_0, zw238_1, zw238_2, zw238_3, zw238_5, zw238_6, zw238_7, zw238_8, zw238_9, zw238_10, zw238_11, zw238_12, zr_1, zr_3, zr_4, zr_7, zr_10, zr_13, zr_31, zr_33, zr_53, zr_54, zr_55, zr_57, zr_58, zr_59, zr_62, zr_68, zr_69, zr_70, zr_73, zlg_0, zlg_s, zls_0, zls_1, zls_s, zkl_i, zkl_r, zkl_l, zkl_n, zrc_1, zrc_s, zcat_n, zcat_i, zcat_l, zcat_r, zkd_131, Int.cast_ofNat_Int, Int.reduceAdd, zw_id, zmu_same, zmu_c, zmu_i, false_and, and_false, true_and, and_true, true_or, or_true, false_or, or_false, Option.toList, List.nil_append, List.cons_append, zif0, zif1, zif01, zem1, zem2, Int.reduceEq, Int.reduceLT, Int.reduceLE, Int.reduceNeg, Int.reduceSub, Int.reduceMul, if_true, if_false, not_false_eq_true, not_true_eq_false, true_implies, false_implies, Classical.not_not, Nat.reduceAdd, Nat.reduceLeDiff, gL_4 hL1]
      rw [← e] at hl
      rw [← e]
      exact ⟨rfl, hl, hY1⟩
    · exact ⟨by decide, ⟨_, rfl⟩, zmu_same, ⟨gMs_of hL.1 (fun i a b => zmu_i (by omega)) (fun i => zmu_c (by decide)), gFr_of hL.2 (fun i => zmu_c (by decide))⟩, gY_tr hY (gY_u (by decide))⟩
  by_cases c : n < zpc (gSn V 4)
  · rw [show min n (zpc (gSn V 4)) = n by omega] at go
    simp +contextual (disch := (first | omega | assumption | decide)) only [↓zbrT, ↓zbrF, zw238_0, zw238_1, zw238_2, zw238_3, zw238_5, zw238_6, zw238_7, zw238_8, zw238_9, zw238_10, zw238_11, zw238_12, zr_1, zr_3, zr_4, zr_7, zr_10, zr_13, zr_31, zr_33, zr_53, zr_54, zr_55, zr_57, zr_58, zr_59, zr_62, zr_68, zr_69, zr_70, zr_73, zlg_0, zlg_s, zls_0, zls_1, zls_s, zkl_i, zkl_r, zkl_l, zkl_n, zrc_1, zrc_s, zcat_n, zcat_i, zcat_l, zcat_r, zkd_131, Int.cast_ofNat_Int, Int.reduceAdd, zw_id, zmu_same, zmu_c, zmu_i, false_and, and_false, true_and, and_true, true_or, or_true, false_or, or_false, Option.toList, List.nil_append, List.cons_append, zif0, zif1, zif01, zem1, zem2, Int.reduceEq, Int.reduceLT, Int.reduceLE, Int.reduceNeg, Int.reduceSub, Int.reduceMul, if_true, if_false, not_false_eq_true, not_true_eq_false, true_implies, false_implies, Classical.not_not, Nat.reduceAdd, Nat.reduceLeDiff, gL_4 hL, zq208]
    exact go
  · rw [show min n (zpc (gSn V 4)) = zpc (gSn V 4) by omega] at go
    simp +contextual (disch := (first | omega | assumption | decide)) only [↓zbrT, ↓zbrF, zw238_0, zw238_1, zw238_2, zw238_3, zw238_5, zw238_6, zw238_7, zw238_8, zw238_9, zw238_10, zw238_11, zw238_12, zr_1, zr_3, zr_4, zr_7, zr_10, zr_13, zr_31, zr_33, zr_53, zr_54, zr_55, zr_57, zr_58, zr_59, zr_62, zr_68, zr_69, zr_70, zr_73, zlg_0, zlg_s, zls_0, zls_1, zls_s, zkl_i, zkl_r, zkl_l, zkl_n, zrc_1, zrc_s, zcat_n, zcat_i, zcat_l, zcat_r, zkd_131, Int.cast_ofNat_Int, Int.reduceAdd, zw_id, zmu_same, zmu_c, zmu_i, false_and, and_false, true_and, and_true, true_or, or_true, false_or, or_false, Option.toList, List.nil_append, List.cons_append, zif0, zif1, zif01, zem1, zem2, Int.reduceEq, Int.reduceLT, Int.reduceLE, Int.reduceNeg, Int.reduceSub, Int.reduceMul, if_true, if_false, not_false_eq_true, not_true_eq_false, true_implies, false_implies, Classical.not_not, Nat.reduceAdd, Nat.reduceLeDiff, gL_4 hL, zq208]
    exact go
def sp99 (V : zMm) (n : Int) : Int := if ¬ V 0 10 = 0 ∧ (0 ≤ n ∧ n ≤ 8) then (gSb V n 256).2 else -2
def sp100 (V : zMm) (n : Int) : Int := if ¬ V 0 10 = 0 ∧ (0 ≤ n ∧ n ≤ 8) then (gSb V n 256).1 else -2
theorem gz99 {d : Nat} {m : zMm} {n : Int} {V : zMm} (hI : gI V m) : zC (d + 6) 99 [.inr (.inr 0), .inl n] m (fun r' m' => r' = some (.inl (sp99 V n)) ∧ gI V m' ∧ gX m m') := by
  refine ze99 ?_
  have hs := (gI_k hI).1.2.2.2.2.1
  unfold sp99
  by_cases c1 : V 0 10 = 0
  · rw [if_neg (fun z => z.1 c1)]
    simp +contextual (disch := (first | omega | assumption | decide)) only [↓zbrT, ↓zbrF, zw99_0, zw99_1, zw99_2, zw99_3, zr_1, zr_3, zr_7, zr_10, zr_12, zr_31, zr_33, zr_62, zr_68, zr_69, zr_70, zlg_0, zlg_s, zrc_1, zrc_s, zcat_n, zcat_i, zcat_l, zcat_r, zkd_0, zkd_20, zkd_43, zkd_45, zkd_51, zkd_53, zkd_55, zkd_57, zkd_59, zkd_a50, zrf_0_2, zrf_0_6, Int.cast_ofNat_Int, Int.reduceAdd, false_and, and_false, true_and, and_true, true_or, or_true, false_or, or_false, Option.toList, List.nil_append, List.cons_append, zif0, zif1, zif01, zem1, zem2, Int.reduceEq, Int.reduceLT, Int.reduceLE, Int.reduceNeg, Int.reduceSub, Int.reduceMul, if_true, if_false, not_false_eq_true, not_true_eq_false, true_implies, false_implies, Classical.not_not, Nat.reduceAdd, Nat.reduceLeDiff, zq74, gA_0 hI.1.2.1, gA_1 hI.1.2.1, gA_2 hI.1.2.1, gA_3 hI.1.2.1, gA_4 hI.1.2.1, gA_5 hI.1.2.1, gA_6 hI.1.2.1, gA_7 hI.1.2.1, gA_8 hI.1.2.1, gA_9 hI.1.2.1, gA_r0 hI.1.2.1, gA_r1 hI.1.2.1, gA_r2 hI.1.2.1, gA_r3 hI.1.2.1, gA_f0 hI.1.2.1, gA_f1 hI.1.2.1, gA_f2 hI.1.2.1, gA_f3 hI.1.2.1, gA_f4 hI.1.2.1, gA_d hI.1, gI_s0 hI, gI_s1 hI, gI_s2 hI, gI_s3 hI, gI_s4 hI, gI_s5 hI, gI_n hI, if_pos c1]
    (first | exact ⟨hI, gX_refl⟩ | exact ⟨rfl, hI, gX_refl⟩)
  · by_cases c2 : 0 ≤ n ∧ n ≤ 8
    · rw [if_pos ⟨c1, c2⟩]
      simp +contextual (disch := (first | omega | assumption | decide)) only [↓zbrT, ↓zbrF, zw99_0, zw99_1, zw99_2, zw99_3, zr_1, zr_3, zr_7, zr_10, zr_12, zr_31, zr_33, zr_62, zr_68, zr_69, zr_70, zlg_0, zlg_s, zrc_1, zrc_s, zcat_n, zcat_i, zcat_l, zcat_r, zkd_0, zkd_20, zkd_43, zkd_45, zkd_51, zkd_53, zkd_55, zkd_57, zkd_59, zkd_a50, zrf_0_2, zrf_0_6, Int.cast_ofNat_Int, Int.reduceAdd, false_and, and_false, true_and, and_true, true_or, or_true, false_or, or_false, Option.toList, List.nil_append, List.cons_append, zif0, zif1, zif01, zem1, zem2, Int.reduceEq, Int.reduceLT, Int.reduceLE, Int.reduceNeg, Int.reduceSub, Int.reduceMul, if_true, if_false, not_false_eq_true, not_true_eq_false, true_implies, false_implies, Classical.not_not, Nat.reduceAdd, Nat.reduceLeDiff, zq74, gA_0 hI.1.2.1, gA_1 hI.1.2.1, gA_2 hI.1.2.1, gA_3 hI.1.2.1, gA_4 hI.1.2.1, gA_5 hI.1.2.1, gA_6 hI.1.2.1, gA_7 hI.1.2.1, gA_8 hI.1.2.1, gA_9 hI.1.2.1, gA_r0 hI.1.2.1, gA_r1 hI.1.2.1, gA_r2 hI.1.2.1, gA_r3 hI.1.2.1, gA_f0 hI.1.2.1, gA_f1 hI.1.2.1, gA_f2 hI.1.2.1, gA_f3 hI.1.2.1, gA_f4 hI.1.2.1, gA_d hI.1, gI_s0 hI, gI_s1 hI, gI_s2 hI, gI_s3 hI, gI_s4 hI, gI_s5 hI, gI_n hI, if_neg c1, zq80, if_pos c2]
      refine gK (gz101 hI c2) rfl rfl (Nat.le_of_ble_eq_true rfl) ?_
      rintro _ m1 ⟨rfl, hI1, hX1⟩
      have q := gSb_some hI.1.1 hs c2
      have e2 : zand (gSn V 4) (zxor (gSb V n 256).1 (-1)) = gLe (gSn V 4) (gSb V n 256).1 := rfl
      simp +contextual (disch := (first | omega | assumption | decide)) only [↓zbrT, ↓zbrF, zw99_0, zw99_1, zw99_2, zw99_3, zr_1, zr_3, zr_7, zr_10, zr_12, zr_31, zr_33, zr_62, zr_68, zr_69, zr_70, zlg_0, zlg_s, zrc_1, zrc_s, zcat_n, zcat_i, zcat_l, zcat_r, zkd_0, zkd_20, zkd_43, zkd_45, zkd_51, zkd_53, zkd_55, zkd_57, zkd_59, zkd_a50, zrf_0_2, zrf_0_6, Int.cast_ofNat_Int, Int.reduceAdd, false_and, and_false, true_and, and_true, true_or, or_true, false_or, or_false, Option.toList, List.nil_append, List.cons_append, zif0, zif1, zif01, zem1, zem2, Int.reduceEq, Int.reduceLT, Int.reduceLE, Int.reduceNeg, Int.reduceSub, Int.reduceMul, if_true, if_false, not_false_eq_true, not_true_eq_false, true_implies, false_implies, Classical.not_not, Nat.reduceAdd, Nat.reduceLeDiff, e2]
      refine gK (gz19 hI1.1 (gLe_bd hs q.1)) rfl rfl (Nat.le_of_ble_eq_true rfl) ?_
      rintro _ m2 ⟨rfl, hA2, hE2⟩
      have q2 := gI_e hI1 hA2 hE2
      (try simp +contextual (disch := (first | omega | assumption | decide)) only [↓zbrT, ↓zbrF, zw99_0, zw99_1, zw99_2, zw99_3, zr_1, zr_3, zr_7, zr_10, zr_12, zr_31, zr_33, zr_62, zr_68, zr_69, zr_70, zlg_0, zlg_s, zrc_1, zrc_s, zcat_n, zcat_i, zcat_l, zcat_r, zkd_0, zkd_20, zkd_43, zkd_45, zkd_51, zkd_53, zkd_55, zkd_57, zkd_59, zkd_a50, zrf_0_2, zrf_0_6, Int.cast_ofNat_Int, Int.reduceAdd, false_and, and_false, true_and, and_true, true_or, or_true, false_or, or_false, Option.toList, List.nil_append, List.cons_append, zif0, zif1, zif01, zem1, zem2, Int.reduceEq, Int.reduceLT, Int.reduceLE, Int.reduceNeg, Int.reduceSub, Int.reduceMul, if_true, if_false, not_false_eq_true, not_true_eq_false, true_implies, false_implies, Classical.not_not, Nat.reduceAdd, Nat.reduceLeDiff])
      rw [q.2]
      (first | exact ⟨q2.1, gX_tr hX1 q2.2⟩ | exact ⟨rfl, q2.1, gX_tr hX1 q2.2⟩)
    · rw [if_neg (fun z => c2 z.2)]
      simp +contextual (disch := (first | omega | assumption | decide)) only [↓zbrT, ↓zbrF, zw99_0, zw99_1, zw99_2, zw99_3, zr_1, zr_3, zr_7, zr_10, zr_12, zr_31, zr_33, zr_62, zr_68, zr_69, zr_70, zlg_0, zlg_s, zrc_1, zrc_s, zcat_n, zcat_i, zcat_l, zcat_r, zkd_0, zkd_20, zkd_43, zkd_45, zkd_51, zkd_53, zkd_55, zkd_57, zkd_59, zkd_a50, zrf_0_2, zrf_0_6, Int.cast_ofNat_Int, Int.reduceAdd, false_and, and_false, true_and, and_true, true_or, or_true, false_or, or_false, Option.toList, List.nil_append, List.cons_append, zif0, zif1, zif01, zem1, zem2, Int.reduceEq, Int.reduceLT, Int.reduceLE, Int.reduceNeg, Int.reduceSub, Int.reduceMul, if_true, if_false, not_false_eq_true, not_true_eq_false, true_implies, false_implies, Classical.not_not, Nat.reduceAdd, Nat.reduceLeDiff, zq74, gA_0 hI.1.2.1, gA_1 hI.1.2.1, gA_2 hI.1.2.1, gA_3 hI.1.2.1, gA_4 hI.1.2.1, gA_5 hI.1.2.1, gA_6 hI.1.2.1, gA_7 hI.1.2.1, gA_8 hI.1.2.1, gA_9 hI.1.2.1, gA_r0 hI.1.2.1, gA_r1 hI.1.2.1, gA_r2 hI.1.2.1, gA_r3 hI.1.2.1, gA_f0 hI.1.2.1, gA_f1 hI.1.2.1, gA_f2 hI.1.2.1, gA_f3 hI.1.2.1, gA_f4 hI.1.2.1, gA_d hI.1, gI_s0 hI, gI_s1 hI, gI_s2 hI, gI_s3 hI, gI_s4 hI, gI_s5 hI, gI_n hI, if_neg c1, zq80, if_neg c2]
      (first | exact ⟨hI, gX_refl⟩ | exact ⟨rfl, hI, gX_refl⟩)
theorem gz100 {d : Nat} {m : zMm} {n : Int} {V : zMm} (hI : gI V m) : zC (d + 6) 100 [.inr (.inr 0), .inl n] m (fun r' m' => r' = some (.inl (sp100 V n)) ∧ gI V m' ∧ gX m m') := by
  refine ze100 ?_
  unfold sp100
  by_cases c1 : V 0 10 = 0
  · rw [if_neg (fun z => z.1 c1)]
    simp +contextual (disch := (first | omega | assumption | decide)) only [↓zbrT, ↓zbrF, zw100_0, zw100_1, zw100_2, zw100_3, zr_1, zr_3, zr_7, zr_62, zr_68, zr_69, zr_70, zlg_0, zlg_s, zrc_1, zrc_s, zcat_n, zcat_i, zcat_l, zcat_r, zkd_0, Int.cast_ofNat_Int, Int.reduceAdd, false_and, and_false, true_and, and_true, true_or, or_true, false_or, or_false, Option.toList, List.nil_append, List.cons_append, zif0, zif1, zif01, zem1, zem2, Int.reduceEq, Int.reduceLT, Int.reduceLE, Int.reduceNeg, Int.reduceSub, Int.reduceMul, if_true, if_false, not_false_eq_true, not_true_eq_false, true_implies, false_implies, Classical.not_not, Nat.reduceAdd, Nat.reduceLeDiff, zq74, gA_0 hI.1.2.1, gA_1 hI.1.2.1, gA_2 hI.1.2.1, gA_3 hI.1.2.1, gA_4 hI.1.2.1, gA_5 hI.1.2.1, gA_6 hI.1.2.1, gA_7 hI.1.2.1, gA_8 hI.1.2.1, gA_9 hI.1.2.1, gA_r0 hI.1.2.1, gA_r1 hI.1.2.1, gA_r2 hI.1.2.1, gA_r3 hI.1.2.1, gA_f0 hI.1.2.1, gA_f1 hI.1.2.1, gA_f2 hI.1.2.1, gA_f3 hI.1.2.1, gA_f4 hI.1.2.1, gA_d hI.1, gI_s0 hI, gI_s1 hI, gI_s2 hI, gI_s3 hI, gI_s4 hI, gI_s5 hI, gI_n hI, if_pos c1]
    (first | exact ⟨hI, gX_refl⟩ | exact ⟨rfl, hI, gX_refl⟩)
  · by_cases c2 : 0 ≤ n ∧ n ≤ 8
    · rw [if_pos ⟨c1, c2⟩]
      simp +contextual (disch := (first | omega | assumption | decide)) only [↓zbrT, ↓zbrF, zw100_0, zw100_1, zw100_2, zw100_3, zr_1, zr_3, zr_7, zr_62, zr_68, zr_69, zr_70, zlg_0, zlg_s, zrc_1, zrc_s, zcat_n, zcat_i, zcat_l, zcat_r, zkd_0, Int.cast_ofNat_Int, Int.reduceAdd, false_and, and_false, true_and, and_true, true_or, or_true, false_or, or_false, Option.toList, List.nil_append, List.cons_append, zif0, zif1, zif01, zem1, zem2, Int.reduceEq, Int.reduceLT, Int.reduceLE, Int.reduceNeg, Int.reduceSub, Int.reduceMul, if_true, if_false, not_false_eq_true, not_true_eq_false, true_implies, false_implies, Classical.not_not, Nat.reduceAdd, Nat.reduceLeDiff, zq74, gA_0 hI.1.2.1, gA_1 hI.1.2.1, gA_2 hI.1.2.1, gA_3 hI.1.2.1, gA_4 hI.1.2.1, gA_5 hI.1.2.1, gA_6 hI.1.2.1, gA_7 hI.1.2.1, gA_8 hI.1.2.1, gA_9 hI.1.2.1, gA_r0 hI.1.2.1, gA_r1 hI.1.2.1, gA_r2 hI.1.2.1, gA_r3 hI.1.2.1, gA_f0 hI.1.2.1, gA_f1 hI.1.2.1, gA_f2 hI.1.2.1, gA_f3 hI.1.2.1, gA_f4 hI.1.2.1, gA_d hI.1, gI_s0 hI, gI_s1 hI, gI_s2 hI, gI_s3 hI, gI_s4 hI, gI_s5 hI, gI_n hI, if_neg c1, zq80, if_pos c2]
      refine gK (gz101 hI c2) rfl rfl (Nat.le_of_ble_eq_true rfl) ?_
      rintro _ m1 ⟨rfl, hI1, hX1⟩
      (try simp +contextual (disch := (first | omega | assumption | decide)) only [↓zbrT, ↓zbrF, zw100_0, zw100_1, zw100_2, zw100_3, zr_1, zr_3, zr_7, zr_62, zr_68, zr_69, zr_70, zlg_0, zlg_s, zrc_1, zrc_s, zcat_n, zcat_i, zcat_l, zcat_r, zkd_0, Int.cast_ofNat_Int, Int.reduceAdd, false_and, and_false, true_and, and_true, true_or, or_true, false_or, or_false, Option.toList, List.nil_append, List.cons_append, zif0, zif1, zif01, zem1, zem2, Int.reduceEq, Int.reduceLT, Int.reduceLE, Int.reduceNeg, Int.reduceSub, Int.reduceMul, if_true, if_false, not_false_eq_true, not_true_eq_false, true_implies, false_implies, Classical.not_not, Nat.reduceAdd, Nat.reduceLeDiff])
      (first | exact ⟨hI1, hX1⟩ | exact ⟨rfl, hI1, hX1⟩)
    · rw [if_neg (fun z => c2 z.2)]
      simp +contextual (disch := (first | omega | assumption | decide)) only [↓zbrT, ↓zbrF, zw100_0, zw100_1, zw100_2, zw100_3, zr_1, zr_3, zr_7, zr_62, zr_68, zr_69, zr_70, zlg_0, zlg_s, zrc_1, zrc_s, zcat_n, zcat_i, zcat_l, zcat_r, zkd_0, Int.cast_ofNat_Int, Int.reduceAdd, false_and, and_false, true_and, and_true, true_or, or_true, false_or, or_false, Option.toList, List.nil_append, List.cons_append, zif0, zif1, zif01, zem1, zem2, Int.reduceEq, Int.reduceLT, Int.reduceLE, Int.reduceNeg, Int.reduceSub, Int.reduceMul, if_true, if_false, not_false_eq_true, not_true_eq_false, true_implies, false_implies, Classical.not_not, Nat.reduceAdd, Nat.reduceLeDiff, zq74, gA_0 hI.1.2.1, gA_1 hI.1.2.1, gA_2 hI.1.2.1, gA_3 hI.1.2.1, gA_4 hI.1.2.1, gA_5 hI.1.2.1, gA_6 hI.1.2.1, gA_7 hI.1.2.1, gA_8 hI.1.2.1, gA_9 hI.1.2.1, gA_r0 hI.1.2.1, gA_r1 hI.1.2.1, gA_r2 hI.1.2.1, gA_r3 hI.1.2.1, gA_f0 hI.1.2.1, gA_f1 hI.1.2.1, gA_f2 hI.1.2.1, gA_f3 hI.1.2.1, gA_f4 hI.1.2.1, gA_d hI.1, gI_s0 hI, gI_s1 hI, gI_s2 hI, gI_s3 hI, gI_s4 hI, gI_s5 hI, gI_n hI, if_neg c1, zq80, if_neg c2]
      (first | exact ⟨hI, gX_refl⟩ | exact ⟨rfl, hI, gX_refl⟩)
theorem gz239 {d : Nat} {m : zMm} {n : Int} {V : zMm} (hQ : gQ V m) : zC (d + 15) 239 [.inr (.inr 131), .inl n] m (fun r' m' => r' = some (.inl (sp99 V n)) ∧ gY m m') := by
  refine ze239 ?_
  have hb := hQ.1.1
  have hY0 : gY m (zmu m 131 0 0) := gY_u (by decide)
  have hQ0 := gQ_y hQ hY0
  have h5 : 0 ≤ zmu m 131 0 0 138 5 ∧ zmu m 131 0 0 138 5 ≤ 8 := by rw [gM_5 hQ0.2.2.1]; omega
  have h6 : 0 ≤ zmu m 131 0 0 138 6 ∧ zmu m 131 0 0 138 6 ≤ 6 := by rw [gM_6 hQ0.2.2.1]; omega
  have h0 : 0 ≤ zmu m 131 0 0 138 0 ∧ zmu m 131 0 0 138 0 ≤ 6 := by rw [gM_0 hQ0.2.2.1]; omega
  unfold sp99
  by_cases c1 : V 0 10 = 0
  · rw [if_neg (fun z => z.1 c1)]
    simp +contextual (disch := (first | omega | assumption | decide)) only [↓zbrT, ↓zbrF, zw239_0, zw239_1, zw239_2, zw239_3, zr_1, zr_3, zr_7, zr_8, zr_10, zr_13, zr_46, zr_52, zr_61, zr_62, zr_68, zr_69, zr_70, zlg_0, zlg_s, zrc_1, zrc_s, zcat_n, zcat_i, zcat_l, zcat_r, zkd_131, Int.cast_ofNat_Int, Int.reduceAdd, zmu_same, zmu_c, zmu_i, false_and, and_false, true_and, and_true, true_or, or_true, false_or, or_false, Option.toList, List.nil_append, List.cons_append, zif0, zif1, zif01, zem1, zem2, Int.reduceEq, Int.reduceLT, Int.reduceLE, Int.reduceNeg, Int.reduceSub, Int.reduceMul, if_true, if_false, not_false_eq_true, not_true_eq_false, true_implies, false_implies, Classical.not_not, Nat.reduceAdd, Nat.reduceLeDiff, zq202, gM_0 hQ.2.2.1, gM_1 hQ.2.2.1, gM_2 hQ.2.2.1, gM_3 hQ.2.2.1, gM_4 hQ.2.2.1, gM_5 hQ.2.2.1, gM_6 hQ.2.2.1, gM_7 hQ.2.2.1, gM_8 hQ.2.2.1, gM_9 hQ.2.2.1, gM_10 hQ.2.2.1, gM_r0 hQ.2.2.1, gM_r1 hQ.2.2.1, gM_r2 hQ.2.2.1, gM_r3 hQ.2.2.1, gM_f0 hQ.2.2.1, gM_f1 hQ.2.2.1, gM_f2 hQ.2.2.1, gM_f3 hQ.2.2.1, gM_f4 hQ.2.2.1]
    (first | exact hY0 | exact ⟨rfl, hY0⟩)
  · by_cases c2 : 0 ≤ n ∧ n ≤ 8
    · rw [if_pos ⟨c1, c2⟩]
      simp +contextual (disch := (first | omega | assumption | decide)) only [↓zbrT, ↓zbrF, zw239_0, zw239_1, zw239_2, zw239_3, zr_1, zr_3, zr_7, zr_8, zr_10, zr_13, zr_46, zr_52, zr_61, zr_62, zr_68, zr_69, zr_70, zlg_0, zlg_s, zrc_1, zrc_s, zcat_n, zcat_i, zcat_l, zcat_r, zkd_131, Int.cast_ofNat_Int, Int.reduceAdd, zmu_same, zmu_c, zmu_i, false_and, and_false, true_and, and_true, true_or, or_true, false_or, or_false, Option.toList, List.nil_append, List.cons_append, zif0, zif1, zif01, zem1, zem2, Int.reduceEq, Int.reduceLT, Int.reduceLE, Int.reduceNeg, Int.reduceSub, Int.reduceMul, if_true, if_false, not_false_eq_true, not_true_eq_false, true_implies, false_implies, Classical.not_not, Nat.reduceAdd, Nat.reduceLeDiff, zq202, gM_0 hQ.2.2.1, gM_1 hQ.2.2.1, gM_2 hQ.2.2.1, gM_3 hQ.2.2.1, gM_4 hQ.2.2.1, gM_5 hQ.2.2.1, gM_6 hQ.2.2.1, gM_7 hQ.2.2.1, gM_8 hQ.2.2.1, gM_9 hQ.2.2.1, gM_10 hQ.2.2.1, gM_r0 hQ.2.2.1, gM_r1 hQ.2.2.1, gM_r2 hQ.2.2.1, gM_r3 hQ.2.2.1, gM_f0 hQ.2.2.1, gM_f1 hQ.2.2.1, gM_f2 hQ.2.2.1, gM_f3 hQ.2.2.1, gM_f4 hQ.2.2.1, zq170]
      refine gK (gz238 hQ0 c2) rfl rfl (Nat.le_of_ble_eq_true rfl) ?_
      rintro _ m1 ⟨rfl, hl, hY⟩
      simp +contextual (disch := (first | omega | assumption | decide)) only [↓zbrT, ↓zbrF, zw239_0, zw239_1, zw239_2, zw239_3, zr_1, zr_3, zr_7, zr_8, zr_10, zr_13, zr_46, zr_52, zr_61, zr_62, zr_68, zr_69, zr_70, zlg_0, zlg_s, zrc_1, zrc_s, zcat_n, zcat_i, zcat_l, zcat_r, zkd_131, Int.cast_ofNat_Int, Int.reduceAdd, zmu_same, zmu_c, zmu_i, false_and, and_false, true_and, and_true, true_or, or_true, false_or, or_false, Option.toList, List.nil_append, List.cons_append, zif0, zif1, zif01, zem1, zem2, Int.reduceEq, Int.reduceLT, Int.reduceLE, Int.reduceNeg, Int.reduceSub, Int.reduceMul, if_true, if_false, not_false_eq_true, not_true_eq_false, true_implies, false_implies, Classical.not_not, Nat.reduceAdd, Nat.reduceLeDiff, hl]
      have fin := gY_tr hY0 hY
      (first | exact fin | exact ⟨rfl, fin⟩)
    · rw [if_neg (fun z => c2 z.2)]
      simp +contextual (disch := (first | omega | assumption | decide)) only [↓zbrT, ↓zbrF, zw239_0, zw239_1, zw239_2, zw239_3, zr_1, zr_3, zr_7, zr_8, zr_10, zr_13, zr_46, zr_52, zr_61, zr_62, zr_68, zr_69, zr_70, zlg_0, zlg_s, zrc_1, zrc_s, zcat_n, zcat_i, zcat_l, zcat_r, zkd_131, Int.cast_ofNat_Int, Int.reduceAdd, zmu_same, zmu_c, zmu_i, false_and, and_false, true_and, and_true, true_or, or_true, false_or, or_false, Option.toList, List.nil_append, List.cons_append, zif0, zif1, zif01, zem1, zem2, Int.reduceEq, Int.reduceLT, Int.reduceLE, Int.reduceNeg, Int.reduceSub, Int.reduceMul, if_true, if_false, not_false_eq_true, not_true_eq_false, true_implies, false_implies, Classical.not_not, Nat.reduceAdd, Nat.reduceLeDiff, zq202, gM_0 hQ.2.2.1, gM_1 hQ.2.2.1, gM_2 hQ.2.2.1, gM_3 hQ.2.2.1, gM_4 hQ.2.2.1, gM_5 hQ.2.2.1, gM_6 hQ.2.2.1, gM_7 hQ.2.2.1, gM_8 hQ.2.2.1, gM_9 hQ.2.2.1, gM_10 hQ.2.2.1, gM_r0 hQ.2.2.1, gM_r1 hQ.2.2.1, gM_r2 hQ.2.2.1, gM_r3 hQ.2.2.1, gM_f0 hQ.2.2.1, gM_f1 hQ.2.2.1, gM_f2 hQ.2.2.1, gM_f3 hQ.2.2.1, gM_f4 hQ.2.2.1, zq170]
      (first | exact hY0 | exact ⟨rfl, hY0⟩)
theorem gz240 {d : Nat} {m : zMm} {n : Int} {V : zMm} (hQ : gQ V m) : zC (d + 15) 240 [.inr (.inr 131), .inl n] m (fun r' m' => r' = some (.inl (sp100 V n)) ∧ gY m m') := by
  refine ze240 ?_
  have hb := hQ.1.1
  have hY0 : gY m (zmu m 131 0 0) := gY_u (by decide)
  have hQ0 := gQ_y hQ hY0
  have h5 : 0 ≤ zmu m 131 0 0 138 5 ∧ zmu m 131 0 0 138 5 ≤ 8 := by rw [gM_5 hQ0.2.2.1]; omega
  have h6 : 0 ≤ zmu m 131 0 0 138 6 ∧ zmu m 131 0 0 138 6 ≤ 6 := by rw [gM_6 hQ0.2.2.1]; omega
  have h0 : 0 ≤ zmu m 131 0 0 138 0 ∧ zmu m 131 0 0 138 0 ≤ 6 := by rw [gM_0 hQ0.2.2.1]; omega
  unfold sp100
  by_cases c1 : V 0 10 = 0
  · rw [if_neg (fun z => z.1 c1)]
    simp +contextual (disch := (first | omega | assumption | decide)) only [↓zbrT, ↓zbrF, zw240_0, zw240_1, zw240_2, zw240_3, zw240_4, zr_1, zr_3, zr_7, zr_8, zr_13, zr_46, zr_54, zr_61, zr_68, zr_69, zr_70, zr_73, zlg_0, zlg_s, zrc_1, zrc_s, zcat_n, zcat_i, zcat_l, zcat_r, zkd_131, Int.cast_ofNat_Int, Int.reduceAdd, zmu_same, zmu_c, zmu_i, false_and, and_false, true_and, and_true, true_or, or_true, false_or, or_false, Option.toList, List.nil_append, List.cons_append, zif0, zif1, zif01, zem1, zem2, Int.reduceEq, Int.reduceLT, Int.reduceLE, Int.reduceNeg, Int.reduceSub, Int.reduceMul, if_true, if_false, not_false_eq_true, not_true_eq_false, true_implies, false_implies, Classical.not_not, Nat.reduceAdd, Nat.reduceLeDiff, zq202, gM_0 hQ.2.2.1, gM_1 hQ.2.2.1, gM_2 hQ.2.2.1, gM_3 hQ.2.2.1, gM_4 hQ.2.2.1, gM_5 hQ.2.2.1, gM_6 hQ.2.2.1, gM_7 hQ.2.2.1, gM_8 hQ.2.2.1, gM_9 hQ.2.2.1, gM_10 hQ.2.2.1, gM_r0 hQ.2.2.1, gM_r1 hQ.2.2.1, gM_r2 hQ.2.2.1, gM_r3 hQ.2.2.1, gM_f0 hQ.2.2.1, gM_f1 hQ.2.2.1, gM_f2 hQ.2.2.1, gM_f3 hQ.2.2.1, gM_f4 hQ.2.2.1]
    (first | exact hY0 | exact ⟨rfl, hY0⟩)
  · by_cases c2 : 0 ≤ n ∧ n ≤ 8
    · rw [if_pos ⟨c1, c2⟩]
      simp +contextual (disch := (first | omega | assumption | decide)) only [↓zbrT, ↓zbrF, zw240_0, zw240_1, zw240_2, zw240_3, zw240_4, zr_1, zr_3, zr_7, zr_8, zr_13, zr_46, zr_54, zr_61, zr_68, zr_69, zr_70, zr_73, zlg_0, zlg_s, zrc_1, zrc_s, zcat_n, zcat_i, zcat_l, zcat_r, zkd_131, Int.cast_ofNat_Int, Int.reduceAdd, zmu_same, zmu_c, zmu_i, false_and, and_false, true_and, and_true, true_or, or_true, false_or, or_false, Option.toList, List.nil_append, List.cons_append, zif0, zif1, zif01, zem1, zem2, Int.reduceEq, Int.reduceLT, Int.reduceLE, Int.reduceNeg, Int.reduceSub, Int.reduceMul, if_true, if_false, not_false_eq_true, not_true_eq_false, true_implies, false_implies, Classical.not_not, Nat.reduceAdd, Nat.reduceLeDiff, zq202, gM_0 hQ.2.2.1, gM_1 hQ.2.2.1, gM_2 hQ.2.2.1, gM_3 hQ.2.2.1, gM_4 hQ.2.2.1, gM_5 hQ.2.2.1, gM_6 hQ.2.2.1, gM_7 hQ.2.2.1, gM_8 hQ.2.2.1, gM_9 hQ.2.2.1, gM_10 hQ.2.2.1, gM_r0 hQ.2.2.1, gM_r1 hQ.2.2.1, gM_r2 hQ.2.2.1, gM_r3 hQ.2.2.1, gM_f0 hQ.2.2.1, gM_f1 hQ.2.2.1, gM_f2 hQ.2.2.1, gM_f3 hQ.2.2.1, gM_f4 hQ.2.2.1, zq170]
      refine gK (gz238 hQ0 c2) rfl rfl (Nat.le_of_ble_eq_true rfl) ?_
      rintro _ m1 ⟨rfl, hl, hY⟩
      (try simp +contextual (disch := (first | omega | assumption | decide)) only [↓zbrT, ↓zbrF, zw240_0, zw240_1, zw240_2, zw240_3, zw240_4, zr_1, zr_3, zr_7, zr_8, zr_13, zr_46, zr_54, zr_61, zr_68, zr_69, zr_70, zr_73, zlg_0, zlg_s, zrc_1, zrc_s, zcat_n, zcat_i, zcat_l, zcat_r, zkd_131, Int.cast_ofNat_Int, Int.reduceAdd, zmu_same, zmu_c, zmu_i, false_and, and_false, true_and, and_true, true_or, or_true, false_or, or_false, Option.toList, List.nil_append, List.cons_append, zif0, zif1, zif01, zem1, zem2, Int.reduceEq, Int.reduceLT, Int.reduceLE, Int.reduceNeg, Int.reduceSub, Int.reduceMul, if_true, if_false, not_false_eq_true, not_true_eq_false, true_implies, false_implies, Classical.not_not, Nat.reduceAdd, Nat.reduceLeDiff])
      have fin := gY_tr hY0 hY
      (first | exact fin | exact ⟨rfl, fin⟩)
    · rw [if_neg (fun z => c2 z.2)]
      simp +contextual (disch := (first | omega | assumption | decide)) only [↓zbrT, ↓zbrF, zw240_0, zw240_1, zw240_2, zw240_3, zw240_4, zr_1, zr_3, zr_7, zr_8, zr_13, zr_46, zr_54, zr_61, zr_68, zr_69, zr_70, zr_73, zlg_0, zlg_s, zrc_1, zrc_s, zcat_n, zcat_i, zcat_l, zcat_r, zkd_131, Int.cast_ofNat_Int, Int.reduceAdd, zmu_same, zmu_c, zmu_i, false_and, and_false, true_and, and_true, true_or, or_true, false_or, or_false, Option.toList, List.nil_append, List.cons_append, zif0, zif1, zif01, zem1, zem2, Int.reduceEq, Int.reduceLT, Int.reduceLE, Int.reduceNeg, Int.reduceSub, Int.reduceMul, if_true, if_false, not_false_eq_true, not_true_eq_false, true_implies, false_implies, Classical.not_not, Nat.reduceAdd, Nat.reduceLeDiff, zq202, gM_0 hQ.2.2.1, gM_1 hQ.2.2.1, gM_2 hQ.2.2.1, gM_3 hQ.2.2.1, gM_4 hQ.2.2.1, gM_5 hQ.2.2.1, gM_6 hQ.2.2.1, gM_7 hQ.2.2.1, gM_8 hQ.2.2.1, gM_9 hQ.2.2.1, gM_10 hQ.2.2.1, gM_r0 hQ.2.2.1, gM_r1 hQ.2.2.1, gM_r2 hQ.2.2.1, gM_r3 hQ.2.2.1, gM_f0 hQ.2.2.1, gM_f1 hQ.2.2.1, gM_f2 hQ.2.2.1, gM_f3 hQ.2.2.1, gM_f4 hQ.2.2.1, zq170]
      (first | exact hY0 | exact ⟨rfl, hY0⟩)
