/-! ===== uses, idle, loss, first ===== -/
theorem gmem_take : ∀ (l : List Int) (i : Nat) (j : Int), i < l.length → (j ∈ l.take (i + 1) ↔ j ∈ l.take i ∨ j = l.getD i 0)
  | [], i, j, h => absurd h (by simp)
  | a :: l, 0, j, h => by simp
  | a :: l, i + 1, j, h => by
    have h' : i < l.length := by rw [List.length_cons] at h; omega
    simp only [List.take_succ_cons, List.mem_cons, List.getD_cons_succ]
    rw [gmem_take l i j h']
    exact or_assoc.symm
theorem gTV_mem {V : zMm} (hV : gOk V) {s v r : Int} : ∀ (k : Nat) (u : Int), r ∈ gTV V s v k u → 0 ≤ r ∧ r < V 0 5
  | 0, u, h => by rw [gTV_0] at h; cases h
  | k + 1, u, h => by
    rw [gTV_s] at h
    split at h
    · cases h
    · split at h
      · cases h
      · rename_i c
        rcases List.mem_cons.mp h with h | h
        · obtain ⟨n, n1, n2, _⟩ := gFst_some _ c
          have : r = n := by rw [h]; exact n2
          have := hV.1
          omega
        · exact gTV_mem hV k _ h
theorem ggetD_mem : ∀ (l : List Int) (i : Nat), i < l.length → l.getD i 0 ∈ l
  | [], i, h => absurd h (by simp)
  | a :: l, 0, h => by simp
  | a :: l, i + 1, h => by
    rw [List.getD_cons_succ]
    exact List.mem_cons_of_mem _ (ggetD_mem l i (by rw [List.length_cons] at h; omega))
theorem gBt_0 {c : Int → Prop} [DecidablePred c] {N : Nat} (hN : N ≤ 8) : gBt c N = 0 ↔ ∀ j : Nat, j < N → ¬ c j := by
  constructor
  · intro h j hj hc
    have := zbit_Bt (c := c) N hN j (by omega)
    rw [h, zbit_0, if_pos ⟨hj, hc⟩] at this
    omega
  · intro h
    refine zbit_ext (gBt_bd N hN) (by decide) (fun j a b => ?_)
    have := zbit_Bt (c := c) N hN j.toNat (by omega)
    rw [show ((j.toNat : Nat) : Int) = j by omega] at this
    rw [this, zbit_0, if_neg]
    rintro ⟨z1, z2⟩
    exact h j.toNat z1 (by rw [show ((j.toNat : Nat) : Int) = j by omega]; exact z2)
/-- the roads of a way, as bits -/
def gWb (V : zMm) (s f : Int) : Int := gBt (fun r => r ∈ gWy V s f) 8
theorem gz91 {d : Nat} {m : zMm} {f : Int} {V : zMm} (hI : gI V m) (hf : 0 ≤ f ∧ f < V 0 6) : zC (d + 5) 91 [.inr (.inr 0), .inl f] m (fun r' m' => r' = some (.inl (gWb V (gSn V 4) f)) ∧ gA V m' ∧ gE m m') := by
  refine ze91 ?_
  have hb := gA_b hI.1
  have b4 := (gI_k hI).1.2.2.2.2.1
  simp +contextual (disch := (first | omega | assumption | decide)) only [↓zbrT, ↓zbrF, zw91_0, zw91_2, zw91_3, zr_1, zr_3, zr_4, zr_7, zr_10, zr_12, zr_16, zr_32, zr_34, zr_53, zr_54, zr_58, zr_68, zr_70, zr_73, zlg_0, zlg_s, zls_0, zls_1, zls_s, zkl_i, zkl_r, zkl_l, zkl_n, zrc_1, zrc_s, zcat_n, zcat_i, zcat_l, zcat_r, zkd_0, zkd_20, zkd_41, zkd_43, zkd_45, zkd_51, zkd_53, zkd_55, zkd_57, zkd_59, zkd_a50, zln_41, zrf_0_2, zrf_0_6, zrf_20_4, Int.cast_ofNat_Int, Int.reduceAdd, zbd, zw_id, false_and, and_false, true_and, and_true, true_or, or_true, false_or, or_false, Option.toList, List.nil_append, List.cons_append, zif0, zif1, zif01, zem1, zem2, Int.reduceEq, Int.reduceLT, Int.reduceLE, Int.reduceNeg, Int.reduceSub, Int.reduceMul, if_true, if_false, not_false_eq_true, not_true_eq_false, true_implies, false_implies, Classical.not_not, Nat.reduceAdd, Nat.reduceLeDiff, gA_0 hI.1.2.1, gA_1 hI.1.2.1, gA_2 hI.1.2.1, gA_3 hI.1.2.1, gA_4 hI.1.2.1, gA_5 hI.1.2.1, gA_6 hI.1.2.1, gA_7 hI.1.2.1, gA_8 hI.1.2.1, gA_9 hI.1.2.1, gA_r0 hI.1.2.1, gA_r1 hI.1.2.1, gA_r2 hI.1.2.1, gA_r3 hI.1.2.1, gA_f0 hI.1.2.1, gA_f1 hI.1.2.1, gA_f2 hI.1.2.1, gA_f3 hI.1.2.1, gA_f4 hI.1.2.1, gA_d hI.1, gI_s0 hI, gI_s1 hI, gI_s2 hI, gI_s3 hI, gI_s4 hI, gI_s5 hI, gI_n hI]
  refine gK (gz23 hI.1 hf b4) rfl rfl (Nat.le_of_ble_eq_true rfl) ?_
  rintro _ m1 ⟨rfl, hA1, hE1, hT1⟩
  simp +contextual (disch := (first | omega | assumption | decide)) only [↓zbrT, ↓zbrF, zw91_0, zw91_2, zw91_3, zr_1, zr_3, zr_4, zr_7, zr_10, zr_12, zr_16, zr_32, zr_34, zr_53, zr_54, zr_58, zr_68, zr_70, zr_73, zlg_0, zlg_s, zls_0, zls_1, zls_s, zkl_i, zkl_r, zkl_l, zkl_n, zrc_1, zrc_s, zcat_n, zcat_i, zcat_l, zcat_r, zkd_0, zkd_20, zkd_41, zkd_43, zkd_45, zkd_51, zkd_53, zkd_55, zkd_57, zkd_59, zkd_a50, zln_41, zrf_0_2, zrf_0_6, zrf_20_4, Int.cast_ofNat_Int, Int.reduceAdd, zbd, zw_id, false_and, and_false, true_and, and_true, true_or, or_true, false_or, or_false, Option.toList, List.nil_append, List.cons_append, zif0, zif1, zif01, zem1, zem2, Int.reduceEq, Int.reduceLT, Int.reduceLE, Int.reduceNeg, Int.reduceSub, Int.reduceMul, if_true, if_false, not_false_eq_true, not_true_eq_false, true_implies, false_implies, Classical.not_not, Nat.reduceAdd, Nat.reduceLeDiff]
  have hl : (gWy V (gSn V 4) f).length ≤ 6 := gTV_len 6 _
  refine zfor ((gWy V (gSn V 4) f).length : Int) (fun i lc m' => 0 ≤ i ∧ lc = [some (.inr (.inr 0)), some (.inl f), some (.inl (gWy V (gSn V 4) f).length), some (.inl (gBt (fun r => r ∈ (gWy V (gSn V 4) f).take i.toNat) 8)), some (.inl i)] ∧ m' = m1) ?_ ?_ (i := 0) (by omega) ?_
  · rintro i lc m' hi ⟨h0, rfl, rfl⟩ kk
    have e := hT1 i.toNat (by omega)
    have e2 := gTV_mem hI.1.1 6 _ (ggetD_mem (gWy V (gSn V 4) f) i.toNat (by omega))
    rw [show ((i.toNat : Nat) : Int) = i by omega] at e
    rw [zw91_1]
    simp +contextual (disch := (first | omega | assumption | decide)) only [↓zbrT, ↓zbrF, zw91_0, zw91_2, zw91_3, zr_1, zr_3, zr_4, zr_7, zr_10, zr_12, zr_16, zr_32, zr_34, zr_53, zr_54, zr_58, zr_68, zr_70, zr_73, zlg_0, zlg_s, zls_0, zls_1, zls_s, zkl_i, zkl_r, zkl_l, zkl_n, zrc_1, zrc_s, zcat_n, zcat_i, zcat_l, zcat_r, zkd_0, zkd_20, zkd_41, zkd_43, zkd_45, zkd_51, zkd_53, zkd_55, zkd_57, zkd_59, zkd_a50, zln_41, zrf_0_2, zrf_0_6, zrf_20_4, Int.cast_ofNat_Int, Int.reduceAdd, zbd, zw_id, false_and, and_false, true_and, and_true, true_or, or_true, false_or, or_false, Option.toList, List.nil_append, List.cons_append, zif0, zif1, zif01, zem1, zem2, Int.reduceEq, Int.reduceLT, Int.reduceLE, Int.reduceNeg, Int.reduceSub, Int.reduceMul, if_true, if_false, not_false_eq_true, not_true_eq_false, true_implies, false_implies, Classical.not_not, Nat.reduceAdd, Nat.reduceLeDiff, e, zshl_1]
    refine kk _ _ ⟨by omega, ?_, rfl⟩
    have b1 := gBt_bd (c := fun r => r ∈ (gWy V (gSn V 4) f).take i.toNat) 8 (by decide)
    have b2 := p2_bd (k := (gWy V (gSn V 4) f).getD i.toNat 0) (by omega)
    have ee : zor (gBt (fun r => r ∈ (gWy V (gSn V 4) f).take i.toNat) 8) (2 ^ ((gWy V (gSn V 4) f).getD i.toNat 0).toNat) = gBt (fun r => r ∈ (gWy V (gSn V 4) f).take (i + 1).toNat) 8 := by
      refine zbit_ext (zor_bd b1 b2) (gBt_bd 8 (by decide)) (fun j a b => ?_)
      have q1 := zbit_Bt (c := fun r => r ∈ (gWy V (gSn V 4) f).take i.toNat) 8 (by decide) j.toNat (by omega)
      have q2 := zbit_Bt (c := fun r => r ∈ (gWy V (gSn V 4) f).take (i + 1).toNat) 8 (by decide) j.toNat (by omega)
      rw [show ((j.toNat : Nat) : Int) = j by omega] at q1 q2
      rw [zbit_or b1 b2 a, q1, q2, zbit_p2 (by omega) ⟨a, b⟩, show (i + 1).toNat = i.toNat + 1 by omega]
      have q3 := gmem_take (gWy V (gSn V 4) f) i.toNat j (by omega)
      have t8 : j.toNat < 8 := by omega
      by_cases z1 : j ∈ (gWy V (gSn V 4) f).take i.toNat
      · have t1 : j.toNat < 8 ∧ j ∈ (gWy V (gSn V 4) f).take i.toNat := ⟨t8, z1⟩
        have t2 : j.toNat < 8 ∧ j ∈ (gWy V (gSn V 4) f).take (i.toNat + 1) := ⟨t8, q3.mpr (Or.inl z1)⟩
        rw [if_pos t1, if_pos (Or.inl rfl), if_pos t2]
      · have t1 : ¬ (j.toNat < 8 ∧ j ∈ (gWy V (gSn V 4) f).take i.toNat) := fun q => z1 q.2
        by_cases z2 : j = (gWy V (gSn V 4) f).getD i.toNat 0
        · have t2 : j.toNat < 8 ∧ j ∈ (gWy V (gSn V 4) f).take (i.toNat + 1) := ⟨t8, q3.mpr (Or.inr z2)⟩
          rw [if_neg t1, if_pos z2, if_pos (Or.inr rfl), if_pos t2]
        · have t2 : ¬ (j.toNat < 8 ∧ j ∈ (gWy V (gSn V 4) f).take (i.toNat + 1)) := fun q => (q3.mp q.2).elim z1 z2
          rw [if_neg t1, if_neg z2, if_neg (show ¬ ((0 : Int) = 1 ∨ (0 : Int) = 1) by omega), if_neg t2]
    rw [ee]
  · rintro lc m' ⟨h0, rfl, rfl⟩
    rw [zw91_1]
    simp +contextual (disch := (first | omega | assumption | decide)) only [↓zbrT, ↓zbrF, zw91_0, zw91_2, zw91_3, zr_1, zr_3, zr_4, zr_7, zr_10, zr_12, zr_16, zr_32, zr_34, zr_53, zr_54, zr_58, zr_68, zr_70, zr_73, zlg_0, zlg_s, zls_0, zls_1, zls_s, zkl_i, zkl_r, zkl_l, zkl_n, zrc_1, zrc_s, zcat_n, zcat_i, zcat_l, zcat_r, zkd_0, zkd_20, zkd_41, zkd_43, zkd_45, zkd_51, zkd_53, zkd_55, zkd_57, zkd_59, zkd_a50, zln_41, zrf_0_2, zrf_0_6, zrf_20_4, Int.cast_ofNat_Int, Int.reduceAdd, zbd, zw_id, false_and, and_false, true_and, and_true, true_or, or_true, false_or, or_false, Option.toList, List.nil_append, List.cons_append, zif0, zif1, zif01, zem1, zem2, Int.reduceEq, Int.reduceLT, Int.reduceLE, Int.reduceNeg, Int.reduceSub, Int.reduceMul, if_true, if_false, not_false_eq_true, not_true_eq_false, true_implies, false_implies, Classical.not_not, Nat.reduceAdd, Nat.reduceLeDiff]
    rw [Int.toNat_natCast, List.take_length]
    exact ⟨rfl, hA1, hE1⟩
  · refine ⟨by decide, ?_, rfl⟩
    have : gBt (fun r => r ∈ (gWy V (gSn V 4) f).take (0 : Int).toNat) 8 = 0 := (gBt_0 (by decide)).mpr (fun j _ h => by
      rw [show (0 : Int).toNat = 0 from rfl, List.take_zero] at h; cases h)
    rw [this]
theorem gWb_bit {V : zMm} {s f r : Int} (h0 : 0 ≤ r) (h1 : r < 8) : zbit (gWb V s f) r = if r ∈ gWy V s f then 1 else 0 := by
  have := zbit_Bt (c := fun r => r ∈ gWy V s f) 8 (by decide) r.toNat (by omega)
  rw [show ((r.toNat : Nat) : Int) = r by omega] at this
  unfold gWb
  rw [this]
  by_cases c : r ∈ gWy V s f
  · rw [if_pos c, if_pos ⟨by omega, c⟩]
  · rw [if_neg c, if_neg (fun z => c z.2)]
theorem gWb_bd {V : zMm} {s f : Int} : 0 ≤ gWb V s f ∧ gWb V s f < 256 := gBt_bd 8 (by decide)
/-- those whose way goes by a road -/
def gUs (V : zMm) (r : Int) (N : Nat) : Int := gBt (fun f => r ∈ gWy V (gSn V 4) f) N
def sp90 (V : zMm) (r : Int) : Int := if 0 ≤ r ∧ r < V 0 5 then gUs V r (V 0 6).toNat else -2
theorem gz90 {d : Nat} {m : zMm} {r : Int} {V : zMm} (hI : gI V m) (hr : -2147483648 ≤ r ∧ r < 2147483648) : zC (d + 6) 90 [.inr (.inr 0), .inl r] m (fun r' m' => r' = some (.inl (sp90 V r)) ∧ gI V m' ∧ gX m m') := by
  refine ze90 ?_
  have hb := gA_b hI.1
  unfold sp90
  by_cases c1 : 0 ≤ r ∧ r < V 0 5
  · rw [if_pos c1]
    simp +contextual (disch := (first | omega | assumption | decide)) only [↓zbrT, ↓zbrF, zw90_0, zw90_1, zw90_2, zw90_4, zw90_5, zw90_6, zw90_7, zw90_8, zr_1, zr_3, zr_4, zr_7, zr_10, zr_12, zr_31, zr_32, zr_35, zr_46, zr_53, zr_54, zr_56, zr_58, zr_62, zr_68, zr_69, zr_70, zr_73, zlg_0, zlg_s, zls_0, zls_1, zls_s, zkl_i, zkl_r, zkl_l, zkl_n, zrc_1, zrc_s, zcat_n, zcat_i, zcat_l, zcat_r, zkd_0, zkd_105, zkd_21, zkd_3, zkd_67, zkd_86, zrf_0_3, Int.cast_ofNat_Int, Int.reduceAdd, zw_id, false_and, and_false, true_and, and_true, true_or, or_true, false_or, or_false, Option.toList, List.nil_append, List.cons_append, zif0, zif1, zif01, zem1, zem2, Int.reduceEq, Int.reduceLT, Int.reduceLE, Int.reduceNeg, Int.reduceSub, Int.reduceMul, if_true, if_false, not_false_eq_true, not_true_eq_false, true_implies, false_implies, Classical.not_not, Nat.reduceAdd, Nat.reduceLeDiff, zq76, gA_0 hI.1.2.1, gA_1 hI.1.2.1, gA_2 hI.1.2.1, gA_3 hI.1.2.1, gA_4 hI.1.2.1, gA_5 hI.1.2.1, gA_6 hI.1.2.1, gA_7 hI.1.2.1, gA_8 hI.1.2.1, gA_9 hI.1.2.1, gA_r0 hI.1.2.1, gA_r1 hI.1.2.1, gA_r2 hI.1.2.1, gA_r3 hI.1.2.1, gA_f0 hI.1.2.1, gA_f1 hI.1.2.1, gA_f2 hI.1.2.1, gA_f3 hI.1.2.1, gA_f4 hI.1.2.1, gA_d hI.1, gI_s0 hI, gI_s1 hI, gI_s2 hI, gI_s3 hI, gI_s4 hI, gI_s5 hI, gI_n hI]
    refine zfor (V 0 6) (fun f lc m' => 0 ≤ f ∧ lc = [some (.inr (.inr 0)), some (.inl r), some (.inl (gUs V r f.toNat)), some (.inl f)] ∧ gI V m' ∧ gX m m') ?_ ?_ (i := 0) (by omega) ?_
    · rintro f lc m' hf ⟨h0, rfl, hI1, hX⟩ kk
      have bw := gWb_bd (V := V) (s := gSn V 4) (f := f)
      have ew := gWb_bit (V := V) (s := gSn V 4) (f := f) c1.1 (by omega : r < 8)
      rw [zw90_3]
      simp +contextual (disch := (first | omega | assumption | decide)) only [↓zbrT, ↓zbrF, zw90_0, zw90_1, zw90_2, zw90_4, zw90_5, zw90_6, zw90_7, zw90_8, zr_1, zr_3, zr_4, zr_7, zr_10, zr_12, zr_31, zr_32, zr_35, zr_46, zr_53, zr_54, zr_56, zr_58, zr_62, zr_68, zr_69, zr_70, zr_73, zlg_0, zlg_s, zls_0, zls_1, zls_s, zkl_i, zkl_r, zkl_l, zkl_n, zrc_1, zrc_s, zcat_n, zcat_i, zcat_l, zcat_r, zkd_0, zkd_105, zkd_21, zkd_3, zkd_67, zkd_86, zrf_0_3, Int.cast_ofNat_Int, Int.reduceAdd, zw_id, false_and, and_false, true_and, and_true, true_or, or_true, false_or, or_false, Option.toList, List.nil_append, List.cons_append, zif0, zif1, zif01, zem1, zem2, Int.reduceEq, Int.reduceLT, Int.reduceLE, Int.reduceNeg, Int.reduceSub, Int.reduceMul, if_true, if_false, not_false_eq_true, not_true_eq_false, true_implies, false_implies, Classical.not_not, Nat.reduceAdd, Nat.reduceLeDiff, gA_0 hI1.1.2.1, gA_1 hI1.1.2.1, gA_2 hI1.1.2.1, gA_3 hI1.1.2.1, gA_4 hI1.1.2.1, gA_5 hI1.1.2.1, gA_6 hI1.1.2.1, gA_7 hI1.1.2.1, gA_8 hI1.1.2.1, gA_9 hI1.1.2.1, gA_r0 hI1.1.2.1, gA_r1 hI1.1.2.1, gA_r2 hI1.1.2.1, gA_r3 hI1.1.2.1, gA_f0 hI1.1.2.1, gA_f1 hI1.1.2.1, gA_f2 hI1.1.2.1, gA_f3 hI1.1.2.1, gA_f4 hI1.1.2.1, gA_d hI1.1, gI_s0 hI1, gI_s1 hI1, gI_s2 hI1, gI_s3 hI1, gI_s4 hI1, gI_s5 hI1, gI_n hI1]
      refine gK (gz91 hI1 ⟨h0, hf⟩) rfl rfl (Nat.le_of_ble_eq_true rfl) ?_
      rintro _ m2 ⟨rfl, hA2, hE2⟩
      have q := gI_e hI1 hA2 hE2
      by_cases z : r ∈ gWy V (gSn V 4) f
      · rw [if_pos z] at ew
        simp +contextual (disch := (first | omega | assumption | decide)) only [↓zbrT, ↓zbrF, zw90_0, zw90_1, zw90_2, zw90_4, zw90_5, zw90_6, zw90_7, zw90_8, zr_1, zr_3, zr_4, zr_7, zr_10, zr_12, zr_31, zr_32, zr_35, zr_46, zr_53, zr_54, zr_56, zr_58, zr_62, zr_68, zr_69, zr_70, zr_73, zlg_0, zlg_s, zls_0, zls_1, zls_s, zkl_i, zkl_r, zkl_l, zkl_n, zrc_1, zrc_s, zcat_n, zcat_i, zcat_l, zcat_r, zkd_0, zkd_105, zkd_21, zkd_3, zkd_67, zkd_86, zrf_0_3, Int.cast_ofNat_Int, Int.reduceAdd, zw_id, false_and, and_false, true_and, and_true, true_or, or_true, false_or, or_false, Option.toList, List.nil_append, List.cons_append, zif0, zif1, zif01, zem1, zem2, Int.reduceEq, Int.reduceLT, Int.reduceLE, Int.reduceNeg, Int.reduceSub, Int.reduceMul, if_true, if_false, not_false_eq_true, not_true_eq_false, true_implies, false_implies, Classical.not_not, Nat.reduceAdd, Nat.reduceLeDiff, zbit_of, ew, zq81, zshl_1]
        refine kk _ _ ⟨by omega, ?_, q.1, gX_tr hX q.2⟩
        unfold gUs
        rw [gBt_s h0, if_pos z]
      · rw [if_neg z] at ew
        simp +contextual (disch := (first | omega | assumption | decide)) only [↓zbrT, ↓zbrF, zw90_0, zw90_1, zw90_2, zw90_4, zw90_5, zw90_6, zw90_7, zw90_8, zr_1, zr_3, zr_4, zr_7, zr_10, zr_12, zr_31, zr_32, zr_35, zr_46, zr_53, zr_54, zr_56, zr_58, zr_62, zr_68, zr_69, zr_70, zr_73, zlg_0, zlg_s, zls_0, zls_1, zls_s, zkl_i, zkl_r, zkl_l, zkl_n, zrc_1, zrc_s, zcat_n, zcat_i, zcat_l, zcat_r, zkd_0, zkd_105, zkd_21, zkd_3, zkd_67, zkd_86, zrf_0_3, Int.cast_ofNat_Int, Int.reduceAdd, zw_id, false_and, and_false, true_and, and_true, true_or, or_true, false_or, or_false, Option.toList, List.nil_append, List.cons_append, zif0, zif1, zif01, zem1, zem2, Int.reduceEq, Int.reduceLT, Int.reduceLE, Int.reduceNeg, Int.reduceSub, Int.reduceMul, if_true, if_false, not_false_eq_true, not_true_eq_false, true_implies, false_implies, Classical.not_not, Nat.reduceAdd, Nat.reduceLeDiff, zbit_of, ew, zq81, zshl_1]
        refine kk _ _ ⟨by omega, ?_, q.1, gX_tr hX q.2⟩
        unfold gUs
        rw [gBt_s h0, if_neg z]
    · rintro lc m' ⟨h0, rfl, hI1, hX⟩
      rw [zw90_3]
      simp +contextual (disch := (first | omega | assumption | decide)) only [↓zbrT, ↓zbrF, zw90_0, zw90_1, zw90_2, zw90_4, zw90_5, zw90_6, zw90_7, zw90_8, zr_1, zr_3, zr_4, zr_7, zr_10, zr_12, zr_31, zr_32, zr_35, zr_46, zr_53, zr_54, zr_56, zr_58, zr_62, zr_68, zr_69, zr_70, zr_73, zlg_0, zlg_s, zls_0, zls_1, zls_s, zkl_i, zkl_r, zkl_l, zkl_n, zrc_1, zrc_s, zcat_n, zcat_i, zcat_l, zcat_r, zkd_0, zkd_105, zkd_21, zkd_3, zkd_67, zkd_86, zrf_0_3, Int.cast_ofNat_Int, Int.reduceAdd, zw_id, false_and, and_false, true_and, and_true, true_or, or_true, false_or, or_false, Option.toList, List.nil_append, List.cons_append, zif0, zif1, zif01, zem1, zem2, Int.reduceEq, Int.reduceLT, Int.reduceLE, Int.reduceNeg, Int.reduceSub, Int.reduceMul, if_true, if_false, not_false_eq_true, not_true_eq_false, true_implies, false_implies, Classical.not_not, Nat.reduceAdd, Nat.reduceLeDiff, gA_0 hI1.1.2.1, gA_1 hI1.1.2.1, gA_2 hI1.1.2.1, gA_3 hI1.1.2.1, gA_4 hI1.1.2.1, gA_5 hI1.1.2.1, gA_6 hI1.1.2.1, gA_7 hI1.1.2.1, gA_8 hI1.1.2.1, gA_9 hI1.1.2.1, gA_r0 hI1.1.2.1, gA_r1 hI1.1.2.1, gA_r2 hI1.1.2.1, gA_r3 hI1.1.2.1, gA_f0 hI1.1.2.1, gA_f1 hI1.1.2.1, gA_f2 hI1.1.2.1, gA_f3 hI1.1.2.1, gA_f4 hI1.1.2.1, gA_d hI1.1, gI_s0 hI1, gI_s1 hI1, gI_s2 hI1, gI_s3 hI1, gI_s4 hI1, gI_s5 hI1, gI_n hI1]
      exact ⟨hI1, hX⟩
    · exact ⟨by decide, rfl, hI, gX_refl⟩
  · rw [if_neg c1]
    simp +contextual (disch := (first | omega | assumption | decide)) only [↓zbrT, ↓zbrF, zw90_0, zw90_1, zw90_2, zw90_4, zw90_5, zw90_6, zw90_7, zw90_8, zr_1, zr_3, zr_4, zr_7, zr_10, zr_12, zr_31, zr_32, zr_35, zr_46, zr_53, zr_54, zr_56, zr_58, zr_62, zr_68, zr_69, zr_70, zr_73, zlg_0, zlg_s, zls_0, zls_1, zls_s, zkl_i, zkl_r, zkl_l, zkl_n, zrc_1, zrc_s, zcat_n, zcat_i, zcat_l, zcat_r, zkd_0, zkd_105, zkd_21, zkd_3, zkd_67, zkd_86, zrf_0_3, Int.cast_ofNat_Int, Int.reduceAdd, zw_id, false_and, and_false, true_and, and_true, true_or, or_true, false_or, or_false, Option.toList, List.nil_append, List.cons_append, zif0, zif1, zif01, zem1, zem2, Int.reduceEq, Int.reduceLT, Int.reduceLE, Int.reduceNeg, Int.reduceSub, Int.reduceMul, if_true, if_false, not_false_eq_true, not_true_eq_false, true_implies, false_implies, Classical.not_not, Nat.reduceAdd, Nat.reduceLeDiff, zq76, gA_0 hI.1.2.1, gA_1 hI.1.2.1, gA_2 hI.1.2.1, gA_3 hI.1.2.1, gA_4 hI.1.2.1, gA_5 hI.1.2.1, gA_6 hI.1.2.1, gA_7 hI.1.2.1, gA_8 hI.1.2.1, gA_9 hI.1.2.1, gA_r0 hI.1.2.1, gA_r1 hI.1.2.1, gA_r2 hI.1.2.1, gA_r3 hI.1.2.1, gA_f0 hI.1.2.1, gA_f1 hI.1.2.1, gA_f2 hI.1.2.1, gA_f3 hI.1.2.1, gA_f4 hI.1.2.1, gA_d hI.1, gI_s0 hI, gI_s1 hI, gI_s2 hI, gI_s3 hI, gI_s4 hI, gI_s5 hI, gI_n hI]
    (first | exact ⟨hI, gX_refl⟩ | exact ⟨rfl, hI, gX_refl⟩)
theorem gz228 {d : Nat} {m : zMm} {f : Int} {r : Int} {V : zMm} (hV : gOk V) (hM : gMo V m) (hL : gL V (gSn V) m) (hf : 0 ≤ f ∧ f < V 0 6) (hs : 0 ≤ gSn V 4 ∧ gSn V 4 < 256) : zC (d + 10) 228 [.inr (.inr 131), .inl f, .inl r] m (fun r' m' => r' = some (.inl (if r ∈ gWy V (gSn V 4) f then 1 else 0)) ∧ gEw m m') := by
  refine ze228 ?_
  have hb := hV.1
  simp +contextual (disch := (first | omega | assumption | decide)) only [↓zbrT, ↓zbrF, zw228_0, zw228_1, zw228_2, zw228_4, zw228_5, zw228_6, zw228_7, zr_1, zr_3, zr_4, zr_7, zr_10, zr_12, zr_16, zr_53, zr_54, zr_56, zr_58, zr_62, zr_68, zr_73, zr_76, zlg_0, zlg_s, zls_0, zls_1, zls_s, zkl_i, zkl_r, zkl_l, zkl_n, zrc_1, zrc_s, zcat_n, zcat_i, zcat_l, zcat_r, zkd_131, zkd_144, zln_144, zrf_131_23, Int.cast_ofNat_Int, Int.reduceAdd, zbd, zw_id, false_and, and_false, true_and, and_true, true_or, or_true, false_or, or_false, Option.toList, List.nil_append, List.cons_append, zif0, zif1, zif01, zem1, zem2, Int.reduceEq, Int.reduceLT, Int.reduceLE, Int.reduceNeg, Int.reduceSub, Int.reduceMul, if_true, if_false, not_false_eq_true, not_true_eq_false, true_implies, false_implies, Classical.not_not, Nat.reduceAdd, Nat.reduceLeDiff, gL_4 hL]
  refine gK (gz212 hV hM hf hs) rfl rfl (Nat.le_of_ble_eq_true rfl) ?_
  rintro _ m2 ⟨rfl, hW, hF⟩
  have bf := hV.2.2 f hf.1 hf.2
  rcases hF with ⟨f1, f2⟩ | ⟨f1, f2, f3, f4, f5, f6⟩
  · have e : gWy V (gSn V 4) f = [] := by
      unfold gWy
      rw [gTV_s, if_neg bf.2.2.1, if_pos (gNx_far hV f1 _ (by omega))]
    have nm : ¬ r ∈ gWy V (gSn V 4) f := by rw [e]; intro z; cases z
    simp +contextual (disch := (first | omega | assumption | decide)) only [↓zbrT, ↓zbrF, zw228_0, zw228_1, zw228_2, zw228_4, zw228_5, zw228_6, zw228_7, zr_1, zr_3, zr_4, zr_7, zr_10, zr_12, zr_16, zr_53, zr_54, zr_56, zr_58, zr_62, zr_68, zr_73, zr_76, zlg_0, zlg_s, zls_0, zls_1, zls_s, zkl_i, zkl_r, zkl_l, zkl_n, zrc_1, zrc_s, zcat_n, zcat_i, zcat_l, zcat_r, zkd_131, zkd_144, zln_144, zrf_131_23, Int.cast_ofNat_Int, Int.reduceAdd, zbd, zw_id, false_and, and_false, true_and, and_true, true_or, or_true, false_or, or_false, Option.toList, List.nil_append, List.cons_append, zif0, zif1, zif01, zem1, zem2, Int.reduceEq, Int.reduceLT, Int.reduceLE, Int.reduceNeg, Int.reduceSub, Int.reduceMul, if_true, if_false, not_false_eq_true, not_true_eq_false, true_implies, false_implies, Classical.not_not, Nat.reduceAdd, Nat.reduceLeDiff, if_pos f1]
    exact ⟨by rw [if_neg nm], hW⟩
  · have nf : ¬ gC V (gSn V 4) (-1) (vF V f 0) (vF V f 1) = 268435456 := by omega
    have ew : gTV V (gSn V 4) (vF V f 1) 6 (vF V f 0) = gWy V (gSn V 4) f := rfl
    rw [ew] at f2 f5 f6
    simp +contextual (disch := (first | omega | assumption | decide)) only [↓zbrT, ↓zbrF, zw228_0, zw228_1, zw228_2, zw228_4, zw228_5, zw228_6, zw228_7, zr_1, zr_3, zr_4, zr_7, zr_10, zr_12, zr_16, zr_53, zr_54, zr_56, zr_58, zr_62, zr_68, zr_73, zr_76, zlg_0, zlg_s, zls_0, zls_1, zls_s, zkl_i, zkl_r, zkl_l, zkl_n, zrc_1, zrc_s, zcat_n, zcat_i, zcat_l, zcat_r, zkd_131, zkd_144, zln_144, zrf_131_23, Int.cast_ofNat_Int, Int.reduceAdd, zbd, zw_id, false_and, and_false, true_and, and_true, true_or, or_true, false_or, or_false, Option.toList, List.nil_append, List.cons_append, zif0, zif1, zif01, zem1, zem2, Int.reduceEq, Int.reduceLT, Int.reduceLE, Int.reduceNeg, Int.reduceSub, Int.reduceMul, if_true, if_false, not_false_eq_true, not_true_eq_false, true_implies, false_implies, Classical.not_not, Nat.reduceAdd, Nat.reduceLeDiff, if_neg nf]
    refine zfor ((gWy V (gSn V 4) f).length : Int) (fun k lc m' => 0 ≤ k ∧ lc = [some (.inr (.inr 131)), some (.inl f), some (.inl r), some (.inl k)] ∧ m' = m2 ∧ ¬ r ∈ (gWy V (gSn V 4) f).take k.toNat) ?_ ?_ (i := 0) (by omega) ?_
    · rintro k lc m' hk ⟨h0, rfl, rfl, hn⟩ kk
      have e := f6 k.toNat (by omega)
      rw [show ((k.toNat : Nat) : Int) = k by omega] at e
      have q3 := gmem_take (gWy V (gSn V 4) f) k.toNat r (by omega)
      rw [zw228_3]
      by_cases z : (gWy V (gSn V 4) f).getD k.toNat 0 = r
      · simp +contextual (disch := (first | omega | assumption | decide)) only [↓zbrT, ↓zbrF, zw228_0, zw228_1, zw228_2, zw228_4, zw228_5, zw228_6, zw228_7, zr_1, zr_3, zr_4, zr_7, zr_10, zr_12, zr_16, zr_53, zr_54, zr_56, zr_58, zr_62, zr_68, zr_73, zr_76, zlg_0, zlg_s, zls_0, zls_1, zls_s, zkl_i, zkl_r, zkl_l, zkl_n, zrc_1, zrc_s, zcat_n, zcat_i, zcat_l, zcat_r, zkd_131, zkd_144, zln_144, zrf_131_23, Int.cast_ofNat_Int, Int.reduceAdd, zbd, zw_id, false_and, and_false, true_and, and_true, true_or, or_true, false_or, or_false, Option.toList, List.nil_append, List.cons_append, zif0, zif1, zif01, zem1, zem2, Int.reduceEq, Int.reduceLT, Int.reduceLE, Int.reduceNeg, Int.reduceSub, Int.reduceMul, if_true, if_false, not_false_eq_true, not_true_eq_false, true_implies, false_implies, Classical.not_not, Nat.reduceAdd, Nat.reduceLeDiff, f2, e, z]
        exact ⟨by rw [if_pos (by rw [← z]; exact ggetD_mem _ _ (by omega))], hW⟩
      · simp +contextual (disch := (first | omega | assumption | decide)) only [↓zbrT, ↓zbrF, zw228_0, zw228_1, zw228_2, zw228_4, zw228_5, zw228_6, zw228_7, zr_1, zr_3, zr_4, zr_7, zr_10, zr_12, zr_16, zr_53, zr_54, zr_56, zr_58, zr_62, zr_68, zr_73, zr_76, zlg_0, zlg_s, zls_0, zls_1, zls_s, zkl_i, zkl_r, zkl_l, zkl_n, zrc_1, zrc_s, zcat_n, zcat_i, zcat_l, zcat_r, zkd_131, zkd_144, zln_144, zrf_131_23, Int.cast_ofNat_Int, Int.reduceAdd, zbd, zw_id, false_and, and_false, true_and, and_true, true_or, or_true, false_or, or_false, Option.toList, List.nil_append, List.cons_append, zif0, zif1, zif01, zem1, zem2, Int.reduceEq, Int.reduceLT, Int.reduceLE, Int.reduceNeg, Int.reduceSub, Int.reduceMul, if_true, if_false, not_false_eq_true, not_true_eq_false, true_implies, false_implies, Classical.not_not, Nat.reduceAdd, Nat.reduceLeDiff, f2, e, z]
        refine kk _ _ ⟨by omega, rfl, rfl, ?_⟩
        rw [show (k + 1).toNat = k.toNat + 1 by omega]
        exact fun q => (q3.mp q).elim hn (fun y => z y.symm)
    · rintro lc m' ⟨h0, rfl, rfl, hn⟩
      rw [Int.toNat_natCast, List.take_length] at hn
      rw [zw228_3]
      simp +contextual (disch := (first | omega | assumption | decide)) only [↓zbrT, ↓zbrF, zw228_0, zw228_1, zw228_2, zw228_4, zw228_5, zw228_6, zw228_7, zr_1, zr_3, zr_4, zr_7, zr_10, zr_12, zr_16, zr_53, zr_54, zr_56, zr_58, zr_62, zr_68, zr_73, zr_76, zlg_0, zlg_s, zls_0, zls_1, zls_s, zkl_i, zkl_r, zkl_l, zkl_n, zrc_1, zrc_s, zcat_n, zcat_i, zcat_l, zcat_r, zkd_131, zkd_144, zln_144, zrf_131_23, Int.cast_ofNat_Int, Int.reduceAdd, zbd, zw_id, false_and, and_false, true_and, and_true, true_or, or_true, false_or, or_false, Option.toList, List.nil_append, List.cons_append, zif0, zif1, zif01, zem1, zem2, Int.reduceEq, Int.reduceLT, Int.reduceLE, Int.reduceNeg, Int.reduceSub, Int.reduceMul, if_true, if_false, not_false_eq_true, not_true_eq_false, true_implies, false_implies, Classical.not_not, Nat.reduceAdd, Nat.reduceLeDiff, f2]
      exact ⟨by rw [if_neg hn], hW⟩
    · exact ⟨by decide, rfl, rfl, by rw [show (0 : Int).toNat = 0 from rfl, List.take_zero]; intro z; cases z⟩
theorem gz229 {d : Nat} {m : zMm} {r : Int} {V : zMm} (hV : gOk V) (hM : gMo V m) (hL : gL V (gSn V) m) (hs : 0 ≤ gSn V 4 ∧ gSn V 4 < 256) : zC (d + 11) 229 [.inr (.inr 131), .inl r] m (fun r' m' => r' = some (.inl (gUs V r (V 0 6).toNat)) ∧ gEw m m') := by
  refine ze229 ?_
  have hb := hV.1
  simp +contextual (disch := (first | omega | assumption | decide)) only [↓zbrT, ↓zbrF, zw229_0, zw229_2, zw229_3, zw229_4, zw229_5, zw229_6, zr_1, zr_3, zr_4, zr_7, zr_12, zr_16, zr_32, zr_34, zr_53, zr_54, zr_58, zr_61, zr_68, zr_70, zr_73, zlg_0, zlg_s, zls_0, zls_1, zls_s, zkl_i, zkl_r, zkl_l, zkl_n, zrc_1, zrc_s, zcat_n, zcat_i, zcat_l, zcat_r, zkd_131, zkd_138, zln_138, zrf_131_17, Int.cast_ofNat_Int, Int.reduceAdd, zbd, zw_id, false_and, and_false, true_and, and_true, true_or, or_true, false_or, or_false, Option.toList, List.nil_append, List.cons_append, zif0, zif1, zif01, zem1, zem2, Int.reduceEq, Int.reduceLT, Int.reduceLE, Int.reduceNeg, Int.reduceSub, Int.reduceMul, if_true, if_false, not_false_eq_true, not_true_eq_false, true_implies, false_implies, Classical.not_not, Nat.reduceAdd, Nat.reduceLeDiff]
  refine zfor (V 0 6) (fun f lc m' => 0 ≤ f ∧ lc = [some (.inr (.inr 131)), some (.inl r), some (.inl (gUs V r f.toNat)), some (.inl f)] ∧ gEw m m') ?_ ?_ (i := 0) (by omega) ?_
  · rintro f lc m' hf ⟨h0, rfl, hW⟩ kk
    have hM1 := gEw_mo hW hM
    have hL1 := gL_w hL hW
    rw [zw229_1]
    simp +contextual (disch := (first | omega | assumption | decide)) only [↓zbrT, ↓zbrF, zw229_0, zw229_2, zw229_3, zw229_4, zw229_5, zw229_6, zr_1, zr_3, zr_4, zr_7, zr_12, zr_16, zr_32, zr_34, zr_53, zr_54, zr_58, zr_61, zr_68, zr_70, zr_73, zlg_0, zlg_s, zls_0, zls_1, zls_s, zkl_i, zkl_r, zkl_l, zkl_n, zrc_1, zrc_s, zcat_n, zcat_i, zcat_l, zcat_r, zkd_131, zkd_138, zln_138, zrf_131_17, Int.cast_ofNat_Int, Int.reduceAdd, zbd, zw_id, false_and, and_false, true_and, and_true, true_or, or_true, false_or, or_false, Option.toList, List.nil_append, List.cons_append, zif0, zif1, zif01, zem1, zem2, Int.reduceEq, Int.reduceLT, Int.reduceLE, Int.reduceNeg, Int.reduceSub, Int.reduceMul, if_true, if_false, not_false_eq_true, not_true_eq_false, true_implies, false_implies, Classical.not_not, Nat.reduceAdd, Nat.reduceLeDiff, gM_0 hM1, gM_1 hM1, gM_2 hM1, gM_3 hM1, gM_4 hM1, gM_5 hM1, gM_6 hM1, gM_7 hM1, gM_8 hM1, gM_9 hM1, gM_10 hM1, gM_r0 hM1, gM_r1 hM1, gM_r2 hM1, gM_r3 hM1, gM_f0 hM1, gM_f1 hM1, gM_f2 hM1, gM_f3 hM1, gM_f4 hM1]
    refine gK (gz228 hV hM1 hL1 ⟨h0, hf⟩ hs) rfl rfl (Nat.le_of_ble_eq_true rfl) ?_
    rintro _ m2 ⟨rfl, hW2⟩
    by_cases z : r ∈ gWy V (gSn V 4) f
    · simp +contextual (disch := (first | omega | assumption | decide)) only [↓zbrT, ↓zbrF, zw229_0, zw229_2, zw229_3, zw229_4, zw229_5, zw229_6, zr_1, zr_3, zr_4, zr_7, zr_12, zr_16, zr_32, zr_34, zr_53, zr_54, zr_58, zr_61, zr_68, zr_70, zr_73, zlg_0, zlg_s, zls_0, zls_1, zls_s, zkl_i, zkl_r, zkl_l, zkl_n, zrc_1, zrc_s, zcat_n, zcat_i, zcat_l, zcat_r, zkd_131, zkd_138, zln_138, zrf_131_17, Int.cast_ofNat_Int, Int.reduceAdd, zbd, zw_id, false_and, and_false, true_and, and_true, true_or, or_true, false_or, or_false, Option.toList, List.nil_append, List.cons_append, zif0, zif1, zif01, zem1, zem2, Int.reduceEq, Int.reduceLT, Int.reduceLE, Int.reduceNeg, Int.reduceSub, Int.reduceMul, if_true, if_false, not_false_eq_true, not_true_eq_false, true_implies, false_implies, Classical.not_not, Nat.reduceAdd, Nat.reduceLeDiff, if_pos z, zshl_1]
      refine kk _ _ ⟨by omega, ?_, gEw_tr hW hW2⟩
      unfold gUs
      rw [gBt_s h0, if_pos z]
    · simp +contextual (disch := (first | omega | assumption | decide)) only [↓zbrT, ↓zbrF, zw229_0, zw229_2, zw229_3, zw229_4, zw229_5, zw229_6, zr_1, zr_3, zr_4, zr_7, zr_12, zr_16, zr_32, zr_34, zr_53, zr_54, zr_58, zr_61, zr_68, zr_70, zr_73, zlg_0, zlg_s, zls_0, zls_1, zls_s, zkl_i, zkl_r, zkl_l, zkl_n, zrc_1, zrc_s, zcat_n, zcat_i, zcat_l, zcat_r, zkd_131, zkd_138, zln_138, zrf_131_17, Int.cast_ofNat_Int, Int.reduceAdd, zbd, zw_id, false_and, and_false, true_and, and_true, true_or, or_true, false_or, or_false, Option.toList, List.nil_append, List.cons_append, zif0, zif1, zif01, zem1, zem2, Int.reduceEq, Int.reduceLT, Int.reduceLE, Int.reduceNeg, Int.reduceSub, Int.reduceMul, if_true, if_false, not_false_eq_true, not_true_eq_false, true_implies, false_implies, Classical.not_not, Nat.reduceAdd, Nat.reduceLeDiff, if_neg z, zshl_1]
      refine kk _ _ ⟨by omega, ?_, gEw_tr hW hW2⟩
      unfold gUs
      rw [gBt_s h0, if_neg z]
  · rintro lc m' ⟨h0, rfl, hW⟩
    have hM1 := gEw_mo hW hM
    rw [zw229_1]
    simp +contextual (disch := (first | omega | assumption | decide)) only [↓zbrT, ↓zbrF, zw229_0, zw229_2, zw229_3, zw229_4, zw229_5, zw229_6, zr_1, zr_3, zr_4, zr_7, zr_12, zr_16, zr_32, zr_34, zr_53, zr_54, zr_58, zr_61, zr_68, zr_70, zr_73, zlg_0, zlg_s, zls_0, zls_1, zls_s, zkl_i, zkl_r, zkl_l, zkl_n, zrc_1, zrc_s, zcat_n, zcat_i, zcat_l, zcat_r, zkd_131, zkd_138, zln_138, zrf_131_17, Int.cast_ofNat_Int, Int.reduceAdd, zbd, zw_id, false_and, and_false, true_and, and_true, true_or, or_true, false_or, or_false, Option.toList, List.nil_append, List.cons_append, zif0, zif1, zif01, zem1, zem2, Int.reduceEq, Int.reduceLT, Int.reduceLE, Int.reduceNeg, Int.reduceSub, Int.reduceMul, if_true, if_false, not_false_eq_true, not_true_eq_false, true_implies, false_implies, Classical.not_not, Nat.reduceAdd, Nat.reduceLeDiff, gM_0 hM1, gM_1 hM1, gM_2 hM1, gM_3 hM1, gM_4 hM1, gM_5 hM1, gM_6 hM1, gM_7 hM1, gM_8 hM1, gM_9 hM1, gM_10 hM1, gM_r0 hM1, gM_r1 hM1, gM_r2 hM1, gM_r3 hM1, gM_f0 hM1, gM_f1 hM1, gM_f2 hM1, gM_f3 hM1, gM_f4 hM1]
    exact hW
  · exact ⟨by decide, rfl, gEw_refl⟩
theorem gz230 {d : Nat} {m : zMm} {r : Int} {V : zMm} (hQ : gQ V m) : zC (d + 14) 230 [.inr (.inr 131), .inl r] m (fun r' m' => r' = some (.inl (sp90 V r)) ∧ gY m m') := by
  refine ze230 ?_
  have hb := hQ.1.1
  have hY0 : gY m (zmu m 131 0 0) := gY_u (by decide)
  have hQ0 := gQ_y hQ hY0
  have h5 : 0 ≤ zmu m 131 0 0 138 5 ∧ zmu m 131 0 0 138 5 ≤ 8 := by rw [gM_5 hQ0.2.2.1]; omega
  have h6 : 0 ≤ zmu m 131 0 0 138 6 ∧ zmu m 131 0 0 138 6 ≤ 6 := by rw [gM_6 hQ0.2.2.1]; omega
  have h0 : 0 ≤ zmu m 131 0 0 138 0 ∧ zmu m 131 0 0 138 0 ≤ 6 := by rw [gM_0 hQ0.2.2.1]; omega
  have b4 := (gSk hQ).2.2.2.2.1
  unfold sp90
  by_cases c1 : 0 ≤ r ∧ r < V 0 5
  · rw [if_pos c1]
    simp +contextual (disch := (first | omega | assumption | decide)) only [↓zbrT, ↓zbrF, zw230_0, zw230_1, zw230_2, zr_1, zr_3, zr_7, zr_13, zr_46, zr_62, zr_68, zr_70, zlg_0, zlg_s, zrc_1, zrc_s, zcat_n, zcat_i, zcat_l, zcat_r, zkd_131, Int.cast_ofNat_Int, Int.reduceAdd, zmu_same, zmu_c, zmu_i, false_and, and_false, true_and, and_true, true_or, or_true, false_or, or_false, Option.toList, List.nil_append, List.cons_append, zif0, zif1, zif01, zem1, zem2, Int.reduceEq, Int.reduceLT, Int.reduceLE, Int.reduceNeg, Int.reduceSub, Int.reduceMul, if_true, if_false, not_false_eq_true, not_true_eq_false, true_implies, false_implies, Classical.not_not, Nat.reduceAdd, Nat.reduceLeDiff, zq203 h5, gM_0 hQ.2.2.1, gM_1 hQ.2.2.1, gM_2 hQ.2.2.1, gM_3 hQ.2.2.1, gM_4 hQ.2.2.1, gM_5 hQ.2.2.1, gM_6 hQ.2.2.1, gM_7 hQ.2.2.1, gM_8 hQ.2.2.1, gM_9 hQ.2.2.1, gM_10 hQ.2.2.1, gM_r0 hQ.2.2.1, gM_r1 hQ.2.2.1, gM_r2 hQ.2.2.1, gM_r3 hQ.2.2.1, gM_f0 hQ.2.2.1, gM_f1 hQ.2.2.1, gM_f2 hQ.2.2.1, gM_f3 hQ.2.2.1, gM_f4 hQ.2.2.1]
    refine gK (gzL hQ0) rfl rfl (Nat.le_of_ble_eq_true rfl) ?_
    rintro _ m1 ⟨rfl, hL, hY⟩
    have hQ1 := gQ_y hQ0 hY
    have fin : gY m m1 := gY_tr hY0 hY
    simp +contextual (disch := (first | omega | assumption | decide)) only [↓zbrT, ↓zbrF, zw230_0, zw230_1, zw230_2, zr_1, zr_3, zr_7, zr_13, zr_46, zr_62, zr_68, zr_70, zlg_0, zlg_s, zrc_1, zrc_s, zcat_n, zcat_i, zcat_l, zcat_r, zkd_131, Int.cast_ofNat_Int, Int.reduceAdd, zmu_same, zmu_c, zmu_i, false_and, and_false, true_and, and_true, true_or, or_true, false_or, or_false, Option.toList, List.nil_append, List.cons_append, zif0, zif1, zif01, zem1, zem2, Int.reduceEq, Int.reduceLT, Int.reduceLE, Int.reduceNeg, Int.reduceSub, Int.reduceMul, if_true, if_false, not_false_eq_true, not_true_eq_false, true_implies, false_implies, Classical.not_not, Nat.reduceAdd, Nat.reduceLeDiff]
    refine gK (gz229 hQ.1 hQ1.2.2.1 hL b4) rfl rfl (Nat.le_of_ble_eq_true rfl) ?_
    rintro _ m2 ⟨rfl, hW⟩
    (try simp +contextual (disch := (first | omega | assumption | decide)) only [↓zbrT, ↓zbrF, zw230_0, zw230_1, zw230_2, zr_1, zr_3, zr_7, zr_13, zr_46, zr_62, zr_68, zr_70, zlg_0, zlg_s, zrc_1, zrc_s, zcat_n, zcat_i, zcat_l, zcat_r, zkd_131, Int.cast_ofNat_Int, Int.reduceAdd, zmu_same, zmu_c, zmu_i, false_and, and_false, true_and, and_true, true_or, or_true, false_or, or_false, Option.toList, List.nil_append, List.cons_append, zif0, zif1, zif01, zem1, zem2, Int.reduceEq, Int.reduceLT, Int.reduceLE, Int.reduceNeg, Int.reduceSub, Int.reduceMul, if_true, if_false, not_false_eq_true, not_true_eq_false, true_implies, false_implies, Classical.not_not, Nat.reduceAdd, Nat.reduceLeDiff])
    (first | exact gY_tr fin (gY_w hW) | exact ⟨rfl, gY_tr fin (gY_w hW)⟩)
  · rw [if_neg c1]
    simp +contextual (disch := (first | omega | assumption | decide)) only [↓zbrT, ↓zbrF, zw230_0, zw230_1, zw230_2, zr_1, zr_3, zr_7, zr_13, zr_46, zr_62, zr_68, zr_70, zlg_0, zlg_s, zrc_1, zrc_s, zcat_n, zcat_i, zcat_l, zcat_r, zkd_131, Int.cast_ofNat_Int, Int.reduceAdd, zmu_same, zmu_c, zmu_i, false_and, and_false, true_and, and_true, true_or, or_true, false_or, or_false, Option.toList, List.nil_append, List.cons_append, zif0, zif1, zif01, zem1, zem2, Int.reduceEq, Int.reduceLT, Int.reduceLE, Int.reduceNeg, Int.reduceSub, Int.reduceMul, if_true, if_false, not_false_eq_true, not_true_eq_false, true_implies, false_implies, Classical.not_not, Nat.reduceAdd, Nat.reduceLeDiff, zq203 h5, gM_0 hQ.2.2.1, gM_1 hQ.2.2.1, gM_2 hQ.2.2.1, gM_3 hQ.2.2.1, gM_4 hQ.2.2.1, gM_5 hQ.2.2.1, gM_6 hQ.2.2.1, gM_7 hQ.2.2.1, gM_8 hQ.2.2.1, gM_9 hQ.2.2.1, gM_10 hQ.2.2.1, gM_r0 hQ.2.2.1, gM_r1 hQ.2.2.1, gM_r2 hQ.2.2.1, gM_r3 hQ.2.2.1, gM_f0 hQ.2.2.1, gM_f1 hQ.2.2.1, gM_f2 hQ.2.2.1, gM_f3 hQ.2.2.1, gM_f4 hQ.2.2.1]
    (first | exact hY0 | exact ⟨rfl, hY0⟩)
/-- the roads that somebody of the first k goes -/
def gUd (V : zMm) : Nat → Int
  | 0 => 0
  | k + 1 => zor (gUd V k) (gWb V (gSn V 4) k)
theorem gUd_bd {V : zMm} : ∀ k : Nat, 0 ≤ gUd V k ∧ gUd V k < 256
  | 0 => by show (0 : Int) ≤ 0 ∧ (0 : Int) < 256; decide
  | k + 1 => zor_bd (gUd_bd k) gWb_bd
theorem gUd_bit {V : zMm} {r : Int} (h0 : 0 ≤ r) (h1 : r < 8) : ∀ k : Nat, zbit (gUd V k) r = if ∃ f : Nat, f < k ∧ r ∈ gWy V (gSn V 4) f then 1 else 0
  | 0 => by
    show zbit 0 r = _
    rw [zbit_0, if_neg (fun ⟨f, z, _⟩ => by omega)]
  | k + 1 => by
    show zbit (zor (gUd V k) (gWb V (gSn V 4) k)) r = _
    rw [zbit_or (gUd_bd k) gWb_bd h0, gUd_bit h0 h1 k, gWb_bit h0 h1]
    by_cases a : ∃ f : Nat, f < k ∧ r ∈ gWy V (gSn V 4) f
    · have a' : ∃ f : Nat, f < k + 1 ∧ r ∈ gWy V (gSn V 4) f := by
        obtain ⟨f, f1, f2⟩ := a
        exact ⟨f, by omega, f2⟩
      rw [if_pos a, if_pos (Or.inl rfl), if_pos a']
    · by_cases b : r ∈ gWy V (gSn V 4) k
      · have a' : ∃ f : Nat, f < k + 1 ∧ r ∈ gWy V (gSn V 4) f := ⟨k, by omega, b⟩
        rw [if_neg a, if_pos b, if_pos (Or.inr rfl), if_pos a']
      · have a' : ¬ ∃ f : Nat, f < k + 1 ∧ r ∈ gWy V (gSn V 4) f := by
          rintro ⟨f, f1, f2⟩
          by_cases e : f = k
          · rw [e] at f2; exact b f2
          · exact a ⟨f, by omega, f2⟩
        rw [if_neg a, if_neg b, if_neg (show ¬ ((0 : Int) = 1 ∨ (0 : Int) = 1) by omega), if_neg a']
def sp95 (V : zMm) : Int := if V 0 10 = 0 then -2 else gBt (fun r => zbit (gSn V 4) r = 1 ∧ gUs V r (V 0 6).toNat = 0) (V 0 5).toNat
theorem gz95 {d : Nat} {m : zMm} {V : zMm} (hI : gI V m) : zC (d + 6) 95 [.inr (.inr 0)] m (fun r' m' => r' = some (.inl (sp95 V)) ∧ gI V m' ∧ gX m m') := by
  refine ze95 ?_
  have hb := gA_b hI.1
  have hk := (gI_k hI).1
  unfold sp95
  by_cases c1 : V 0 10 = 0
  · rw [if_pos c1]
    simp +contextual (disch := (first | omega | assumption | decide)) only [↓zbrT, ↓zbrF, zw95_0, zw95_1, zw95_2, zw95_4, zw95_5, zr_1, zr_3, zr_4, zr_7, zr_10, zr_12, zr_31, zr_32, zr_33, zr_53, zr_54, zr_58, zr_61, zr_68, zr_70, zr_73, zlg_0, zlg_s, zls_0, zls_1, zls_s, zkl_i, zkl_r, zkl_l, zkl_n, zrc_1, zrc_s, zcat_n, zcat_i, zcat_l, zcat_r, zkd_0, zkd_105, zkd_21, zkd_3, zkd_43, zkd_45, zkd_51, zkd_53, zkd_55, zkd_57, zkd_59, zkd_67, zkd_86, zkd_a50, zrf_0_3, zrf_0_6, Int.cast_ofNat_Int, Int.reduceAdd, zw_id, false_and, and_false, true_and, and_true, true_or, or_true, false_or, or_false, Option.toList, List.nil_append, List.cons_append, zif0, zif1, zif01, zem1, zem2, Int.reduceEq, Int.reduceLT, Int.reduceLE, Int.reduceNeg, Int.reduceSub, Int.reduceMul, if_true, if_false, not_false_eq_true, not_true_eq_false, true_implies, false_implies, Classical.not_not, Nat.reduceAdd, Nat.reduceLeDiff, zq74, gA_0 hI.1.2.1, gA_1 hI.1.2.1, gA_2 hI.1.2.1, gA_3 hI.1.2.1, gA_4 hI.1.2.1, gA_5 hI.1.2.1, gA_6 hI.1.2.1, gA_7 hI.1.2.1, gA_8 hI.1.2.1, gA_9 hI.1.2.1, gA_r0 hI.1.2.1, gA_r1 hI.1.2.1, gA_r2 hI.1.2.1, gA_r3 hI.1.2.1, gA_f0 hI.1.2.1, gA_f1 hI.1.2.1, gA_f2 hI.1.2.1, gA_f3 hI.1.2.1, gA_f4 hI.1.2.1, gA_d hI.1, gI_s0 hI, gI_s1 hI, gI_s2 hI, gI_s3 hI, gI_s4 hI, gI_s5 hI, gI_n hI, if_pos c1]
    (first | exact ⟨hI, gX_refl⟩ | exact ⟨rfl, hI, gX_refl⟩)
  · rw [if_neg c1]
    simp +contextual (disch := (first | omega | assumption | decide)) only [↓zbrT, ↓zbrF, zw95_0, zw95_1, zw95_2, zw95_4, zw95_5, zr_1, zr_3, zr_4, zr_7, zr_10, zr_12, zr_31, zr_32, zr_33, zr_53, zr_54, zr_58, zr_61, zr_68, zr_70, zr_73, zlg_0, zlg_s, zls_0, zls_1, zls_s, zkl_i, zkl_r, zkl_l, zkl_n, zrc_1, zrc_s, zcat_n, zcat_i, zcat_l, zcat_r, zkd_0, zkd_105, zkd_21, zkd_3, zkd_43, zkd_45, zkd_51, zkd_53, zkd_55, zkd_57, zkd_59, zkd_67, zkd_86, zkd_a50, zrf_0_3, zrf_0_6, Int.cast_ofNat_Int, Int.reduceAdd, zw_id, false_and, and_false, true_and, and_true, true_or, or_true, false_or, or_false, Option.toList, List.nil_append, List.cons_append, zif0, zif1, zif01, zem1, zem2, Int.reduceEq, Int.reduceLT, Int.reduceLE, Int.reduceNeg, Int.reduceSub, Int.reduceMul, if_true, if_false, not_false_eq_true, not_true_eq_false, true_implies, false_implies, Classical.not_not, Nat.reduceAdd, Nat.reduceLeDiff, zq74, gA_0 hI.1.2.1, gA_1 hI.1.2.1, gA_2 hI.1.2.1, gA_3 hI.1.2.1, gA_4 hI.1.2.1, gA_5 hI.1.2.1, gA_6 hI.1.2.1, gA_7 hI.1.2.1, gA_8 hI.1.2.1, gA_9 hI.1.2.1, gA_r0 hI.1.2.1, gA_r1 hI.1.2.1, gA_r2 hI.1.2.1, gA_r3 hI.1.2.1, gA_f0 hI.1.2.1, gA_f1 hI.1.2.1, gA_f2 hI.1.2.1, gA_f3 hI.1.2.1, gA_f4 hI.1.2.1, gA_d hI.1, gI_s0 hI, gI_s1 hI, gI_s2 hI, gI_s3 hI, gI_s4 hI, gI_s5 hI, gI_n hI, if_neg c1]
    refine zfor (V 0 6) (fun f lc m' => 0 ≤ f ∧ lc = [some (.inr (.inr 0)), some (.inl (gUd V f.toNat)), some (.inl f)] ∧ gI V m' ∧ gX m m') ?_ ?_ (i := 0) (by omega) ?_
    · rintro f lc m' hf ⟨h0, rfl, hI1, hX⟩ kk
      rw [zw95_3]
      simp +contextual (disch := (first | omega | assumption | decide)) only [↓zbrT, ↓zbrF, zw95_0, zw95_1, zw95_2, zw95_4, zw95_5, zr_1, zr_3, zr_4, zr_7, zr_10, zr_12, zr_31, zr_32, zr_33, zr_53, zr_54, zr_58, zr_61, zr_68, zr_70, zr_73, zlg_0, zlg_s, zls_0, zls_1, zls_s, zkl_i, zkl_r, zkl_l, zkl_n, zrc_1, zrc_s, zcat_n, zcat_i, zcat_l, zcat_r, zkd_0, zkd_105, zkd_21, zkd_3, zkd_43, zkd_45, zkd_51, zkd_53, zkd_55, zkd_57, zkd_59, zkd_67, zkd_86, zkd_a50, zrf_0_3, zrf_0_6, Int.cast_ofNat_Int, Int.reduceAdd, zw_id, false_and, and_false, true_and, and_true, true_or, or_true, false_or, or_false, Option.toList, List.nil_append, List.cons_append, zif0, zif1, zif01, zem1, zem2, Int.reduceEq, Int.reduceLT, Int.reduceLE, Int.reduceNeg, Int.reduceSub, Int.reduceMul, if_true, if_false, not_false_eq_true, not_true_eq_false, true_implies, false_implies, Classical.not_not, Nat.reduceAdd, Nat.reduceLeDiff, gA_0 hI1.1.2.1, gA_1 hI1.1.2.1, gA_2 hI1.1.2.1, gA_3 hI1.1.2.1, gA_4 hI1.1.2.1, gA_5 hI1.1.2.1, gA_6 hI1.1.2.1, gA_7 hI1.1.2.1, gA_8 hI1.1.2.1, gA_9 hI1.1.2.1, gA_r0 hI1.1.2.1, gA_r1 hI1.1.2.1, gA_r2 hI1.1.2.1, gA_r3 hI1.1.2.1, gA_f0 hI1.1.2.1, gA_f1 hI1.1.2.1, gA_f2 hI1.1.2.1, gA_f3 hI1.1.2.1, gA_f4 hI1.1.2.1, gA_d hI1.1, gI_s0 hI1, gI_s1 hI1, gI_s2 hI1, gI_s3 hI1, gI_s4 hI1, gI_s5 hI1, gI_n hI1]
      refine gK (gz91 hI1 ⟨h0, hf⟩) rfl rfl (Nat.le_of_ble_eq_true rfl) ?_
      rintro _ m2 ⟨rfl, hA2, hE2⟩
      have q := gI_e hI1 hA2 hE2
      simp +contextual (disch := (first | omega | assumption | decide)) only [↓zbrT, ↓zbrF, zw95_0, zw95_1, zw95_2, zw95_4, zw95_5, zr_1, zr_3, zr_4, zr_7, zr_10, zr_12, zr_31, zr_32, zr_33, zr_53, zr_54, zr_58, zr_61, zr_68, zr_70, zr_73, zlg_0, zlg_s, zls_0, zls_1, zls_s, zkl_i, zkl_r, zkl_l, zkl_n, zrc_1, zrc_s, zcat_n, zcat_i, zcat_l, zcat_r, zkd_0, zkd_105, zkd_21, zkd_3, zkd_43, zkd_45, zkd_51, zkd_53, zkd_55, zkd_57, zkd_59, zkd_67, zkd_86, zkd_a50, zrf_0_3, zrf_0_6, Int.cast_ofNat_Int, Int.reduceAdd, zw_id, false_and, and_false, true_and, and_true, true_or, or_true, false_or, or_false, Option.toList, List.nil_append, List.cons_append, zif0, zif1, zif01, zem1, zem2, Int.reduceEq, Int.reduceLT, Int.reduceLE, Int.reduceNeg, Int.reduceSub, Int.reduceMul, if_true, if_false, not_false_eq_true, not_true_eq_false, true_implies, false_implies, Classical.not_not, Nat.reduceAdd, Nat.reduceLeDiff]
      refine kk _ _ ⟨by omega, ?_, q.1, gX_tr hX q.2⟩
      rw [show (f + 1).toNat = f.toNat + 1 by omega]
      show _ = [_, some (Sum.inl (zor (gUd V f.toNat) (gWb V (gSn V 4) (f.toNat : Nat)))), _]
      rw [show ((f.toNat : Nat) : Int) = f by omega]
    · rintro lc m' ⟨h0, rfl, hI1, hX⟩
      rw [zw95_3]
      simp +contextual (disch := (first | omega | assumption | decide)) only [↓zbrT, ↓zbrF, zw95_0, zw95_1, zw95_2, zw95_4, zw95_5, zr_1, zr_3, zr_4, zr_7, zr_10, zr_12, zr_31, zr_32, zr_33, zr_53, zr_54, zr_58, zr_61, zr_68, zr_70, zr_73, zlg_0, zlg_s, zls_0, zls_1, zls_s, zkl_i, zkl_r, zkl_l, zkl_n, zrc_1, zrc_s, zcat_n, zcat_i, zcat_l, zcat_r, zkd_0, zkd_105, zkd_21, zkd_3, zkd_43, zkd_45, zkd_51, zkd_53, zkd_55, zkd_57, zkd_59, zkd_67, zkd_86, zkd_a50, zrf_0_3, zrf_0_6, Int.cast_ofNat_Int, Int.reduceAdd, zw_id, false_and, and_false, true_and, and_true, true_or, or_true, false_or, or_false, Option.toList, List.nil_append, List.cons_append, zif0, zif1, zif01, zem1, zem2, Int.reduceEq, Int.reduceLT, Int.reduceLE, Int.reduceNeg, Int.reduceSub, Int.reduceMul, if_true, if_false, not_false_eq_true, not_true_eq_false, true_implies, false_implies, Classical.not_not, Nat.reduceAdd, Nat.reduceLeDiff, gA_0 hI1.1.2.1, gA_1 hI1.1.2.1, gA_2 hI1.1.2.1, gA_3 hI1.1.2.1, gA_4 hI1.1.2.1, gA_5 hI1.1.2.1, gA_6 hI1.1.2.1, gA_7 hI1.1.2.1, gA_8 hI1.1.2.1, gA_9 hI1.1.2.1, gA_r0 hI1.1.2.1, gA_r1 hI1.1.2.1, gA_r2 hI1.1.2.1, gA_r3 hI1.1.2.1, gA_f0 hI1.1.2.1, gA_f1 hI1.1.2.1, gA_f2 hI1.1.2.1, gA_f3 hI1.1.2.1, gA_f4 hI1.1.2.1, gA_d hI1.1, gI_s0 hI1, gI_s1 hI1, gI_s2 hI1, gI_s3 hI1, gI_s4 hI1, gI_s5 hI1, gI_n hI1]
      refine ⟨?_, hI1, hX⟩
      have bs := hk.2.2.2.2.1
      have bu := gUd_bd (V := V) (V 0 6).toNat
      have e := zandn_bd bs bu
      congr 2
      refine zbit_ext (by omega) (gBt_bd _ (by omega)) (fun j a b => ?_)
      have q2 := zbit_Bt (c := fun r => zbit (gSn V 4) r = 1 ∧ gUs V r (V 0 6).toNat = 0) (V 0 5).toNat (by omega) j.toNat (by omega)
      rw [show ((j.toNat : Nat) : Int) = j by omega] at q2
      rw [zbit_andn bs bu ⟨a, b⟩, q2, gUd_bit a b]
      have q4 : gUs V j (V 0 6).toNat = 0 ↔ ∀ f : Nat, f < (V 0 6).toNat → ¬ j ∈ gWy V (gSn V 4) f := gBt_0 (by omega)
      by_cases z1 : zbit (gSn V 4) j = 1
      · have gr := hk.2.2.2.2.2.2.1 j a b z1
        by_cases z2 : ∃ f : Nat, f < (V 0 6).toNat ∧ j ∈ gWy V (gSn V 4) f
        · have t : ¬ (j.toNat < (V 0 5).toNat ∧ zbit (gSn V 4) j = 1 ∧ gUs V j (V 0 6).toNat = 0) := by
            obtain ⟨f, f1, f2⟩ := z2
            exact fun q => (q4.mp q.2.2) f f1 f2
          rw [if_pos z2, if_neg (show ¬ (zbit (gSn V 4) j = 1 ∧ (1 : Int) = 0) by omega), if_neg t]
        · have t : j.toNat < (V 0 5).toNat ∧ zbit (gSn V 4) j = 1 ∧ gUs V j (V 0 6).toNat = 0 := ⟨by omega, z1, q4.mpr (fun f f1 f2 => z2 ⟨f, f1, f2⟩)⟩
          rw [if_neg z2, if_pos ⟨z1, rfl⟩, if_pos t]
      · have t : ¬ (j.toNat < (V 0 5).toNat ∧ zbit (gSn V 4) j = 1 ∧ gUs V j (V 0 6).toNat = 0) := fun q => z1 q.2.1
        rw [if_neg (fun q => z1 q.1), if_neg t]
    · exact ⟨by decide, rfl, hI, gX_refl⟩
theorem gz233 {d : Nat} {m : zMm} {V : zMm} (hQ : gQ V m) : zC (d + 14) 233 [.inr (.inr 131)] m (fun r' m' => r' = some (.inl (sp95 V)) ∧ gY m m') := by
  refine ze233 ?_
  have hb := hQ.1.1
  have hY0 : gY m (zmu m 131 0 0) := gY_u (by decide)
  have hQ0 := gQ_y hQ hY0
  have h5 : 0 ≤ zmu m 131 0 0 138 5 ∧ zmu m 131 0 0 138 5 ≤ 8 := by rw [gM_5 hQ0.2.2.1]; omega
  have h6 : 0 ≤ zmu m 131 0 0 138 6 ∧ zmu m 131 0 0 138 6 ≤ 6 := by rw [gM_6 hQ0.2.2.1]; omega
  have h0 : 0 ≤ zmu m 131 0 0 138 0 ∧ zmu m 131 0 0 138 0 ≤ 6 := by rw [gM_0 hQ0.2.2.1]; omega
  have b4 := (gSk hQ).2.2.2.2.1
  unfold sp95
  by_cases c1 : V 0 10 = 0
  · rw [if_pos c1]
    simp +contextual (disch := (first | omega | assumption | decide)) only [↓zbrT, ↓zbrF, zw233_0, zw233_1, zw233_2, zw233_4, zw233_5, zw233_6, zw233_7, zw233_8, zw233_9, zr_1, zr_3, zr_4, zr_7, zr_10, zr_12, zr_13, zr_16, zr_32, zr_34, zr_53, zr_54, zr_58, zr_61, zr_62, zr_68, zr_69, zr_70, zr_73, zlg_0, zlg_s, zls_0, zls_1, zls_s, zkl_i, zkl_r, zkl_l, zkl_n, zrc_1, zrc_s, zcat_n, zcat_i, zcat_l, zcat_r, zkd_131, zkd_138, zln_138, zrf_131_17, Int.cast_ofNat_Int, Int.reduceAdd, zbd, zw_id, zmu_same, zmu_c, zmu_i, false_and, and_false, true_and, and_true, true_or, or_true, false_or, or_false, Option.toList, List.nil_append, List.cons_append, zif0, zif1, zif01, zem1, zem2, Int.reduceEq, Int.reduceLT, Int.reduceLE, Int.reduceNeg, Int.reduceSub, Int.reduceMul, if_true, if_false, not_false_eq_true, not_true_eq_false, true_implies, false_implies, Classical.not_not, Nat.reduceAdd, Nat.reduceLeDiff, zq202, gM_0 hQ.2.2.1, gM_1 hQ.2.2.1, gM_2 hQ.2.2.1, gM_3 hQ.2.2.1, gM_4 hQ.2.2.1, gM_5 hQ.2.2.1, gM_6 hQ.2.2.1, gM_7 hQ.2.2.1, gM_8 hQ.2.2.1, gM_9 hQ.2.2.1, gM_10 hQ.2.2.1, gM_r0 hQ.2.2.1, gM_r1 hQ.2.2.1, gM_r2 hQ.2.2.1, gM_r3 hQ.2.2.1, gM_f0 hQ.2.2.1, gM_f1 hQ.2.2.1, gM_f2 hQ.2.2.1, gM_f3 hQ.2.2.1, gM_f4 hQ.2.2.1]
    (first | exact hY0 | exact ⟨rfl, hY0⟩)
  · rw [if_neg c1]
    simp +contextual (disch := (first | omega | assumption | decide)) only [↓zbrT, ↓zbrF, zw233_0, zw233_1, zw233_2, zw233_4, zw233_5, zw233_6, zw233_7, zw233_8, zw233_9, zr_1, zr_3, zr_4, zr_7, zr_10, zr_12, zr_13, zr_16, zr_32, zr_34, zr_53, zr_54, zr_58, zr_61, zr_62, zr_68, zr_69, zr_70, zr_73, zlg_0, zlg_s, zls_0, zls_1, zls_s, zkl_i, zkl_r, zkl_l, zkl_n, zrc_1, zrc_s, zcat_n, zcat_i, zcat_l, zcat_r, zkd_131, zkd_138, zln_138, zrf_131_17, Int.cast_ofNat_Int, Int.reduceAdd, zbd, zw_id, zmu_same, zmu_c, zmu_i, false_and, and_false, true_and, and_true, true_or, or_true, false_or, or_false, Option.toList, List.nil_append, List.cons_append, zif0, zif1, zif01, zem1, zem2, Int.reduceEq, Int.reduceLT, Int.reduceLE, Int.reduceNeg, Int.reduceSub, Int.reduceMul, if_true, if_false, not_false_eq_true, not_true_eq_false, true_implies, false_implies, Classical.not_not, Nat.reduceAdd, Nat.reduceLeDiff, zq202, gM_0 hQ.2.2.1, gM_1 hQ.2.2.1, gM_2 hQ.2.2.1, gM_3 hQ.2.2.1, gM_4 hQ.2.2.1, gM_5 hQ.2.2.1, gM_6 hQ.2.2.1, gM_7 hQ.2.2.1, gM_8 hQ.2.2.1, gM_9 hQ.2.2.1, gM_10 hQ.2.2.1, gM_r0 hQ.2.2.1, gM_r1 hQ.2.2.1, gM_r2 hQ.2.2.1, gM_r3 hQ.2.2.1, gM_f0 hQ.2.2.1, gM_f1 hQ.2.2.1, gM_f2 hQ.2.2.1, gM_f3 hQ.2.2.1, gM_f4 hQ.2.2.1]
    refine gK (gzL hQ0) rfl rfl (Nat.le_of_ble_eq_true rfl) ?_
    rintro _ m1 ⟨rfl, hL, hY⟩
    have hQ1 := gQ_y hQ0 hY
    have fin : gY m m1 := gY_tr hY0 hY
    simp +contextual (disch := (first | omega | assumption | decide)) only [↓zbrT, ↓zbrF, zw233_0, zw233_1, zw233_2, zw233_4, zw233_5, zw233_6, zw233_7, zw233_8, zw233_9, zr_1, zr_3, zr_4, zr_7, zr_10, zr_12, zr_13, zr_16, zr_32, zr_34, zr_53, zr_54, zr_58, zr_61, zr_62, zr_68, zr_69, zr_70, zr_73, zlg_0, zlg_s, zls_0, zls_1, zls_s, zkl_i, zkl_r, zkl_l, zkl_n, zrc_1, zrc_s, zcat_n, zcat_i, zcat_l, zcat_r, zkd_131, zkd_138, zln_138, zrf_131_17, Int.cast_ofNat_Int, Int.reduceAdd, zbd, zw_id, zmu_same, zmu_c, zmu_i, false_and, and_false, true_and, and_true, true_or, or_true, false_or, or_false, Option.toList, List.nil_append, List.cons_append, zif0, zif1, zif01, zem1, zem2, Int.reduceEq, Int.reduceLT, Int.reduceLE, Int.reduceNeg, Int.reduceSub, Int.reduceMul, if_true, if_false, not_false_eq_true, not_true_eq_false, true_implies, false_implies, Classical.not_not, Nat.reduceAdd, Nat.reduceLeDiff]
    refine zfor (V 0 5) (fun r lc m' => 0 ≤ r ∧ lc = [some (.inr (.inr 131)), some (.inl (gBt (fun r => zbit (gSn V 4) r = 1 ∧ gUs V r (V 0 6).toNat = 0) r.toNat)), some (.inl r)] ∧ gEw m1 m') ?_ ?_ (i := 0) (by omega) ?_
    · rintro r lc m' hr ⟨h0', rfl, hW⟩ kk
      have hM1 := gEw_mo hW hQ1.2.2.1
      have hL1 := gL_w hL hW
      rw [zw233_3]
      by_cases z1 : zbit (gSn V 4) r = 1
      · simp +contextual (disch := (first | omega | assumption | decide)) only [↓zbrT, ↓zbrF, zw233_0, zw233_1, zw233_2, zw233_4, zw233_5, zw233_6, zw233_7, zw233_8, zw233_9, zr_1, zr_3, zr_4, zr_7, zr_10, zr_12, zr_13, zr_16, zr_32, zr_34, zr_53, zr_54, zr_58, zr_61, zr_62, zr_68, zr_69, zr_70, zr_73, zlg_0, zlg_s, zls_0, zls_1, zls_s, zkl_i, zkl_r, zkl_l, zkl_n, zrc_1, zrc_s, zcat_n, zcat_i, zcat_l, zcat_r, zkd_131, zkd_138, zln_138, zrf_131_17, Int.cast_ofNat_Int, Int.reduceAdd, zbd, zw_id, zmu_same, zmu_c, zmu_i, false_and, and_false, true_and, and_true, true_or, or_true, false_or, or_false, Option.toList, List.nil_append, List.cons_append, zif0, zif1, zif01, zem1, zem2, Int.reduceEq, Int.reduceLT, Int.reduceLE, Int.reduceNeg, Int.reduceSub, Int.reduceMul, if_true, if_false, not_false_eq_true, not_true_eq_false, true_implies, false_implies, Classical.not_not, Nat.reduceAdd, Nat.reduceLeDiff, gM_0 hM1, gM_1 hM1, gM_2 hM1, gM_3 hM1, gM_4 hM1, gM_5 hM1, gM_6 hM1, gM_7 hM1, gM_8 hM1, gM_9 hM1, gM_10 hM1, gM_r0 hM1, gM_r1 hM1, gM_r2 hM1, gM_r3 hM1, gM_f0 hM1, gM_f1 hM1, gM_f2 hM1, gM_f3 hM1, gM_f4 hM1, gL_4 hL1, zq207, z1]
        refine gK (gz229 hQ.1 hM1 hL1 b4) rfl rfl (Nat.le_of_ble_eq_true rfl) ?_
        rintro _ m2 ⟨rfl, hW2⟩
        by_cases z2 : gUs V r (V 0 6).toNat = 0
        · simp +contextual (disch := (first | omega | assumption | decide)) only [↓zbrT, ↓zbrF, zw233_0, zw233_1, zw233_2, zw233_4, zw233_5, zw233_6, zw233_7, zw233_8, zw233_9, zr_1, zr_3, zr_4, zr_7, zr_10, zr_12, zr_13, zr_16, zr_32, zr_34, zr_53, zr_54, zr_58, zr_61, zr_62, zr_68, zr_69, zr_70, zr_73, zlg_0, zlg_s, zls_0, zls_1, zls_s, zkl_i, zkl_r, zkl_l, zkl_n, zrc_1, zrc_s, zcat_n, zcat_i, zcat_l, zcat_r, zkd_131, zkd_138, zln_138, zrf_131_17, Int.cast_ofNat_Int, Int.reduceAdd, zbd, zw_id, zmu_same, zmu_c, zmu_i, false_and, and_false, true_and, and_true, true_or, or_true, false_or, or_false, Option.toList, List.nil_append, List.cons_append, zif0, zif1, zif01, zem1, zem2, Int.reduceEq, Int.reduceLT, Int.reduceLE, Int.reduceNeg, Int.reduceSub, Int.reduceMul, if_true, if_false, not_false_eq_true, not_true_eq_false, true_implies, false_implies, Classical.not_not, Nat.reduceAdd, Nat.reduceLeDiff, z2, zshl_1]
          refine kk _ _ ⟨by omega, ?_, gEw_tr hW hW2⟩
          rw [gBt_s h0', if_pos ⟨z1, z2⟩]
        · simp +contextual (disch := (first | omega | assumption | decide)) only [↓zbrT, ↓zbrF, zw233_0, zw233_1, zw233_2, zw233_4, zw233_5, zw233_6, zw233_7, zw233_8, zw233_9, zr_1, zr_3, zr_4, zr_7, zr_10, zr_12, zr_13, zr_16, zr_32, zr_34, zr_53, zr_54, zr_58, zr_61, zr_62, zr_68, zr_69, zr_70, zr_73, zlg_0, zlg_s, zls_0, zls_1, zls_s, zkl_i, zkl_r, zkl_l, zkl_n, zrc_1, zrc_s, zcat_n, zcat_i, zcat_l, zcat_r, zkd_131, zkd_138, zln_138, zrf_131_17, Int.cast_ofNat_Int, Int.reduceAdd, zbd, zw_id, zmu_same, zmu_c, zmu_i, false_and, and_false, true_and, and_true, true_or, or_true, false_or, or_false, Option.toList, List.nil_append, List.cons_append, zif0, zif1, zif01, zem1, zem2, Int.reduceEq, Int.reduceLT, Int.reduceLE, Int.reduceNeg, Int.reduceSub, Int.reduceMul, if_true, if_false, not_false_eq_true, not_true_eq_false, true_implies, false_implies, Classical.not_not, Nat.reduceAdd, Nat.reduceLeDiff, z2, zshl_1]
          refine kk _ _ ⟨by omega, ?_, gEw_tr hW hW2⟩
          rw [gBt_s h0', if_neg (fun q => z2 q.2)]
      · have z0 : zbit (gSn V 4) r = 0 := by have := zbit_01 (gSn V 4) r; omega
        simp +contextual (disch := (first | omega | assumption | decide)) only [↓zbrT, ↓zbrF, zw233_0, zw233_1, zw233_2, zw233_4, zw233_5, zw233_6, zw233_7, zw233_8, zw233_9, zr_1, zr_3, zr_4, zr_7, zr_10, zr_12, zr_13, zr_16, zr_32, zr_34, zr_53, zr_54, zr_58, zr_61, zr_62, zr_68, zr_69, zr_70, zr_73, zlg_0, zlg_s, zls_0, zls_1, zls_s, zkl_i, zkl_r, zkl_l, zkl_n, zrc_1, zrc_s, zcat_n, zcat_i, zcat_l, zcat_r, zkd_131, zkd_138, zln_138, zrf_131_17, Int.cast_ofNat_Int, Int.reduceAdd, zbd, zw_id, zmu_same, zmu_c, zmu_i, false_and, and_false, true_and, and_true, true_or, or_true, false_or, or_false, Option.toList, List.nil_append, List.cons_append, zif0, zif1, zif01, zem1, zem2, Int.reduceEq, Int.reduceLT, Int.reduceLE, Int.reduceNeg, Int.reduceSub, Int.reduceMul, if_true, if_false, not_false_eq_true, not_true_eq_false, true_implies, false_implies, Classical.not_not, Nat.reduceAdd, Nat.reduceLeDiff, gM_0 hM1, gM_1 hM1, gM_2 hM1, gM_3 hM1, gM_4 hM1, gM_5 hM1, gM_6 hM1, gM_7 hM1, gM_8 hM1, gM_9 hM1, gM_10 hM1, gM_r0 hM1, gM_r1 hM1, gM_r2 hM1, gM_r3 hM1, gM_f0 hM1, gM_f1 hM1, gM_f2 hM1, gM_f3 hM1, gM_f4 hM1, gL_4 hL1, zq207, z0]
        refine kk _ _ ⟨by omega, ?_, hW⟩
        rw [gBt_s h0', if_neg (fun q => z1 q.1)]
    · rintro lc m' ⟨h0', rfl, hW⟩
      have hM1 := gEw_mo hW hQ1.2.2.1
      rw [zw233_3]
      simp +contextual (disch := (first | omega | assumption | decide)) only [↓zbrT, ↓zbrF, zw233_0, zw233_1, zw233_2, zw233_4, zw233_5, zw233_6, zw233_7, zw233_8, zw233_9, zr_1, zr_3, zr_4, zr_7, zr_10, zr_12, zr_13, zr_16, zr_32, zr_34, zr_53, zr_54, zr_58, zr_61, zr_62, zr_68, zr_69, zr_70, zr_73, zlg_0, zlg_s, zls_0, zls_1, zls_s, zkl_i, zkl_r, zkl_l, zkl_n, zrc_1, zrc_s, zcat_n, zcat_i, zcat_l, zcat_r, zkd_131, zkd_138, zln_138, zrf_131_17, Int.cast_ofNat_Int, Int.reduceAdd, zbd, zw_id, zmu_same, zmu_c, zmu_i, false_and, and_false, true_and, and_true, true_or, or_true, false_or, or_false, Option.toList, List.nil_append, List.cons_append, zif0, zif1, zif01, zem1, zem2, Int.reduceEq, Int.reduceLT, Int.reduceLE, Int.reduceNeg, Int.reduceSub, Int.reduceMul, if_true, if_false, not_false_eq_true, not_true_eq_false, true_implies, false_implies, Classical.not_not, Nat.reduceAdd, Nat.reduceLeDiff, gM_0 hM1, gM_1 hM1, gM_2 hM1, gM_3 hM1, gM_4 hM1, gM_5 hM1, gM_6 hM1, gM_7 hM1, gM_8 hM1, gM_9 hM1, gM_10 hM1, gM_r0 hM1, gM_r1 hM1, gM_r2 hM1, gM_r3 hM1, gM_f0 hM1, gM_f1 hM1, gM_f2 hM1, gM_f3 hM1, gM_f4 hM1]
      exact gY_tr fin (gY_w hW)
    · exact ⟨by decide, rfl, gEw_refl⟩
