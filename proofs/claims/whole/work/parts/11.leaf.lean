/-! ===== small methods that change nothing: their calls may be rewritten ===== -/
theorem zq7 {d : Nat} {m : zMm} {p q : Int} {rest : List zV} {k : List zV → zMm → Prop} (hp : 0 ≤ p ∧ p < 1000) (hq : 0 ≤ q ∧ q < 1000) : zcl (zEx (d + 1)) 7 2 (.inl q :: .inl p :: rest) m k = (zcat rest ≤ 8 ∧ k (.inl (p * 6 + q) :: rest) m) := by
  refine zcl_eq (as := [.inl p, .inl q]) (r := some (.inl (p * 6 + q))) (zC_eq.mp (ze7 ?_)) rfl rfl
  simp (disch := omega) only [zw7_0, zr_1, zr_7, zr_26, zr_28, zr_70, zlg_0, zlg_s, Int.cast_ofNat_Int, zw_id, true_and, and_true, true_or, or_true, Option.toList, List.nil_append, List.cons_append]
theorem zq75 {d : Nat} {m : zMm} {p : Int} {rest : List zV} {k : List zV → zMm → Prop} : zcl (zEx (d + 1)) 75 2 (.inl p :: .inr (.inr 0) :: rest) m k = (zcat rest ≤ 8 ∧ k (.inl (if 0 ≤ p ∧ p < m 21 1 then 1 else 0) :: rest) m) := by
  refine zcl_eq (as := [.inr (.inr 0), .inl p]) (r := some (.inl (if 0 ≤ p ∧ p < m 21 1 then 1 else 0))) (zC_eq.mp (ze75 ?_)) rfl rfl
  simp (disch := omega) only [zw75_0, zw75_1, zw75_2, zw75_3, zw75_4, zr_1, zr_3, zr_7, zr_10, zr_12, zr_54, zr_58, zr_63, zr_73, zr_76, zlg_0, zlg_s, zkd_0, zkd_105, zkd_21, zkd_3, zkd_67, zkd_86, zrf_0_3, Int.cast_ofNat_Int, Int.reduceAdd, true_and, and_true, true_or, or_true, Option.toList, List.nil_append, List.cons_append]
  trace_state
  sorry
theorem zq2 {d : Nat} {m : zMm} {p q : Int} {rest : List zV} {k : List zV → zMm → Prop} : zcl (zEx (d + 1)) 2 2 (.inl q :: .inl p :: rest) m k = (zcat rest ≤ 8 ∧ k (.inl (min p q) :: rest) m) := by
  refine zcl_eq (as := [.inl p, .inl q]) (r := some (.inl (min p q))) (zC_eq.mp (ze2 ?_)) rfl rfl
  simp (disch := omega) only [zw2_0, zw2_1, zw2_2, zw2_3, zr_1, zr_54, zr_59, zr_70, zr_73, zlg_0, zlg_s, Int.cast_ofNat_Int, true_and, and_true, true_or, or_true, Option.toList, List.nil_append, List.cons_append]
  trace_state
  sorry
theorem zq11 {d : Nat} {m : zMm} {p q : Int} {rest : List zV} {k : List zV → zMm → Prop} (hp : 0 ≤ p ∧ p < 6) (hq : 0 ≤ q ∧ q < 6) : zcl (zEx (d + 2)) 11 3 (.inl q :: .inl p :: .inr (.inr 20) :: rest) m k = (zcat rest ≤ 8 ∧ k (.inl (m 38 (p * 6 + q)) :: rest) m) := by
  refine zcl_eq (as := [.inr (.inr 20), .inl p, .inl q]) (r := some (.inl (m 38 (p * 6 + q)))) (zC_eq.mp (ze11 ?_)) rfl rfl
  simp (disch := omega) only [zw11_0, zr_1, zr_3, zr_12, zr_16, zr_69, zr_70, zlg_0, zlg_s, zcat_n, zcat_i, zcat_l, zcat_r, zkd_20, zkd_38, zln_38, zrf_20_1, Int.cast_ofNat_Int, Int.reduceAdd, zbd, true_and, and_true, true_or, or_true, Option.toList, List.nil_append, List.cons_append, zq7]
  trace_state
  sorry
