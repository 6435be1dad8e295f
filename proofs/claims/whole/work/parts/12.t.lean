theorem t3 {d : Nat} {m : zMm} {p q : Int} (hp : 0 ≤ p ∧ p < 1000) (hq : 0 ≤ q ∧ q < 1000) : zC (d+1) 7 [.inl p, .inl q] m (fun r m' => r = some (.inl (p * 6 + q)) ∧ m' = m) := by
  apply ze7
  simp (disch := omega) only [zw7_0, zr_1, zr_7, zr_26, zr_28, zr_70, zlg_0, zlg_s, Int.cast_ofNat_Int, zw_id, true_and, and_true, true_or, or_true, Option.toList, List.nil_append, List.cons_append]
