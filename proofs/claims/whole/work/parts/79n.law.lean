/-! ===== the law's loop ===== -/
theorem gSwt {P : Nat → Prop} (x : Int) (hb : ∀ b, b ∈ ([2, 4, 6, 8, 10, 12, 14, 16, 18, 20, 22, 24, 26, 28, 30, 32, 34, 36, 38, 40, 42, 44, 46, 48, 50, 52, 54, 56, 58, 60, 62, 64, 66, 68, 70, 72, 74, 76, 78, 80, 82, 84, 86, 88, 90, 92, 94, 96, 98, 100, 102, 104, 106, 108, 110, 112, 114, 116, 118, 120, 122, 124, 126, 128, 130] : List Nat) → P b) (hd : P 132) : P (zswt 7 x) := by
  by_cases c0 : x = 0
  · rw [c0, zsw7_0]; exact hb _ (by decide)
  by_cases c1 : x = 1
  · rw [c1, zsw7_1]; exact hb _ (by decide)
  by_cases c2 : x = 2
  · rw [c2, zsw7_2]; exact hb _ (by decide)
  by_cases c3 : x = 3
  · rw [c3, zsw7_3]; exact hb _ (by decide)
  by_cases c4 : x = 4
  · rw [c4, zsw7_4]; exact hb _ (by decide)
  by_cases c5 : x = 5
  · rw [c5, zsw7_5]; exact hb _ (by decide)
  by_cases c6 : x = 6
  · rw [c6, zsw7_6]; exact hb _ (by decide)
  by_cases c7 : x = 7
  · rw [c7, zsw7_7]; exact hb _ (by decide)
  by_cases c8 : x = 8
  · rw [c8, zsw7_8]; exact hb _ (by decide)
  by_cases c9 : x = 9
  · rw [c9, zsw7_9]; exact hb _ (by decide)
  by_cases c10 : x = 10
  · rw [c10, zsw7_10]; exact hb _ (by decide)
  by_cases c11 : x = 11
  · rw [c11, zsw7_11]; exact hb _ (by decide)
  by_cases c12 : x = 12
  · rw [c12, zsw7_12]; exact hb _ (by decide)
  by_cases c13 : x = 13
  · rw [c13, zsw7_13]; exact hb _ (by decide)
  by_cases c14 : x = 14
  · rw [c14, zsw7_14]; exact hb _ (by decide)
  by_cases c15 : x = 15
  · rw [c15, zsw7_15]; exact hb _ (by decide)
  by_cases c16 : x = 16
  · rw [c16, zsw7_16]; exact hb _ (by decide)
  by_cases c17 : x = 17
  · rw [c17, zsw7_17]; exact hb _ (by decide)
  by_cases c18 : x = 18
  · rw [c18, zsw7_18]; exact hb _ (by decide)
  by_cases c19 : x = 19
  · rw [c19, zsw7_19]; exact hb _ (by decide)
  by_cases c20 : x = 20
  · rw [c20, zsw7_20]; exact hb _ (by decide)
  by_cases c21 : x = 21
  · rw [c21, zsw7_21]; exact hb _ (by decide)
  by_cases c22 : x = 22
  · rw [c22, zsw7_22]; exact hb _ (by decide)
  by_cases c23 : x = 23
  · rw [c23, zsw7_23]; exact hb _ (by decide)
  by_cases c24 : x = 24
  · rw [c24, zsw7_24]; exact hb _ (by decide)
  by_cases c25 : x = 25
  · rw [c25, zsw7_25]; exact hb _ (by decide)
  by_cases c26 : x = 26
  · rw [c26, zsw7_26]; exact hb _ (by decide)
  by_cases c27 : x = 27
  · rw [c27, zsw7_27]; exact hb _ (by decide)
  by_cases c28 : x = 28
  · rw [c28, zsw7_28]; exact hb _ (by decide)
  by_cases c29 : x = 29
  · rw [c29, zsw7_29]; exact hb _ (by decide)
  by_cases c30 : x = 30
  · rw [c30, zsw7_30]; exact hb _ (by decide)
  by_cases c31 : x = 31
  · rw [c31, zsw7_31]; exact hb _ (by decide)
  by_cases c32 : x = 32
  · rw [c32, zsw7_32]; exact hb _ (by decide)
  by_cases c33 : x = 33
  · rw [c33, zsw7_33]; exact hb _ (by decide)
  by_cases c34 : x = 34
  · rw [c34, zsw7_34]; exact hb _ (by decide)
  by_cases c35 : x = 35
  · rw [c35, zsw7_35]; exact hb _ (by decide)
  by_cases c36 : x = 36
  · rw [c36, zsw7_36]; exact hb _ (by decide)
  by_cases c37 : x = 37
  · rw [c37, zsw7_37]; exact hb _ (by decide)
  by_cases c38 : x = 38
  · rw [c38, zsw7_38]; exact hb _ (by decide)
  by_cases c39 : x = 39
  · rw [c39, zsw7_39]; exact hb _ (by decide)
  by_cases c40 : x = 40
  · rw [c40, zsw7_40]; exact hb _ (by decide)
  by_cases c41 : x = 41
  · rw [c41, zsw7_41]; exact hb _ (by decide)
  by_cases c42 : x = 42
  · rw [c42, zsw7_42]; exact hb _ (by decide)
  by_cases c43 : x = 43
  · rw [c43, zsw7_43]; exact hb _ (by decide)
  by_cases c44 : x = 44
  · rw [c44, zsw7_44]; exact hb _ (by decide)
  by_cases c45 : x = 45
  · rw [c45, zsw7_45]; exact hb _ (by decide)
  by_cases c46 : x = 46
  · rw [c46, zsw7_46]; exact hb _ (by decide)
  by_cases c47 : x = 47
  · rw [c47, zsw7_47]; exact hb _ (by decide)
  by_cases c48 : x = 48
  · rw [c48, zsw7_48]; exact hb _ (by decide)
  by_cases c49 : x = 49
  · rw [c49, zsw7_49]; exact hb _ (by decide)
  by_cases c50 : x = 50
  · rw [c50, zsw7_50]; exact hb _ (by decide)
  by_cases c51 : x = 51
  · rw [c51, zsw7_51]; exact hb _ (by decide)
  by_cases c52 : x = 52
  · rw [c52, zsw7_52]; exact hb _ (by decide)
  by_cases c53 : x = 53
  · rw [c53, zsw7_53]; exact hb _ (by decide)
  by_cases c54 : x = 54
  · rw [c54, zsw7_54]; exact hb _ (by decide)
  by_cases c55 : x = 55
  · rw [c55, zsw7_55]; exact hb _ (by decide)
  by_cases c56 : x = 56
  · rw [c56, zsw7_56]; exact hb _ (by decide)
  by_cases c57 : x = 57
  · rw [c57, zsw7_57]; exact hb _ (by decide)
  by_cases c58 : x = 58
  · rw [c58, zsw7_58]; exact hb _ (by decide)
  by_cases c59 : x = 59
  · rw [c59, zsw7_59]; exact hb _ (by decide)
  by_cases c60 : x = 60
  · rw [c60, zsw7_60]; exact hb _ (by decide)
  by_cases c61 : x = 61
  · rw [c61, zsw7_61]; exact hb _ (by decide)
  by_cases c62 : x = 62
  · rw [c62, zsw7_62]; exact hb _ (by decide)
  by_cases c63 : x = 63
  · rw [c63, zsw7_63]; exact hb _ (by decide)
  by_cases c64 : x = 64
  · rw [c64, zsw7_64]; exact hb _ (by decide)
  by_cases cl : x < 0
  · rw [zsw7_l cl]; exact hd
  rw [zsw7_h (by omega)]; exact hd
theorem gBall {d : Nat} {m : zMm} {Q : Option zV → zMm → Prop} {i : Int} (hw : gIw m) (hs : gSr m) (hi : 0 ≤ i ∧ i + 6 ≤ m (-2) (-1)) (kk : ∀ m', gIw m' → gScr m m' → zWP (zXs (d + 90)) 311 132 [some (.inr (.inr (-2))), some (.inr (.inr 0)), some (.inr (.inr 131)), some (.inl i)] [] m' Q) : ∀ b, b ∈ ([2, 4, 6, 8, 10, 12, 14, 16, 18, 20, 22, 24, 26, 28, 30, 32, 34, 36, 38, 40, 42, 44, 46, 48, 50, 52, 54, 56, 58, 60, 62, 64, 66, 68, 70, 72, 74, 76, 78, 80, 82, 84, 86, 88, 90, 92, 94, 96, 98, 100, 102, 104, 106, 108, 110, 112, 114, 116, 118, 120, 122, 124, 126, 128, 130] : List Nat) → zWP (zXs (d + 90)) 311 b [some (.inr (.inr (-2))), some (.inr (.inr 0)), some (.inr (.inr 131)), some (.inl i)] [] m Q := by
  intro b hb
  simp only [List.mem_cons, List.not_mem_nil, or_false] at hb
  rcases hb with rfl | rfl | rfl | rfl | rfl | rfl | rfl | rfl | rfl | rfl | rfl | rfl | rfl | rfl | rfl | rfl | rfl | rfl | rfl | rfl | rfl | rfl | rfl | rfl | rfl | rfl | rfl | rfl | rfl | rfl | rfl | rfl | rfl | rfl | rfl | rfl | rfl | rfl | rfl | rfl | rfl | rfl | rfl | rfl | rfl | rfl | rfl | rfl | rfl | rfl | rfl | rfl | rfl | rfl | rfl | rfl | rfl | rfl | rfl | rfl | rfl | rfl | rfl | rfl | rfl
  · exact gB2 hw hs hi kk
  · exact gB4 hw hs hi kk
  · exact gB6 hw hs hi kk
  · exact gB8 hw hs hi kk
  · exact gB10 hw hs hi kk
  · exact gB12 hw hs hi kk
  · exact gB14 hw hs hi kk
  · exact gB16 hw hs hi kk
  · exact gB18 hw hs hi kk
  · exact gB20 hw hs hi kk
  · exact gB22 hw hs hi kk
  · exact gB24 hw hs hi kk
  · exact gB26 hw hs hi kk
  · exact gB28 hw hs hi kk
  · exact gB30 hw hs hi kk
  · exact gB32 hw hs hi kk
  · exact gB34 hw hs hi kk
  · exact gB36 hw hs hi kk
  · exact gB38 hw hs hi kk
  · exact gB40 hw hs hi kk
  · exact gB42 hw hs hi kk
  · exact gB44 hw hs hi kk
  · exact gB46 hw hs hi kk
  · exact gB48 hw hs hi kk
  · exact gB50 hw hs hi kk
  · exact gB52 hw hs hi kk
  · exact gB54 hw hs hi kk
  · exact gB56 hw hs hi kk
  · exact gB58 hw hs hi kk
  · exact gB60 hw hs hi kk
  · exact gB62 hw hs hi kk
  · exact gB64 hw hs hi kk
  · exact gB66 hw hs hi kk
  · exact gB68 hw hs hi kk
  · exact gB70 hw hs hi kk
  · exact gB72 hw hs hi kk
  · exact gB74 hw hs hi kk
  · exact gB76 hw hs hi kk
  · exact gB78 hw hs hi kk
  · exact gB80 hw hs hi kk
  · exact gB82 hw hs hi kk
  · exact gB84 hw hs hi kk
  · exact gB86 hw hs hi kk
  · exact gB88 hw hs hi kk
  · exact gB90 hw hs hi kk
  · exact gB92 hw hs hi kk
  · exact gB94 hw hs hi kk
  · exact gB96 hw hs hi kk
  · exact gB98 hw hs hi kk
  · exact gB100 hw hs hi kk
  · exact gB102 hw hs hi kk
  · exact gB104 hw hs hi kk
  · exact gB106 hw hs hi kk
  · exact gB108 hw hs hi kk
  · exact gB110 hw hs hi kk
  · exact gB112 hw hs hi kk
  · exact gB114 hw hs hi kk
  · exact gB116 hw hs hi kk
  · exact gB118 hw hs hi kk
  · exact gB120 hw hs hi kk
  · exact gB122 hw hs hi kk
  · exact gB124 hw hs hi kk
  · exact gB126 hw hs hi kk
  · exact gB128 hw hs hi kk
  · exact gB130 hw hs hi kk
theorem gLaw {d : Nat} : ∀ (n : Nat) (i : Int) (m : zMm), gIw m → gSr m → (0 ≤ i ∧ i ≤ m (-2) (-1)) → m (-2) (-1) - i ≤ n → zWP (zXs (d + 90)) 311 0 [some (.inr (.inr (-2))), some (.inr (.inr 0)), some (.inr (.inr 131)), some (.inl i)] [] m (fun r' _ => r' = some (.inl 1))
  | n, i, m, hw, hs, hi, hn => by
    have hl := hs.1
    rw [zw311_0]
    by_cases c : m (-2) (-1) - 6 < i
    · simp +contextual (disch := (first | omega | assumption | decide)) only [↓zbrT, ↓zbrF, zw311_133, zr_1, zr_3, zr_7, zr_8, zr_26, zr_27, zr_31, zr_42, zr_43, zr_44, zr_45, zr_46, zr_53, zr_54, zr_55, zr_59, zr_61, zr_67, zr_68, zr_74, zr_75, zr_76, zlg_0, zlg_s, zls_0, zls_1, zls_s, zkl_i, zkl_r, zkl_l, zkl_n, zrc_1, zrc_s, zcat_n, zcat_i, zcat_l, zcat_r, zkd_0, zkd_131, Int.cast_ofNat_Int, Int.reduceAdd, zbd, zw_id, zsw7_0, zsw7_1, zsw7_2, zsw7_3, zsw7_4, zsw7_5, zsw7_6, zsw7_7, zsw7_8, zsw7_9, zsw7_10, zsw7_11, zsw7_12, zsw7_13, zsw7_14, zsw7_15, zsw7_16, zsw7_17, zsw7_18, zsw7_19, zsw7_20, zsw7_21, zsw7_22, zsw7_23, zsw7_24, zsw7_25, zsw7_26, zsw7_27, zsw7_28, zsw7_29, zsw7_30, zsw7_31, zsw7_32, zsw7_33, zsw7_34, zsw7_35, zsw7_36, zsw7_37, zsw7_38, zsw7_39, zsw7_40, zsw7_41, zsw7_42, zsw7_43, zsw7_44, zsw7_45, zsw7_46, zsw7_47, zsw7_48, zsw7_49, zsw7_50, zsw7_51, zsw7_52, zsw7_53, zsw7_54, zsw7_55, zsw7_56, zsw7_57, zsw7_58, zsw7_59, zsw7_60, zsw7_61, zsw7_62, zsw7_63, zsw7_64, zsw7_l, zsw7_h, zlc_lt, zlc_ge, zlc_gt, zlc_le, zlc_eq, false_and, and_false, true_and, and_true, true_or, or_true, false_or, or_false, Option.toList, List.nil_append, List.cons_append, zif0, zif1, zif01, zem1, zem2, Int.reduceEq, Int.reduceLT, Int.reduceLE, Int.reduceNeg, Int.reduceSub, Int.reduceMul, if_true, if_false, not_false_eq_true, not_true_eq_false, true_implies, false_implies, Classical.not_not, Nat.reduceAdd, Nat.reduceLeDiff]
    · cases n with
      | zero => omega
      | succ n =>
        simp +contextual (disch := (first | omega | assumption | decide)) only [↓zbrT, ↓zbrF, zw311_1, zr_1, zr_3, zr_7, zr_8, zr_26, zr_27, zr_31, zr_42, zr_43, zr_44, zr_45, zr_46, zr_53, zr_54, zr_55, zr_59, zr_61, zr_67, zr_68, zr_74, zr_75, zr_76, zlg_0, zlg_s, zls_0, zls_1, zls_s, zkl_i, zkl_r, zkl_l, zkl_n, zrc_1, zrc_s, zcat_n, zcat_i, zcat_l, zcat_r, zkd_0, zkd_131, Int.cast_ofNat_Int, Int.reduceAdd, zbd, zw_id, zsw7_0, zsw7_1, zsw7_2, zsw7_3, zsw7_4, zsw7_5, zsw7_6, zsw7_7, zsw7_8, zsw7_9, zsw7_10, zsw7_11, zsw7_12, zsw7_13, zsw7_14, zsw7_15, zsw7_16, zsw7_17, zsw7_18, zsw7_19, zsw7_20, zsw7_21, zsw7_22, zsw7_23, zsw7_24, zsw7_25, zsw7_26, zsw7_27, zsw7_28, zsw7_29, zsw7_30, zsw7_31, zsw7_32, zsw7_33, zsw7_34, zsw7_35, zsw7_36, zsw7_37, zsw7_38, zsw7_39, zsw7_40, zsw7_41, zsw7_42, zsw7_43, zsw7_44, zsw7_45, zsw7_46, zsw7_47, zsw7_48, zsw7_49, zsw7_50, zsw7_51, zsw7_52, zsw7_53, zsw7_54, zsw7_55, zsw7_56, zsw7_57, zsw7_58, zsw7_59, zsw7_60, zsw7_61, zsw7_62, zsw7_63, zsw7_64, zsw7_l, zsw7_h, zlc_lt, zlc_ge, zlc_gt, zlc_le, zlc_eq, false_and, and_false, true_and, and_true, true_or, or_true, false_or, or_false, Option.toList, List.nil_append, List.cons_append, zif0, zif1, zif01, zem1, zem2, Int.reduceEq, Int.reduceLT, Int.reduceLE, Int.reduceNeg, Int.reduceSub, Int.reduceMul, if_true, if_false, not_false_eq_true, not_true_eq_false, true_implies, false_implies, Classical.not_not, Nat.reduceAdd, Nat.reduceLeDiff]
        refine gSwt (P := fun b => zWP (zXs (d + 90)) 311 b [some (.inr (.inr (-2))), some (.inr (.inr 0)), some (.inr (.inr 131)), some (.inl i)] [] m (fun r' _ => r' = some (.inl 1))) _ (gBall hw hs (by omega) ?_) ?_
        · intro m' hw' hs'
          have e := hs' (-1)
          rw [zw311_132]
          simp +contextual (disch := (first | omega | assumption | decide)) only [↓zbrT, ↓zbrF, zr_1, zr_3, zr_7, zr_8, zr_26, zr_27, zr_31, zr_42, zr_43, zr_44, zr_45, zr_46, zr_53, zr_54, zr_55, zr_59, zr_61, zr_67, zr_68, zr_74, zr_75, zr_76, zlg_0, zlg_s, zls_0, zls_1, zls_s, zkl_i, zkl_r, zkl_l, zkl_n, zrc_1, zrc_s, zcat_n, zcat_i, zcat_l, zcat_r, zkd_0, zkd_131, Int.cast_ofNat_Int, Int.reduceAdd, zbd, zw_id, zsw7_0, zsw7_1, zsw7_2, zsw7_3, zsw7_4, zsw7_5, zsw7_6, zsw7_7, zsw7_8, zsw7_9, zsw7_10, zsw7_11, zsw7_12, zsw7_13, zsw7_14, zsw7_15, zsw7_16, zsw7_17, zsw7_18, zsw7_19, zsw7_20, zsw7_21, zsw7_22, zsw7_23, zsw7_24, zsw7_25, zsw7_26, zsw7_27, zsw7_28, zsw7_29, zsw7_30, zsw7_31, zsw7_32, zsw7_33, zsw7_34, zsw7_35, zsw7_36, zsw7_37, zsw7_38, zsw7_39, zsw7_40, zsw7_41, zsw7_42, zsw7_43, zsw7_44, zsw7_45, zsw7_46, zsw7_47, zsw7_48, zsw7_49, zsw7_50, zsw7_51, zsw7_52, zsw7_53, zsw7_54, zsw7_55, zsw7_56, zsw7_57, zsw7_58, zsw7_59, zsw7_60, zsw7_61, zsw7_62, zsw7_63, zsw7_64, zsw7_l, zsw7_h, zlc_lt, zlc_ge, zlc_gt, zlc_le, zlc_eq, false_and, and_false, true_and, and_true, true_or, or_true, false_or, or_false, Option.toList, List.nil_append, List.cons_append, zif0, zif1, zif01, zem1, zem2, Int.reduceEq, Int.reduceLT, Int.reduceLE, Int.reduceNeg, Int.reduceSub, Int.reduceMul, if_true, if_false, not_false_eq_true, not_true_eq_false, true_implies, false_implies, Classical.not_not, Nat.reduceAdd, Nat.reduceLeDiff]
          exact gLaw n (i + 6) m' hw' (gSr_of hs hs') (by omega) (by omega)
        · rw [zw311_132]
          simp +contextual (disch := (first | omega | assumption | decide)) only [↓zbrT, ↓zbrF, zr_1, zr_3, zr_7, zr_8, zr_26, zr_27, zr_31, zr_42, zr_43, zr_44, zr_45, zr_46, zr_53, zr_54, zr_55, zr_59, zr_61, zr_67, zr_68, zr_74, zr_75, zr_76, zlg_0, zlg_s, zls_0, zls_1, zls_s, zkl_i, zkl_r, zkl_l, zkl_n, zrc_1, zrc_s, zcat_n, zcat_i, zcat_l, zcat_r, zkd_0, zkd_131, Int.cast_ofNat_Int, Int.reduceAdd, zbd, zw_id, zsw7_0, zsw7_1, zsw7_2, zsw7_3, zsw7_4, zsw7_5, zsw7_6, zsw7_7, zsw7_8, zsw7_9, zsw7_10, zsw7_11, zsw7_12, zsw7_13, zsw7_14, zsw7_15, zsw7_16, zsw7_17, zsw7_18, zsw7_19, zsw7_20, zsw7_21, zsw7_22, zsw7_23, zsw7_24, zsw7_25, zsw7_26, zsw7_27, zsw7_28, zsw7_29, zsw7_30, zsw7_31, zsw7_32, zsw7_33, zsw7_34, zsw7_35, zsw7_36, zsw7_37, zsw7_38, zsw7_39, zsw7_40, zsw7_41, zsw7_42, zsw7_43, zsw7_44, zsw7_45, zsw7_46, zsw7_47, zsw7_48, zsw7_49, zsw7_50, zsw7_51, zsw7_52, zsw7_53, zsw7_54, zsw7_55, zsw7_56, zsw7_57, zsw7_58, zsw7_59, zsw7_60, zsw7_61, zsw7_62, zsw7_63, zsw7_64, zsw7_l, zsw7_h, zlc_lt, zlc_ge, zlc_gt, zlc_le, zlc_eq, false_and, and_false, true_and, and_true, true_or, or_true, false_or, or_false, Option.toList, List.nil_append, List.cons_append, zif0, zif1, zif01, zem1, zem2, Int.reduceEq, Int.reduceLT, Int.reduceLE, Int.reduceNeg, Int.reduceSub, Int.reduceMul, if_true, if_false, not_false_eq_true, not_true_eq_false, true_implies, false_implies, Classical.not_not, Nat.reduceAdd, Nat.reduceLeDiff]
          exact gLaw n (i + 6) m hw hs (by omega) (by omega)
