/-! ===== who, watch, leaves ===== -/
def gNr (V : zMm) (f g : Int) : Int := if gD V (vF V f 0) (vA V g) ≤ V 0 4 ∨ gD V (vF V f 0) (vB V g) ≤ V 0 4 then 1 else 0
theorem gNr_01 (V : zMm) (f g : Int) : gNr V f g = 0 ∨ gNr V f g = 1 := by unfold gNr; split <;> omega
def gNb (V : zMm) (g : Int) : Int := gBt (fun f => gNr V f g = 1) (V 0 6).toNat
theorem gNb_bd {V : zMm} (hV : gOk V) {g : Int} : 0 ≤ gNb V g ∧ gNb V g < 256 := gBt_bd _ (by have := hV.1; omega)
theorem gNb_bit {V : zMm} (hV : gOk V) {g j : Int} (h0 : 0 ≤ j) (h1 : j < 8) : zbit (gNb V g) j = if j < V 0 6 ∧ gNr V j g = 1 then 1 else 0 := by
  have hb := hV.1
  have := zbit_Bt (c := fun f => gNr V f g = 1) (V 0 6).toNat (by omega) j.toNat (by omega)
  rw [show ((j.toNat : Nat) : Int) = j by omega] at this
  unfold gNb
  rw [this]
  by_cases c : j < V 0 6 ∧ gNr V j g = 1
  · rw [if_pos c, if_pos ⟨by omega, c.2⟩]
  · rw [if_neg c, if_neg (fun z => c ⟨by omega, z.2⟩)]
theorem gBn_bit {V : zMm} (hV : gOk V) {p j : Int} (h0 : 0 ≤ j) (h1 : j < 8) : zbit (gBn V p (V 0 6).toNat) j = if j < V 0 6 ∧ gD V (vF V j 0) p ≤ V 0 4 then 1 else 0 := by
  have hb := hV.1
  have := zbit_Bt (c := fun f => gD V (vF V f 0) p ≤ V 0 4) (V 0 6).toNat (by omega) j.toNat (by omega)
  rw [show ((j.toNat : Nat) : Int) = j by omega] at this
  unfold gBn
  rw [this]
  by_cases c : j < V 0 6 ∧ gD V (vF V j 0) p ≤ V 0 4
  · rw [if_pos c, if_pos ⟨by omega, c.2⟩]
  · rw [if_neg c, if_neg (fun z => c ⟨by omega, z.2⟩)]
theorem zq154 {d : Nat} {m : zMm} {g : Int} {rest : List zV} {k : List zV → zMm → Prop} {V : zMm} (hA : gA V m) (hg : 0 ≤ g ∧ g < V 0 5) : zcl (zEx (d + 4)) 154 2 (.inl g :: .inr (.inr 0) :: rest) m k = (zcat rest ≤ 8 ∧ k (.inl (gNb V g) :: rest) m) := by
  refine zcl_eq (as := [.inr (.inr 0), .inl g]) (r := some (.inl (gNb V g))) (zC_eq.mp (ze154 ?_)) rfl rfl
  have hb := gA_b hA
  have b := hA.1.2.1 g hg.1 hg.2
  simp +contextual (disch := (first | omega | assumption | decide)) only [zw154_0, zr_1, zr_3, zr_6, zr_10, zr_12, zr_20, zr_32, zr_68, zr_70, zlg_0, zlg_s, zls_0, zls_1, zls_s, zkl_i, zkl_r, zkl_l, zkl_n, zrc_1, zrc_s, zcat_n, zcat_i, zcat_l, zcat_r, zkd_0, zkd_105, zkd_106, zkd_21, zkd_22, zkd_3, zkd_4, zkd_67, zkd_68, zkd_86, zkd_87, zkd_a106, zkd_a22, zkd_a4, zkd_a68, zkd_a87, zln_106, zln_22, zln_4, zln_68, zln_87, zrf_0_3, zrf_105_10, zrf_21_10, zrf_3_10, zrf_67_10, zrf_86_10, zrf_a106, zrf_a22, zrf_a4, zrf_a68, zrf_a87, Int.cast_ofNat_Int, Int.reduceAdd, zbd, false_and, and_false, true_and, and_true, true_or, or_true, false_or, or_false, Option.toList, List.nil_append, List.cons_append, zif0, zif1, zif01, zem1, zem2, Int.reduceEq, Int.reduceLT, Int.reduceLE, Int.reduceNeg, Int.reduceSub, Int.reduceMul, if_true, if_false, not_false_eq_true, not_true_eq_false, true_implies, false_implies, Classical.not_not, Nat.reduceAdd, Nat.reduceLeDiff, gA_0 hA.2.1, gA_1 hA.2.1, gA_2 hA.2.1, gA_3 hA.2.1, gA_4 hA.2.1, gA_5 hA.2.1, gA_6 hA.2.1, gA_7 hA.2.1, gA_8 hA.2.1, gA_9 hA.2.1, gA_r0 hA.2.1, gA_r1 hA.2.1, gA_r2 hA.2.1, gA_r3 hA.2.1, gA_f0 hA.2.1, gA_f1 hA.2.1, gA_f2 hA.2.1, gA_f3 hA.2.1, gA_f4 hA.2.1, gA_d hA, zq111 hA]
  congr 2
  have b1 := gBn_bd hA.1 (p := vA V g)
  have b2 := gBn_bd hA.1 (p := vB V g)
  refine zbit_ext (zor_bd b1 b2) (gNb_bd hA.1) (fun j a c => ?_)
  rw [zbit_or b1 b2 a, gBn_bit hA.1 a c, gBn_bit hA.1 a c, gNb_bit hA.1 a c]
  unfold gNr
  by_cases j1 : j < V 0 6
  · by_cases x : gD V (vF V j 0) (vA V g) ≤ V 0 4
    · have t1 : j < V 0 6 ∧ gD V (vF V j 0) (vA V g) ≤ V 0 4 := ⟨j1, x⟩
      have t3 : gD V (vF V j 0) (vA V g) ≤ V 0 4 ∨ gD V (vF V j 0) (vB V g) ≤ V 0 4 := Or.inl x
      rw [if_pos t1, if_pos (Or.inl rfl), if_pos t3, if_pos ⟨j1, rfl⟩]
    · by_cases y : gD V (vF V j 0) (vB V g) ≤ V 0 4
      · have t1 : ¬ (j < V 0 6 ∧ gD V (vF V j 0) (vA V g) ≤ V 0 4) := fun z => x z.2
        have t2 : j < V 0 6 ∧ gD V (vF V j 0) (vB V g) ≤ V 0 4 := ⟨j1, y⟩
        have t3 : gD V (vF V j 0) (vA V g) ≤ V 0 4 ∨ gD V (vF V j 0) (vB V g) ≤ V 0 4 := Or.inr y
        rw [if_neg t1, if_pos t2, if_pos (Or.inr rfl), if_pos t3, if_pos ⟨j1, rfl⟩]
      · have t1 : ¬ (j < V 0 6 ∧ gD V (vF V j 0) (vA V g) ≤ V 0 4) := fun z => x z.2
        have t2 : ¬ (j < V 0 6 ∧ gD V (vF V j 0) (vB V g) ≤ V 0 4) := fun z => y z.2
        have t3 : ¬ (gD V (vF V j 0) (vA V g) ≤ V 0 4 ∨ gD V (vF V j 0) (vB V g) ≤ V 0 4) := fun z => z.elim x y
        rw [if_neg t1, if_neg t2, if_neg (show ¬ ((0 : Int) = 1 ∨ (0 : Int) = 1) by omega), if_neg t3, if_neg (by omega)]
  · have t1 : ∀ P : Prop, ¬ (j < V 0 6 ∧ P) := fun P z => j1 z.1
    rw [if_neg (t1 _), if_neg (t1 _), if_neg (show ¬ ((0 : Int) = 1 ∨ (0 : Int) = 1) by omega), if_neg (t1 _)]
/-- the first number of a slot's row that a farmer doesn't live near -/
def gFw' (V U : zMm) (s f : Int) (k : Nat) : Int := gFst (fun i => gNr V f (U 2 (60 * s + i)) = 0) k
def gWh (V U : zMm) (s : Int) : Int := gBt (fun f => gFw' V U s f (U 1 s).toNat = -1) (V 0 6).toNat
theorem gFw_s {V U : zMm} {s f i : Int} (h : 0 ≤ i) : (gFw' V U s f (i + 1).toNat = -1) ↔ (gFw' V U s f i.toNat = -1 ∧ gNr V f (U 2 (60 * s + i)) = 1) := by
  have e : gFw' V U s f (i + 1).toNat = if gFw' V U s f i.toNat = -1 then (if gNr V f (U 2 (60 * s + i)) = 0 then i else -1) else gFw' V U s f i.toNat := by
    rw [show (i + 1).toNat = i.toNat + 1 by omega]
    show (if gFw' V U s f i.toNat = -1 then (if gNr V f (U 2 (60 * s + (i.toNat : Nat))) = 0 then ((i.toNat : Nat) : Int) else -1) else gFw' V U s f i.toNat) = _
    rw [show ((i.toNat : Nat) : Int) = i by omega]
  have q := gNr_01 V f (U 2 (60 * s + i))
  rw [e]
  by_cases a : gFw' V U s f i.toNat = -1
  · rw [if_pos a]
    by_cases b : gNr V f (U 2 (60 * s + i)) = 0
    · rw [if_pos b]; constructor
      · intro z; omega
      · intro z; omega
    · rw [if_neg b]; exact ⟨fun _ => ⟨a, by omega⟩, fun _ => rfl⟩
  · rw [if_neg a]; exact ⟨fun z => absurd z a, fun z => absurd z.1 a⟩
def gSq (V U : zMm) (s : Int) (k : Nat) : Int := gBt (fun f => gFw' V U s f k = -1) (V 0 6).toNat
theorem gSq_bd {V U : zMm} (hV : gOk V) {s : Int} {k : Nat} : 0 ≤ gSq V U s k ∧ gSq V U s k < 256 := gBt_bd _ (by have := hV.1; omega)
theorem gSq_bit {V U : zMm} (hV : gOk V) {s j : Int} {k : Nat} (h0 : 0 ≤ j) (h1 : j < 8) : zbit (gSq V U s k) j = if j < V 0 6 ∧ gFw' V U s j k = -1 then 1 else 0 := by
  have hb := hV.1
  have := zbit_Bt (c := fun f => gFw' V U s f k = -1) (V 0 6).toNat (by omega) j.toNat (by omega)
  rw [show ((j.toNat : Nat) : Int) = j by omega] at this
  unfold gSq
  rw [this]
  by_cases c : j < V 0 6 ∧ gFw' V U s j k = -1
  · rw [if_pos c, if_pos ⟨by omega, c.2⟩]
  · rw [if_neg c, if_neg (fun z => c ⟨by omega, z.2⟩)]
theorem gall_bits : ∀ k, k < 7 → ∀ j, j < 8 → zbit (2 ^ k - 1) (j : Nat) = if j < k then 1 else 0 := by decide
theorem gSq_0 {V U : zMm} (hV : gOk V) {s : Int} : gSq V U s 0 = 2 ^ (V 0 6).toNat - 1 := by
  have hb := hV.1
  have hp := gp6 hV
  refine zbit_ext (gSq_bd hV) (by omega) (fun j a b => ?_)
  have q := gall_bits (V 0 6).toNat (by omega) j.toNat (by omega)
  rw [show ((j.toNat : Nat) : Int) = j by omega] at q
  rw [gSq_bit hV a b, q]
  by_cases c : j < V 0 6
  · rw [if_pos ⟨c, rfl⟩, if_pos (by omega)]
  · rw [if_neg (fun z => c z.1), if_neg (by omega)]
theorem gSq_s {V U : zMm} (hV : gOk V) {s i : Int} (h : 0 ≤ i) : zand (gSq V U s i.toNat) (gNb V (U 2 (60 * s + i))) = gSq V U s (i + 1).toNat := by
  have b1 := gSq_bd (U := U) hV (s := s) (k := i.toNat)
  have b2 := gNb_bd hV (g := U 2 (60 * s + i))
  refine zbit_ext (by have := zand_bd b1 b2; omega) (gSq_bd hV) (fun j a b => ?_)
  rw [zbit_and b1 b2 a, gSq_bit hV a b, gSq_bit hV a b, gNb_bit hV a b]
  have q := gFw_s (V := V) (U := U) (s := s) (f := j) h
  by_cases c : j < V 0 6
  · by_cases x : gFw' V U s j i.toNat = -1
    · by_cases y : gNr V j (U 2 (60 * s + i)) = 1
      · have t1 : j < V 0 6 ∧ gFw' V U s j i.toNat = -1 := ⟨c, x⟩
        have t2 : j < V 0 6 ∧ gNr V j (U 2 (60 * s + i)) = 1 := ⟨c, y⟩
        have t3 : j < V 0 6 ∧ gFw' V U s j (i + 1).toNat = -1 := ⟨c, q.mpr ⟨x, y⟩⟩
        rw [if_pos t1, if_pos t2, if_pos t3]; rfl
      · have t2 : ¬ (j < V 0 6 ∧ gNr V j (U 2 (60 * s + i)) = 1) := fun z => y z.2
        have t3 : ¬ (j < V 0 6 ∧ gFw' V U s j (i + 1).toNat = -1) := fun z => y (q.mp z.2).2
        rw [if_neg t2, if_neg t3, if_neg (by omega)]
    · have t1 : ¬ (j < V 0 6 ∧ gFw' V U s j i.toNat = -1) := fun z => x z.2
      have t3 : ¬ (j < V 0 6 ∧ gFw' V U s j (i + 1).toNat = -1) := fun z => x (q.mp z.2).1
      rw [if_neg t1, if_neg t3, if_neg (by omega)]
  · have t1 : ¬ (j < V 0 6 ∧ gFw' V U s j i.toNat = -1) := fun z => c z.1
    have t3 : ¬ (j < V 0 6 ∧ gFw' V U s j (i + 1).toNat = -1) := fun z => c z.1
    rw [if_neg t1, if_neg t3, if_neg (by omega)]
theorem zq155 {d : Nat} {m V U : zMm} {s : Int} {rest : List zV} {k : List zV → zMm → Prop} (hI : gI V m) (hk : gUk U) (hu : gCu U m) (hs : 0 ≤ s ∧ s < 4) (hok : gBd V U s 0 (U 1 s).toNat = -1) : zcl (zEx (d + 5)) 155 2 (.inr (.inr (123 + 2 * s)) :: .inr (.inr 0) :: rest) m k = (zcat rest ≤ 8 ∧ k (.inl (gWh V U s) :: rest) m) := by
  refine zcl_eq (as := [.inr (.inr 0), .inr (.inr (123 + 2 * s))]) (r := some (.inl (gWh V U s))) (zC_eq.mp (ze155 ?_)) rfl rfl
  have kk := hk s hs.1 hs.2
  have q := hu s hs.1 hs.2
  have hb := hI.1.1.1
  have h9 : 0 ≤ m 21 9 ∧ m 21 9 ≤ 6 := by rw [gA_9 hI.1.2.1]; omega
  have z2 := zkd_a65 hs.1 hs.2
  have z3 := zrf_a65_0 hs.1 hs.2
  have z4 := zkd_a65_0 hs.1 hs.2
  have z5 := zln_a65_0 hs.1 hs.2
  simp +contextual (disch := (first | omega | assumption | decide)) only [↓zbrT, ↓zbrF, zw155_0, zw155_2, zw155_3, zr_1, zr_3, zr_4, zr_7, zr_10, zr_12, zr_19, zr_31, zr_47, zr_53, zr_54, zr_58, zr_68, zr_70, zr_73, zlg_0, zlg_s, zls_0, zls_1, zls_s, zkl_i, zkl_r, zkl_l, zkl_n, zrc_1, zrc_s, zcat_n, zcat_i, zcat_l, zcat_r, zkd_0, zkd_105, zkd_123, zkd_124, zkd_125, zkd_126, zkd_127, zkd_128, zkd_129, zkd_130, zkd_21, zkd_3, zkd_67, zkd_86, zkd_a65, zkd_a65_0, zln_124, zln_126, zln_128, zln_130, zln_a65_0, zrf_0_3, zrf_123_0, zrf_125_0, zrf_127_0, zrf_129_0, zrf_a65_0, Int.cast_ofNat_Int, Int.reduceAdd, zbd, zw_id, false_and, and_false, true_and, and_true, true_or, or_true, false_or, or_false, Option.toList, List.nil_append, List.cons_append, zif0, zif1, zif01, zem1, zem2, Int.reduceEq, Int.reduceLT, Int.reduceLE, Int.reduceNeg, Int.reduceSub, Int.reduceMul, if_true, if_false, not_false_eq_true, not_true_eq_false, true_implies, false_implies, Classical.not_not, Nat.reduceAdd, Nat.reduceLeDiff, zq36 rfl h9, gA_0 hI.1.2.1, gA_1 hI.1.2.1, gA_2 hI.1.2.1, gA_3 hI.1.2.1, gA_4 hI.1.2.1, gA_5 hI.1.2.1, gA_6 hI.1.2.1, gA_7 hI.1.2.1, gA_8 hI.1.2.1, gA_9 hI.1.2.1, gA_r0 hI.1.2.1, gA_r1 hI.1.2.1, gA_r2 hI.1.2.1, gA_r3 hI.1.2.1, gA_f0 hI.1.2.1, gA_f1 hI.1.2.1, gA_f2 hI.1.2.1, gA_f3 hI.1.2.1, gA_f4 hI.1.2.1, gA_d hI.1, gI_s0 hI, gI_s1 hI, gI_s2 hI, gI_s3 hI, gI_s4 hI, gI_s5 hI, gI_n hI, ← gSq_0 (U := U) (s := s) hI.1.1]
  refine zfor (U 1 s) (fun i lc m' => 0 ≤ i ∧ lc = [some (.inr (.inr 0)), some (.inr (.inr (123 + 2 * s))), some (.inl (gSq V U s i.toNat)), some (.inl i)] ∧ m' = m) ?_ ?_ (i := 0) kk.2.1 ?_
  · rintro i lc m' hi ⟨h0, rfl, rfl⟩ k2
    have e := q.2.2 i h0 hi
    have bx := gBd_ok hok h0 (by omega)
    have es := gSq_s (U := U) hI.1.1 (s := s) h0
    rw [zw155_1]
    simp +contextual (disch := (first | omega | assumption | decide)) only [↓zbrT, ↓zbrF, zw155_0, zw155_2, zw155_3, zr_1, zr_3, zr_4, zr_7, zr_10, zr_12, zr_19, zr_31, zr_47, zr_53, zr_54, zr_58, zr_68, zr_70, zr_73, zlg_0, zlg_s, zls_0, zls_1, zls_s, zkl_i, zkl_r, zkl_l, zkl_n, zrc_1, zrc_s, zcat_n, zcat_i, zcat_l, zcat_r, zkd_0, zkd_105, zkd_123, zkd_124, zkd_125, zkd_126, zkd_127, zkd_128, zkd_129, zkd_130, zkd_21, zkd_3, zkd_67, zkd_86, zkd_a65, zkd_a65_0, zln_124, zln_126, zln_128, zln_130, zln_a65_0, zrf_0_3, zrf_123_0, zrf_125_0, zrf_127_0, zrf_129_0, zrf_a65_0, Int.cast_ofNat_Int, Int.reduceAdd, zbd, zw_id, false_and, and_false, true_and, and_true, true_or, or_true, false_or, or_false, Option.toList, List.nil_append, List.cons_append, zif0, zif1, zif01, zem1, zem2, Int.reduceEq, Int.reduceLT, Int.reduceLE, Int.reduceNeg, Int.reduceSub, Int.reduceMul, if_true, if_false, not_false_eq_true, not_true_eq_false, true_implies, false_implies, Classical.not_not, Nat.reduceAdd, Nat.reduceLeDiff, z2, z3, z4, z5, q.2.1, e, zq154 hI.1, es]
    exact k2 _ _ ⟨by omega, rfl, rfl⟩
  · rintro lc m' ⟨h0, rfl, rfl⟩
    rw [zw155_1]
    simp +contextual (disch := (first | omega | assumption | decide)) only [↓zbrT, ↓zbrF, zw155_0, zw155_2, zw155_3, zr_1, zr_3, zr_4, zr_7, zr_10, zr_12, zr_19, zr_31, zr_47, zr_53, zr_54, zr_58, zr_68, zr_70, zr_73, zlg_0, zlg_s, zls_0, zls_1, zls_s, zkl_i, zkl_r, zkl_l, zkl_n, zrc_1, zrc_s, zcat_n, zcat_i, zcat_l, zcat_r, zkd_0, zkd_105, zkd_123, zkd_124, zkd_125, zkd_126, zkd_127, zkd_128, zkd_129, zkd_130, zkd_21, zkd_3, zkd_67, zkd_86, zkd_a65, zkd_a65_0, zln_124, zln_126, zln_128, zln_130, zln_a65_0, zrf_0_3, zrf_123_0, zrf_125_0, zrf_127_0, zrf_129_0, zrf_a65_0, Int.cast_ofNat_Int, Int.reduceAdd, zbd, zw_id, false_and, and_false, true_and, and_true, true_or, or_true, false_or, or_false, Option.toList, List.nil_append, List.cons_append, zif0, zif1, zif01, zem1, zem2, Int.reduceEq, Int.reduceLT, Int.reduceLE, Int.reduceNeg, Int.reduceSub, Int.reduceMul, if_true, if_false, not_false_eq_true, not_true_eq_false, true_implies, false_implies, Classical.not_not, Nat.reduceAdd, Nat.reduceLeDiff, z2, q.2.1]
    rfl
  · exact ⟨by decide, rfl, rfl⟩
theorem gBt_lt {c : Int → Prop} [DecidablePred c] : ∀ N : Nat, N ≤ 8 → gBt c N < 2 ^ N
  | 0, _ => by show (0 : Int) < 2 ^ 0; decide
  | k + 1, h => by
    have i := gBt_lt (c := c) k (by omega)
    have b := gBt_bd (c := c) k (by omega)
    have e : (2 : Int) ^ (k + 1) = 2 ^ k * 2 := Int.pow_succ 2 k
    show zor (gBt c k) (if c k then 2 ^ k else 0) < 2 ^ (k + 1)
    rw [e]
    split
    · have all : ∀ k, k < 8 → ∀ x, x < 2 ^ k → zor (x : Nat) (2 ^ k) = (x : Nat) + 2 ^ k := by decide +kernel
      have i' : gBt c k < ((2 ^ k : Nat) : Int) := by rw [Int.natCast_pow]; exact i
      have := all k (by omega) (gBt c k).toNat (by omega)
      rw [show (((gBt c k).toNat : Nat) : Int) = gBt c k by omega] at this
      omega
    · rw [zor_0 b]; omega
theorem gpc_sum {V : zMm} (hV : gOk V) {t : Int} (ht : 0 ≤ t ∧ t < 2 ^ (V 0 6).toNat) : zpc t = gSm (fun j => zbit t j) (V 0 6).toNat := by
  have hb := hV.1
  have e1 := gpc_M (8 - (V 0 6).toNat) (V 0 6).toNat ht
  rw [show (V 0 6).toNat + (8 - (V 0 6).toNat) = 8 by omega] at e1
  rw [← e1]
  show zpc t = 0 + zbit t ((0 : Nat) : Int) + zbit t ((1 : Nat) : Int) + zbit t ((2 : Nat) : Int) + zbit t ((3 : Nat) : Int) + zbit t ((4 : Nat) : Int) + zbit t ((5 : Nat) : Int) + zbit t ((6 : Nat) : Int) + zbit t ((7 : Nat) : Int)
  unfold zpc
  rw [Int.zero_add]
  rfl
def gAt (V : zMm) (w g : Int) : Int := zpc (zand w (gNb V g))
def gLm (V : zMm) (w g : Int) : Int := max (gAt V w g) (zpc w - gAt V w g)
theorem gAt_sum {V : zMm} (hV : gOk V) {w g : Int} (hw : 0 ≤ w ∧ w < 2 ^ (V 0 6).toNat) : gAt V w g = gSm (fun f => if zbit w f = 1 ∧ gNr V f g = 1 then 1 else 0) (V 0 6).toNat := by
  have hb := hV.1
  have hp := gp6 hV
  have b2 := gNb_bd hV (g := g)
  have bw : 0 ≤ w ∧ w < 256 := by omega
  have ba := zand_bd bw b2
  unfold gAt
  rw [gpc_sum hV ⟨ba.1, by omega⟩]
  refine gSm_c _ (fun r hr => ?_)
  rw [zbit_and bw b2 (by omega), gNb_bit hV (by omega) (by omega)]
  by_cases x : zbit w r = 1
  · by_cases y : gNr V r g = 1
    · have t : (r : Int) < V 0 6 ∧ gNr V r g = 1 := ⟨by omega, y⟩
      rw [if_pos t, if_pos ⟨x, rfl⟩, if_pos ⟨x, y⟩]
    · have t : ¬ ((r : Int) < V 0 6 ∧ gNr V r g = 1) := fun z => y z.2
      rw [if_neg t, if_neg (by omega), if_neg (fun z => y z.2)]
  · rw [if_neg (fun z => x z.1), if_neg (fun z => x z.1)]
def gBw (V : zMm) (w : Int) : Nat → Int × Int
  | 0 => (-1, zpc w)
  | k + 1 => if 0 < vT V k ∧ gLm V w k < (gBw V w k).2 then ((k : Int), gLm V w k) else gBw V w k
theorem gBw_s {V : zMm} {w j : Int} (h : 0 ≤ j) : gBw V w (j + 1).toNat = if 0 < vT V j ∧ gLm V w j < (gBw V w j.toNat).2 then (j, gLm V w j) else gBw V w j.toNat := by
  rw [show (j + 1).toNat = j.toNat + 1 by omega]
  show (if 0 < vT V (j.toNat : Nat) ∧ gLm V w (j.toNat : Nat) < (gBw V w j.toNat).2 then (((j.toNat : Nat) : Int), gLm V w (j.toNat : Nat)) else gBw V w j.toNat) = _
  rw [show ((j.toNat : Nat) : Int) = j by omega]
theorem gBw_ok {V : zMm} {w : Int} : ∀ k : Nat, (gBw V w k = (-1, zpc w)) ∨ ((0 ≤ (gBw V w k).1 ∧ (gBw V w k).1 < k) ∧ (gBw V w k).2 = gLm V w (gBw V w k).1)
  | 0 => Or.inl rfl
  | k + 1 => by
    have e : gBw V w (k + 1) = if 0 < vT V k ∧ gLm V w k < (gBw V w k).2 then ((k : Int), gLm V w k) else gBw V w k := rfl
    by_cases c : 0 < vT V k ∧ gLm V w k < (gBw V w k).2
    · rw [if_pos c] at e
      rw [e]
      exact Or.inr ⟨⟨by show (0 : Int) ≤ k; omega, by show (k : Int) < ((k + 1 : Nat) : Int); omega⟩, rfl⟩
    · rw [if_neg c] at e
      rw [e]
      rcases gBw_ok (V := V) (w := w) k with z | z
      · exact Or.inl z
      · exact Or.inr ⟨⟨z.1.1, by omega⟩, z.2⟩
theorem gzp {x : Int} (h : 0 ≤ x ∧ x < 256) : 0 ≤ zpc x ∧ zpc x ≤ 8 := (gsz h).2.2
theorem zq156 {d : Nat} {m : zMm} {w : Int} {g : Int} {rest : List zV} {k : List zV → zMm → Prop} {V : zMm} (hA : gA V m) (hw : 0 ≤ w ∧ w < 256) (hg : 0 ≤ g ∧ g < V 0 5) : zcl (zEx (d + 5)) 156 3 (.inl g :: .inl w :: .inr (.inr 0) :: rest) m k = (zcat rest ≤ 8 ∧ k (.inl (gLm V w g) :: rest) m) := by
  refine zcl_eq (as := [.inr (.inr 0), .inl w, .inl g]) (r := some (.inl (gLm V w g))) (zC_eq.mp (ze156 ?_)) rfl rfl
  have b2 := gNb_bd hA.1 (g := g)
  have ba := zand_bd hw b2
  have z1 := gzp hw
  have z2 := gzp (x := zand w (gNb V g)) (by omega)
  unfold gLm gAt
  simp +contextual (disch := (first | omega | assumption | decide)) only [zw156_0, zr_1, zr_3, zr_4, zr_27, zr_31, zr_68, zr_69, zr_70, zlg_0, zlg_s, zls_0, zls_1, zls_s, zkl_i, zkl_r, zkl_l, zkl_n, zrc_1, zrc_s, zcat_n, zcat_i, zcat_l, zcat_r, zkd_0, Int.cast_ofNat_Int, Int.reduceAdd, zw_id, false_and, and_false, true_and, and_true, true_or, or_true, false_or, or_false, Option.toList, List.nil_append, List.cons_append, zif0, zif1, zif01, zem1, zem2, Int.reduceEq, Int.reduceLT, Int.reduceLE, Int.reduceNeg, Int.reduceSub, Int.reduceMul, if_true, if_false, not_false_eq_true, not_true_eq_false, true_implies, false_implies, Classical.not_not, Nat.reduceAdd, Nat.reduceLeDiff, zq154 hA, zq0, zq1]
theorem zq157 {d : Nat} {m : zMm} {w : Int} {rest : List zV} {k : List zV → zMm → Prop} {V : zMm} (hA : gA V m) (hw : 0 ≤ w ∧ w < 256) : zcl (zEx (d + 6)) 157 2 (.inl w :: .inr (.inr 0) :: rest) m k = (zcat rest ≤ 8 ∧ k (.inl ((gBw V w (V 0 5).toNat).1) :: rest) m) := by
  refine zcl_eq (as := [.inr (.inr 0), .inl w]) (r := some (.inl ((gBw V w (V 0 5).toNat).1))) (zC_eq.mp (ze157 ?_)) rfl rfl
  have hb := gA_b hA
  simp +contextual (disch := (first | omega | assumption | decide)) only [↓zbrT, ↓zbrF, zw157_0, zw157_2, zw157_3, zw157_4, zw157_5, zw157_6, zr_1, zr_3, zr_4, zr_7, zr_10, zr_12, zr_46, zr_53, zr_54, zr_58, zr_61, zr_68, zr_69, zr_70, zr_73, zlg_0, zlg_s, zls_0, zls_1, zls_s, zkl_i, zkl_r, zkl_l, zkl_n, zrc_1, zrc_s, zcat_n, zcat_i, zcat_l, zcat_r, zkd_0, zkd_105, zkd_21, zkd_3, zkd_67, zkd_86, zrf_0_3, Int.cast_ofNat_Int, Int.reduceAdd, zw_id, false_and, and_false, true_and, and_true, true_or, or_true, false_or, or_false, Option.toList, List.nil_append, List.cons_append, zif0, zif1, zif01, zem1, zem2, Int.reduceEq, Int.reduceLT, Int.reduceLE, Int.reduceNeg, Int.reduceSub, Int.reduceMul, if_true, if_false, not_false_eq_true, not_true_eq_false, true_implies, false_implies, Classical.not_not, Nat.reduceAdd, Nat.reduceLeDiff, zq0]
  refine zfor (V 0 5) (fun j lc m' => 0 ≤ j ∧ lc = [some (.inr (.inr 0)), some (.inl w), some (.inl (gBw V w j.toNat).1), some (.inl (gBw V w j.toNat).2), some (.inl j)] ∧ m' = m) ?_ ?_ (i := 0) (by omega) ?_
  · rintro j lc m' hj ⟨h0, rfl, rfl⟩ kk
    have es := gBw_s (V := V) (w := w) h0
    rw [zw157_1]
    by_cases c1 : 0 < vT V j
    · have cc : (0 ≤ j ∧ j < V 0 5) ∧ 0 < vT V j := ⟨⟨h0, hj⟩, c1⟩
      by_cases c2 : gLm V w j < (gBw V w j.toNat).2
      · rw [if_pos ⟨c1, c2⟩] at es
        simp +contextual (disch := (first | omega | assumption | decide)) only [↓zbrT, ↓zbrF, zw157_0, zw157_2, zw157_3, zw157_4, zw157_5, zw157_6, zr_1, zr_3, zr_4, zr_7, zr_10, zr_12, zr_46, zr_53, zr_54, zr_58, zr_61, zr_68, zr_69, zr_70, zr_73, zlg_0, zlg_s, zls_0, zls_1, zls_s, zkl_i, zkl_r, zkl_l, zkl_n, zrc_1, zrc_s, zcat_n, zcat_i, zcat_l, zcat_r, zkd_0, zkd_105, zkd_21, zkd_3, zkd_67, zkd_86, zrf_0_3, Int.cast_ofNat_Int, Int.reduceAdd, zw_id, false_and, and_false, true_and, and_true, true_or, or_true, false_or, or_false, Option.toList, List.nil_append, List.cons_append, zif0, zif1, zif01, zem1, zem2, Int.reduceEq, Int.reduceLT, Int.reduceLE, Int.reduceNeg, Int.reduceSub, Int.reduceMul, if_true, if_false, not_false_eq_true, not_true_eq_false, true_implies, false_implies, Classical.not_not, Nat.reduceAdd, Nat.reduceLeDiff, gA_0 hA.2.1, gA_1 hA.2.1, gA_2 hA.2.1, gA_3 hA.2.1, gA_4 hA.2.1, gA_5 hA.2.1, gA_6 hA.2.1, gA_7 hA.2.1, gA_8 hA.2.1, gA_9 hA.2.1, gA_r0 hA.2.1, gA_r1 hA.2.1, gA_r2 hA.2.1, gA_r3 hA.2.1, gA_f0 hA.2.1, gA_f1 hA.2.1, gA_f2 hA.2.1, gA_f3 hA.2.1, gA_f4 hA.2.1, gA_d hA, zq77L hA, if_pos cc, zq156 hA, c2]
        exact kk _ _ ⟨by omega, by rw [es], rfl⟩
      · rw [if_neg (fun z => c2 z.2)] at es
        simp +contextual (disch := (first | omega | assumption | decide)) only [↓zbrT, ↓zbrF, zw157_0, zw157_2, zw157_3, zw157_4, zw157_5, zw157_6, zr_1, zr_3, zr_4, zr_7, zr_10, zr_12, zr_46, zr_53, zr_54, zr_58, zr_61, zr_68, zr_69, zr_70, zr_73, zlg_0, zlg_s, zls_0, zls_1, zls_s, zkl_i, zkl_r, zkl_l, zkl_n, zrc_1, zrc_s, zcat_n, zcat_i, zcat_l, zcat_r, zkd_0, zkd_105, zkd_21, zkd_3, zkd_67, zkd_86, zrf_0_3, Int.cast_ofNat_Int, Int.reduceAdd, zw_id, false_and, and_false, true_and, and_true, true_or, or_true, false_or, or_false, Option.toList, List.nil_append, List.cons_append, zif0, zif1, zif01, zem1, zem2, Int.reduceEq, Int.reduceLT, Int.reduceLE, Int.reduceNeg, Int.reduceSub, Int.reduceMul, if_true, if_false, not_false_eq_true, not_true_eq_false, true_implies, false_implies, Classical.not_not, Nat.reduceAdd, Nat.reduceLeDiff, gA_0 hA.2.1, gA_1 hA.2.1, gA_2 hA.2.1, gA_3 hA.2.1, gA_4 hA.2.1, gA_5 hA.2.1, gA_6 hA.2.1, gA_7 hA.2.1, gA_8 hA.2.1, gA_9 hA.2.1, gA_r0 hA.2.1, gA_r1 hA.2.1, gA_r2 hA.2.1, gA_r3 hA.2.1, gA_f0 hA.2.1, gA_f1 hA.2.1, gA_f2 hA.2.1, gA_f3 hA.2.1, gA_f4 hA.2.1, gA_d hA, zq77L hA, if_pos cc, zq156 hA, c2]
        exact kk _ _ ⟨by omega, by rw [es], rfl⟩
    · have cc : ¬ ((0 ≤ j ∧ j < V 0 5) ∧ 0 < vT V j) := fun z => c1 z.2
      rw [if_neg (fun z => c1 z.1)] at es
      simp +contextual (disch := (first | omega | assumption | decide)) only [↓zbrT, ↓zbrF, zw157_0, zw157_2, zw157_3, zw157_4, zw157_5, zw157_6, zr_1, zr_3, zr_4, zr_7, zr_10, zr_12, zr_46, zr_53, zr_54, zr_58, zr_61, zr_68, zr_69, zr_70, zr_73, zlg_0, zlg_s, zls_0, zls_1, zls_s, zkl_i, zkl_r, zkl_l, zkl_n, zrc_1, zrc_s, zcat_n, zcat_i, zcat_l, zcat_r, zkd_0, zkd_105, zkd_21, zkd_3, zkd_67, zkd_86, zrf_0_3, Int.cast_ofNat_Int, Int.reduceAdd, zw_id, false_and, and_false, true_and, and_true, true_or, or_true, false_or, or_false, Option.toList, List.nil_append, List.cons_append, zif0, zif1, zif01, zem1, zem2, Int.reduceEq, Int.reduceLT, Int.reduceLE, Int.reduceNeg, Int.reduceSub, Int.reduceMul, if_true, if_false, not_false_eq_true, not_true_eq_false, true_implies, false_implies, Classical.not_not, Nat.reduceAdd, Nat.reduceLeDiff, gA_0 hA.2.1, gA_1 hA.2.1, gA_2 hA.2.1, gA_3 hA.2.1, gA_4 hA.2.1, gA_5 hA.2.1, gA_6 hA.2.1, gA_7 hA.2.1, gA_8 hA.2.1, gA_9 hA.2.1, gA_r0 hA.2.1, gA_r1 hA.2.1, gA_r2 hA.2.1, gA_r3 hA.2.1, gA_f0 hA.2.1, gA_f1 hA.2.1, gA_f2 hA.2.1, gA_f3 hA.2.1, gA_f4 hA.2.1, gA_d hA, zq77L hA, if_neg cc]
      exact kk _ _ ⟨by omega, by rw [es], rfl⟩
  · rintro lc m' ⟨h0, rfl, rfl⟩
    rw [zw157_1]
    simp +contextual (disch := (first | omega | assumption | decide)) only [↓zbrT, ↓zbrF, zw157_0, zw157_2, zw157_3, zw157_4, zw157_5, zw157_6, zr_1, zr_3, zr_4, zr_7, zr_10, zr_12, zr_46, zr_53, zr_54, zr_58, zr_61, zr_68, zr_69, zr_70, zr_73, zlg_0, zlg_s, zls_0, zls_1, zls_s, zkl_i, zkl_r, zkl_l, zkl_n, zrc_1, zrc_s, zcat_n, zcat_i, zcat_l, zcat_r, zkd_0, zkd_105, zkd_21, zkd_3, zkd_67, zkd_86, zrf_0_3, Int.cast_ofNat_Int, Int.reduceAdd, zw_id, false_and, and_false, true_and, and_true, true_or, or_true, false_or, or_false, Option.toList, List.nil_append, List.cons_append, zif0, zif1, zif01, zem1, zem2, Int.reduceEq, Int.reduceLT, Int.reduceLE, Int.reduceNeg, Int.reduceSub, Int.reduceMul, if_true, if_false, not_false_eq_true, not_true_eq_false, true_implies, false_implies, Classical.not_not, Nat.reduceAdd, Nat.reduceLeDiff, gA_0 hA.2.1, gA_1 hA.2.1, gA_2 hA.2.1, gA_3 hA.2.1, gA_4 hA.2.1, gA_5 hA.2.1, gA_6 hA.2.1, gA_7 hA.2.1, gA_8 hA.2.1, gA_9 hA.2.1, gA_r0 hA.2.1, gA_r1 hA.2.1, gA_r2 hA.2.1, gA_r3 hA.2.1, gA_f0 hA.2.1, gA_f1 hA.2.1, gA_f2 hA.2.1, gA_f3 hA.2.1, gA_f4 hA.2.1, gA_d hA]
  · exact ⟨by decide, rfl, rfl⟩
def sp158 (V U : zMm) (s : Int) : Int := if gCk V U s 0 = 0 then gWh V U s else gCk V U s 0
def sp159 (V U : zMm) (s : Int) : Int := if gCk V U s 0 = 0 then (gBw V (gWh V U s) (V 0 5).toNat).1 else gCk V U s 0
def sp160 (V U : zMm) (s : Int) : Int := if gCk V U s 0 = 0 then (gBw V (gWh V U s) (V 0 5).toNat).2 else gCk V U s 0
theorem gWh_bd {V U : zMm} (hV : gOk V) {s : Int} : 0 ≤ gWh V U s ∧ gWh V U s < 256 := gSq_bd (U := U) hV
theorem gz158 {d : Nat} {m : zMm} {s : Int} {V U : zMm} (hI : gI V m) (hk : gUk U) (hu : gCu U m) : zC (d + 6) 158 [.inr (.inr 0), .inl s] m (fun r' m' => r' = some (.inl (sp158 V U s)) ∧ gI V m' ∧ gX m m') := by
  refine ze158 ?_
  unfold sp158
  by_cases c : gCk V U s 0 = 0
  · rw [if_pos c]
    obtain ⟨c1, c2, _⟩ := gCk_0 c
    have z1 := zrf_a65 c1.2.1 c1.2.2
    simp +contextual (disch := (first | omega | assumption | decide)) only [↓zbrT, ↓zbrF, zw158_0, zw158_1, zw158_2, zw158_3, zr_1, zr_3, zr_4, zr_7, zr_12, zr_20, zr_54, zr_61, zr_68, zr_70, zr_73, zlg_0, zlg_s, zls_0, zls_1, zls_s, zkl_i, zkl_r, zkl_l, zkl_n, zrc_1, zrc_s, zcat_n, zcat_i, zcat_l, zcat_r, zkd_0, zkd_65, zln_65, zrf_0_12, zrf_a65, Int.cast_ofNat_Int, Int.reduceAdd, zbd, false_and, and_false, true_and, and_true, true_or, or_true, false_or, or_false, Option.toList, List.nil_append, List.cons_append, zif0, zif1, zif01, zem1, zem2, Int.reduceEq, Int.reduceLT, Int.reduceLE, Int.reduceNeg, Int.reduceSub, Int.reduceMul, if_true, if_false, not_false_eq_true, not_true_eq_false, true_implies, false_implies, Classical.not_not, Nat.reduceAdd, Nat.reduceLeDiff, zq142 hI hk hu, c, zq155 hI hk hu c1.2 c2]
    (first | exact ⟨hI, gX_refl⟩ | exact ⟨rfl, hI, gX_refl⟩)
  · rw [if_neg c]
    simp +contextual (disch := (first | omega | assumption | decide)) only [↓zbrT, ↓zbrF, zw158_0, zw158_1, zw158_2, zw158_3, zr_1, zr_3, zr_4, zr_7, zr_12, zr_20, zr_54, zr_61, zr_68, zr_70, zr_73, zlg_0, zlg_s, zls_0, zls_1, zls_s, zkl_i, zkl_r, zkl_l, zkl_n, zrc_1, zrc_s, zcat_n, zcat_i, zcat_l, zcat_r, zkd_0, zkd_65, zln_65, zrf_0_12, zrf_a65, Int.cast_ofNat_Int, Int.reduceAdd, zbd, false_and, and_false, true_and, and_true, true_or, or_true, false_or, or_false, Option.toList, List.nil_append, List.cons_append, zif0, zif1, zif01, zem1, zem2, Int.reduceEq, Int.reduceLT, Int.reduceLE, Int.reduceNeg, Int.reduceSub, Int.reduceMul, if_true, if_false, not_false_eq_true, not_true_eq_false, true_implies, false_implies, Classical.not_not, Nat.reduceAdd, Nat.reduceLeDiff, zq142 hI hk hu, c]
    (first | exact ⟨hI, gX_refl⟩ | exact ⟨rfl, hI, gX_refl⟩)
theorem gz159 {d : Nat} {m : zMm} {s : Int} {V U : zMm} (hI : gI V m) (hk : gUk U) (hu : gCu U m) : zC (d + 7) 159 [.inr (.inr 0), .inl s] m (fun r' m' => r' = some (.inl (sp159 V U s)) ∧ gI V m' ∧ gX m m') := by
  refine ze159 ?_
  unfold sp159
  have bw := gWh_bd (U := U) hI.1.1 (s := s)
  by_cases c : gCk V U s 0 = 0
  · rw [if_pos c]
    obtain ⟨c1, c2, _⟩ := gCk_0 c
    have z1 := zrf_a65 c1.2.1 c1.2.2
    simp +contextual (disch := (first | omega | assumption | decide)) only [↓zbrT, ↓zbrF, zw159_0, zw159_1, zw159_2, zw159_3, zr_1, zr_3, zr_4, zr_7, zr_12, zr_20, zr_54, zr_61, zr_68, zr_70, zr_73, zlg_0, zlg_s, zls_0, zls_1, zls_s, zkl_i, zkl_r, zkl_l, zkl_n, zrc_1, zrc_s, zcat_n, zcat_i, zcat_l, zcat_r, zkd_0, zkd_65, zln_65, zrf_0_12, zrf_a65, Int.cast_ofNat_Int, Int.reduceAdd, zbd, false_and, and_false, true_and, and_true, true_or, or_true, false_or, or_false, Option.toList, List.nil_append, List.cons_append, zif0, zif1, zif01, zem1, zem2, Int.reduceEq, Int.reduceLT, Int.reduceLE, Int.reduceNeg, Int.reduceSub, Int.reduceMul, if_true, if_false, not_false_eq_true, not_true_eq_false, true_implies, false_implies, Classical.not_not, Nat.reduceAdd, Nat.reduceLeDiff, zq142 hI hk hu, c, zq155 hI hk hu c1.2 c2, zq157 hI.1]
    (first | exact ⟨hI, gX_refl⟩ | exact ⟨rfl, hI, gX_refl⟩)
  · rw [if_neg c]
    simp +contextual (disch := (first | omega | assumption | decide)) only [↓zbrT, ↓zbrF, zw159_0, zw159_1, zw159_2, zw159_3, zr_1, zr_3, zr_4, zr_7, zr_12, zr_20, zr_54, zr_61, zr_68, zr_70, zr_73, zlg_0, zlg_s, zls_0, zls_1, zls_s, zkl_i, zkl_r, zkl_l, zkl_n, zrc_1, zrc_s, zcat_n, zcat_i, zcat_l, zcat_r, zkd_0, zkd_65, zln_65, zrf_0_12, zrf_a65, Int.cast_ofNat_Int, Int.reduceAdd, zbd, false_and, and_false, true_and, and_true, true_or, or_true, false_or, or_false, Option.toList, List.nil_append, List.cons_append, zif0, zif1, zif01, zem1, zem2, Int.reduceEq, Int.reduceLT, Int.reduceLE, Int.reduceNeg, Int.reduceSub, Int.reduceMul, if_true, if_false, not_false_eq_true, not_true_eq_false, true_implies, false_implies, Classical.not_not, Nat.reduceAdd, Nat.reduceLeDiff, zq142 hI hk hu, c]
    (first | exact ⟨hI, gX_refl⟩ | exact ⟨rfl, hI, gX_refl⟩)
theorem gz160 {d : Nat} {m : zMm} {s : Int} {V U : zMm} (hI : gI V m) (hk : gUk U) (hu : gCu U m) : zC (d + 7) 160 [.inr (.inr 0), .inl s] m (fun r' m' => r' = some (.inl (sp160 V U s)) ∧ gI V m' ∧ gX m m') := by
  refine ze160 ?_
  unfold sp160
  have hb := gA_b hI.1
  have bw := gWh_bd (U := U) hI.1.1 (s := s)
  by_cases c : gCk V U s 0 = 0
  · rw [if_pos c]
    obtain ⟨c1, c2, _⟩ := gCk_0 c
    have z1 := zrf_a65 c1.2.1 c1.2.2
    rcases gBw_ok (V := V) (w := gWh V U s) (V 0 5).toNat with z | ⟨za, zb⟩
    · have y1 : (gBw V (gWh V U s) (V 0 5).toNat).1 = -1 := by rw [z]
      rw [show (gBw V (gWh V U s) (V 0 5).toNat).2 = zpc (gWh V U s) by rw [z]]
      simp +contextual (disch := (first | omega | assumption | decide)) only [↓zbrT, ↓zbrF, zw160_0, zw160_1, zw160_2, zw160_3, zw160_4, zw160_5, zr_1, zr_3, zr_4, zr_7, zr_12, zr_20, zr_54, zr_56, zr_61, zr_68, zr_69, zr_70, zr_73, zlg_0, zlg_s, zls_0, zls_1, zls_s, zkl_i, zkl_r, zkl_l, zkl_n, zrc_1, zrc_s, zcat_n, zcat_i, zcat_l, zcat_r, zkd_0, zkd_65, zln_65, zrf_0_12, zrf_a65, Int.cast_ofNat_Int, Int.reduceAdd, zbd, false_and, and_false, true_and, and_true, true_or, or_true, false_or, or_false, Option.toList, List.nil_append, List.cons_append, zif0, zif1, zif01, zem1, zem2, Int.reduceEq, Int.reduceLT, Int.reduceLE, Int.reduceNeg, Int.reduceSub, Int.reduceMul, if_true, if_false, not_false_eq_true, not_true_eq_false, true_implies, false_implies, Classical.not_not, Nat.reduceAdd, Nat.reduceLeDiff, zq142 hI hk hu, c, zq155 hI hk hu c1.2 c2, zq157 hI.1, y1, zq0]
      (first | exact ⟨hI, gX_refl⟩ | exact ⟨rfl, hI, gX_refl⟩)
    · have y1 : ¬ (gBw V (gWh V U s) (V 0 5).toNat).1 = -1 := by omega
      rw [zb]
      simp +contextual (disch := (first | omega | assumption | decide)) only [↓zbrT, ↓zbrF, zw160_0, zw160_1, zw160_2, zw160_3, zw160_4, zw160_5, zr_1, zr_3, zr_4, zr_7, zr_12, zr_20, zr_54, zr_56, zr_61, zr_68, zr_69, zr_70, zr_73, zlg_0, zlg_s, zls_0, zls_1, zls_s, zkl_i, zkl_r, zkl_l, zkl_n, zrc_1, zrc_s, zcat_n, zcat_i, zcat_l, zcat_r, zkd_0, zkd_65, zln_65, zrf_0_12, zrf_a65, Int.cast_ofNat_Int, Int.reduceAdd, zbd, false_and, and_false, true_and, and_true, true_or, or_true, false_or, or_false, Option.toList, List.nil_append, List.cons_append, zif0, zif1, zif01, zem1, zem2, Int.reduceEq, Int.reduceLT, Int.reduceLE, Int.reduceNeg, Int.reduceSub, Int.reduceMul, if_true, if_false, not_false_eq_true, not_true_eq_false, true_implies, false_implies, Classical.not_not, Nat.reduceAdd, Nat.reduceLeDiff, zq142 hI hk hu, c, zq155 hI hk hu c1.2 c2, zq157 hI.1, y1, zq156 hI.1]
      (first | exact ⟨hI, gX_refl⟩ | exact ⟨rfl, hI, gX_refl⟩)
  · rw [if_neg c]
    simp +contextual (disch := (first | omega | assumption | decide)) only [↓zbrT, ↓zbrF, zw160_0, zw160_1, zw160_2, zw160_3, zw160_4, zw160_5, zr_1, zr_3, zr_4, zr_7, zr_12, zr_20, zr_54, zr_56, zr_61, zr_68, zr_69, zr_70, zr_73, zlg_0, zlg_s, zls_0, zls_1, zls_s, zkl_i, zkl_r, zkl_l, zkl_n, zrc_1, zrc_s, zcat_n, zcat_i, zcat_l, zcat_r, zkd_0, zkd_65, zln_65, zrf_0_12, zrf_a65, Int.cast_ofNat_Int, Int.reduceAdd, zbd, false_and, and_false, true_and, and_true, true_or, or_true, false_or, or_false, Option.toList, List.nil_append, List.cons_append, zif0, zif1, zif01, zem1, zem2, Int.reduceEq, Int.reduceLT, Int.reduceLE, Int.reduceNeg, Int.reduceSub, Int.reduceMul, if_true, if_false, not_false_eq_true, not_true_eq_false, true_implies, false_implies, Classical.not_not, Nat.reduceAdd, Nat.reduceLeDiff, zq142 hI hk hu, c]
    (first | exact ⟨hI, gX_refl⟩ | exact ⟨rfl, hI, gX_refl⟩)
