/-! ===== round, rounds: the class ===== -/
theorem gFst_all {c : Int → Prop} [DecidablePred c] : ∀ N : Nat, (∀ r : Nat, r < N → ¬ c r) → gFst c N = -1
  | 0, _ => rfl
  | k + 1, h => by
    show (if gFst c k = -1 then (if c k then (k : Int) else -1) else gFst c k) = -1
    rw [if_pos (gFst_all k (fun r hr => h r (by omega))), if_neg (h k (by omega))]
/-- what the tour knows: the best so far -/
def gTou (V : zMm) (h : Int) (e : Int) (L : Int) (m m' : zMm) (ok : Prop) (val : Int) (l : List Int) : Prop := (ok → m' 61 4 = val ∧ ∀ i : Nat, i < l.length → m' 62 i = l.getD i 0) ∧ (¬ ok → m' 61 4 = L ∧ ∀ i, m' 62 i = m 62 i)
def gEt (e : Int) (m m' : zMm) : Prop := ∀ c i, c ≠ 62 ∧ (c ≠ 63 ∨ i < e) ∧ (c ≠ 61 ∨ i ≠ 4) → m' c i = m c i
theorem gEt_A {V : zMm} {e : Int} {m m' : zMm} (h : gEt e m m') (hA : gA V m) : gA V m' := gA_of hA (fun c i a b => h c i (by omega))
theorem gEt_C {V : zMm} {e s x : Int} {m m' : zMm} (h : gEt e m m') (hC : gCo V s x m) : gCo V s x m' := fun p q a b c d => by rw [h 39 _ (by omega)]; exact hC p q a b c d
theorem gEt_tr {e e' : Int} {m m' m'' : zMm} (h : gEt e m m') (h2 : gEt e' m' m'') (he : e ≤ e') : gEt e m m'' := fun c i hc => by rw [h2 c i (by omega), h c i hc]
theorem zq16C {d : Nat} {m : zMm} {p : Int} {q : Int} {rest : List zV} {k : List zV → zMm → Prop} {V : zMm} (hV : gOk V) (hC : gCo V (gSn V 4) (-1) m) (hp : 0 ≤ p ∧ p < V 0 0) (hq : 0 ≤ q ∧ q < V 0 0) : zcl (zEx (d + 2)) 16 3 (.inl q :: .inl p :: .inr (.inr 20) :: rest) m k = (zcat rest ≤ 8 ∧ k (.inl (if gtt V p q = 100000000 then -1 else gtt V p q) :: rest) m) := by
  refine zcl_eq (as := [.inr (.inr 20), .inl p, .inl q]) (r := some (.inl (if gtt V p q = 100000000 then -1 else gtt V p q))) (zC_eq.mp (ze16 ?_)) rfl rfl
  have hb := hV.1
  have e := hC p q hp.1 hp.2 hq.1 hq.2
  have bd := gC_bd hV (s := gSn V 4) (x := -1) (p := p) (q := q)
  by_cases c : 268435456 ≤ gC V (gSn V 4) (-1) p q
  · have eg : gtt V p q = 100000000 := by unfold gtt; rw [if_neg (fun z => by omega)]
    rw [if_pos eg]
    simp +contextual (disch := (first | omega | assumption | decide)) only [zw16_0, zr_1, zr_3, zr_12, zr_16, zr_69, zr_70, zlg_0, zlg_s, zcat_n, zcat_i, zcat_l, zcat_r, zkd_20, zkd_39, zln_39, zrf_20_2, Int.cast_ofNat_Int, Int.reduceAdd, zbd, false_and, and_false, true_and, and_true, true_or, or_true, false_or, or_false, Option.toList, List.nil_append, List.cons_append, zif0, zif1, zif01, zem1, zem2, Int.reduceEq, Int.reduceLT, Int.reduceLE, Int.reduceNeg, Int.reduceSub, Int.reduceMul, if_true, if_false, not_false_eq_true, not_true_eq_false, true_implies, false_implies, Classical.not_not, Nat.reduceAdd, Nat.reduceLeDiff, zq7, e, zq15, if_pos c]
  · have eg : gtt V p q = gC V (gSn V 4) (-1) p q / 1024 := by unfold gtt; rw [if_pos ⟨⟨hp, hq⟩, by omega⟩]
    rw [if_neg (by rw [eg]; omega), eg]
    simp +contextual (disch := (first | omega | assumption | decide)) only [zw16_0, zr_1, zr_3, zr_12, zr_16, zr_69, zr_70, zlg_0, zlg_s, zcat_n, zcat_i, zcat_l, zcat_r, zkd_20, zkd_39, zln_39, zrf_20_2, Int.cast_ofNat_Int, Int.reduceAdd, zbd, false_and, and_false, true_and, and_true, true_or, or_true, false_or, or_false, Option.toList, List.nil_append, List.cons_append, zif0, zif1, zif01, zem1, zem2, Int.reduceEq, Int.reduceLT, Int.reduceLE, Int.reduceNeg, Int.reduceSub, Int.reduceMul, if_true, if_false, not_false_eq_true, not_true_eq_false, true_implies, false_implies, Classical.not_not, Nat.reduceAdd, Nat.reduceLeDiff, zq7, e, zq15, if_neg c]
theorem gz68 {d : Nat} {m : zMm} {p : Int} {x : Int} {V : zMm} {h L e : Int} {l : List Int} (hA : gA V m) (hC : gCo V (gSn V 4) (-1) m) (hp : 0 ≤ p ∧ p < V 0 0) (hh : 0 ≤ h ∧ h < V 0 0) (h3 : m 61 3 = h) (hL : m 61 4 = L ∧ 0 ≤ L ∧ L ≤ 268435456) (hx : 0 ≤ x ∧ x ≤ 100000) (hl : ∀ i : Nat, i < l.length → m 63 i = l.getD i 0) (hl6 : l.length ≤ 6) : zC (d + 4) 68 [.inr (.inr 61), .inr (.inr 20), .inl p, .inl x] m (fun r' m' => r' = none ∧ gEt e m m' ∧ gTou V h e L m m' (gtt V p h < 100000000 ∧ x + gtt V p h < L) (x + gtt V p h) l) := by
  refine ze68 ?_
  have hb := hA.1.1
  have gb := gtt_bd hA.1 (p := p) (q := h)
  have z3 : (0 : Int) ≤ 0 ∧ (0 : Int) ≤ 0 ∧ (0 : Int) ≤ 6 ∧ 0 + 6 ≤ zln 63 ∧ 0 + 6 ≤ zln 62 := by decide
  by_cases c : gtt V p h = 100000000
  · simp +contextual (disch := (first | omega | assumption | decide)) only [↓zbrT, ↓zbrF, zw68_0, zw68_1, zw68_2, zw68_3, zr_1, zr_3, zr_4, zr_7, zr_10, zr_12, zr_13, zr_26, zr_55, zr_58, zr_68, zr_69, zr_72, zr_73, zlg_0, zlg_s, zls_0, zls_1, zls_s, zkl_i, zkl_r, zkl_l, zkl_n, zrc_1, zrc_s, zcat_n, zcat_i, zcat_l, zcat_r, zkd_20, zkd_61, zkd_62, zkd_63, zln_62, zln_63, zrf_61_0, zrf_61_2, Int.cast_ofNat_Int, Int.reduceAdd, zw_id, zmu_same, zmu_c, zmu_i, false_and, and_false, true_and, and_true, true_or, or_true, false_or, or_false, Option.toList, List.nil_append, List.cons_append, zif0, zif1, zif01, zem1, zem2, Int.reduceEq, Int.reduceLT, Int.reduceLE, Int.reduceNeg, Int.reduceSub, Int.reduceMul, if_true, if_false, not_false_eq_true, not_true_eq_false, true_implies, false_implies, Classical.not_not, Nat.reduceAdd, Nat.reduceLeDiff, h3, zq16C hA.1 hC hp hh, if_pos c]
    exact ⟨fun _ _ _ => rfl, fun y => absurd y (by omega), fun _ => ⟨hL.1, fun _ => rfl⟩⟩
  · by_cases c2 : x + gtt V p h < L
    · have e0 := hL.1
      simp +contextual (disch := (first | omega | assumption | decide)) only [↓zbrT, ↓zbrF, zw68_0, zw68_1, zw68_2, zw68_3, zr_1, zr_3, zr_4, zr_7, zr_10, zr_12, zr_13, zr_26, zr_55, zr_58, zr_68, zr_69, zr_72, zr_73, zlg_0, zlg_s, zls_0, zls_1, zls_s, zkl_i, zkl_r, zkl_l, zkl_n, zrc_1, zrc_s, zcat_n, zcat_i, zcat_l, zcat_r, zkd_20, zkd_61, zkd_62, zkd_63, zln_62, zln_63, zrf_61_0, zrf_61_2, Int.cast_ofNat_Int, Int.reduceAdd, zw_id, zmu_same, zmu_c, zmu_i, false_and, and_false, true_and, and_true, true_or, or_true, false_or, or_false, Option.toList, List.nil_append, List.cons_append, zif0, zif1, zif01, zem1, zem2, Int.reduceEq, Int.reduceLT, Int.reduceLE, Int.reduceNeg, Int.reduceSub, Int.reduceMul, if_true, if_false, not_false_eq_true, not_true_eq_false, true_implies, false_implies, Classical.not_not, Nat.reduceAdd, Nat.reduceLeDiff, h3, zq16C hA.1 hC hp hh, if_neg c, e0, c2, zq1000 (a := 63) (c := 62) rfl (Or.inl rfl) z3]
      refine ⟨fun c' i hc => ?_, fun _ => ⟨?_, fun i hi => ?_⟩, fun y => absurd y (by omega)⟩
      · unfold gcpy zmu
        rw [if_neg (by omega), if_neg (by omega)]
      · unfold gcpy
        rw [if_neg (by omega), zmu_same]
      · unfold gcpy
        rw [if_pos ⟨rfl, by omega, by omega⟩, zmu_c (by decide), show 0 + ((i : Int) - 0) = i by omega]
        exact hl i hi
    · have e0 := hL.1
      simp +contextual (disch := (first | omega | assumption | decide)) only [↓zbrT, ↓zbrF, zw68_0, zw68_1, zw68_2, zw68_3, zr_1, zr_3, zr_4, zr_7, zr_10, zr_12, zr_13, zr_26, zr_55, zr_58, zr_68, zr_69, zr_72, zr_73, zlg_0, zlg_s, zls_0, zls_1, zls_s, zkl_i, zkl_r, zkl_l, zkl_n, zrc_1, zrc_s, zcat_n, zcat_i, zcat_l, zcat_r, zkd_20, zkd_61, zkd_62, zkd_63, zln_62, zln_63, zrf_61_0, zrf_61_2, Int.cast_ofNat_Int, Int.reduceAdd, zw_id, zmu_same, zmu_c, zmu_i, false_and, and_false, true_and, and_true, true_or, or_true, false_or, or_false, Option.toList, List.nil_append, List.cons_append, zif0, zif1, zif01, zem1, zem2, Int.reduceEq, Int.reduceLT, Int.reduceLE, Int.reduceNeg, Int.reduceSub, Int.reduceMul, if_true, if_false, not_false_eq_true, not_true_eq_false, true_implies, false_implies, Classical.not_not, Nat.reduceAdd, Nat.reduceLeDiff, h3, zq16C hA.1 hC hp hh, if_neg c, e0, c2]
      exact ⟨fun _ _ _ => rfl, fun y => by first | exact absurd y (by omega) | exact False.elim y, fun _ => ⟨hL.1, fun _ => rfl⟩⟩
theorem gz67 {V : zMm} {h : Int} : ∀ (k : Nat) {d : Nat} {m : zMm} {p t e x L : Int} {pre : List Int}, gA V m → gCo V (gSn V 4) (-1) m → (0 ≤ p ∧ p < V 0 0) → (0 ≤ h ∧ h < V 0 0) → (0 ≤ t ∧ t < 64) → (∀ q, 0 ≤ q → q < 6 → zbit t q = 1 → q < V 0 0) → zpc t = k → (0 ≤ e ∧ e + k ≤ 6) → (pre.length : Int) = e → (∀ i : Nat, i < pre.length → m 63 i = pre.getD i 0) → m 61 3 = h → (m 61 4 = L ∧ 0 ≤ L ∧ L ≤ 268435456) → (0 ≤ x ∧ x ≤ 6400 * e) → zC (d + k + 5) 67 [.inr (.inr 61), .inr (.inr 20), .inl p, .inl t, .inl e, .inl x] m (fun r' m' => r' = none ∧ gEt e m m' ∧ gTou V h e L m m' (gH V h t p < 100000000 ∧ x + gH V h t p < L) (x + gH V h t p) (pre ++ gOr V h k t p))
  | 0, d, m, p, t, e, x, L, pre, hA, hC, hp, hh, ht, hbit, hz, he, hl, hpre, h3, hL, hx => by
    have t0 : t = 0 := (gsz (v := t) (by omega)).1.mp (by omega)
    subst t0
    have eH : gH V h 0 p = gtt V p h := by
      rw [gH_eq (by decide)]
      have : ∀ k : Nat, gMq V (gH V h) h 0 p k = gtt V p h := by
        intro k
        induction k with
        | zero => rfl
        | succ k ih =>
          show (if zbit 0 k = 1 ∧ _ then _ else gMq V (gH V h) h 0 p k) = _
          rw [if_neg (fun z => by have := z.1; rw [zbit_0] at this; omega), ih]
      exact this 6
    rw [eH]
    refine ze67 ?_
    simp +contextual (disch := (first | omega | assumption | decide)) only [↓zbrT, ↓zbrF, zw67_0, zw67_1, zw67_2, zw67_3, zw67_5, zw67_6, zw67_7, zw67_8, zw67_9, zw67_10, zw67_11, zr_1, zr_3, zr_4, zr_7, zr_10, zr_12, zr_21, zr_26, zr_31, zr_33, zr_34, zr_35, zr_53, zr_54, zr_55, zr_57, zr_58, zr_61, zr_62, zr_68, zr_72, zr_73, zlg_0, zlg_s, zls_0, zls_1, zls_s, zkl_i, zkl_r, zkl_l, zkl_n, zrc_1, zrc_s, zcat_n, zcat_i, zcat_l, zcat_r, zkd_20, zkd_61, zkd_63, zln_63, zrf_61_2, Int.cast_ofNat_Int, Int.reduceAdd, zbd, zw_id, zmu_same, zmu_c, zmu_i, false_and, and_false, true_and, and_true, true_or, or_true, false_or, or_false, Option.toList, List.nil_append, List.cons_append, zif0, zif1, zif01, zem1, zem2, Int.reduceEq, Int.reduceLT, Int.reduceLE, Int.reduceNeg, Int.reduceSub, Int.reduceMul, if_true, if_false, not_false_eq_true, not_true_eq_false, true_implies, false_implies, Classical.not_not, Nat.reduceAdd, Nat.reduceLeDiff]
    refine gK (gz68 (h := h) (L := L) (e := e) (l := pre ++ gOr V h 0 0 p) hA hC hp hh h3 hL (by omega) (fun i hi => by
      rw [show gOr V h 0 0 p = [] from rfl, List.append_nil] at hi ⊢
      exact hpre i hi) (by rw [show gOr V h 0 0 p = [] from rfl, List.append_nil]; omega)) rfl rfl (Nat.le_of_ble_eq_true rfl) ?_
    rintro _ m1 ⟨rfl, q1, q2⟩
    (try simp +contextual (disch := (first | omega | assumption | decide)) only [↓zbrT, ↓zbrF, zw67_0, zw67_1, zw67_2, zw67_3, zw67_5, zw67_6, zw67_7, zw67_8, zw67_9, zw67_10, zw67_11, zr_1, zr_3, zr_4, zr_7, zr_10, zr_12, zr_21, zr_26, zr_31, zr_33, zr_34, zr_35, zr_53, zr_54, zr_55, zr_57, zr_58, zr_61, zr_62, zr_68, zr_72, zr_73, zlg_0, zlg_s, zls_0, zls_1, zls_s, zkl_i, zkl_r, zkl_l, zkl_n, zrc_1, zrc_s, zcat_n, zcat_i, zcat_l, zcat_r, zkd_20, zkd_61, zkd_63, zln_63, zrf_61_2, Int.cast_ofNat_Int, Int.reduceAdd, zbd, zw_id, zmu_same, zmu_c, zmu_i, false_and, and_false, true_and, and_true, true_or, or_true, false_or, or_false, Option.toList, List.nil_append, List.cons_append, zif0, zif1, zif01, zem1, zem2, Int.reduceEq, Int.reduceLT, Int.reduceLE, Int.reduceNeg, Int.reduceSub, Int.reduceMul, if_true, if_false, not_false_eq_true, not_true_eq_false, true_implies, false_implies, Classical.not_not, Nat.reduceAdd, Nat.reduceLeDiff])
    exact ⟨q1, q2⟩
  | k + 1, d, m, p, t, e, x, L, pre, hA, hC, hp, hh, ht, hbit, hz, he, hl, hpre, h3, hL, hx => by
    have hb := hA.1.1
    have tn : t ≠ 0 := fun z => by have := (gsz (v := t) (by omega)).1.mpr z; omega
    show zC (d + k + 5 + 1) 67 _ _ _
    refine ze67 ?_
    simp +contextual (disch := (first | omega | assumption | decide)) only [↓zbrT, ↓zbrF, zw67_0, zw67_1, zw67_2, zw67_3, zw67_5, zw67_6, zw67_7, zw67_8, zw67_9, zw67_10, zw67_11, zr_1, zr_3, zr_4, zr_7, zr_10, zr_12, zr_21, zr_26, zr_31, zr_33, zr_34, zr_35, zr_53, zr_54, zr_55, zr_57, zr_58, zr_61, zr_62, zr_68, zr_72, zr_73, zlg_0, zlg_s, zls_0, zls_1, zls_s, zkl_i, zkl_r, zkl_l, zkl_n, zrc_1, zrc_s, zcat_n, zcat_i, zcat_l, zcat_r, zkd_20, zkd_61, zkd_63, zln_63, zrf_61_2, Int.cast_ofNat_Int, Int.reduceAdd, zbd, zw_id, zmu_same, zmu_c, zmu_i, false_and, and_false, true_and, and_true, true_or, or_true, false_or, or_false, Option.toList, List.nil_append, List.cons_append, zif0, zif1, zif01, zem1, zem2, Int.reduceEq, Int.reduceLT, Int.reduceLE, Int.reduceNeg, Int.reduceSub, Int.reduceMul, if_true, if_false, not_false_eq_true, not_true_eq_false, true_implies, false_implies, Classical.not_not, Nat.reduceAdd, Nat.reduceLeDiff, tn]
    refine zfor 6 (fun j lc m' => 0 ≤ j ∧ (∃ x7, lc = [some (.inr (.inr 61)), some (.inr (.inr 20)), some (.inl p), some (.inl t), some (.inl e), some (.inl x), some (.inl j), x7]) ∧ gEt e m m' ∧ ((gMq V (gH V h) h t p j.toNat < 100000000 ∧ x + gMq V (gH V h) h t p j.toNat < L) → m' 61 4 = x + gMq V (gH V h) h t p j.toNat ∧ ∃ q : Nat, (q : Int) < j ∧ zbit t q = 1 ∧ gRB V (gH V h) t p q = gMq V (gH V h) h t p j.toNat ∧ (∀ r : Nat, r < q → zbit t r = 1 → gMq V (gH V h) h t p j.toNat < gRB V (gH V h) t p r) ∧ ∀ i : Nat, i < (pre ++ (q : Int) :: gOr V h k (gWo t q) q).length → m' 62 i = (pre ++ (q : Int) :: gOr V h k (gWo t q) q).getD i 0) ∧ (¬ (gMq V (gH V h) h t p j.toNat < 100000000 ∧ x + gMq V (gH V h) h t p j.toNat < L) → m' 61 4 = L ∧ ∀ i, m' 62 i = m 62 i)) ?_ ?_ (i := 0) (by decide) ?_
    · rintro j lc m' hj ⟨h0, ⟨x7, rfl⟩, hE, hyes, hno⟩ kk
      obtain ⟨n, rfl⟩ : ∃ n : Nat, j = n := ⟨j.toNat, by omega⟩
      rw [Int.toNat_natCast] at hyes hno
      have hA1 := gEt_A hE hA
      have hC1 := gEt_C hE hC
      have e3 : m' 61 3 = h := by rw [hE 61 3 (by omega)]; exact h3
      have en : ((n : Int) + 1).toNat = n + 1 := by omega
      have es : gMq V (gH V h) h t p (n + 1) = if zbit t n = 1 ∧ gRB V (gH V h) t p n < gMq V (gH V h) h t p n then gRB V (gH V h) t p n else gMq V (gH V h) h t p n := rfl
      -- the least now
      have hlt : ∃ Lj, m' 61 4 = Lj ∧ ((gMq V (gH V h) h t p n < 100000000 ∧ x + gMq V (gH V h) h t p n < L ∧ Lj = x + gMq V (gH V h) h t p n) ∨ (¬ (gMq V (gH V h) h t p n < 100000000 ∧ x + gMq V (gH V h) h t p n < L) ∧ Lj = L)) := by
        by_cases c : gMq V (gH V h) h t p n < 100000000 ∧ x + gMq V (gH V h) h t p n < L
        · exact ⟨_, (hyes c).1, Or.inl ⟨c.1, c.2, rfl⟩⟩
        · exact ⟨_, (hno c).1, Or.inr ⟨c, rfl⟩⟩
      obtain ⟨Lj, eL, hLj⟩ := hlt
      have mb : 0 ≤ gMq V (gH V h) h t p n ∧ gMq V (gH V h) h t p n ≤ 100000000 := by
        have := gMq_bd hA.1 (H := gH V h) (h := h) (t := t) (p := p) (B := 6400 * 8) (by omega) (fun _ => by omega) n (fun q a b => by
          have w := gWo_lt ht (q := q) (by omega) b
          have z8 := (gsz (v := gWo t q) (by omega)).2.2
          have := gH_bd hA.1 (h := h) (zpc (gWo t q)).toNat (gWo t q) q (by omega) (by omega)
          omega)
        omega
      -- nothing gained: the next round of the loop
      have same : gMq V (gH V h) h t p (n + 1) = gMq V (gH V h) h t p n ∨ (gMq V (gH V h) h t p (n + 1) = gRB V (gH V h) t p n ∧ L ≤ x + gRB V (gH V h) t p n ∧ Lj = L ∧ gRB V (gH V h) t p n < gMq V (gH V h) h t p n) → ∀ x7' m'', gEt e m m'' → m'' 61 4 = m' 61 4 → (∀ i, m'' 62 i = m' 62 i) → zWP (zEx (d + k + 5)) 67 4 [some (.inr (.inr 61)), some (.inr (.inr 20)), some (.inl p), some (.inl t), some (.inl e), some (.inl x), some (.inl ((n : Int) + 1)), x7'] [] m'' (fun r' m' => r' = none ∧ gEt e m m' ∧ gTou V h e L m m' (gH V h t p < 100000000 ∧ x + gH V h t p < L) (x + gH V h t p) (pre ++ gOr V h (k + 1) t p)) := by
        intro hs x7' m'' hE2 q1 q2
        refine kk _ _ ⟨by omega, ⟨_, rfl⟩, hE2, ?_, ?_⟩
        · rw [en]
          intro c
          rcases hs with hs | ⟨hs, hs2, hs3, hs4⟩
          · rw [hs] at c ⊢
            obtain ⟨y1, q, y2, y3, y4, y5, y6⟩ := hyes c
            exact ⟨by rw [q1]; exact y1, q, by omega, y3, y4, y5, fun i hi => by rw [q2]; exact y6 i hi⟩
          · rw [hs] at c
            omega
        · rw [en]
          intro c
          rcases hs with hs | ⟨hs, hs2, hs3, hs4⟩
          · rw [hs] at c
            have := hno c
            exact ⟨by rw [q1]; exact this.1, fun i => by rw [q2]; exact this.2 i⟩
          · have c' : ¬ (gMq V (gH V h) h t p n < 100000000 ∧ x + gMq V (gH V h) h t p n < L) := by omega
            have := hno c'
            exact ⟨by rw [q1]; exact this.1, fun i => by rw [q2]; exact this.2 i⟩
      have bj : zand (zshr t n) 1 = zbit t n := zbit_of ht.1 (by omega) (by omega) (by omega)
      rw [zw67_4]
      by_cases cb : zbit t n = 1
      · have np := hbit n (by omega) (by omega) cb
        have hqn : 0 ≤ (n : Int) ∧ (n : Int) < V 0 0 := ⟨by omega, np⟩
        have w := gWo_lt ht (q := n) (by omega) cb
        have g1 := gtt_bd hA.1 (p := p) (q := n)
        have g2 := gH_bd hA.1 (h := h) k (gWo t n) n (by omega) (by omega)
        have eRB : gRB V (gH V h) t p n = min 100000000 (gtt V p n + gH V h (gWo t n) n) := rfl
        by_cases cn : gtt V p n = 100000000
        · simp +contextual (disch := (first | omega | assumption | decide)) only [↓zbrT, ↓zbrF, zw67_0, zw67_1, zw67_2, zw67_3, zw67_5, zw67_6, zw67_7, zw67_8, zw67_9, zw67_10, zw67_11, zr_1, zr_3, zr_4, zr_7, zr_10, zr_12, zr_21, zr_26, zr_31, zr_33, zr_34, zr_35, zr_53, zr_54, zr_55, zr_57, zr_58, zr_61, zr_62, zr_68, zr_72, zr_73, zlg_0, zlg_s, zls_0, zls_1, zls_s, zkl_i, zkl_r, zkl_l, zkl_n, zrc_1, zrc_s, zcat_n, zcat_i, zcat_l, zcat_r, zkd_20, zkd_61, zkd_63, zln_63, zrf_61_2, Int.cast_ofNat_Int, Int.reduceAdd, zbd, zw_id, zmu_same, zmu_c, zmu_i, false_and, and_false, true_and, and_true, true_or, or_true, false_or, or_false, Option.toList, List.nil_append, List.cons_append, zif0, zif1, zif01, zem1, zem2, Int.reduceEq, Int.reduceLT, Int.reduceLE, Int.reduceNeg, Int.reduceSub, Int.reduceMul, if_true, if_false, not_false_eq_true, not_true_eq_false, true_implies, false_implies, Classical.not_not, Nat.reduceAdd, Nat.reduceLeDiff, bj, cb, zq16C hA.1 hC1 hp hqn, if_pos cn]
          exact same (Or.inl (by rw [es, if_neg (by
            have := gMq_bd hA.1 (H := gH V h) (h := h) (t := t) (p := p) (B := 6400 * 8) (by omega) (fun _ => by omega) n (fun q a b => by
              have w := gWo_lt ht (q := q) (by omega) b
              have z8 := (gsz (v := gWo t q) (by omega)).2.2
              have := gH_bd hA.1 (h := h) (zpc (gWo t q)).toNat (gWo t q) q (by omega) (by omega)
              omega)
            omega)])) _ _ hE rfl (fun _ => rfl)
        · by_cases cp : x + gtt V p n < Lj
          · have ew : zand t (zxor (2 ^ (n : Int).toNat) (-1)) = gWo t n := rfl
            simp +contextual (disch := (first | omega | assumption | decide)) only [↓zbrT, ↓zbrF, zw67_0, zw67_1, zw67_2, zw67_3, zw67_5, zw67_6, zw67_7, zw67_8, zw67_9, zw67_10, zw67_11, zr_1, zr_3, zr_4, zr_7, zr_10, zr_12, zr_21, zr_26, zr_31, zr_33, zr_34, zr_35, zr_53, zr_54, zr_55, zr_57, zr_58, zr_61, zr_62, zr_68, zr_72, zr_73, zlg_0, zlg_s, zls_0, zls_1, zls_s, zkl_i, zkl_r, zkl_l, zkl_n, zrc_1, zrc_s, zcat_n, zcat_i, zcat_l, zcat_r, zkd_20, zkd_61, zkd_63, zln_63, zrf_61_2, Int.cast_ofNat_Int, Int.reduceAdd, zbd, zw_id, zmu_same, zmu_c, zmu_i, false_and, and_false, true_and, and_true, true_or, or_true, false_or, or_false, Option.toList, List.nil_append, List.cons_append, zif0, zif1, zif01, zem1, zem2, Int.reduceEq, Int.reduceLT, Int.reduceLE, Int.reduceNeg, Int.reduceSub, Int.reduceMul, if_true, if_false, not_false_eq_true, not_true_eq_false, true_implies, false_implies, Classical.not_not, Nat.reduceAdd, Nat.reduceLeDiff, bj, cb, zq16C hA.1 hC1 hp hqn, if_neg cn, eL, cp, zshl_1, ew]
            have hE2 : gEt e m (zmu m' 63 e n) := fun c i hc => by
              unfold zmu
              rw [if_neg (by omega)]; exact hE c i hc
            have hpre2 : ∀ i : Nat, i < (pre ++ [(n : Int)]).length → (zmu m' 63 e n) 63 i = (pre ++ [(n : Int)]).getD i 0 := by
              intro i hi
              rw [List.length_append] at hi
              have l1 : [(n : Int)].length = 1 := rfl
              by_cases ci : (i : Int) = e
              · rw [ci, zmu_same, show i = pre.length by omega]; simp
              · rw [zmu_i ci, hE 63 i (by omega), hpre i (by omega), gGa (by omega)]
            have rec2 := gz67 (V := V) (h := h) k (d := d) (m := zmu m' 63 e n) (p := n) (t := gWo t n) (e := e + 1) (x := x + gtt V p n) (L := Lj) (pre := pre ++ [(n : Int)]) (gEt_A hE2 hA) (gEt_C hE2 hC) (by omega) hh (by omega) (fun q a b c => by
              rw [gWo_bit (by omega) (by omega) (by omega)] at c
              by_cases y : zbit t q = 1 ∧ q ≠ n
              · exact hbit q a b y.1
              · rw [if_neg y] at c; omega) (by omega) (by omega) (by rw [List.length_append]; show ((pre.length + 1 : Nat) : Int) = e + 1; omega) hpre2 (by rw [zmu_c (by decide)]; exact e3) ⟨by rw [zmu_c (by decide)]; exact eL, by omega, by omega⟩ (by omega)
            refine gK rec2 rfl rfl (Nat.le_of_ble_eq_true rfl) ?_
            rintro _ m2 ⟨rfl, hE3, hT⟩
            have hE4 : gEt e m m2 := gEt_tr hE2 hE3 (by omega)
            by_cases cg : gH V h (gWo t n) n < 100000000 ∧ x + gtt V p n + gH V h (gWo t n) n < Lj
            · -- gained
              have em : gMq V (gH V h) h t p (n + 1) = gRB V (gH V h) t p n := by rw [es, if_pos ⟨cb, by omega⟩]
              have eR : gRB V (gH V h) t p n = gtt V p n + gH V h (gWo t n) n := by omega
              refine kk _ _ ⟨by omega, ⟨_, rfl⟩, hE4, fun c => ?_, fun c => absurd ?_ c⟩
              · rw [en, em] at c ⊢
                have y := hT.1 cg
                refine ⟨by rw [y.1, eR]; omega, n, by omega, cb, rfl, fun r hr hz => ?_, fun i hi => ?_⟩
                · have := gMq_first (V := V) (H := gH V h) (h := h) (p := p) tn n r hr hz
                  omega
                · have := y.2 i (by rw [List.append_assoc]; exact hi)
                  rw [this, List.append_assoc]; rfl
              · rw [en, em, eR]; omega
            · have y := hT.2 cg
              refine same ?_ _ _ hE4 (by rw [y.1, eL]) (fun i => by rw [y.2, zmu_c (by decide)])
              by_cases cl : gRB V (gH V h) t p n < gMq V (gH V h) h t p n
              · right
                rw [es, if_pos ⟨cb, cl⟩]
                refine ⟨rfl, ?_, ?_, cl⟩ <;> omega
              · left
                rw [es, if_neg (fun z => cl z.2)]
          · simp +contextual (disch := (first | omega | assumption | decide)) only [↓zbrT, ↓zbrF, zw67_0, zw67_1, zw67_2, zw67_3, zw67_5, zw67_6, zw67_7, zw67_8, zw67_9, zw67_10, zw67_11, zr_1, zr_3, zr_4, zr_7, zr_10, zr_12, zr_21, zr_26, zr_31, zr_33, zr_34, zr_35, zr_53, zr_54, zr_55, zr_57, zr_58, zr_61, zr_62, zr_68, zr_72, zr_73, zlg_0, zlg_s, zls_0, zls_1, zls_s, zkl_i, zkl_r, zkl_l, zkl_n, zrc_1, zrc_s, zcat_n, zcat_i, zcat_l, zcat_r, zkd_20, zkd_61, zkd_63, zln_63, zrf_61_2, Int.cast_ofNat_Int, Int.reduceAdd, zbd, zw_id, zmu_same, zmu_c, zmu_i, false_and, and_false, true_and, and_true, true_or, or_true, false_or, or_false, Option.toList, List.nil_append, List.cons_append, zif0, zif1, zif01, zem1, zem2, Int.reduceEq, Int.reduceLT, Int.reduceLE, Int.reduceNeg, Int.reduceSub, Int.reduceMul, if_true, if_false, not_false_eq_true, not_true_eq_false, true_implies, false_implies, Classical.not_not, Nat.reduceAdd, Nat.reduceLeDiff, bj, cb, zq16C hA.1 hC1 hp hqn, if_neg cn, eL, cp]
            refine same ?_ _ _ hE rfl (fun _ => rfl)
            by_cases cl : gRB V (gH V h) t p n < gMq V (gH V h) h t p n
            · right
              rw [es, if_pos ⟨cb, cl⟩]
              refine ⟨rfl, ?_, ?_, cl⟩ <;> omega
            · left
              rw [es, if_neg (fun z => cl z.2)]
      · have cb0 : zbit t n = 0 := by have := zbit_01 t n; omega
        simp +contextual (disch := (first | omega | assumption | decide)) only [↓zbrT, ↓zbrF, zw67_0, zw67_1, zw67_2, zw67_3, zw67_5, zw67_6, zw67_7, zw67_8, zw67_9, zw67_10, zw67_11, zr_1, zr_3, zr_4, zr_7, zr_10, zr_12, zr_21, zr_26, zr_31, zr_33, zr_34, zr_35, zr_53, zr_54, zr_55, zr_57, zr_58, zr_61, zr_62, zr_68, zr_72, zr_73, zlg_0, zlg_s, zls_0, zls_1, zls_s, zkl_i, zkl_r, zkl_l, zkl_n, zrc_1, zrc_s, zcat_n, zcat_i, zcat_l, zcat_r, zkd_20, zkd_61, zkd_63, zln_63, zrf_61_2, Int.cast_ofNat_Int, Int.reduceAdd, zbd, zw_id, zmu_same, zmu_c, zmu_i, false_and, and_false, true_and, and_true, true_or, or_true, false_or, or_false, Option.toList, List.nil_append, List.cons_append, zif0, zif1, zif01, zem1, zem2, Int.reduceEq, Int.reduceLT, Int.reduceLE, Int.reduceNeg, Int.reduceSub, Int.reduceMul, if_true, if_false, not_false_eq_true, not_true_eq_false, true_implies, false_implies, Classical.not_not, Nat.reduceAdd, Nat.reduceLeDiff, bj, cb0]
        exact same (Or.inl (by rw [es, if_neg (fun z => cb z.1)])) _ _ hE rfl (fun _ => rfl)
    · rintro lc m' ⟨h0, ⟨x7, rfl⟩, hE, hyes, hno⟩
      rw [show (6 : Int).toNat = 6 from rfl, ← gH_eq ht] at hyes hno
      rw [zw67_4]
      simp +contextual (disch := (first | omega | assumption | decide)) only [↓zbrT, ↓zbrF, zw67_0, zw67_1, zw67_2, zw67_3, zw67_5, zw67_6, zw67_7, zw67_8, zw67_9, zw67_10, zw67_11, zr_1, zr_3, zr_4, zr_7, zr_10, zr_12, zr_21, zr_26, zr_31, zr_33, zr_34, zr_35, zr_53, zr_54, zr_55, zr_57, zr_58, zr_61, zr_62, zr_68, zr_72, zr_73, zlg_0, zlg_s, zls_0, zls_1, zls_s, zkl_i, zkl_r, zkl_l, zkl_n, zrc_1, zrc_s, zcat_n, zcat_i, zcat_l, zcat_r, zkd_20, zkd_61, zkd_63, zln_63, zrf_61_2, Int.cast_ofNat_Int, Int.reduceAdd, zbd, zw_id, zmu_same, zmu_c, zmu_i, false_and, and_false, true_and, and_true, true_or, or_true, false_or, or_false, Option.toList, List.nil_append, List.cons_append, zif0, zif1, zif01, zem1, zem2, Int.reduceEq, Int.reduceLT, Int.reduceLE, Int.reduceNeg, Int.reduceSub, Int.reduceMul, if_true, if_false, not_false_eq_true, not_true_eq_false, true_implies, false_implies, Classical.not_not, Nat.reduceAdd, Nat.reduceLeDiff]
      refine ⟨hE, fun c => ?_, hno⟩
      obtain ⟨y1, q, y2, y3, y4, y5, y6⟩ := hyes c
      have eq : gQ1 V h t p 6 = q := by
        refine gFst_at (gFst_all q (fun r hr z => ?_)) ⟨y3, y4⟩ 6 (by omega)
        have := y5 r hr z.1
        omega
      have eo : gOr V h (k + 1) t p = (q : Int) :: gOr V h k (gWo t q) q := by
        show gQ1 V h t p 6 :: gOr V h k (gWo t (gQ1 V h t p 6)) (gQ1 V h t p 6) = _
        rw [eq]
      rw [eo]
      exact ⟨y1, y6⟩
    · refine ⟨by decide, ⟨_, rfl⟩, fun _ _ _ => rfl, fun c => ?_, fun _ => ⟨hL.1, fun _ => rfl⟩⟩
      exfalso
      have : gMq V (gH V h) h t p (0 : Int).toNat = 100000000 := by
        show (if t = 0 then gtt V p h else 100000000) = 100000000
        rw [if_neg tn]
      omega
