/-! ===== the tape: T 0 0 length, T 0 1 fault, T 0 2 its place, T 1 bytes ===== -/
def gTo1 (T : zMm) : Prop := (0 ≤ T 0 0 ∧ T 0 0 ≤ 900) ∧ ∀ i, 0 ≤ i → i < T 0 0 → -128 ≤ T 1 i ∧ T 1 i ≤ 127
def gTc (T m : zMm) : Prop := m 1 0 = T 0 0 ∧ m 1 1 = T 0 1 ∧ m 1 2 = T 0 2 ∧ ∀ i, 0 ≤ i → i < T 0 0 → m 2 i = T 1 i
def gTm (T m : zMm) : Prop := m 131 6 = T 0 0 ∧ m 131 14 = T 0 1 ∧ m 131 15 = T 0 2 ∧ ∀ i, 0 ≤ i → i < T 0 0 → m 136 i = T 1 i
theorem gTc_of {T m m' : zMm} (h : gTc T m) (h1 : ∀ c i, c = 1 ∨ c = 2 → m' c i = m c i) : gTc T m' := ⟨by rw [h1 1 0 (by decide)]; exact h.1, by rw [h1 1 1 (by decide)]; exact h.2.1, by rw [h1 1 2 (by decide)]; exact h.2.2.1, fun i a b => by rw [h1 2 i (by decide)]; exact h.2.2.2 i a b⟩
theorem gTm_of {T m m' : zMm} (h : gTm T m) (h1 : ∀ c i, (c = 131 ∧ (i = 6 ∨ i = 14 ∨ i = 15)) ∨ c = 136 → m' c i = m c i) : gTm T m' := ⟨by rw [h1 131 6 (by decide)]; exact h.1, by rw [h1 131 14 (by decide)]; exact h.2.1, by rw [h1 131 15 (by decide)]; exact h.2.2.1, fun i a b => by rw [h1 136 i (by omega)]; exact h.2.2.2 i a b⟩
theorem zw8_bd (x : Int) : -128 ≤ zw8 x ∧ zw8 x ≤ 127 := by
  have h1 := Int.le_bmod (x := x) (m := 256) (by decide)
  have h2 := Int.bmod_lt (x := x) (m := 256) (by decide)
  unfold zw8
  omega
theorem zf4_at {o f c : Int} {m : zMm} {v i : Int} (h : c ≠ o) : zf4 o f c m v c i = if m o f ≤ i ∧ i < m o f + 4 then zw8 (zshr v (24 - 8 * (i - m o f))) else m c i := by
  unfold zf4
  rw [if_neg (fun z => h z.1)]
  by_cases x : m o f ≤ i ∧ i < m o f + 4
  · rw [if_pos ⟨rfl, x⟩, if_pos x]
  · rw [if_neg (fun z => x z.2), if_neg x]
theorem zf4_k {T : zMm} {v : Int} (h : gTo1 T) (h1 : T 0 0 ≤ 896) : gTo1 (zf4 0 0 1 T v) := by
  refine ⟨by rw [zf4_l]; have := h.1; omega, fun i a b => ?_⟩
  rw [zf4_l] at b
  unfold zf4
  rw [if_neg (by omega)]
  by_cases c : T 0 0 ≤ i
  · rw [if_pos (by omega)]; exact zw8_bd _
  · rw [if_neg (by omega)]; exact h.2 i a (by omega)
theorem zf4_c {T m : zMm} {v : Int} (h : gTc T m) : gTc (zf4 0 0 1 T v) (zf4 1 0 2 m v) := by
  refine ⟨by rw [zf4_l, zf4_l, h.1], ?_, ?_, fun i a b => ?_⟩
  · unfold zf4
    rw [if_neg (by omega), if_neg (by omega), if_neg (by omega), if_neg (by omega)]; exact h.2.1
  · unfold zf4
    rw [if_neg (by omega), if_neg (by omega), if_neg (by omega), if_neg (by omega)]; exact h.2.2.1
  · rw [zf4_l] at b
    rw [zf4_at (by decide), zf4_at (by decide), h.1]
    by_cases c : T 0 0 ≤ i
    · rw [if_pos (by omega), if_pos (by omega)]
    · rw [if_neg (by omega), if_neg (by omega)]; exact h.2.2.2 i a (by omega)
theorem zf4_m {T m : zMm} {v : Int} (h : gTm T m) : gTm (zf4 0 0 1 T v) (zf4 131 6 136 m v) := by
  refine ⟨by rw [zf4_l, zf4_l, h.1], ?_, ?_, fun i a b => ?_⟩
  · unfold zf4
    rw [if_neg (by omega), if_neg (by omega), if_neg (by omega), if_neg (by omega)]; exact h.2.1
  · unfold zf4
    rw [if_neg (by omega), if_neg (by omega), if_neg (by omega), if_neg (by omega)]; exact h.2.2.1
  · rw [zf4_l] at b
    rw [zf4_at (by decide), zf4_at (by decide), h.1]
    by_cases c : T 0 0 ≤ i
    · rw [if_pos (by omega), if_pos (by omega)]
    · rw [if_neg (by omega), if_neg (by omega)]; exact h.2.2.2 i a (by omega)
theorem zf4_o {o f c : Int} {m : zMm} {v c' i' : Int} (h : ¬ (c' = o ∧ i' = f) ∧ c' ≠ c) : zf4 o f c m v c' i' = m c' i' := by
  unfold zf4
  rw [if_neg h.1, if_neg (fun z => h.2 z.1)]
/-- changes the tape only -/
def gHc (m m' : zMm) : Prop := ∀ c i, c ≠ 1 ∧ c ≠ 2 → m' c i = m c i
def gHm (m m' : zMm) : Prop := ∀ c i, c ≠ 136 ∧ ¬ (c = 131 ∧ (i = 0 ∨ i = 6)) → m' c i = m c i
def sp69 (T : zMm) : Int := if 880 < T 0 0 then -1 else T 0 0 + 20
theorem zf20_k {T : zMm} {a b c e f : Int} (h : gTo1 T) (h1 : ¬ 880 < T 0 0) : gTo1 (zf20 0 0 1 T a b c e f) := by
  have := h.1
  unfold zf20
  refine zf4_k (zf4_k (zf4_k (zf4_k (zf4_k h (by omega)) ?_) ?_) ?_) ?_ <;> simp only [zf4_l] <;> omega
theorem gz69 {d : Nat} {m T T1 : zMm} {a b c e f : Int} (hk : gTo1 T) (ht : gTc T m) (h1 : gV1 T (¬ 880 < T 0 0) (zf20 0 0 1 T a b c e f) T1) : zC (d + 2) 69 [.inr (.inr 0), .inl a, .inl b, .inl c, .inl e, .inl f] m (fun r' m' => r' = some (.inl (sp69 T)) ∧ gTc T1 m' ∧ gHc m m') := by
  refine ⟨_, _, ga69 (by rw [ht.1]; exact hk.1), by rw [ht.1]; rfl, ?_⟩
  rw [ht.1]
  by_cases x : 880 < T 0 0
  · rw [if_pos x, h1.2 (fun z => z x)]; exact ⟨ht, fun _ _ _ => rfl⟩
  · rw [if_neg x, h1.1 x]
    refine ⟨zf4_c (zf4_c (zf4_c (zf4_c (zf4_c ht)))), fun c' i' hc => ?_⟩
    unfold zf20
    rw [zf4_o (by omega), zf4_o (by omega), zf4_o (by omega), zf4_o (by omega), zf4_o (by omega)]
theorem gTm_0 {T m : zMm} (h : gTm T m) : gTm T (zmu m 131 0 0) := gTm_of h (fun c i hc => by unfold zmu; rw [if_neg (by omega)])
theorem gz176 {d : Nat} {m T T1 : zMm} {a b c e f : Int} (hk : gTo1 T) (ht : gTm T m) (h1 : gV1 T (¬ 880 < T 0 0) (zf20 0 0 1 T a b c e f) T1) : zC (d + 2) 176 [.inr (.inr 131), .inl a, .inl b, .inl c, .inl e, .inl f] m (fun r' m' => r' = some (.inl (sp69 T)) ∧ gTm T1 m' ∧ gHm m m') := by
  refine ⟨_, _, ga176 (by rw [ht.1]; exact hk.1), by rw [ht.1]; rfl, ?_⟩
  rw [ht.1]
  by_cases x : 880 < T 0 0
  · rw [if_pos x, h1.2 (fun z => z x)]; exact ⟨gTm_0 ht, fun c i hc => by unfold zmu; rw [if_neg (by omega)]⟩
  · rw [if_neg x, h1.1 x]
    refine ⟨zf4_m (zf4_m (zf4_m (zf4_m (zf4_m (gTm_0 ht))))), fun c' i' hc => ?_⟩
    unfold zf20
    rw [zf4_o (by omega), zf4_o (by omega), zf4_o (by omega), zf4_o (by omega), zf4_o (by omega)]
    unfold zmu
    rw [if_neg (by omega)]
def sp70 (T : zMm) (n : Int) : Int := if 0 ≤ n ∧ n ≤ T 0 0 then n else -1
theorem gTe_k {T : zMm} {n : Int} (h : gTo1 T) (h1 : 0 ≤ n ∧ n ≤ T 0 0) : gTo1 (zmu T 0 0 n) := by
  have := h.1
  refine ⟨by rw [zmu_same]; omega, fun i a b => ?_⟩
  rw [zmu_same] at b
  rw [zmu_c (by decide)]; exact h.2 i a (by omega)
theorem gTe_c {T m : zMm} {n : Int} (h : gTc T m) (hn : n ≤ T 0 0) : gTc (zmu T 0 0 n) (zmu m 1 0 n) := ⟨by rw [zmu_same, zmu_same], by rw [zmu_i (by decide), zmu_i (by decide)]; exact h.2.1, by rw [zmu_i (by decide), zmu_i (by decide)]; exact h.2.2.1, fun i a b => by
  rw [zmu_same] at b
  rw [zmu_c (by decide), zmu_c (by decide)]; exact h.2.2.2 i a (by omega)⟩
theorem gTe_m {T m : zMm} {n : Int} (h : gTm T m) (hn : n ≤ T 0 0) : gTm (zmu T 0 0 n) (zmu m 131 6 n) := ⟨by rw [zmu_same, zmu_same], by rw [zmu_i (by decide), zmu_i (by decide)]; exact h.2.1, by rw [zmu_i (by decide), zmu_i (by decide)]; exact h.2.2.1, fun i a b => by
  rw [zmu_same] at b
  rw [zmu_c (by decide), zmu_c (by decide)]; exact h.2.2.2 i a (by omega)⟩
theorem gz70 {d : Nat} {m T T1 : zMm} {n : Int} (ht : gTc T m) (h1 : gV1 T (0 ≤ n ∧ n ≤ T 0 0) (zmu T 0 0 n) T1) : zC (d + 1) 70 [.inr (.inr 0), .inl n] m (fun r' m' => r' = some (.inl (sp70 T n)) ∧ gTc T1 m' ∧ gHc m m') := by
  refine ⟨_, _, ga70, by rw [ht.1]; rfl, ?_⟩
  rw [ht.1]
  by_cases x : 0 ≤ n ∧ n ≤ T 0 0
  · rw [if_pos x, h1.1 x]; exact ⟨gTe_c ht x.2, fun c i hc => zmu_c (by omega)⟩
  · rw [if_neg x, h1.2 x]; exact ⟨ht, fun _ _ _ => rfl⟩
theorem gz178 {d : Nat} {m T T1 : zMm} {n : Int} (ht : gTm T m) (h1 : gV1 T (0 ≤ n ∧ n ≤ T 0 0) (zmu T 0 0 n) T1) : zC (d + 2) 178 [.inr (.inr 131), .inl n] m (fun r' m' => r' = some (.inl (sp70 T n)) ∧ gTm T1 m' ∧ gHm m m') := by
  refine ⟨_, _, ga178, by rw [ht.1]; rfl, ?_⟩
  rw [ht.1]
  by_cases x : 0 ≤ n ∧ n ≤ T 0 0
  · rw [if_pos x, h1.1 x]; exact ⟨gTe_m (gTm_0 ht) x.2, fun c i hc => by unfold zmu; rw [if_neg (by omega), if_neg (by omega)]⟩
  · rw [if_neg x, h1.2 x]; exact ⟨gTm_0 ht, fun c i hc => by unfold zmu; rw [if_neg (by omega)]⟩
def sp72 (T : zMm) (n : Int) : Int := if n = 0 then T 0 1 else if n = 1 then T 0 2 else -1
theorem gz72 {d : Nat} {m T : zMm} {n : Int} (ht : gTc T m) : zC (d + 1) 72 [.inr (.inr 0), .inl n] m (fun r' m' => r' = some (.inl (sp72 T n)) ∧ m' = m) := ⟨_, _, ga72, by rw [ht.2.1, ht.2.2.1]; rfl, rfl⟩
theorem gz191 {d : Nat} {m T : zMm} {n : Int} (ht : gTm T m) : zC (d + 1) 191 [.inr (.inr 131), .inl n] m (fun r' m' => r' = some (.inl (sp72 T n)) ∧ m' = zmu m 131 0 0) := ⟨_, _, ga191, by rw [ht.2.1, ht.2.2.1]; rfl, rfl⟩
/-! ===== count ===== -/
def gNs (U : zMm) : Nat → Int
  | 0 => 0
  | k + 1 => gNs U k + if U 0 k = -1 then 0 else 1
theorem gNs_bd (U : zMm) : ∀ k : Nat, 0 ≤ gNs U k ∧ gNs U k ≤ k
  | 0 => by unfold gNs; omega
  | k + 1 => by
    have := gNs_bd U k
    unfold gNs
    split <;> omega
theorem gNs_s {U : zMm} {k : Int} (h : 0 ≤ k) : gNs U (k + 1).toNat = gNs U k.toNat + if U 0 k = -1 then 0 else 1 := by
  rw [show (k + 1).toNat = k.toNat + 1 by omega]
  show gNs U k.toNat + (if U 0 (k.toNat : Nat) = -1 then 0 else 1) = _
  rw [show ((k.toNat : Nat) : Int) = k by omega]
theorem zq85 {d : Nat} {m : zMm} {rest : List zV} {k : List zV → zMm → Prop} {U : zMm} (hu : gCu U m) : zcl (zEx (d + 2)) 85 1 (.inr (.inr 0) :: rest) m k = (zcat rest ≤ 8 ∧ k (.inl (gNs U 4) :: rest) m) := by
  refine zcl_eq (as := [.inr (.inr 0)]) (r := some (.inl (gNs U 4))) (zC_eq.mp (ze85 ?_)) rfl rfl
  simp +contextual (disch := (first | omega | assumption | decide)) only [↓zbrT, ↓zbrF, zw85_0, zw85_2, zw85_3, zw85_4, zw85_5, zr_1, zr_3, zr_4, zr_7, zr_12, zr_20, zr_53, zr_54, zr_58, zr_61, zr_68, zr_70, zr_73, zlg_0, zlg_s, zls_0, zls_1, zls_s, zkl_i, zkl_r, zkl_l, zkl_n, zrc_1, zrc_s, zcat_n, zcat_i, zcat_l, zcat_r, zkd_0, zkd_123, zkd_125, zkd_127, zkd_129, zkd_65, zkd_a65, zln_65, zrf_0_12, zrf_a65, Int.cast_ofNat_Int, Int.reduceAdd, zbd, zw_id, false_and, and_false, true_and, and_true, true_or, or_true, false_or, or_false, Option.toList, List.nil_append, List.cons_append, zif0, zif1, zif01, zem1, zem2, Int.reduceEq, Int.reduceLT, Int.reduceLE, Int.reduceNeg, Int.reduceSub, Int.reduceMul, if_true, if_false, not_false_eq_true, not_true_eq_false, true_implies, false_implies, Classical.not_not, Nat.reduceAdd, Nat.reduceLeDiff]
  refine zfor 4 (fun k lc m' => 0 ≤ k ∧ lc = [some (.inr (.inr 0)), some (.inl (gNs U k.toNat)), some (.inl k)] ∧ m' = m) ?_ ?_ (i := 0) (by omega) ?_
  · rintro k lc m' hk ⟨h0, rfl, rfl⟩ kk
    have e := (hu k h0 hk).1
    have b := gNs_bd U k.toNat
    have z := zkd_a65 h0 hk
    rw [zw85_1]
    by_cases c : U 0 k = -1
    · rw [c] at e
      simp +contextual (disch := (first | omega | assumption | decide)) only [↓zbrT, ↓zbrF, zw85_0, zw85_2, zw85_3, zw85_4, zw85_5, zr_1, zr_3, zr_4, zr_7, zr_12, zr_20, zr_53, zr_54, zr_58, zr_61, zr_68, zr_70, zr_73, zlg_0, zlg_s, zls_0, zls_1, zls_s, zkl_i, zkl_r, zkl_l, zkl_n, zrc_1, zrc_s, zcat_n, zcat_i, zcat_l, zcat_r, zkd_0, zkd_123, zkd_125, zkd_127, zkd_129, zkd_65, zkd_a65, zln_65, zrf_0_12, zrf_a65, Int.cast_ofNat_Int, Int.reduceAdd, zbd, zw_id, false_and, and_false, true_and, and_true, true_or, or_true, false_or, or_false, Option.toList, List.nil_append, List.cons_append, zif0, zif1, zif01, zem1, zem2, Int.reduceEq, Int.reduceLT, Int.reduceLE, Int.reduceNeg, Int.reduceSub, Int.reduceMul, if_true, if_false, not_false_eq_true, not_true_eq_false, true_implies, false_implies, Classical.not_not, Nat.reduceAdd, Nat.reduceLeDiff, zq37, z, e]
      exact kk _ _ ⟨by omega, by rw [gNs_s h0, if_pos c, Int.add_zero], rfl⟩
    · have c' : ¬ m' (123 + 2 * k) 1 = -1 := by omega
      simp +contextual (disch := (first | omega | assumption | decide)) only [↓zbrT, ↓zbrF, zw85_0, zw85_2, zw85_3, zw85_4, zw85_5, zr_1, zr_3, zr_4, zr_7, zr_12, zr_20, zr_53, zr_54, zr_58, zr_61, zr_68, zr_70, zr_73, zlg_0, zlg_s, zls_0, zls_1, zls_s, zkl_i, zkl_r, zkl_l, zkl_n, zrc_1, zrc_s, zcat_n, zcat_i, zcat_l, zcat_r, zkd_0, zkd_123, zkd_125, zkd_127, zkd_129, zkd_65, zkd_a65, zln_65, zrf_0_12, zrf_a65, Int.cast_ofNat_Int, Int.reduceAdd, zbd, zw_id, false_and, and_false, true_and, and_true, true_or, or_true, false_or, or_false, Option.toList, List.nil_append, List.cons_append, zif0, zif1, zif01, zem1, zem2, Int.reduceEq, Int.reduceLT, Int.reduceLE, Int.reduceNeg, Int.reduceSub, Int.reduceMul, if_true, if_false, not_false_eq_true, not_true_eq_false, true_implies, false_implies, Classical.not_not, Nat.reduceAdd, Nat.reduceLeDiff, zq37, z, c']
      exact kk _ _ ⟨by omega, by rw [gNs_s h0, if_neg c], rfl⟩
  · rintro lc m' ⟨h0, rfl, rfl⟩
    rw [zw85_1]
    simp +contextual (disch := (first | omega | assumption | decide)) only [↓zbrT, ↓zbrF, zw85_0, zw85_2, zw85_3, zw85_4, zw85_5, zr_1, zr_3, zr_4, zr_7, zr_12, zr_20, zr_53, zr_54, zr_58, zr_61, zr_68, zr_70, zr_73, zlg_0, zlg_s, zls_0, zls_1, zls_s, zkl_i, zkl_r, zkl_l, zkl_n, zrc_1, zrc_s, zcat_n, zcat_i, zcat_l, zcat_r, zkd_0, zkd_123, zkd_125, zkd_127, zkd_129, zkd_65, zkd_a65, zln_65, zrf_0_12, zrf_a65, Int.cast_ofNat_Int, Int.reduceAdd, zbd, zw_id, false_and, and_false, true_and, and_true, true_or, or_true, false_or, or_false, Option.toList, List.nil_append, List.cons_append, zif0, zif1, zif01, zem1, zem2, Int.reduceEq, Int.reduceLT, Int.reduceLE, Int.reduceNeg, Int.reduceSub, Int.reduceMul, if_true, if_false, not_false_eq_true, not_true_eq_false, true_implies, false_implies, Classical.not_not, Nat.reduceAdd, Nat.reduceLeDiff]
    rfl
  · exact ⟨by decide, rfl, rfl⟩
