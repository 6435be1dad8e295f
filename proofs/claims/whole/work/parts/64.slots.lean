/-! ===== row, write, paste over U ===== -/
theorem grow_0 {s w n : Int} (h : grow s w n = 0) : (0 ≤ s ∧ s ≤ 3) ∧ (0 ≤ w ∧ w ≤ 3) ∧ 0 ≤ n ∧ n ≤ 60 := by
  unfold grow at h
  split at h
  · omega
  · split at h <;> omega
theorem gwri_0 {s w n i : Int} (h : gwri s w n i = 0) : (0 ≤ s ∧ s ≤ 3) ∧ w ≠ -1 ∧ 0 ≤ i ∧ i < n := by
  unfold gwri at h
  split at h
  · omega
  · split at h
    · omega
    · split at h <;> omega
theorem gpas_0 {s i t k n u v p q : Int} (h : gpas s i t k n u v p q = 0) : (0 ≤ s ∧ s ≤ 3) ∧ (0 ≤ t ∧ t ≤ 3) ∧ u ≠ -1 ∧ v ≠ -1 ∧ u = v ∧ 0 ≤ i ∧ 0 ≤ k ∧ 0 ≤ n ∧ i + n ≤ p ∧ k + n ≤ q := by
  unfold gpas at h
  split at h
  · omega
  · split at h
    · omega
    · split at h
      · omega
      · split at h <;> omega
def gUr (U : zMm) (s w n : Int) : zMm := fun c i => if c = 2 ∧ 60 * s ≤ i ∧ i < 60 * s + 60 then 0 else if c = 1 ∧ i = s then n else if c = 0 ∧ i = s then w else U c i
theorem gUr_0 {U : zMm} {s w n t : Int} : gUr U s w n 0 t = if t = s then w else U 0 t := by
  unfold gUr
  rw [if_neg (by omega), if_neg (by omega)]
  by_cases e : t = s
  · rw [if_pos ⟨rfl, e⟩, if_pos e]
  · rw [if_neg (by omega), if_neg e]
theorem gUr_1 {U : zMm} {s w n t : Int} : gUr U s w n 1 t = if t = s then n else U 1 t := by
  unfold gUr
  rw [if_neg (by omega)]
  by_cases e : t = s
  · rw [if_pos ⟨rfl, e⟩, if_pos e]
  · rw [if_neg (by omega), if_neg (by omega), if_neg e]
theorem gUr_2 {U : zMm} {s w n i : Int} : gUr U s w n 2 i = if 60 * s ≤ i ∧ i < 60 * s + 60 then 0 else U 2 i := by
  unfold gUr
  by_cases e : 60 * s ≤ i ∧ i < 60 * s + 60
  · rw [if_pos ⟨rfl, e⟩, if_pos e]
  · rw [if_neg (by omega), if_neg (by omega), if_neg (by omega), if_neg e]
theorem gUr_k {U : zMm} {s w n : Int} (hk : gUk U) (h : grow s w n = 0) : gUk (gUr U s w n) := fun t a b => by
  have := grow_0 h
  have q := hk t a b
  rw [gUr_0, gUr_1]
  by_cases e : t = s
  · rw [if_pos e, if_pos e]; omega
  · rw [if_neg e, if_neg e]; exact q
def gFc (m m' : zMm) : Prop := ∀ c i, c < 123 ∨ 130 < c → m' c i = m c i
def gFm (m m' : zMm) : Prop := ∀ c i, c ≠ 132 ∧ c ≠ 133 ∧ c ≠ 134 ∧ c ≠ 135 ∧ ¬ (c = 131 ∧ i = 0) → m' c i = m c i
theorem gz167 {d : Nat} {m U U1 : zMm} {s w n : Int} (hk : gUk U) (hu : gCu U m) (h1 : gV1 U (grow s w n = 0) (gUr U s w n) U1) : zC (d + 3) 167 [.inr (.inr 0), .inl s, .inl w, .inl n] m (fun r' m' => r' = some (.inl (grow s w n)) ∧ gCu U1 m' ∧ gFc m m') := by
  refine ⟨_, _, ga167, rfl, ?_⟩
  by_cases c : grow s w n = 0
  · have g := grow_0 c
    rw [if_pos c, h1.1 c]
    refine ⟨fun t a b => ?_, fun c' i' hc => ?_⟩
    · have q := hu t a b
      have qk := hk t a b
      unfold zlay
      rw [gUr_0, gUr_1]
      by_cases e : t = s
      · subst e
        rw [if_pos rfl, if_pos rfl]
        refine ⟨?_, ?_, fun i a' b' => ?_⟩
        · simp (disch := omega) only [if_neg, if_pos, and_self, if_true]
        · simp (disch := omega) only [if_neg, if_pos, and_self, if_true]
        · rw [if_pos (by omega), gUr_2, if_pos (by omega)]
      · rw [if_neg e, if_neg e]
        refine ⟨?_, ?_, fun i a' b' => ?_⟩
        · rw [if_neg (by omega), if_neg (by omega), if_neg (by omega)]; exact q.1
        · rw [if_neg (by omega), if_neg (by omega), if_neg (by omega)]; exact q.2.1
        · rw [if_neg (by omega), if_neg (by omega), if_neg (by omega), gUr_2, if_neg (by omega)]
          exact q.2.2 i a' b'
    · unfold zlay
      rw [if_neg (by omega), if_neg (by omega), if_neg (by omega)]
  · rw [if_neg c, h1.2 c]
    exact ⟨hu, fun _ _ _ => rfl⟩
theorem gFm_0 {m : zMm} : gFm m (zmu m 131 0 0) := fun c i hc => by unfold zmu; rw [if_neg (by omega)]
theorem gMu_0 {U m : zMm} (h : gMu U m) : gMu U (zmu m 131 0 0) := gMu_of h (fun c i a b => zmu_c (by omega))
theorem gz172 {d : Nat} {m U U1 : zMm} {s w n : Int} (hk : gUk U) (hu : gMu U m) (h1 : gV1 U (grow s w n = 0) (gUr U s w n) U1) : zC (d + 3) 172 [.inr (.inr 131), .inl s, .inl w, .inl n] m (fun r' m' => r' = some (.inl (grow s w n)) ∧ gMu U1 m' ∧ gFm m m') := by
  refine ⟨_, _, ga172, rfl, ?_⟩
  by_cases c : grow s w n = 0
  · have g := grow_0 c
    rw [if_pos c, h1.1 c]
    refine ⟨fun t a b => ?_, fun c' i' hc => ?_⟩
    · have q := hu t a b
      have qk := hk t a b
      unfold glayM
      rw [gUr_0, gUr_1]
      by_cases e : t = s
      · subst e
        rw [if_pos rfl, if_pos rfl]
        refine ⟨?_, ?_, fun i a' b' => ?_⟩
        · simp (disch := omega) only [if_neg, if_pos, and_self, if_true]
        · simp (disch := omega) only [if_neg, if_pos, and_self, if_true]
        · rw [if_pos (by omega), gUr_2, if_pos (by omega)]
      · rw [if_neg e, if_neg e]
        refine ⟨?_, ?_, fun i a' b' => ?_⟩
        · rw [if_neg (by omega), if_neg (by omega), if_neg (by omega), if_neg (by omega)]; exact q.1
        · rw [if_neg (by omega), if_neg (by omega), if_neg (by omega), if_neg (by omega)]; exact q.2.1
        · rw [if_neg (by omega), if_neg (by omega), if_neg (by omega), if_neg (by omega), gUr_2, if_neg (by omega)]
          exact q.2.2 i a' b'
    · unfold glayM
      rw [if_neg (by omega), if_neg (by omega), if_neg (by omega), if_neg (by omega)]
  · rw [if_neg c, h1.2 c]
    exact ⟨gMu_0 hu, gFm_0⟩
def gUw (U : zMm) (s i v : Int) : zMm := zmu U 2 (60 * s + i) (gcut (U 0 s) v)
theorem gUw_k {U : zMm} {s i v : Int} (hk : gUk U) : gUk (gUw U s i v) := fun t a b => by
  unfold gUw
  rw [zmu_c (by decide), zmu_c (by decide)]; exact hk t a b
theorem gz168 {d : Nat} {m U U1 : zMm} {s i v : Int} (hk : gUk U) (hu : gCu U m) (h1 : gV1 U (gwri s (U 0 s) (U 1 s) i = 0) (gUw U s i v) U1) : zC (d + 2) 168 [.inr (.inr 0), .inl s, .inl i, .inr (.inl v)] m (fun r' m' => r' = some (.inl (gwri s (U 0 s) (U 1 s) i)) ∧ gCu U1 m' ∧ gFc m m') := by
  by_cases cs : 0 ≤ s ∧ s < 4
  · have q := hu s cs.1 cs.2
    have qk := hk s cs.1 cs.2
    have r := ga168 (d := d) (m := m) (s := s) (i := i) (v := v) (by omega)
    rw [q.1, q.2.1] at r
    refine ⟨_, _, r, rfl, ?_⟩
    by_cases c : gwri s (U 0 s) (U 1 s) i = 0
    · have g := gwri_0 c
      rw [if_pos c, h1.1 c]
      refine ⟨fun t a b => ?_, fun c' i' hc => zmu_c (by omega)⟩
      have q' := hu t a b
      have qk' := hk t a b
      unfold gUw
      rw [zmu_c (by omega), zmu_c (by omega), zmu_c (by omega), zmu_c (by omega)]
      refine ⟨q'.1, q'.2.1, fun j a' b' => ?_⟩
      unfold zmu
      by_cases e : t = s ∧ j = i
      · rw [e.1, e.2, if_pos ⟨rfl, rfl⟩, if_pos ⟨rfl, rfl⟩]
      · rw [if_neg (by omega), if_neg (by omega)]; exact q'.2.2 j a' b'
    · rw [if_neg c, h1.2 c]
      exact ⟨hu, fun _ _ _ => rfl⟩
  · have e : gwri s (U 0 s) (U 1 s) i = -2 := by
      unfold gwri
      rw [if_pos (by omega)]
    rw [h1.2 (by omega), e]
    refine ze168 ?_
    simp +contextual (disch := (first | omega | assumption | decide)) only [↓zbrT, ↓zbrF, zw168_0, zw168_1, zw168_2, zw168_3, zw168_4, zw168_5, zw168_6, zw168_7, zr_1, zr_2, zr_3, zr_6, zr_7, zr_10, zr_12, zr_20, zr_24, zr_57, zr_62, zr_63, zr_68, zr_69, zr_70, zlg_0, zlg_s, zls_0, zls_1, zls_s, zkl_i, zkl_r, zkl_l, zkl_n, zrc_1, zrc_s, zcat_n, zcat_i, zcat_l, zcat_r, zkd_0, zkd_123, zkd_124, zkd_125, zkd_126, zkd_127, zkd_128, zkd_129, zkd_130, zkd_65, zkd_a65, zkd_a65_0, zln_124, zln_126, zln_128, zln_130, zln_65, zln_a65_0, zrf_0_12, zrf_123_0, zrf_125_0, zrf_127_0, zrf_129_0, zrf_a65, zrf_a65_0, Int.cast_ofNat_Int, Int.reduceAdd, zbd, zmu_same, zmu_c, zmu_i, false_and, and_false, true_and, and_true, true_or, or_true, false_or, or_false, Option.toList, List.nil_append, List.cons_append, zif0, zif1, zif01, zem1, zem2, Int.reduceEq, Int.reduceLT, Int.reduceLE, Int.reduceNeg, Int.reduceSub, Int.reduceMul, if_true, if_false, not_false_eq_true, not_true_eq_false, true_implies, false_implies, Classical.not_not, Nat.reduceAdd, Nat.reduceLeDiff, zq141, if_neg cs]
    exact ⟨hu, fun _ _ _ => rfl⟩
theorem gz174 {d : Nat} {m U U1 : zMm} {s i v : Int} (hk : gUk U) (hu : gMu U m) (h1 : gV1 U (gwri s (U 0 s) (U 1 s) i = 0) (gUw U s i v) U1) : zC (d + 3) 174 [.inr (.inr 131), .inl s, .inl i, .inr (.inl v)] m (fun r' m' => r' = some (.inl (gwri s (U 0 s) (U 1 s) i)) ∧ gMu U1 m' ∧ gFm m m') := by
  have r := ga174 (d := d) (m := m) (s := s) (i := i) (v := v) (fun a b => by have := hu s a (by omega); have := hk s a (by omega); omega)
  have eq : gwri s (m 132 s) (m 133 s) i = gwri s (U 0 s) (U 1 s) i := by
    by_cases cs : 0 ≤ s ∧ s ≤ 3
    · have q := hu s cs.1 (by omega)
      rw [q.1, q.2.1]
    · unfold gwri
      rw [if_pos cs, if_pos cs]
  rw [eq] at r
  refine ⟨_, _, r, rfl, ?_⟩
  by_cases c : gwri s (U 0 s) (U 1 s) i = 0
  · have g := gwri_0 c
    have q := hu s g.1.1 (by omega)
    have qk := hk s g.1.1 (by omega)
    rw [if_pos c, h1.1 c, q.1]
    refine ⟨fun t a b => ?_, fun c' i' hc => by rw [zmu_c (by omega)]; exact gFm_0 c' i' hc⟩
    have q' := hu t a b
    have qk' := hk t a b
    unfold gUw
    rw [zmu_c (by omega), zmu_c (by omega), zmu_c (by omega), zmu_c (by omega), zmu_c (by decide), zmu_c (by decide)]
    refine ⟨q'.1, q'.2.1, fun j a' b' => ?_⟩
    unfold zmu
    by_cases e : t = s ∧ j = i
    · rw [e.1, e.2, if_pos ⟨rfl, rfl⟩, if_pos ⟨rfl, rfl⟩]
    · rw [if_neg (by omega), if_neg (by omega), if_neg (by omega)]; exact q'.2.2 j a' b'
  · rw [if_neg c, h1.2 c]
    exact ⟨gMu_0 hu, gFm_0⟩
def gUp2 (U : zMm) (s i t k n : Int) : zMm := fun c j => if c = 2 ∧ 60 * t + k ≤ j ∧ j < 60 * t + k + n then U 2 (60 * s + i + (j - (60 * t + k))) else U c j
theorem gUp2_c {U : zMm} {s i t k n c j : Int} (h : c ≠ 2) : gUp2 U s i t k n c j = U c j := by
  unfold gUp2
  rw [if_neg (fun z => h z.1)]
theorem gUp2_k {U : zMm} {s i t k n : Int} (hk : gUk U) : gUk (gUp2 U s i t k n) := fun x a b => by
  rw [gUp2_c (by decide), gUp2_c (by decide)]; exact hk x a b
def sp169 (U : zMm) (s i t k n : Int) : Int := gpas s i t k n (U 0 s) (U 0 t) (U 1 s) (U 1 t)
theorem gz169 {d : Nat} {m U U1 : zMm} {s i t k n : Int} (hi : i < 2147483648) (hkk : k < 2147483648) (hn : n < 2147483648) (hk : gUk U) (hu : gCu U m) (h1 : gV1 U (sp169 U s i t k n = 0) (gUp2 U s i t k n) U1) : zC (d + 2) 169 [.inr (.inr 0), .inl s, .inl i, .inl t, .inl k, .inl n] m (fun r' m' => r' = some (.inl (sp169 U s i t k n)) ∧ gCu U1 m' ∧ gFc m m') := by
  by_cases cs : 0 ≤ s ∧ s < 4
  · by_cases ct : 0 ≤ t ∧ t < 4
    · have q := hu s cs.1 cs.2
      have qk := hk s cs.1 cs.2
      have q2 := hu t ct.1 ct.2
      have qk2 := hk t ct.1 ct.2
      have r := ga169 (d := d) (m := m) (s := s) (i := i) (t := t) (k := k) (n := n) (by omega) (by omega) hi hkk hn
      rw [q.1, q.2.1, q2.1, q2.2.1, show gpas s i t k n (U 0 s) (U 0 t) (U 1 s) (U 1 t) = sp169 U s i t k n from rfl] at r
      refine ⟨_, _, r, rfl, ?_⟩
      by_cases c : sp169 U s i t k n = 0
      · have g := gpas_0 c
        rw [if_pos c, h1.1 c]
        refine ⟨fun x a b => ?_, fun c' i' hc => ?_⟩
        · have q' := hu x a b
          have qk' := hk x a b
          rw [gUp2_c (by decide), gUp2_c (by decide)]
          unfold gcpy
          rw [if_neg (by omega), if_neg (by omega)]
          refine ⟨q'.1, q'.2.1, fun j a' b' => ?_⟩
          unfold gUp2
          by_cases e : x = t ∧ k ≤ j ∧ j < k + n
          · rw [if_pos (by omega), if_pos (by omega), q.2.2 (i + (j - k)) (by omega) (by omega), e.1]
            congr 1
            omega
          · rw [if_neg (by omega), if_neg (by omega)]; exact q'.2.2 j a' b'
        · unfold gcpy
          rw [if_neg (by omega)]
      · rw [if_neg c, h1.2 c]
        exact ⟨hu, fun _ _ _ => rfl⟩
    · have e : sp169 U s i t k n = -2 := by
        unfold sp169 gpas
        rw [if_pos (by omega)]
      rw [h1.2 (by omega), e]
      refine ze169 ?_
      simp +contextual (disch := (first | omega | assumption | decide)) only [↓zbrT, ↓zbrF, zw169_0, zw169_1, zw169_2, zw169_3, zw169_4, zw169_5, zw169_6, zw169_7, zw169_8, zw169_9, zw169_10, zw169_11, zr_1, zr_3, zr_6, zr_7, zr_10, zr_12, zr_20, zr_55, zr_61, zr_62, zr_68, zr_69, zr_70, zlg_0, zlg_s, zls_0, zls_1, zls_s, zkl_i, zkl_r, zkl_l, zkl_n, zrc_1, zrc_s, zcat_n, zcat_i, zcat_l, zcat_r, zkd_0, zkd_123, zkd_124, zkd_125, zkd_126, zkd_127, zkd_128, zkd_129, zkd_130, zkd_65, zkd_a65, zkd_a65_0, zln_124, zln_126, zln_128, zln_130, zln_65, zln_a65_0, zrf_0_12, zrf_123_0, zrf_125_0, zrf_127_0, zrf_129_0, zrf_a65, zrf_a65_0, Int.cast_ofNat_Int, Int.reduceAdd, zbd, false_and, and_false, true_and, and_true, true_or, or_true, false_or, or_false, Option.toList, List.nil_append, List.cons_append, zif0, zif1, zif01, zem1, zem2, Int.reduceEq, Int.reduceLT, Int.reduceLE, Int.reduceNeg, Int.reduceSub, Int.reduceMul, if_true, if_false, not_false_eq_true, not_true_eq_false, true_implies, false_implies, Classical.not_not, Nat.reduceAdd, Nat.reduceLeDiff, zq141, if_neg ct, if_pos cs]
      exact ⟨hu, fun _ _ _ => rfl⟩
  · have e : sp169 U s i t k n = -2 := by
      unfold sp169 gpas
      rw [if_pos (by omega)]
    rw [h1.2 (by omega), e]
    refine ze169 ?_
    simp +contextual (disch := (first | omega | assumption | decide)) only [↓zbrT, ↓zbrF, zw169_0, zw169_1, zw169_2, zw169_3, zw169_4, zw169_5, zw169_6, zw169_7, zw169_8, zw169_9, zw169_10, zw169_11, zr_1, zr_3, zr_6, zr_7, zr_10, zr_12, zr_20, zr_55, zr_61, zr_62, zr_68, zr_69, zr_70, zlg_0, zlg_s, zls_0, zls_1, zls_s, zkl_i, zkl_r, zkl_l, zkl_n, zrc_1, zrc_s, zcat_n, zcat_i, zcat_l, zcat_r, zkd_0, zkd_123, zkd_124, zkd_125, zkd_126, zkd_127, zkd_128, zkd_129, zkd_130, zkd_65, zkd_a65, zkd_a65_0, zln_124, zln_126, zln_128, zln_130, zln_65, zln_a65_0, zrf_0_12, zrf_123_0, zrf_125_0, zrf_127_0, zrf_129_0, zrf_a65, zrf_a65_0, Int.cast_ofNat_Int, Int.reduceAdd, zbd, false_and, and_false, true_and, and_true, true_or, or_true, false_or, or_false, Option.toList, List.nil_append, List.cons_append, zif0, zif1, zif01, zem1, zem2, Int.reduceEq, Int.reduceLT, Int.reduceLE, Int.reduceNeg, Int.reduceSub, Int.reduceMul, if_true, if_false, not_false_eq_true, not_true_eq_false, true_implies, false_implies, Classical.not_not, Nat.reduceAdd, Nat.reduceLeDiff, zq141, if_neg cs]
    exact ⟨hu, fun _ _ _ => rfl⟩
theorem gz175 {d : Nat} {m U U1 : zMm} {s i t k n : Int} (hi : i < 2147483648) (hkk : k < 2147483648) (hn : n < 2147483648) (hk : gUk U) (hu : gMu U m) (h1 : gV1 U (sp169 U s i t k n = 0) (gUp2 U s i t k n) U1) : zC (d + 3) 175 [.inr (.inr 131), .inl s, .inl i, .inl t, .inl k, .inl n] m (fun r' m' => r' = some (.inl (sp169 U s i t k n)) ∧ gMu U1 m' ∧ gFm m m') := by
  have r := ga175 (d := d) (m := m) (s := s) (i := i) (t := t) (k := k) (n := n) (fun a b => by have := hu s a (by omega); have := hk s a (by omega); omega) (fun a b => by have := hu t a (by omega); have := hk t a (by omega); omega) hi hkk hn
  have eq : gpas s i t k n (m 132 s) (m 132 t) (m 133 s) (m 133 t) = sp169 U s i t k n := by
    unfold sp169
    by_cases cs : (0 ≤ s ∧ s ≤ 3) ∧ (0 ≤ t ∧ t ≤ 3)
    · have q := hu s cs.1.1 (by omega)
      have q2 := hu t cs.2.1 (by omega)
      rw [q.1, q.2.1, q2.1, q2.2.1]
    · unfold gpas
      rw [if_pos cs, if_pos cs]
  rw [eq] at r
  refine ⟨_, _, r, rfl, ?_⟩
  by_cases c : sp169 U s i t k n = 0
  · have g := gpas_0 c
    have q := hu s g.1.1 (by omega)
    have qk := hk s g.1.1 (by omega)
    have qk2 := hk t g.2.1.1 (by omega)
    rw [if_pos c, h1.1 c]
    refine ⟨fun x a b => ?_, fun c' i' hc => ?_⟩
    · have q' := hu x a b
      have qk' := hk x a b
      rw [gUp2_c (by decide), gUp2_c (by decide)]
      unfold gpsM
      refine ⟨?_, ?_, fun j a' b' => ?_⟩
      · rw [if_neg (by omega), if_neg (by omega), if_neg (by omega)]; exact q'.1
      · rw [if_neg (by omega), if_neg (by omega), if_neg (by omega)]; exact q'.2.1
      unfold gUp2
      by_cases e : x = t ∧ k ≤ j ∧ j < k + n
      · rw [if_pos (by omega), if_pos (by omega), show 60 * s + i + (60 * x + j - (60 * t + k)) = 60 * s + (i + (j - k)) by omega, q.2.2 (i + (j - k)) (by omega) (by omega)]
      · rw [if_neg (by omega), if_neg (by omega), if_neg (by omega), if_neg (by omega)]; exact q'.2.2 j a' b'
    · unfold gpsM
      rw [if_neg (by omega), if_neg (by omega), if_neg (by omega)]
  · rw [if_neg c, h1.2 c]
    exact ⟨gMu_0 hu, gFm_0⟩
