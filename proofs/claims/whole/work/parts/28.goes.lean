/-! ===== the model: its shire, its search of ways ===== -/
/-- the model's shire holds V -/
def gMo (V m : zMm) : Prop :=
  (m 138 0 = V 0 0 ∧ m 138 1 = V 0 1 ∧ m 138 2 = V 0 2 ∧ m 138 3 = V 0 3 ∧ m 138 4 = V 0 4 ∧ m 138 5 = V 0 5 ∧ m 138 6 = V 0 6 ∧ m 138 7 = V 0 7 ∧ m 138 8 = V 0 8 ∧ m 138 9 = V 0 9 ∧ m 137 0 = V 0 10) ∧
  (∀ r, 0 ≤ r → r < V 0 5 → m 139 (4 * r) = vA V r ∧ m 139 (4 * r + 1) = vB V r ∧ m 139 (4 * r + 2) = vM V r ∧ m 139 (4 * r + 3) = vT V r) ∧
  (∀ f, 0 ≤ f → f < V 0 6 → m 140 (5 * f) = vF V f 0 ∧ m 140 (5 * f + 1) = vF V f 1 ∧ m 140 (5 * f + 2) = vF V f 2 ∧ m 140 (5 * f + 3) = vF V f 3 ∧ m 140 (5 * f + 4) = vF V f 4)
theorem gM_0 {V m : zMm} (h : gMo V m) : m 138 0 = V 0 0 := h.1.1
theorem gM_1 {V m : zMm} (h : gMo V m) : m 138 1 = V 0 1 := h.1.2.1
theorem gM_2 {V m : zMm} (h : gMo V m) : m 138 2 = V 0 2 := h.1.2.2.1
theorem gM_3 {V m : zMm} (h : gMo V m) : m 138 3 = V 0 3 := h.1.2.2.2.1
theorem gM_4 {V m : zMm} (h : gMo V m) : m 138 4 = V 0 4 := h.1.2.2.2.2.1
theorem gM_5 {V m : zMm} (h : gMo V m) : m 138 5 = V 0 5 := h.1.2.2.2.2.2.1
theorem gM_6 {V m : zMm} (h : gMo V m) : m 138 6 = V 0 6 := h.1.2.2.2.2.2.2.1
theorem gM_7 {V m : zMm} (h : gMo V m) : m 138 7 = V 0 7 := h.1.2.2.2.2.2.2.2.1
theorem gM_8 {V m : zMm} (h : gMo V m) : m 138 8 = V 0 8 := h.1.2.2.2.2.2.2.2.2.1
theorem gM_9 {V m : zMm} (h : gMo V m) : m 138 9 = V 0 9 := h.1.2.2.2.2.2.2.2.2.2.1
theorem gM_10 {V m : zMm} (h : gMo V m) : m 137 0 = V 0 10 := h.1.2.2.2.2.2.2.2.2.2.2
theorem gM_r0 {V m : zMm} (h : gMo V m) {r : Int} (h0 : 0 ≤ r) (h1 : r < V 0 5) : m 139 (4 * r) = vA V r := (h.2.1 r h0 h1).1
theorem gM_r1 {V m : zMm} (h : gMo V m) {r : Int} (h0 : 0 ≤ r) (h1 : r < V 0 5) : m 139 (4 * r + 1) = vB V r := (h.2.1 r h0 h1).2.1
theorem gM_r2 {V m : zMm} (h : gMo V m) {r : Int} (h0 : 0 ≤ r) (h1 : r < V 0 5) : m 139 (4 * r + 2) = vM V r := (h.2.1 r h0 h1).2.2.1
theorem gM_r3 {V m : zMm} (h : gMo V m) {r : Int} (h0 : 0 ≤ r) (h1 : r < V 0 5) : m 139 (4 * r + 3) = vT V r := (h.2.1 r h0 h1).2.2.2
theorem gM_f0 {V m : zMm} (h : gMo V m) {f : Int} (h0 : 0 ≤ f) (h1 : f < V 0 6) : m 140 (5 * f) = vF V f 0 := (h.2.2 f h0 h1).1
theorem gM_f1 {V m : zMm} (h : gMo V m) {f : Int} (h0 : 0 ≤ f) (h1 : f < V 0 6) : m 140 (5 * f + 1) = vF V f 1 := (h.2.2 f h0 h1).2.1
theorem gM_f2 {V m : zMm} (h : gMo V m) {f : Int} (h0 : 0 ≤ f) (h1 : f < V 0 6) : m 140 (5 * f + 2) = vF V f 2 := (h.2.2 f h0 h1).2.2.1
theorem gM_f3 {V m : zMm} (h : gMo V m) {f : Int} (h0 : 0 ≤ f) (h1 : f < V 0 6) : m 140 (5 * f + 3) = vF V f 3 := (h.2.2 f h0 h1).2.2.2.1
theorem gM_f4 {V m : zMm} (h : gMo V m) {f : Int} (h0 : 0 ≤ f) (h1 : f < V 0 6) : m 140 (5 * f + 4) = vF V f 4 := (h.2.2 f h0 h1).2.2.2.2
theorem gMo_of {V m m' : zMm} (h : gMo V m) (h1 : ∀ c i, 137 ≤ c → c ≤ 140 → m' c i = m c i) : gMo V m' := by
  refine ⟨?_, fun r h2 h3 => ?_, fun f h2 h3 => ?_⟩
  · simp only [h1 138 _ (by decide) (by decide), h1 137 _ (by decide) (by decide)]; exact h.1
  · simp only [h1 139 _ (by decide) (by decide)]; exact h.2.1 r h2 h3
  · simp only [h1 140 _ (by decide) (by decide)]; exact h.2.2 f h2 h3
/-- alike but for what the search of ways writes -/
def gEw (m m' : zMm) : Prop := ∀ c i, c ≠ 143 ∧ c ≠ 144 ∧ (c ≠ 131 ∨ i < 24 ∨ 26 < i) → m' c i = m c i
theorem gEw_r {m m' : zMm} (h : gEw m m') {c i : Int} (h1 : c ≠ 143 ∧ c ≠ 144 ∧ (c ≠ 131 ∨ i < 24 ∨ 26 < i)) : m' c i = m c i := h c i h1
theorem gEw_refl {m : zMm} : gEw m m := fun _ _ _ => rfl
theorem gEw_tr {m m' m'' : zMm} (h1 : gEw m m') (h2 : gEw m' m'') : gEw m m'' := fun c i h => by rw [h2 c i h, h1 c i h]
theorem gEw_mo {V m m' : zMm} (h : gEw m m') (h1 : gMo V m) : gMo V m' := gMo_of h1 (fun c i a b => h c i (by omega))
theorem gGa {l t : List Int} {i : Nat} (h : i < l.length) : (l ++ t).getD i 0 = l.getD i 0 := by rw [List.getD_eq_getElem?_getD, List.getElem?_append_left h, ← List.getD_eq_getElem?_getD]
/-- tolls of a road -/
def vG (V : zMm) (s r : Int) : Int := if zbit s r = 1 then vT V r else 0
/-- the best way so far lies in memory -/
def gBst (t g : Int → Int) (B : Option (List Int)) (m : zMm) : Prop := match B with
  | none => m 131 24 = -1
  | some l => m 131 24 = l.length ∧ m 131 25 = gWt t l ∧ m 131 26 = gWt g l ∧ ∀ i : Nat, i < l.length → m 144 i = l.getD i 0
def gcp8 (m : zMm) (n : Int) : zMm := fun c i => if c = 144 ∧ 0 ≤ i ∧ i < n then m 143 i else m c i
theorem gPs_s {N : Nat} {a b : Int → Int} {v : Int} {k : Nat} {u met : Int} (h : ¬ u = v) : gPs N a b v (k + 1) u met = gPr (fun r => if (u = a r ∨ u = b r) ∧ zbit met (gBy a b r u) = 0 then (gPs N a b v k (gBy a b r u) (met + 2 ^ (gBy a b r u).toNat)).map (fun l => r :: l) else []) N := by
  show (if u = v then [[]] else _) = _
  rw [if_neg h]
theorem gz210 {V : zMm} (hV : gOk V) {s v : Int} (hs : 0 ≤ s ∧ s < 256) (hv : 0 ≤ v ∧ v < V 0 0) : ∀ (k : Nat) {d : Nat} {m : zMm} {u met n tl ml : Int} {pre : List Int} {B : Option (List Int)}, gMo V m → (0 ≤ u ∧ u < V 0 0) → (0 ≤ met ∧ met < 64) → zpc met = 7 - k → n = 6 - k → (pre.length : Int) = n → (∀ i : Nat, i < pre.length → m 143 i = pre.getD i 0) → tl = gWt (vG V s) pre → ml = gWt (vM V) pre → (0 ≤ tl ∧ tl ≤ 99 * n) → (0 ≤ ml ∧ ml ≤ 20 * n) → gBst (vG V s) (vM V) B m → zC (d + k + 1) 210 [.inr (.inr 131), .inl u, .inl v, .inl met, .inl n, .inl tl, .inl ml, .inl s] m (fun r' m' => r' = none ∧ gEw m m' ∧ gBst (vG V s) (vM V) (((gPs (V 0 5).toNat (vA V) (vB V) v k u met).map (fun l => pre ++ l)).foldl (gUp (vG V s) (vM V)) B) m' ∧ ∀ i : Nat, i < pre.length → m' 143 i = pre.getD i 0)
  | 0, d, m, u, met, n, tl, ml, pre, B, hM, hu, hm, hp, hn, hl, hpa, ht, hg, bt, bg, hB => by
    exfalso
    have := gpc64 met.toNat (by omega)
    rw [show ((met.toNat : Nat) : Int) = met by omega] at this
    omega
  | k + 1, d, m, u, met, n, tl, ml, pre, B, hM, hu, hm, hp, hn, hl, hpa, ht, hg, bt, bg, hB => by
    have hb := hV.1
    show zC (d + k + 1 + 1) 210 _ _ _
    refine ze210 ?_
    by_cases c : u = v
    · have eP : (((gPs (V 0 5).toNat (vA V) (vB V) v (k + 1) u met).map (fun l => pre ++ l)).foldl (gUp (vG V s) (vM V)) B) = gUp (vG V s) (vM V) B pre := by
        unfold gPs
        rw [if_pos c]
        show gUp (vG V s) (vM V) B (pre ++ []) = _
        rw [List.append_nil]
      rw [eP]
      -- the end of an update
      have upd : zWP (zEx (d + k + 1)) 210 6 [some (.inr (.inr 131)), some (.inl u), some (.inl v), some (.inl met), some (.inl n), some (.inl tl), some (.inl ml), some (.inl s), none, none] [] m (fun r' m' => r' = none ∧ gEw m m' ∧ gBst (vG V s) (vM V) (some pre) m' ∧ ∀ i : Nat, i < pre.length → m' 143 i = pre.getD i 0) := by
        simp +contextual (disch := (first | omega | assumption | decide)) only [↓zbrT, ↓zbrF, zw210_0, zw210_1, zw210_2, zw210_3, zw210_4, zw210_5, zw210_6, zw210_8, zw210_9, zw210_10, zw210_12, zw210_13, zw210_14, zw210_15, zw210_16, zw210_17, zw210_18, zw210_19, zw210_20, zw210_21, zw210_22, zw210_23, zw210_24, zw210_25, zr_1, zr_3, zr_4, zr_7, zr_10, zr_12, zr_13, zr_16, zr_21, zr_26, zr_28, zr_32, zr_34, zr_53, zr_54, zr_55, zr_56, zr_57, zr_58, zr_59, zr_61, zr_68, zr_69, zr_72, zr_73, zlg_0, zlg_s, zls_0, zls_1, zls_s, zkl_i, zkl_r, zkl_l, zkl_n, zrc_1, zrc_s, zcat_n, zcat_i, zcat_l, zcat_r, zkd_131, zkd_138, zkd_139, zkd_143, zkd_144, zln_138, zln_139, zln_143, zln_144, zrf_131_17, zrf_131_18, zrf_131_22, zrf_131_23, Int.cast_ofNat_Int, Int.reduceAdd, zbd, zw_id, zmu_same, zmu_c, zmu_i, false_and, and_false, true_and, and_true, true_or, or_true, false_or, or_false, Option.toList, List.nil_append, List.cons_append, zif0, zif1, zif01, zem1, zem2, Int.reduceEq, Int.reduceLT, Int.reduceLE, Int.reduceNeg, Int.reduceSub, Int.reduceMul, if_true, if_false, not_false_eq_true, not_true_eq_false, true_implies, false_implies, Classical.not_not, Nat.reduceAdd, Nat.reduceLeDiff]
        refine zfor n (fun j lc m' => 0 ≤ j ∧ (∃ x9, lc = [some (.inr (.inr 131)), some (.inl u), some (.inl v), some (.inl met), some (.inl n), some (.inl tl), some (.inl ml), some (.inl s), some (.inl j), x9]) ∧ m' = gcp8 (zmu (zmu (zmu m 131 24 n) 131 25 tl) 131 26 ml) j) ?_ ?_ (i := 0) (by omega) ?_
        · rintro j lc m' hj ⟨h0, ⟨x9, rfl⟩, rfl⟩ kk
          rw [zw210_7]
          simp +contextual (disch := (first | omega | assumption | decide)) only [↓zbrT, ↓zbrF, zw210_0, zw210_1, zw210_2, zw210_3, zw210_4, zw210_5, zw210_6, zw210_8, zw210_9, zw210_10, zw210_12, zw210_13, zw210_14, zw210_15, zw210_16, zw210_17, zw210_18, zw210_19, zw210_20, zw210_21, zw210_22, zw210_23, zw210_24, zw210_25, zr_1, zr_3, zr_4, zr_7, zr_10, zr_12, zr_13, zr_16, zr_21, zr_26, zr_28, zr_32, zr_34, zr_53, zr_54, zr_55, zr_56, zr_57, zr_58, zr_59, zr_61, zr_68, zr_69, zr_72, zr_73, zlg_0, zlg_s, zls_0, zls_1, zls_s, zkl_i, zkl_r, zkl_l, zkl_n, zrc_1, zrc_s, zcat_n, zcat_i, zcat_l, zcat_r, zkd_131, zkd_138, zkd_139, zkd_143, zkd_144, zln_138, zln_139, zln_143, zln_144, zrf_131_17, zrf_131_18, zrf_131_22, zrf_131_23, Int.cast_ofNat_Int, Int.reduceAdd, zbd, zw_id, zmu_same, zmu_c, zmu_i, false_and, and_false, true_and, and_true, true_or, or_true, false_or, or_false, Option.toList, List.nil_append, List.cons_append, zif0, zif1, zif01, zem1, zem2, Int.reduceEq, Int.reduceLT, Int.reduceLE, Int.reduceNeg, Int.reduceSub, Int.reduceMul, if_true, if_false, not_false_eq_true, not_true_eq_false, true_implies, false_implies, Classical.not_not, Nat.reduceAdd, Nat.reduceLeDiff]
          refine kk _ _ ⟨by omega, ⟨_, rfl⟩, ?_⟩
          funext c' i'
          simp only [zmu, gcp8]
          (repeat' split) <;> (first | rfl | omega | (exfalso; omega) | (congr 1; omega) | (rename_i h1 _ _; rw [h1.2]))
        · rintro lc m' ⟨h0, ⟨x9, rfl⟩, rfl⟩
          rw [zw210_7]
          simp +contextual (disch := (first | omega | assumption | decide)) only [↓zbrT, ↓zbrF, zw210_0, zw210_1, zw210_2, zw210_3, zw210_4, zw210_5, zw210_6, zw210_8, zw210_9, zw210_10, zw210_12, zw210_13, zw210_14, zw210_15, zw210_16, zw210_17, zw210_18, zw210_19, zw210_20, zw210_21, zw210_22, zw210_23, zw210_24, zw210_25, zr_1, zr_3, zr_4, zr_7, zr_10, zr_12, zr_13, zr_16, zr_21, zr_26, zr_28, zr_32, zr_34, zr_53, zr_54, zr_55, zr_56, zr_57, zr_58, zr_59, zr_61, zr_68, zr_69, zr_72, zr_73, zlg_0, zlg_s, zls_0, zls_1, zls_s, zkl_i, zkl_r, zkl_l, zkl_n, zrc_1, zrc_s, zcat_n, zcat_i, zcat_l, zcat_r, zkd_131, zkd_138, zkd_139, zkd_143, zkd_144, zln_138, zln_139, zln_143, zln_144, zrf_131_17, zrf_131_18, zrf_131_22, zrf_131_23, Int.cast_ofNat_Int, Int.reduceAdd, zbd, zw_id, zmu_same, zmu_c, zmu_i, false_and, and_false, true_and, and_true, true_or, or_true, false_or, or_false, Option.toList, List.nil_append, List.cons_append, zif0, zif1, zif01, zem1, zem2, Int.reduceEq, Int.reduceLT, Int.reduceLE, Int.reduceNeg, Int.reduceSub, Int.reduceMul, if_true, if_false, not_false_eq_true, not_true_eq_false, true_implies, false_implies, Classical.not_not, Nat.reduceAdd, Nat.reduceLeDiff]
          refine ⟨fun c i hc => ?_, ⟨?_, ?_, ?_, fun i hi => ?_⟩, fun i hi => ?_⟩
          · simp only [gcp8, zmu]
            (repeat' split) <;> (first | rfl | (exfalso; omega))
          · show n = _; omega
          · exact ht
          · exact hg
          · rw [← hpa i hi]
            unfold gcp8
            rw [if_pos ⟨rfl, by omega, by omega⟩, zmu_c (by decide), zmu_c (by decide), zmu_c (by decide)]
          · rw [← hpa i hi]
            simp only [gcp8, zmu]
            (repeat' split) <;> (first | rfl | (exfalso; omega))
        · refine ⟨by decide, ⟨_, rfl⟩, ?_⟩
          funext c' i'
          simp only [gcp8]
          rw [if_neg (by omega)]
      cases B with
      | none =>
        have hB' : m 131 24 = -1 := hB
        simp (disch := (first | omega | assumption | decide)) only [↓zbrT, ↓zbrF, zw210_0, zw210_1, zw210_2, zw210_3, zw210_4, zw210_5, zw210_8, zw210_9, zw210_10, zw210_12, zw210_13, zw210_14, zw210_15, zw210_16, zw210_17, zw210_18, zw210_19, zw210_20, zw210_21, zw210_22, zw210_23, zw210_24, zw210_25, zr_1, zr_3, zr_4, zr_7, zr_10, zr_12, zr_13, zr_16, zr_21, zr_26, zr_28, zr_32, zr_34, zr_53, zr_54, zr_55, zr_56, zr_57, zr_58, zr_59, zr_61, zr_68, zr_69, zr_72, zr_73, zlg_0, zlg_s, zls_0, zls_1, zls_s, zkl_i, zkl_r, zkl_l, zkl_n, zrc_1, zrc_s, zcat_n, zcat_i, zcat_l, zcat_r, zkd_131, zkd_138, zkd_139, zkd_143, zkd_144, zln_138, zln_139, zln_143, zln_144, zrf_131_17, zrf_131_18, zrf_131_22, zrf_131_23, Int.cast_ofNat_Int, Int.reduceAdd, zbd, zw_id, zmu_same, zmu_c, zmu_i, false_and, and_false, true_and, and_true, true_or, or_true, false_or, or_false, Option.toList, List.nil_append, List.cons_append, zif0, zif1, zif01, zem1, zem2, Int.reduceEq, Int.reduceLT, Int.reduceLE, Int.reduceNeg, Int.reduceSub, Int.reduceMul, if_true, if_false, not_false_eq_true, not_true_eq_false, true_implies, false_implies, Classical.not_not, Nat.reduceAdd, Nat.reduceLeDiff, c, hB']
        rw [c] at upd
        exact upd
      | some l =>
        obtain ⟨h1, h2, h3, h4⟩ := hB
        by_cases c1 : gWt (vG V s) pre < gWt (vG V s) l ∨ (gWt (vG V s) pre = gWt (vG V s) l ∧ gWt (vM V) pre < gWt (vM V) l)
        · have e : gUp (vG V s) (vM V) (some l) pre = some pre := by simp only [gUp]; rw [if_pos c1]
          rw [e]
          rw [c] at upd
          by_cases c2 : tl = gWt (vG V s) l
          · simp (disch := (first | omega | assumption | decide)) only [↓zbrT, ↓zbrF, zw210_0, zw210_1, zw210_2, zw210_3, zw210_4, zw210_5, zw210_8, zw210_9, zw210_10, zw210_12, zw210_13, zw210_14, zw210_15, zw210_16, zw210_17, zw210_18, zw210_19, zw210_20, zw210_21, zw210_22, zw210_23, zw210_24, zw210_25, zr_1, zr_3, zr_4, zr_7, zr_10, zr_12, zr_13, zr_16, zr_21, zr_26, zr_28, zr_32, zr_34, zr_53, zr_54, zr_55, zr_56, zr_57, zr_58, zr_59, zr_61, zr_68, zr_69, zr_72, zr_73, zlg_0, zlg_s, zls_0, zls_1, zls_s, zkl_i, zkl_r, zkl_l, zkl_n, zrc_1, zrc_s, zcat_n, zcat_i, zcat_l, zcat_r, zkd_131, zkd_138, zkd_139, zkd_143, zkd_144, zln_138, zln_139, zln_143, zln_144, zrf_131_17, zrf_131_18, zrf_131_22, zrf_131_23, Int.cast_ofNat_Int, Int.reduceAdd, zbd, zw_id, zmu_same, zmu_c, zmu_i, false_and, and_false, true_and, and_true, true_or, or_true, false_or, or_false, Option.toList, List.nil_append, List.cons_append, zif0, zif1, zif01, zem1, zem2, Int.reduceEq, Int.reduceLT, Int.reduceLE, Int.reduceNeg, Int.reduceSub, Int.reduceMul, if_true, if_false, not_false_eq_true, not_true_eq_false, true_implies, false_implies, Classical.not_not, Nat.reduceAdd, Nat.reduceLeDiff, c, h1, h2, h3, c2]
            rw [c2] at upd
            exact upd
          · simp (disch := (first | omega | assumption | decide)) only [↓zbrT, ↓zbrF, zw210_0, zw210_1, zw210_2, zw210_3, zw210_4, zw210_5, zw210_8, zw210_9, zw210_10, zw210_12, zw210_13, zw210_14, zw210_15, zw210_16, zw210_17, zw210_18, zw210_19, zw210_20, zw210_21, zw210_22, zw210_23, zw210_24, zw210_25, zr_1, zr_3, zr_4, zr_7, zr_10, zr_12, zr_13, zr_16, zr_21, zr_26, zr_28, zr_32, zr_34, zr_53, zr_54, zr_55, zr_56, zr_57, zr_58, zr_59, zr_61, zr_68, zr_69, zr_72, zr_73, zlg_0, zlg_s, zls_0, zls_1, zls_s, zkl_i, zkl_r, zkl_l, zkl_n, zrc_1, zrc_s, zcat_n, zcat_i, zcat_l, zcat_r, zkd_131, zkd_138, zkd_139, zkd_143, zkd_144, zln_138, zln_139, zln_143, zln_144, zrf_131_17, zrf_131_18, zrf_131_22, zrf_131_23, Int.cast_ofNat_Int, Int.reduceAdd, zbd, zw_id, zmu_same, zmu_c, zmu_i, false_and, and_false, true_and, and_true, true_or, or_true, false_or, or_false, Option.toList, List.nil_append, List.cons_append, zif0, zif1, zif01, zem1, zem2, Int.reduceEq, Int.reduceLT, Int.reduceLE, Int.reduceNeg, Int.reduceSub, Int.reduceMul, if_true, if_false, not_false_eq_true, not_true_eq_false, true_implies, false_implies, Classical.not_not, Nat.reduceAdd, Nat.reduceLeDiff, c, h1, h2, h3, c2]
            exact upd
        · have e : gUp (vG V s) (vM V) (some l) pre = some l := by simp only [gUp]; rw [if_neg c1]
          rw [e]
          by_cases c2 : tl = gWt (vG V s) l
          · simp (disch := (first | omega | assumption | decide)) only [↓zbrT, ↓zbrF, zw210_0, zw210_1, zw210_2, zw210_3, zw210_4, zw210_5, zw210_8, zw210_9, zw210_10, zw210_12, zw210_13, zw210_14, zw210_15, zw210_16, zw210_17, zw210_18, zw210_19, zw210_20, zw210_21, zw210_22, zw210_23, zw210_24, zw210_25, zr_1, zr_3, zr_4, zr_7, zr_10, zr_12, zr_13, zr_16, zr_21, zr_26, zr_28, zr_32, zr_34, zr_53, zr_54, zr_55, zr_56, zr_57, zr_58, zr_59, zr_61, zr_68, zr_69, zr_72, zr_73, zlg_0, zlg_s, zls_0, zls_1, zls_s, zkl_i, zkl_r, zkl_l, zkl_n, zrc_1, zrc_s, zcat_n, zcat_i, zcat_l, zcat_r, zkd_131, zkd_138, zkd_139, zkd_143, zkd_144, zln_138, zln_139, zln_143, zln_144, zrf_131_17, zrf_131_18, zrf_131_22, zrf_131_23, Int.cast_ofNat_Int, Int.reduceAdd, zbd, zw_id, zmu_same, zmu_c, zmu_i, false_and, and_false, true_and, and_true, true_or, or_true, false_or, or_false, Option.toList, List.nil_append, List.cons_append, zif0, zif1, zif01, zem1, zem2, Int.reduceEq, Int.reduceLT, Int.reduceLE, Int.reduceNeg, Int.reduceSub, Int.reduceMul, if_true, if_false, not_false_eq_true, not_true_eq_false, true_implies, false_implies, Classical.not_not, Nat.reduceAdd, Nat.reduceLeDiff, c, h1, h2, h3, c2]
            exact ⟨gEw_refl, ⟨h1, h2, h3, h4⟩, hpa⟩
          · simp (disch := (first | omega | assumption | decide)) only [↓zbrT, ↓zbrF, zw210_0, zw210_1, zw210_2, zw210_3, zw210_4, zw210_5, zw210_8, zw210_9, zw210_10, zw210_12, zw210_13, zw210_14, zw210_15, zw210_16, zw210_17, zw210_18, zw210_19, zw210_20, zw210_21, zw210_22, zw210_23, zw210_24, zw210_25, zr_1, zr_3, zr_4, zr_7, zr_10, zr_12, zr_13, zr_16, zr_21, zr_26, zr_28, zr_32, zr_34, zr_53, zr_54, zr_55, zr_56, zr_57, zr_58, zr_59, zr_61, zr_68, zr_69, zr_72, zr_73, zlg_0, zlg_s, zls_0, zls_1, zls_s, zkl_i, zkl_r, zkl_l, zkl_n, zrc_1, zrc_s, zcat_n, zcat_i, zcat_l, zcat_r, zkd_131, zkd_138, zkd_139, zkd_143, zkd_144, zln_138, zln_139, zln_143, zln_144, zrf_131_17, zrf_131_18, zrf_131_22, zrf_131_23, Int.cast_ofNat_Int, Int.reduceAdd, zbd, zw_id, zmu_same, zmu_c, zmu_i, false_and, and_false, true_and, and_true, true_or, or_true, false_or, or_false, Option.toList, List.nil_append, List.cons_append, zif0, zif1, zif01, zem1, zem2, Int.reduceEq, Int.reduceLT, Int.reduceLE, Int.reduceNeg, Int.reduceSub, Int.reduceMul, if_true, if_false, not_false_eq_true, not_true_eq_false, true_implies, false_implies, Classical.not_not, Nat.reduceAdd, Nat.reduceLeDiff, c, h1, h2, h3, c2]
            exact ⟨gEw_refl, ⟨h1, h2, h3, h4⟩, hpa⟩
    · rw [gPs_s c]
      simp +contextual (disch := (first | omega | assumption | decide)) only [↓zbrT, ↓zbrF, zw210_0, zw210_1, zw210_2, zw210_3, zw210_4, zw210_5, zw210_6, zw210_8, zw210_9, zw210_10, zw210_12, zw210_13, zw210_14, zw210_15, zw210_16, zw210_17, zw210_18, zw210_19, zw210_20, zw210_21, zw210_22, zw210_23, zw210_24, zw210_25, zr_1, zr_3, zr_4, zr_7, zr_10, zr_12, zr_13, zr_16, zr_21, zr_26, zr_28, zr_32, zr_34, zr_53, zr_54, zr_55, zr_56, zr_57, zr_58, zr_59, zr_61, zr_68, zr_69, zr_72, zr_73, zlg_0, zlg_s, zls_0, zls_1, zls_s, zkl_i, zkl_r, zkl_l, zkl_n, zrc_1, zrc_s, zcat_n, zcat_i, zcat_l, zcat_r, zkd_131, zkd_138, zkd_139, zkd_143, zkd_144, zln_138, zln_139, zln_143, zln_144, zrf_131_17, zrf_131_18, zrf_131_22, zrf_131_23, Int.cast_ofNat_Int, Int.reduceAdd, zbd, zw_id, zmu_same, zmu_c, zmu_i, false_and, and_false, true_and, and_true, true_or, or_true, false_or, or_false, Option.toList, List.nil_append, List.cons_append, zif0, zif1, zif01, zem1, zem2, Int.reduceEq, Int.reduceLT, Int.reduceLE, Int.reduceNeg, Int.reduceSub, Int.reduceMul, if_true, if_false, not_false_eq_true, not_true_eq_false, true_implies, false_implies, Classical.not_not, Nat.reduceAdd, Nat.reduceLeDiff, c]
      refine zfor (V 0 5) (fun j lc m' => 0 ≤ j ∧ (∃ x9, lc = [some (.inr (.inr 131)), some (.inl u), some (.inl v), some (.inl met), some (.inl n), some (.inl tl), some (.inl ml), some (.inl s), some (.inl j), x9]) ∧ gEw m m' ∧ gBst (vG V s) (vM V) (((gPr (fun r => if (u = vA V r ∨ u = vB V r) ∧ zbit met (gBy (vA V) (vB V) r u) = 0 then (gPs (V 0 5).toNat (vA V) (vB V) v k (gBy (vA V) (vB V) r u) (met + 2 ^ (gBy (vA V) (vB V) r u).toNat)).map (fun l => r :: l) else []) j.toNat).map (fun l => pre ++ l)).foldl (gUp (vG V s) (vM V)) B) m' ∧ ∀ i : Nat, i < pre.length → m' 143 i = pre.getD i 0) ?_ ?_ (i := 0) (by omega) ?_
      · rintro j lc m' hj ⟨h0, ⟨x9, rfl⟩, hE, hBj, hpj⟩ kk
        have hM' := gEw_mo hE hM
        have bj := hV.2.1 j h0 hj
        have e1 : (j + 1).toNat = j.toNat + 1 := by omega
        have e2 : ((j.toNat : Nat) : Int) = j := by omega
        have skip : ¬ ((u = vA V j ∨ u = vB V j) ∧ zbit met (gBy (vA V) (vB V) j u) = 0) → gBst (vG V s) (vM V) (((gPr (fun r => if (u = vA V r ∨ u = vB V r) ∧ zbit met (gBy (vA V) (vB V) r u) = 0 then (gPs (V 0 5).toNat (vA V) (vB V) v k (gBy (vA V) (vB V) r u) (met + 2 ^ (gBy (vA V) (vB V) r u).toNat)).map (fun l => r :: l) else []) (j + 1).toNat).map (fun l => pre ++ l)).foldl (gUp (vG V s) (vM V)) B) m' := by
          intro z
          rw [e1, gPr, e2, if_neg z, List.append_nil]
          exact hBj
        have hy := gBy_in (gRd_of hV s) (r := j) (u := u) h0 hj
        rw [zw210_11]
        by_cases c1 : u = vA V j ∨ u = vB V j
        · have go : ∀ nx tl', nx = gBy (vA V) (vB V) j u → tl' = tl + vG V s j → zbit met nx = 0 → zC (d + k + 1) 210 [.inr (.inr 131), .inl nx, .inl v, .inl (met + 2 ^ nx.toNat), .inl (n + 1), .inl tl', .inl (ml + vM V j), .inl s] (zmu m' 143 n j) (fun r' m2 => r' = none ∧ gEw m m2 ∧ gBst (vG V s) (vM V) (((gPr (fun r => if (u = vA V r ∨ u = vB V r) ∧ zbit met (gBy (vA V) (vB V) r u) = 0 then (gPs (V 0 5).toNat (vA V) (vB V) v k (gBy (vA V) (vB V) r u) (met + 2 ^ (gBy (vA V) (vB V) r u).toNat)).map (fun l => r :: l) else []) (j + 1).toNat).map (fun l => pre ++ l)).foldl (gUp (vG V s) (vM V)) B) m2 ∧ ∀ i : Nat, i < pre.length → m2 143 i = pre.getD i 0) := by
            intro nx tl' hnx htl hbit
            have gm := gmet hm (j := nx) (by omega) hbit
            have bG : 0 ≤ vG V s j ∧ vG V s j ≤ 99 := by unfold vG; split <;> omega
            have l1 : (pre ++ [j]).length = pre.length + 1 := by rw [List.length_append]; rfl
            have w1 : ∀ w : Int → Int, gWt w [j] = w j := fun w => by show w j + 0 = w j; omega
            have hpre : ∀ i : Nat, i < (pre ++ [j]).length → (zmu m' 143 n j) 143 i = (pre ++ [j]).getD i 0 := by
              intro i hi
              by_cases ci : (i : Int) = n
              · rw [ci, zmu_same, show i = pre.length by omega]; simp
              · rw [zmu_i ci, hpj i (by omega), gGa (by omega)]
            refine zC_im (gz210 hV hs hv k (d := d) (m := zmu m' 143 n j) (u := nx) (met := met + 2 ^ nx.toNat) (n := n + 1) (tl := tl') (ml := ml + vM V j) (pre := pre ++ [j]) (B := (((gPr (fun r => if (u = vA V r ∨ u = vB V r) ∧ zbit met (gBy (vA V) (vB V) r u) = 0 then (gPs (V 0 5).toNat (vA V) (vB V) v k (gBy (vA V) (vB V) r u) (met + 2 ^ (gBy (vA V) (vB V) r u).toNat)).map (fun l => r :: l) else []) j.toNat).map (fun l => pre ++ l)).foldl (gUp (vG V s) (vM V)) B)) (gMo_of hM' (fun c i a b => zmu_c (by omega))) (by omega) gm.2.1 (by omega) (by omega) (by omega) hpre (by rw [gWt_app, w1]; omega) (by rw [gWt_app, w1]; omega) (by omega) (by omega) ?_) ?_
            · revert hBj
              cases (((gPr (fun r => if (u = vA V r ∨ u = vB V r) ∧ zbit met (gBy (vA V) (vB V) r u) = 0 then (gPs (V 0 5).toNat (vA V) (vB V) v k (gBy (vA V) (vB V) r u) (met + 2 ^ (gBy (vA V) (vB V) r u).toNat)).map (fun l => r :: l) else []) j.toNat).map (fun l => pre ++ l)).foldl (gUp (vG V s) (vM V)) B) with
              | none => intro h; show zmu m' 143 n j 131 24 = -1; rw [zmu_c (by decide)]; exact h
              | some l =>
                intro h
                show zmu m' 143 n j 131 24 = _ ∧ zmu m' 143 n j 131 25 = _ ∧ zmu m' 143 n j 131 26 = _ ∧ ∀ i : Nat, i < l.length → zmu m' 143 n j 144 i = _
                simp only [zmu_c (show (131 : Int) ≠ 143 by decide), zmu_c (show (144 : Int) ≠ 143 by decide)]
                exact h
            · rintro _ m2 ⟨rfl, q1, q2, q3⟩
              refine ⟨rfl, fun c i hc => ?_, ?_, fun i hi => ?_⟩
              · rw [q1 c i hc, zmu_c hc.1]; exact hE c i hc
              · rw [e1, gPr, e2, if_pos ⟨c1, by rw [← hnx]; exact hbit⟩, ← hnx, List.map_append, List.foldl_append, List.map_map]
                have ee : ((fun l => pre ++ l) ∘ fun l => j :: l) = fun l => (pre ++ [j]) ++ l := by
                  funext l; show pre ++ (j :: l) = _; rw [List.append_assoc]; rfl
                rw [ee]
                exact q2
              · rw [q3 i (by omega), gGa (by omega)]
          by_cases ca : u = vA V j
          · have eg : vB V j = gBy (vA V) (vB V) j u := by unfold gBy; rw [if_pos ca]
            by_cases cz : zbit met (vB V j) = 0
            · have gm := gmet hm (j := vB V j) (by omega) cz
              by_cases cb : zbit s j = 1
              · simp +contextual (disch := (first | omega | assumption | decide)) only [↓zbrT, ↓zbrF, zw210_0, zw210_1, zw210_2, zw210_3, zw210_4, zw210_5, zw210_6, zw210_8, zw210_9, zw210_10, zw210_12, zw210_13, zw210_14, zw210_15, zw210_16, zw210_17, zw210_18, zw210_19, zw210_20, zw210_21, zw210_22, zw210_23, zw210_24, zw210_25, zr_1, zr_3, zr_4, zr_7, zr_10, zr_12, zr_13, zr_16, zr_21, zr_26, zr_28, zr_32, zr_34, zr_53, zr_54, zr_55, zr_56, zr_57, zr_58, zr_59, zr_61, zr_68, zr_69, zr_72, zr_73, zlg_0, zlg_s, zls_0, zls_1, zls_s, zkl_i, zkl_r, zkl_l, zkl_n, zrc_1, zrc_s, zcat_n, zcat_i, zcat_l, zcat_r, zkd_131, zkd_138, zkd_139, zkd_143, zkd_144, zln_138, zln_139, zln_143, zln_144, zrf_131_17, zrf_131_18, zrf_131_22, zrf_131_23, Int.cast_ofNat_Int, Int.reduceAdd, zbd, zw_id, zmu_same, zmu_c, zmu_i, false_and, and_false, true_and, and_true, true_or, or_true, false_or, or_false, Option.toList, List.nil_append, List.cons_append, zif0, zif1, zif01, zem1, zem2, Int.reduceEq, Int.reduceLT, Int.reduceLE, Int.reduceNeg, Int.reduceSub, Int.reduceMul, if_true, if_false, not_false_eq_true, not_true_eq_false, true_implies, false_implies, Classical.not_not, Nat.reduceAdd, Nat.reduceLeDiff, gM_0 hM', gM_1 hM', gM_2 hM', gM_3 hM', gM_4 hM', gM_5 hM', gM_6 hM', gM_7 hM', gM_8 hM', gM_9 hM', gM_10 hM', gM_r0 hM', gM_r1 hM', gM_r2 hM', gM_r3 hM', gM_f0 hM', gM_f1 hM', gM_f2 hM', gM_f3 hM', gM_f4 hM', ← ca, zq207, cz, zshl_1, gm.2.2.1, cb]
                refine gK (go _ _ eg (by unfold vG; rw [if_pos cb]) cz) rfl rfl (Nat.le_of_ble_eq_true rfl) ?_
                rintro _ m2 ⟨rfl, q1, q2, q3⟩
                exact kk _ _ ⟨by omega, ⟨_, rfl⟩, q1, q2, q3⟩
              · have cb0 : zbit s j = 0 := by have := zbit_01 s j; omega
                simp +contextual (disch := (first | omega | assumption | decide)) only [↓zbrT, ↓zbrF, zw210_0, zw210_1, zw210_2, zw210_3, zw210_4, zw210_5, zw210_6, zw210_8, zw210_9, zw210_10, zw210_12, zw210_13, zw210_14, zw210_15, zw210_16, zw210_17, zw210_18, zw210_19, zw210_20, zw210_21, zw210_22, zw210_23, zw210_24, zw210_25, zr_1, zr_3, zr_4, zr_7, zr_10, zr_12, zr_13, zr_16, zr_21, zr_26, zr_28, zr_32, zr_34, zr_53, zr_54, zr_55, zr_56, zr_57, zr_58, zr_59, zr_61, zr_68, zr_69, zr_72, zr_73, zlg_0, zlg_s, zls_0, zls_1, zls_s, zkl_i, zkl_r, zkl_l, zkl_n, zrc_1, zrc_s, zcat_n, zcat_i, zcat_l, zcat_r, zkd_131, zkd_138, zkd_139, zkd_143, zkd_144, zln_138, zln_139, zln_143, zln_144, zrf_131_17, zrf_131_18, zrf_131_22, zrf_131_23, Int.cast_ofNat_Int, Int.reduceAdd, zbd, zw_id, zmu_same, zmu_c, zmu_i, false_and, and_false, true_and, and_true, true_or, or_true, false_or, or_false, Option.toList, List.nil_append, List.cons_append, zif0, zif1, zif01, zem1, zem2, Int.reduceEq, Int.reduceLT, Int.reduceLE, Int.reduceNeg, Int.reduceSub, Int.reduceMul, if_true, if_false, not_false_eq_true, not_true_eq_false, true_implies, false_implies, Classical.not_not, Nat.reduceAdd, Nat.reduceLeDiff, gM_0 hM', gM_1 hM', gM_2 hM', gM_3 hM', gM_4 hM', gM_5 hM', gM_6 hM', gM_7 hM', gM_8 hM', gM_9 hM', gM_10 hM', gM_r0 hM', gM_r1 hM', gM_r2 hM', gM_r3 hM', gM_f0 hM', gM_f1 hM', gM_f2 hM', gM_f3 hM', gM_f4 hM', ← ca, zq207, cz, zshl_1, gm.2.2.1, cb0]
                refine gK (go _ _ eg (by unfold vG; rw [if_neg cb]) cz) rfl rfl (Nat.le_of_ble_eq_true rfl) ?_
                rintro _ m2 ⟨rfl, q1, q2, q3⟩
                exact kk _ _ ⟨by omega, ⟨_, rfl⟩, q1, q2, q3⟩
            · have cz1 : zbit met (vB V j) = 1 := by have := zbit_01 met (vB V j); omega
              simp +contextual (disch := (first | omega | assumption | decide)) only [↓zbrT, ↓zbrF, zw210_0, zw210_1, zw210_2, zw210_3, zw210_4, zw210_5, zw210_6, zw210_8, zw210_9, zw210_10, zw210_12, zw210_13, zw210_14, zw210_15, zw210_16, zw210_17, zw210_18, zw210_19, zw210_20, zw210_21, zw210_22, zw210_23, zw210_24, zw210_25, zr_1, zr_3, zr_4, zr_7, zr_10, zr_12, zr_13, zr_16, zr_21, zr_26, zr_28, zr_32, zr_34, zr_53, zr_54, zr_55, zr_56, zr_57, zr_58, zr_59, zr_61, zr_68, zr_69, zr_72, zr_73, zlg_0, zlg_s, zls_0, zls_1, zls_s, zkl_i, zkl_r, zkl_l, zkl_n, zrc_1, zrc_s, zcat_n, zcat_i, zcat_l, zcat_r, zkd_131, zkd_138, zkd_139, zkd_143, zkd_144, zln_138, zln_139, zln_143, zln_144, zrf_131_17, zrf_131_18, zrf_131_22, zrf_131_23, Int.cast_ofNat_Int, Int.reduceAdd, zbd, zw_id, zmu_same, zmu_c, zmu_i, false_and, and_false, true_and, and_true, true_or, or_true, false_or, or_false, Option.toList, List.nil_append, List.cons_append, zif0, zif1, zif01, zem1, zem2, Int.reduceEq, Int.reduceLT, Int.reduceLE, Int.reduceNeg, Int.reduceSub, Int.reduceMul, if_true, if_false, not_false_eq_true, not_true_eq_false, true_implies, false_implies, Classical.not_not, Nat.reduceAdd, Nat.reduceLeDiff, gM_0 hM', gM_1 hM', gM_2 hM', gM_3 hM', gM_4 hM', gM_5 hM', gM_6 hM', gM_7 hM', gM_8 hM', gM_9 hM', gM_10 hM', gM_r0 hM', gM_r1 hM', gM_r2 hM', gM_r3 hM', gM_f0 hM', gM_f1 hM', gM_f2 hM', gM_f3 hM', gM_f4 hM', ← ca, zq207, cz1]
              exact kk _ _ ⟨by omega, ⟨_, rfl⟩, hE, skip (fun z => cz (by rw [eg]; exact z.2)), hpj⟩
          · have eg : vA V j = gBy (vA V) (vB V) j u := by unfold gBy; rw [if_neg ca]
            have cb1 : u = vB V j := by omega
            have ca1 : ¬ vA V j = u := fun z => ca z.symm
            by_cases cz : zbit met (vA V j) = 0
            · have gm := gmet hm (j := vA V j) (by omega) cz
              by_cases cb : zbit s j = 1
              · simp +contextual (disch := (first | omega | assumption | decide)) only [↓zbrT, ↓zbrF, zw210_0, zw210_1, zw210_2, zw210_3, zw210_4, zw210_5, zw210_6, zw210_8, zw210_9, zw210_10, zw210_12, zw210_13, zw210_14, zw210_15, zw210_16, zw210_17, zw210_18, zw210_19, zw210_20, zw210_21, zw210_22, zw210_23, zw210_24, zw210_25, zr_1, zr_3, zr_4, zr_7, zr_10, zr_12, zr_13, zr_16, zr_21, zr_26, zr_28, zr_32, zr_34, zr_53, zr_54, zr_55, zr_56, zr_57, zr_58, zr_59, zr_61, zr_68, zr_69, zr_72, zr_73, zlg_0, zlg_s, zls_0, zls_1, zls_s, zkl_i, zkl_r, zkl_l, zkl_n, zrc_1, zrc_s, zcat_n, zcat_i, zcat_l, zcat_r, zkd_131, zkd_138, zkd_139, zkd_143, zkd_144, zln_138, zln_139, zln_143, zln_144, zrf_131_17, zrf_131_18, zrf_131_22, zrf_131_23, Int.cast_ofNat_Int, Int.reduceAdd, zbd, zw_id, zmu_same, zmu_c, zmu_i, false_and, and_false, true_and, and_true, true_or, or_true, false_or, or_false, Option.toList, List.nil_append, List.cons_append, zif0, zif1, zif01, zem1, zem2, Int.reduceEq, Int.reduceLT, Int.reduceLE, Int.reduceNeg, Int.reduceSub, Int.reduceMul, if_true, if_false, not_false_eq_true, not_true_eq_false, true_implies, false_implies, Classical.not_not, Nat.reduceAdd, Nat.reduceLeDiff, gM_0 hM', gM_1 hM', gM_2 hM', gM_3 hM', gM_4 hM', gM_5 hM', gM_6 hM', gM_7 hM', gM_8 hM', gM_9 hM', gM_10 hM', gM_r0 hM', gM_r1 hM', gM_r2 hM', gM_r3 hM', gM_f0 hM', gM_f1 hM', gM_f2 hM', gM_f3 hM', gM_f4 hM', ← cb1, ca1, zq207, cz, zshl_1, gm.2.2.1, cb]
                refine gK (go _ _ eg (by unfold vG; rw [if_pos cb]) cz) rfl rfl (Nat.le_of_ble_eq_true rfl) ?_
                rintro _ m2 ⟨rfl, q1, q2, q3⟩
                exact kk _ _ ⟨by omega, ⟨_, rfl⟩, q1, q2, q3⟩
              · have cb0 : zbit s j = 0 := by have := zbit_01 s j; omega
                simp +contextual (disch := (first | omega | assumption | decide)) only [↓zbrT, ↓zbrF, zw210_0, zw210_1, zw210_2, zw210_3, zw210_4, zw210_5, zw210_6, zw210_8, zw210_9, zw210_10, zw210_12, zw210_13, zw210_14, zw210_15, zw210_16, zw210_17, zw210_18, zw210_19, zw210_20, zw210_21, zw210_22, zw210_23, zw210_24, zw210_25, zr_1, zr_3, zr_4, zr_7, zr_10, zr_12, zr_13, zr_16, zr_21, zr_26, zr_28, zr_32, zr_34, zr_53, zr_54, zr_55, zr_56, zr_57, zr_58, zr_59, zr_61, zr_68, zr_69, zr_72, zr_73, zlg_0, zlg_s, zls_0, zls_1, zls_s, zkl_i, zkl_r, zkl_l, zkl_n, zrc_1, zrc_s, zcat_n, zcat_i, zcat_l, zcat_r, zkd_131, zkd_138, zkd_139, zkd_143, zkd_144, zln_138, zln_139, zln_143, zln_144, zrf_131_17, zrf_131_18, zrf_131_22, zrf_131_23, Int.cast_ofNat_Int, Int.reduceAdd, zbd, zw_id, zmu_same, zmu_c, zmu_i, false_and, and_false, true_and, and_true, true_or, or_true, false_or, or_false, Option.toList, List.nil_append, List.cons_append, zif0, zif1, zif01, zem1, zem2, Int.reduceEq, Int.reduceLT, Int.reduceLE, Int.reduceNeg, Int.reduceSub, Int.reduceMul, if_true, if_false, not_false_eq_true, not_true_eq_false, true_implies, false_implies, Classical.not_not, Nat.reduceAdd, Nat.reduceLeDiff, gM_0 hM', gM_1 hM', gM_2 hM', gM_3 hM', gM_4 hM', gM_5 hM', gM_6 hM', gM_7 hM', gM_8 hM', gM_9 hM', gM_10 hM', gM_r0 hM', gM_r1 hM', gM_r2 hM', gM_r3 hM', gM_f0 hM', gM_f1 hM', gM_f2 hM', gM_f3 hM', gM_f4 hM', ← cb1, ca1, zq207, cz, zshl_1, gm.2.2.1, cb0]
                refine gK (go _ _ eg (by unfold vG; rw [if_neg cb]) cz) rfl rfl (Nat.le_of_ble_eq_true rfl) ?_
                rintro _ m2 ⟨rfl, q1, q2, q3⟩
                exact kk _ _ ⟨by omega, ⟨_, rfl⟩, q1, q2, q3⟩
            · have cz1 : zbit met (vA V j) = 1 := by have := zbit_01 met (vA V j); omega
              simp +contextual (disch := (first | omega | assumption | decide)) only [↓zbrT, ↓zbrF, zw210_0, zw210_1, zw210_2, zw210_3, zw210_4, zw210_5, zw210_6, zw210_8, zw210_9, zw210_10, zw210_12, zw210_13, zw210_14, zw210_15, zw210_16, zw210_17, zw210_18, zw210_19, zw210_20, zw210_21, zw210_22, zw210_23, zw210_24, zw210_25, zr_1, zr_3, zr_4, zr_7, zr_10, zr_12, zr_13, zr_16, zr_21, zr_26, zr_28, zr_32, zr_34, zr_53, zr_54, zr_55, zr_56, zr_57, zr_58, zr_59, zr_61, zr_68, zr_69, zr_72, zr_73, zlg_0, zlg_s, zls_0, zls_1, zls_s, zkl_i, zkl_r, zkl_l, zkl_n, zrc_1, zrc_s, zcat_n, zcat_i, zcat_l, zcat_r, zkd_131, zkd_138, zkd_139, zkd_143, zkd_144, zln_138, zln_139, zln_143, zln_144, zrf_131_17, zrf_131_18, zrf_131_22, zrf_131_23, Int.cast_ofNat_Int, Int.reduceAdd, zbd, zw_id, zmu_same, zmu_c, zmu_i, false_and, and_false, true_and, and_true, true_or, or_true, false_or, or_false, Option.toList, List.nil_append, List.cons_append, zif0, zif1, zif01, zem1, zem2, Int.reduceEq, Int.reduceLT, Int.reduceLE, Int.reduceNeg, Int.reduceSub, Int.reduceMul, if_true, if_false, not_false_eq_true, not_true_eq_false, true_implies, false_implies, Classical.not_not, Nat.reduceAdd, Nat.reduceLeDiff, gM_0 hM', gM_1 hM', gM_2 hM', gM_3 hM', gM_4 hM', gM_5 hM', gM_6 hM', gM_7 hM', gM_8 hM', gM_9 hM', gM_10 hM', gM_r0 hM', gM_r1 hM', gM_r2 hM', gM_r3 hM', gM_f0 hM', gM_f1 hM', gM_f2 hM', gM_f3 hM', gM_f4 hM', ← cb1, ca1, zq207, cz1]
              exact kk _ _ ⟨by omega, ⟨_, rfl⟩, hE, skip (fun z => cz (by rw [eg]; exact z.2)), hpj⟩
        · have ca1 : ¬ vA V j = u := fun z => c1 (Or.inl z.symm)
          have cb1 : ¬ vB V j = u := fun z => c1 (Or.inr z.symm)
          simp +contextual (disch := (first | omega | assumption | decide)) only [↓zbrT, ↓zbrF, zw210_0, zw210_1, zw210_2, zw210_3, zw210_4, zw210_5, zw210_6, zw210_8, zw210_9, zw210_10, zw210_12, zw210_13, zw210_14, zw210_15, zw210_16, zw210_17, zw210_18, zw210_19, zw210_20, zw210_21, zw210_22, zw210_23, zw210_24, zw210_25, zr_1, zr_3, zr_4, zr_7, zr_10, zr_12, zr_13, zr_16, zr_21, zr_26, zr_28, zr_32, zr_34, zr_53, zr_54, zr_55, zr_56, zr_57, zr_58, zr_59, zr_61, zr_68, zr_69, zr_72, zr_73, zlg_0, zlg_s, zls_0, zls_1, zls_s, zkl_i, zkl_r, zkl_l, zkl_n, zrc_1, zrc_s, zcat_n, zcat_i, zcat_l, zcat_r, zkd_131, zkd_138, zkd_139, zkd_143, zkd_144, zln_138, zln_139, zln_143, zln_144, zrf_131_17, zrf_131_18, zrf_131_22, zrf_131_23, Int.cast_ofNat_Int, Int.reduceAdd, zbd, zw_id, zmu_same, zmu_c, zmu_i, false_and, and_false, true_and, and_true, true_or, or_true, false_or, or_false, Option.toList, List.nil_append, List.cons_append, zif0, zif1, zif01, zem1, zem2, Int.reduceEq, Int.reduceLT, Int.reduceLE, Int.reduceNeg, Int.reduceSub, Int.reduceMul, if_true, if_false, not_false_eq_true, not_true_eq_false, true_implies, false_implies, Classical.not_not, Nat.reduceAdd, Nat.reduceLeDiff, gM_0 hM', gM_1 hM', gM_2 hM', gM_3 hM', gM_4 hM', gM_5 hM', gM_6 hM', gM_7 hM', gM_8 hM', gM_9 hM', gM_10 hM', gM_r0 hM', gM_r1 hM', gM_r2 hM', gM_r3 hM', gM_f0 hM', gM_f1 hM', gM_f2 hM', gM_f3 hM', gM_f4 hM', ca1, cb1]
          exact kk _ _ ⟨by omega, ⟨_, rfl⟩, hE, skip (fun z => c1 z.1), hpj⟩
      · rintro lc m' ⟨h0, ⟨x9, rfl⟩, hE, hBj, hpj⟩
        have hM' := gEw_mo hE hM
        rw [zw210_11]
        simp +contextual (disch := (first | omega | assumption | decide)) only [↓zbrT, ↓zbrF, zw210_0, zw210_1, zw210_2, zw210_3, zw210_4, zw210_5, zw210_6, zw210_8, zw210_9, zw210_10, zw210_12, zw210_13, zw210_14, zw210_15, zw210_16, zw210_17, zw210_18, zw210_19, zw210_20, zw210_21, zw210_22, zw210_23, zw210_24, zw210_25, zr_1, zr_3, zr_4, zr_7, zr_10, zr_12, zr_13, zr_16, zr_21, zr_26, zr_28, zr_32, zr_34, zr_53, zr_54, zr_55, zr_56, zr_57, zr_58, zr_59, zr_61, zr_68, zr_69, zr_72, zr_73, zlg_0, zlg_s, zls_0, zls_1, zls_s, zkl_i, zkl_r, zkl_l, zkl_n, zrc_1, zrc_s, zcat_n, zcat_i, zcat_l, zcat_r, zkd_131, zkd_138, zkd_139, zkd_143, zkd_144, zln_138, zln_139, zln_143, zln_144, zrf_131_17, zrf_131_18, zrf_131_22, zrf_131_23, Int.cast_ofNat_Int, Int.reduceAdd, zbd, zw_id, zmu_same, zmu_c, zmu_i, false_and, and_false, true_and, and_true, true_or, or_true, false_or, or_false, Option.toList, List.nil_append, List.cons_append, zif0, zif1, zif01, zem1, zem2, Int.reduceEq, Int.reduceLT, Int.reduceLE, Int.reduceNeg, Int.reduceSub, Int.reduceMul, if_true, if_false, not_false_eq_true, not_true_eq_false, true_implies, false_implies, Classical.not_not, Nat.reduceAdd, Nat.reduceLeDiff, gM_0 hM', gM_1 hM', gM_2 hM', gM_3 hM', gM_4 hM', gM_5 hM', gM_6 hM', gM_7 hM', gM_8 hM', gM_9 hM', gM_10 hM', gM_r0 hM', gM_r1 hM', gM_r2 hM', gM_r3 hM', gM_f0 hM', gM_f1 hM', gM_f2 hM', gM_f3 hM', gM_f4 hM']
        exact ⟨hE, hBj, hpj⟩
      · exact ⟨by decide, ⟨_, rfl⟩, gEw_refl, hB, hpa⟩
