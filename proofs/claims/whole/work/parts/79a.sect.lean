/-! ===== the model's draft: section 4 ===== -/
def gS4 (D m : zMm) : Prop :=
  (m 138 40 = D 0 0 ∧ m 138 41 = D 0 1 ∧ m 138 42 = D 0 2 ∧ m 138 43 = D 0 3 ∧ m 138 44 = D 0 4 ∧ m 138 45 = D 0 5 ∧ m 138 46 = D 0 6 ∧ m 138 47 = D 0 7 ∧ m 138 48 = D 0 8 ∧ m 138 49 = D 0 9 ∧ m 137 4 = D 0 10) ∧
  (∀ r, 0 ≤ r → r < D 0 5 → m 139 (128 + 4 * r) = vA D r ∧ m 139 (128 + (4 * r + 1)) = vB D r ∧ m 139 (128 + (4 * r + 2)) = vM D r ∧ m 139 (128 + (4 * r + 3)) = vT D r) ∧
  (∀ f, 0 ≤ f → f < D 0 6 → m 140 (120 + 5 * f) = vF D f 0 ∧ m 140 (120 + (5 * f + 1)) = vF D f 1 ∧ m 140 (120 + (5 * f + 2)) = vF D f 2 ∧ m 140 (120 + (5 * f + 3)) = vF D f 3 ∧ m 140 (120 + (5 * f + 4)) = vF D f 4)
theorem gS4_sec {D m : zMm} (h : gS4 D m) (h9 : D 0 9 = 0) : gSec 4 D m := ⟨h.1, h.2.1, h.2.2, fun j a b => by rw [h9] at b; omega⟩
def gFm4 (m m' : zMm) : Prop := ∀ c i, ¬ (c = 131 ∧ 7 ≤ i ∧ i ≤ 13) ∧ ¬ (c = 137 ∧ i = 4) ∧ ¬ (c = 138 ∧ 40 ≤ i ∧ i < 50) ∧ ¬ (c = 139 ∧ 128 ≤ i ∧ i < 160) ∧ ¬ (c = 140 ∧ 120 ≤ i ∧ i < 150) → m' c i = m c i
theorem gFm4_n {m m' : zMm} (h : gFn m m') : gFm4 m m' := fun c i hc => h c i hc.1
theorem gFm4_refl {m : zMm} : gFm4 m m := fun _ _ _ => rfl
theorem gFm4_tr {m m' m'' : zMm} (h1 : gFm4 m m') (h2 : gFm4 m' m'') : gFm4 m m'' := fun c i h => by rw [h2 c i h, h1 c i h]
theorem gFm4_u {m : zMm} {c i v : Int} (h : (c = 137 ∧ i = 4) ∨ (c = 138 ∧ 40 ≤ i ∧ i < 50) ∨ (c = 139 ∧ 128 ≤ i ∧ i < 160) ∨ (c = 140 ∧ 120 ≤ i ∧ i < 150)) : gFm4 m (zmu m c i v) := fun c' i' hc => by
  unfold zmu
  rw [if_neg (by omega)]
theorem gPd_u {T m : zMm} {s : Int × Int × Int} {c i v : Int} (h : gPd T s m) (hc : 137 ≤ c) : gPd T s (zmu m c i v) := by
  obtain ⟨ht, ⟨q7, q8, q9, q10, q11⟩, f1, f2, hq⟩ := h
  have e : ∀ i', zmu m c i v 131 i' = m 131 i' := fun i' => zmu_c (by omega)
  exact ⟨gTn_of ht (e 6) (fun i' => zmu_c (by omega)), ⟨by rw [e]; exact q7, by rw [e]; exact q8, by rw [e]; exact q9, by rw [e]; exact q10, by rw [e]; exact q11⟩, by rw [e]; exact f1, by rw [e]; exact f2, hq⟩
theorem gS4_n {D m m' : zMm} (h : gS4 D m) (hf : gFn m m') : gS4 D m' := by
  have e : ∀ c i, c ≠ 131 → m' c i = m c i := fun c i hc => gFn_u hf hc
  refine ⟨?_, fun r a b => ?_, fun f a b => ?_⟩
  · simp only [e 138 _ (by decide), e 137 _ (by decide)]; exact h.1
  · simp only [e 139 _ (by decide)]; exact h.2.1 r a b
  · simp only [e 140 _ (by decide)]; exact h.2.2 f a b
theorem gS4_u {D m : zMm} {i j v : Int} (hj : i = 40 + j ∧ ((0 ≤ j ∧ j ≤ 4) ∨ j = 7 ∨ j = 8)) (h : gS4 D m) : gS4 (zmu D 0 j v) (zmu m 138 i v) := by
  have e5 : zmu D 0 j v 0 5 = D 0 5 := zmu_i (by omega)
  have e6 : zmu D 0 j v 0 6 = D 0 6 := zmu_i (by omega)
  have e1 : ∀ k, zmu D 0 j v 1 k = D 1 k := fun k => zmu_c (by decide)
  have e2 : ∀ k, zmu D 0 j v 2 k = D 2 k := fun k => zmu_c (by decide)
  refine ⟨?_, fun r a b => ?_, fun f a b => ?_⟩
  · obtain ⟨h0, h1, h2, h3, h4, h5, h6, h7, h8, h9, h10⟩ := h.1
    have hj' : (i = 40 ∧ j = 0) ∨ (i = 41 ∧ j = 1) ∨ (i = 42 ∧ j = 2) ∨ (i = 43 ∧ j = 3) ∨ (i = 44 ∧ j = 4) ∨ (i = 47 ∧ j = 7) ∨ (i = 48 ∧ j = 8) := by omega
    clear hj
    rcases hj' with ⟨rfl, rfl⟩ | ⟨rfl, rfl⟩ | ⟨rfl, rfl⟩ | ⟨rfl, rfl⟩ | ⟨rfl, rfl⟩ | ⟨rfl, rfl⟩ | ⟨rfl, rfl⟩ <;> simp (disch := decide) only [zmu_i, zmu_c, zmu_same, true_and, and_true, h0, h1, h2, h3, h4, h5, h6, h7, h8, h9, h10]
  · rw [e5] at b
    unfold vA vB vM vT
    simp only [e1, zmu_c (show (139 : Int) ≠ 138 by decide)]; exact h.2.1 r a b
  · rw [e6] at b
    unfold vF
    simp only [e2, zmu_c (show (140 : Int) ≠ 138 by decide)]; exact h.2.2 f a b
theorem gS4_r {D m m' : zMm} {a b l t : Int} (h : gS4 D m) (h5 : 0 ≤ D 0 5 ∧ D 0 5 < 8) (e0 : m' 139 (4 * (32 + D 0 5)) = a) (e1 : m' 139 (4 * (32 + D 0 5) + 1) = b) (e2 : m' 139 (4 * (32 + D 0 5) + 2) = l) (e3 : m' 139 (4 * (32 + D 0 5) + 3) = t) (e8 : m' 138 45 = D 0 5 + 1) (hf : ∀ c i, c ≠ 131 → ¬ (c = 139 ∧ 4 * (32 + D 0 5) ≤ i ∧ i < 4 * (32 + D 0 5) + 4) → ¬ (c = 138 ∧ i = 45) → m' c i = m c i) : gS4 (dRow D a b l t) m' := by
  have k5 : dRow D a b l t 0 5 = D 0 5 + 1 := by unfold dRow; rw [zmu_same]
  have k0 : ∀ i, i ≠ 5 → dRow D a b l t 0 i = D 0 i := fun i hi => by
    unfold dRow
    rw [zmu_i (by omega), zmu_c (by decide), zmu_c (by decide), zmu_c (by decide), zmu_c (by decide)]
  have k1 : ∀ i, i < 4 * D 0 5 → dRow D a b l t 1 i = D 1 i := fun i hi => by
    unfold dRow
    rw [zmu_c (by decide), zmu_i (by omega), zmu_i (by omega), zmu_i (by omega), zmu_i (by omega)]
  have k2 : ∀ i, dRow D a b l t 2 i = D 2 i := fun i => by
    unfold dRow
    rw [zmu_c (by decide), zmu_c (by decide), zmu_c (by decide), zmu_c (by decide), zmu_c (by decide)]
  have f8 : ∀ i, i ≠ 45 → m' 138 i = m 138 i := fun i hi => hf 138 i (by decide) (by omega) (by omega)
  refine ⟨?_, fun r x y => ?_, fun f x y => ?_⟩
  · obtain ⟨h0, h1, h2, h3, h4, h5, h6, h7, h8, h9, h10⟩ := h.1
    rw [k5, k0 10 (by decide), k0 0 (by decide), k0 1 (by decide), k0 2 (by decide), k0 3 (by decide), k0 4 (by decide), k0 7 (by decide), k0 8 (by decide), k0 6 (by decide), k0 9 (by decide), f8 40 (by decide), f8 41 (by decide), f8 42 (by decide), f8 43 (by decide), f8 44 (by decide), f8 46 (by decide), f8 47 (by decide), f8 48 (by decide), f8 49 (by decide), hf 137 4 (by decide) (by omega) (by omega)]
    exact ⟨h0, h1, h2, h3, h4, e8, h6, h7, h8, h9, h10⟩
  · rw [k5] at y
    by_cases c : r = D 0 5
    · rw [c, show 128 + 4 * D 0 5 = 4 * (32 + D 0 5) by omega, show 128 + (4 * D 0 5 + 1) = 4 * (32 + D 0 5) + 1 by omega, show 128 + (4 * D 0 5 + 2) = 4 * (32 + D 0 5) + 2 by omega, show 128 + (4 * D 0 5 + 3) = 4 * (32 + D 0 5) + 3 by omega, e0, e1, e2, e3]
      unfold vA vB vM vT dRow
      refine ⟨?_, ?_, ?_, ?_⟩
      · rw [zmu_c (by decide), zmu_i (by omega), zmu_i (by omega), zmu_i (by omega), zmu_same]
      · rw [zmu_c (by decide), zmu_i (by omega), zmu_i (by omega), zmu_same]
      · rw [zmu_c (by decide), zmu_i (by omega), zmu_same]
      · rw [zmu_c (by decide), zmu_same]
    · have q := h.2.1 r x (by omega)
      unfold vA vB vM vT at q ⊢
      rw [k1 _ (by omega), k1 _ (by omega), k1 _ (by omega), k1 _ (by omega), hf _ _ (by omega) (by omega) (by omega), hf _ _ (by omega) (by omega) (by omega), hf _ _ (by omega) (by omega) (by omega), hf _ _ (by omega) (by omega) (by omega)]
      exact q
  · rw [k0 6 (by decide)] at y
    have q := h.2.2 f x y
    unfold vF at q ⊢
    rw [k2, k2, k2, k2, k2, hf _ _ (by omega) (by omega) (by omega), hf _ _ (by omega) (by omega) (by omega), hf _ _ (by omega) (by omega) (by omega), hf _ _ (by omega) (by omega) (by omega), hf _ _ (by omega) (by omega) (by omega)]
    exact q
theorem gS4_w {D m m' : zMm} {a b o p e : Int} (h : gS4 D m) (h5 : 0 ≤ D 0 6 ∧ D 0 6 < 6) (e0 : m' 140 (5 * (24 + D 0 6)) = a) (e1 : m' 140 (5 * (24 + D 0 6) + 1) = b) (e2 : m' 140 (5 * (24 + D 0 6) + 2) = o) (e3 : m' 140 (5 * (24 + D 0 6) + 3) = p) (e4 : m' 140 (5 * (24 + D 0 6) + 4) = e) (e8 : m' 138 46 = D 0 6 + 1) (hf : ∀ c i, c ≠ 131 → ¬ (c = 140 ∧ 5 * (24 + D 0 6) ≤ i ∧ i < 5 * (24 + D 0 6) + 5) → ¬ (c = 138 ∧ i = 46) → m' c i = m c i) : gS4 (dFow D a b o p e) m' := by
  have k5 : dFow D a b o p e 0 6 = D 0 6 + 1 := by unfold dFow; rw [zmu_same]
  have k0 : ∀ i, i ≠ 6 → dFow D a b o p e 0 i = D 0 i := fun i hi => by
    unfold dFow
    rw [zmu_i (by omega), zmu_c (by decide), zmu_c (by decide), zmu_c (by decide), zmu_c (by decide), zmu_c (by decide)]
  have k1 : ∀ i, i < 5 * D 0 6 → dFow D a b o p e 2 i = D 2 i := fun i hi => by
    unfold dFow
    rw [zmu_c (by decide), zmu_i (by omega), zmu_i (by omega), zmu_i (by omega), zmu_i (by omega), zmu_i (by omega)]
  have k2 : ∀ i, dFow D a b o p e 1 i = D 1 i := fun i => by
    unfold dFow
    rw [zmu_c (by decide), zmu_c (by decide), zmu_c (by decide), zmu_c (by decide), zmu_c (by decide), zmu_c (by decide)]
  have f8 : ∀ i, i ≠ 46 → m' 138 i = m 138 i := fun i hi => hf 138 i (by decide) (by omega) (by omega)
  refine ⟨?_, fun r x y => ?_, fun f x y => ?_⟩
  · obtain ⟨h0, h1, h2, h3, h4, h5, h6, h7, h8, h9, h10⟩ := h.1
    rw [k5, k0 10 (by decide), k0 0 (by decide), k0 1 (by decide), k0 2 (by decide), k0 3 (by decide), k0 4 (by decide), k0 7 (by decide), k0 8 (by decide), k0 5 (by decide), k0 9 (by decide), f8 40 (by decide), f8 41 (by decide), f8 42 (by decide), f8 43 (by decide), f8 44 (by decide), f8 45 (by decide), f8 47 (by decide), f8 48 (by decide), f8 49 (by decide), hf 137 4 (by decide) (by omega) (by omega)]
    exact ⟨h0, h1, h2, h3, h4, h5, e8, h7, h8, h9, h10⟩
  · rw [k0 5 (by decide)] at y
    have q := h.2.1 r x y
    unfold vA vB vM vT at q ⊢
    rw [k2, k2, k2, k2, hf _ _ (by omega) (by omega) (by omega), hf _ _ (by omega) (by omega) (by omega), hf _ _ (by omega) (by omega) (by omega), hf _ _ (by omega) (by omega) (by omega)]
    exact q
  · rw [k5] at y
    by_cases c : f = D 0 6
    · rw [c, show 120 + 5 * D 0 6 = 5 * (24 + D 0 6) by omega, show 120 + (5 * D 0 6 + 1) = 5 * (24 + D 0 6) + 1 by omega, show 120 + (5 * D 0 6 + 2) = 5 * (24 + D 0 6) + 2 by omega, show 120 + (5 * D 0 6 + 3) = 5 * (24 + D 0 6) + 3 by omega, show 120 + (5 * D 0 6 + 4) = 5 * (24 + D 0 6) + 4 by omega, e0, e1, e2, e3, e4]
      unfold vF dFow
      refine ⟨?_, ?_, ?_, ?_, ?_⟩
      · rw [zmu_c (by decide), zmu_i (by omega), zmu_i (by omega), zmu_i (by omega), zmu_i (by omega), Int.add_zero, zmu_same]
      · rw [zmu_c (by decide), zmu_i (by omega), zmu_i (by omega), zmu_i (by omega), zmu_same]
      · rw [zmu_c (by decide), zmu_i (by omega), zmu_i (by omega), zmu_same]
      · rw [zmu_c (by decide), zmu_i (by omega), zmu_same]
      · rw [zmu_c (by decide), zmu_same]
    · have q := h.2.2 f x (by omega)
      unfold vF at q ⊢
      rw [k1 _ (by omega), k1 _ (by omega), k1 _ (by omega), k1 _ (by omega), k1 _ (by omega), hf _ _ (by omega) (by omega) (by omega), hf _ _ (by omega) (by omega) (by omega), hf _ _ (by omega) (by omega) (by omega), hf _ _ (by omega) (by omega) (by omega), hf _ _ (by omega) (by omega) (by omega)]
      exact q
theorem gWc_0 : gWc 0 = 10261895 := by decide
theorem gWc_1 : gWc 1 = 235981828 := by decide
theorem gWc_2 : gWc 2 = 5878 := by decide
theorem gWc_3 : gWc 3 = 312166 := by decide
theorem gWc_4 : gWc 4 = 40044097 := by decide
theorem gWc_5 : gWc 5 = 453773 := by decide
theorem gWc_6 : gWc 6 = 365260 := by decide
theorem gWc_7 : gWc 7 = 555 := by decide
theorem gWc_8 : gWc 8 = 7094782 := by decide
theorem gWc_9 : gWc 9 = 139055 := by decide
theorem gWc_10 : gWc 10 = 86988807 := by decide
theorem gWc_11 : gWc 11 = 47 := by decide
theorem gWc_12 : gWc 12 = 10815598 := by decide
theorem gWc_13 : gWc 13 = 1389010550 := by decide
theorem gWc_14 : gWc 14 = 298288 := by decide
theorem gWc_15 : gWc 15 = 48833357185 := by decide
theorem gWc_16 : gWc 16 = 315743 := by decide
theorem pVa_b {T : zMm} {hi : Int} {s : Int × Int × Int} (h : hi ≤ 5) : 0 ≤ pVa T 0 hi 0 s ∧ pVa T 0 hi 0 s ≤ 5 := by
  unfold pVa
  by_cases c : pIn T 0 hi s = true
  · rw [if_pos c]
    have := (pIn_t.mp c).2
    omega
  · rw [if_neg c]; decide
theorem pV_e {T : zMm} {w lo hi e e' : Int} {s : Int × Int × Int} (h : (pN T w lo hi s).2.1 = 0) : pV T w lo hi e s = pV T w lo hi e' s := by
  have a := pNu_g h
  unfold pV pVa
  rw [if_pos a.1, if_pos a.1]
