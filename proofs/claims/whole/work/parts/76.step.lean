/-! ===== a good step keeps the draft sound ===== -/
def gDk (D : zMm) : Prop := gOk D ∧ D 0 9 = 0 ∧ (D 0 10 = 0 → D 0 7 = 0)
theorem gOk_l {D : zMm} (hk : gOk D) (h : 0 < D 0 10 ∧ D 0 10 < 900) : gOk (zmu D 0 10 (D 0 10 + 1)) := by
  have b := hk.1
  have k0 : ∀ i, i ≠ 10 → zmu D 0 10 (D 0 10 + 1) 0 i = D 0 i := fun i hi => zmu_i hi
  refine ⟨?_, fun r x y => ?_, fun f x y => ?_⟩
  · rw [k0 0 (by decide), k0 1 (by decide), k0 2 (by decide), k0 3 (by decide), k0 4 (by decide), k0 5 (by decide), k0 6 (by decide), k0 7 (by decide), k0 8 (by decide), k0 9 (by decide), zmu_same]
    omega
  · rw [k0 5 (by decide)] at y
    have q := hk.2.1 r x y
    unfold vA vB vM vT at q ⊢
    simp only [k0 0 (by decide), zmu_c (show (1 : Int) ≠ 0 by decide)]; exact q
  · rw [k0 6 (by decide)] at y
    have q := hk.2.2 f x y
    unfold vF at q ⊢
    simp only [k0 0 (by decide), zmu_c (show (2 : Int) ≠ 0 by decide)]; exact q
theorem dG_ok {D : zMm} {a b : Int} (hk : gOk D) (h10 : D 0 10 ≠ 0) (ha : 0 ≤ a ∧ a < D 0 0) (hb : 0 ≤ b ∧ b ≤ 60) : gOk (zmu (zmu D 0 7 a) 0 8 b) := by
  have h := hk.1
  have k0 : ∀ i, i ≠ 7 → i ≠ 8 → zmu (zmu D 0 7 a) 0 8 b 0 i = D 0 i := fun i h7 h8 => by rw [zmu_i h8, zmu_i h7]
  refine ⟨?_, fun r x y => ?_, fun f x y => ?_⟩
  · rw [k0 0 (by decide) (by decide), k0 1 (by decide) (by decide), k0 2 (by decide) (by decide), k0 3 (by decide) (by decide), k0 4 (by decide) (by decide), k0 5 (by decide) (by decide), k0 6 (by decide) (by decide), k0 9 (by decide) (by decide), k0 10 (by decide) (by decide), zmu_same, zmu_i (by decide), zmu_same]
    omega
  · rw [k0 5 (by decide) (by decide)] at y
    have q := hk.2.1 r x y
    unfold vA vB vM vT at q ⊢
    simp only [k0 0 (by decide) (by decide), zmu_c (show (1 : Int) ≠ 0 by decide)]; exact q
  · rw [k0 6 (by decide) (by decide)] at y
    have q := hk.2.2 f x y
    unfold vF at q ⊢
    simp only [k0 0 (by decide) (by decide), zmu_c (show (2 : Int) ≠ 0 by decide)]; exact q
theorem dL_f {T D : zMm} {s : Int × Int × Int} : dL T s D 0 9 = D 0 9 ∧ dL T s D 0 10 = D 0 10 := by
  unfold dL
  split
  · unfold dH
    simp (disch := decide) only [zmu_i, and_self]
  · split
    · split
      · unfold dR dRow
        simp (disch := decide) only [zmu_i, zmu_c, and_self]
      · exact ⟨rfl, rfl⟩
    · split
      · split
        · unfold dF dFow
          simp (disch := decide) only [zmu_i, zmu_c, and_self]
        · exact ⟨rfl, rfl⟩
      · split
        · unfold dG
          simp (disch := decide) only [zmu_i, zmu_c, and_self]
        · exact ⟨rfl, rfl⟩
/-- a good line that is no head -/
theorem dL_ok {T D : zMm} {s : Int × Int × Int} (hk : gOk D) (h10 : D 0 10 ≠ 0) (hg : (pL T s D).2.1 = 0) : gOk (dL T s D) := by
  unfold dL
  unfold pL at hg
  rw [if_neg h10] at hg ⊢
  by_cases c1 : pIs T (gWc 6) s = true
  · rw [if_pos c1] at hg ⊢
    by_cases c2 : D 0 5 < 8
    · rw [if_pos c2] at hg ⊢
      unfold dR
      unfold pR4 at hg
      unfold pRt
      by_cases c3 : pIs T (gWc 9) (pR3 T (D 0 0) s) = true
      · rw [if_pos c3] at hg ⊢
        have a4 := pN_g (e := 0) hg
        have a3 := pN_g (e := 0) a4.1
        have a2 := pQ_g a3.1
        have a1 := pQ_g a2.1
        exact dRow_ok hk h10 c2 ⟨a1.2.1, a1.2.2.1⟩ ⟨a2.2.1, a2.2.2.1⟩ (fun z => a2.2.2.2 z.symm) a3.2 ⟨by have := a4.2; omega, a4.2.2⟩
      · rw [if_neg c3] at hg ⊢
        have a3 := pN_g (e := 0) hg
        have a2 := pQ_g a3.1
        have a1 := pQ_g a2.1
        exact dRow_ok hk h10 c2 ⟨a1.2.1, a1.2.2.1⟩ ⟨a2.2.1, a2.2.2.1⟩ (fun z => a2.2.2.2 z.symm) a3.2 (by decide)
    · rw [if_neg c2] at hg; exact absurd hg (pBl_g (by decide))
  · rw [if_neg c1] at hg ⊢
    by_cases c2 : pIs T (gWc 10) s = true
    · rw [if_pos c2] at hg ⊢
      by_cases c3 : D 0 6 < 6
      · rw [if_pos c3] at hg ⊢
        have a5 := pN_g (e := 0) hg
        have a4 := pN_g (e := 0) a5.1
        have a3 := pN_g (e := 0) a4.1
        have a2 := pQ_g a3.1
        have a1 := pQ_g a2.1
        exact dFow_ok hk h10 c3 ⟨a1.2.1, a1.2.2.1⟩ ⟨a2.2.1, a2.2.2.1⟩ (fun z => a2.2.2.2 z.symm) a3.2 a4.2 a5.2
      · rw [if_neg c3] at hg; exact absurd hg (pBl_g (by decide))
    · rw [if_neg c2] at hg ⊢
      by_cases c3 : pIs T (gWc 15) s = true
      · rw [if_pos c3] at hg ⊢
        have a2 := pN_g (e := 0) hg
        have a1 := pQ_g a2.1
        exact dG_ok hk h10 ⟨a1.2.1, a1.2.2.1⟩ a2.2
      · rw [if_neg c3] at hg; exact absurd hg (pBl_g (by decide))
theorem dS_ok {T D : zMm} {s : Int × Int × Int} (hd : gDk D) (hT : T 0 0 ≤ 900) (h0 : s.1 ≤ T 0 0) (hq : D 0 10 ≤ s.1) (hg : (pS1 T s D).2.1 = 0) : gDk (dS1 T s D) ∧ dS1 T s D 0 10 ≤ (pS1 T s D).1 := by
  have l := pL_1 (D := D) h0
  have g := pSg_g l.2
  have g2 := g.2 hg
  have f := dL_f (T := T) (D := D) (s := s)
  have bk := hd.1.1
  have le : dS1 T s D 0 10 ≤ (pS1 T s D).1 := by
    show zmu (dL T s D) 0 10 (D 0 10 + 1) 0 10 ≤ _
    rw [zmu_same]
    have : (pL T s D).1 + 1 ≤ (pS1 T s D).1 := g2.2
    omega
  have lq : D 0 10 < 900 := by
    have : (pL T s D).1 + 1 ≤ (pS1 T s D).1 := g2.2
    have : (pS1 T s D).1 ≤ T 0 0 := g.1.2
    omega
  refine ⟨?_, le⟩
  have e9 : dS1 T s D 0 9 = 0 := by
    unfold dS1
    rw [zmu_i (by decide), f.1]; exact hd.2.1
  refine ⟨?_, e9, fun z => ?_⟩
  · by_cases c : D 0 10 = 0
    · have d7 := hd.2.2 c
      have p : (pH5 T s).2.1 = 0 := by
        have := g2.1
        unfold pL at this
        rwa [if_pos c] at this
      have a5 := pN_g (e := 0) p
      have a4 := pN_g (e := 0) a5.1
      have a3 := pN_g (e := 0) a4.1
      have a2 := pN_g (e := 0) a3.1
      have a1 := pN_g (e := 0) a2.1
      have ed : dS1 T s D = zmu (dH T s D) 0 10 1 := by
        unfold dS1 dL
        rw [if_pos c, c]
        rfl
      rw [ed]
      unfold dH
      refine ⟨?_, fun r x y => ?_, fun f x y => ?_⟩
      · simp (disch := decide) only [zmu_i, zmu_same]
        have z1 := a1.2
        have z2 := a2.2
        have z3 := a3.2
        have z4 := a4.2
        have z5 := a5.2
        omega
      · simp (disch := decide) only [zmu_i] at y
        omega
      · simp (disch := decide) only [zmu_i] at y
        omega
    · have := gOk_l (dL_ok hd.1 c g2.1) (by rw [f.2]; omega)
      rw [f.2] at this
      exact this
  · unfold dS1 at z
    rw [zmu_same] at z
    omega
/-! the run: line behind line -/
def pRun (T : zMm) : Nat → Int × Int × Int → zMm → (Int × Int × Int) × zMm
  | 0, s, D => (s, D)
  | n + 1, s, D => if s.2.1 = 0 ∧ gKi T s.1 ≠ 0 then pRun T n (pS1 T s D) (dS1 T s D) else (s, D)
theorem gKi_lt {T : zMm} {q : Int} (h : q ≤ T 0 0) (hk : gKi T q ≠ 0) : q < T 0 0 := by
  have a := gEd_b h
  have b := gSt1_s h
  have := a.2.2.1 hk
  omega
