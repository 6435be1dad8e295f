/-! ===== what a good end tells ===== -/
theorem pBl_g {T : zMm} {c : Int} {s : Int × Int × Int} (hc : c ≠ 0) : (pBl T c s).2.1 ≠ 0 := by
  unfold pBl
  by_cases h : s.2.1 = 0
  · rw [if_pos h]; exact hc
  · rw [if_neg h]; exact h
theorem pBl_1 {T : zMm} {c : Int} {s : Int × Int × Int} : (pBl T c s).1 = s.1 := by
  unfold pBl
  split <;> rfl
theorem pTw_g {T : zMm} {w : Int} {s : Int × Int × Int} (h : (pTw T w s).2.1 = 0) : pIs T w s = true ∧ s.2.1 = 0 := by
  unfold pTw at h
  by_cases c : pIs T w s = true
  · exact ⟨c, (pIs_t.mp c).1⟩
  · rw [if_neg c] at h; exact absurd h (pBl_g (by decide))
theorem pNu_g {T : zMm} {lo hi : Int} {s : Int × Int × Int} (h : (pNu T lo hi s).2.1 = 0) : pIn T lo hi s = true ∧ s.2.1 = 0 := by
  unfold pNu at h
  by_cases c : pIn T lo hi s = true
  · exact ⟨c, (pIn_t.mp c).1.1⟩
  · rw [if_neg c] at h
    split at h
    · exact absurd h (pBl_g (by decide))
    · exact absurd h (pBl_g (by decide))
theorem pVa_g {T : zMm} {lo hi e : Int} {s : Int × Int × Int} (h : pIn T lo hi s = true) : pVa T lo hi e s = gVl T s.1 ∧ lo ≤ pVa T lo hi e s ∧ pVa T lo hi e s ≤ hi := by
  unfold pVa
  rw [if_pos h]
  exact ⟨rfl, (pIn_t.mp h).2⟩
theorem pDn_g {T : zMm} {x : Int} {s : Int × Int × Int} (h : (pDn T x s).2.1 = 0) : pDn T x s = s ∧ s.2.1 = 0 ∧ ¬ ((s.2.1 = 0 ∧ gKi T s.1 = 2) ∧ gVl T s.1 = x) := by
  by_cases c : (s.2.1 = 0 ∧ gKi T s.1 = 2) ∧ gVl T s.1 = x
  · unfold pDn at h
    rw [if_pos c] at h; exact absurd h (pBl_g (by decide))
  · have e : pDn T x s = s := by unfold pDn; rw [if_neg c]
    rw [e] at h
    exact ⟨e, h, c⟩
theorem pN_g {T : zMm} {w lo hi e : Int} {s : Int × Int × Int} (h : (pN T w lo hi s).2.1 = 0) : s.2.1 = 0 ∧ lo ≤ pV T w lo hi e s ∧ pV T w lo hi e s ≤ hi := by
  have a := pNu_g h
  exact ⟨(pTw_g a.2).2, (pVa_g a.1).2⟩
theorem pQ_g {T : zMm} {w P x : Int} {s : Int × Int × Int} (h : (pQ T w P x s).2.1 = 0) : s.2.1 = 0 ∧ 0 ≤ pR T w P x s ∧ pR T w P x s < P ∧ pR T w P x s ≠ x := by
  have a := pNu_g h
  have b := pDn_g a.2
  have c := pVa_g (e := 0) a.1
  have i := (pIn_t.mp a.1).1
  have r : pR T w P x s = gVl T (pPl T w x s).1 := c.1
  have r0 : 0 ≤ pR T w P x s := c.2.1
  have r1 : pR T w P x s ≤ P - 1 := c.2.2
  unfold pPl at i r
  rw [b.1] at i r
  refine ⟨(pTw_g b.2.1).2, r0, by omega, fun z => b.2.2 ⟨i, by rw [← r]; exact z⟩⟩
/-! positions only grow -/
theorem pAd_1 {T : zMm} {s : Int × Int × Int} (h : s.1 ≤ T 0 0) : s.1 ≤ (pAd T s).1 ∧ (pAd T s).1 ≤ T 0 0 := by
  have a := gEd_b h
  have b := gSt1_s h
  show s.1 ≤ gEd T s.1 ∧ gEd T s.1 ≤ T 0 0
  omega
theorem pBl_2 {T : zMm} {c : Int} {s : Int × Int × Int} (h : s.1 ≤ T 0 0) : s.1 ≤ (pBl T c s).1 ∧ (pBl T c s).1 ≤ T 0 0 := by rw [pBl_1]; omega
theorem pTw_1 {T : zMm} {w : Int} {s : Int × Int × Int} (h : s.1 ≤ T 0 0) : s.1 ≤ (pTw T w s).1 ∧ (pTw T w s).1 ≤ T 0 0 := by
  unfold pTw
  split
  · exact pAd_1 h
  · exact pBl_2 h
theorem pNu_1 {T : zMm} {lo hi : Int} {s : Int × Int × Int} (h : s.1 ≤ T 0 0) : s.1 ≤ (pNu T lo hi s).1 ∧ (pNu T lo hi s).1 ≤ T 0 0 := by
  unfold pNu
  split
  · exact pAd_1 h
  · split
    · exact pBl_2 h
    · exact pBl_2 h
theorem pDn_1 {T : zMm} {x : Int} {s : Int × Int × Int} (h : s.1 ≤ T 0 0) : s.1 ≤ (pDn T x s).1 ∧ (pDn T x s).1 ≤ T 0 0 := by
  unfold pDn
  split
  · exact pBl_2 h
  · exact ⟨Int.le_refl _, h⟩
theorem pN_1 {T : zMm} {w lo hi : Int} {s : Int × Int × Int} (h : s.1 ≤ T 0 0) : s.1 ≤ (pN T w lo hi s).1 ∧ (pN T w lo hi s).1 ≤ T 0 0 := by
  have a := pTw_1 (w := w) h
  have b := pNu_1 (lo := lo) (hi := hi) a.2
  exact ⟨Int.le_trans a.1 b.1, b.2⟩
theorem pQ_1 {T : zMm} {w P x : Int} {s : Int × Int × Int} (h : s.1 ≤ T 0 0) : s.1 ≤ (pQ T w P x s).1 ∧ (pQ T w P x s).1 ≤ T 0 0 := by
  have a := pTw_1 (w := w) h
  have c := pDn_1 (x := x) a.2
  have b := pNu_1 (lo := 0) (hi := P - 1) c.2
  exact ⟨Int.le_trans a.1 (Int.le_trans c.1 b.1), b.2⟩
theorem pL_1 {T D : zMm} {s : Int × Int × Int} (h : s.1 ≤ T 0 0) : s.1 ≤ (pL T s D).1 ∧ (pL T s D).1 ≤ T 0 0 := by
  unfold pL
  split
  · have a0 := pTw_1 (w := gWc 0) h
    have a1 := pN_1 (w := gWc 1) (lo := 2) (hi := 6) a0.2
    have a2 := pN_1 (w := gWc 2) (lo := 0) (hi := 9999) a1.2
    have a3 := pN_1 (w := gWc 3) (lo := 0) (hi := 999) a2.2
    have a4 := pN_1 (w := gWc 4) (lo := 1) (hi := 999) a3.2
    have a5 := pN_1 (w := gWc 5) (lo := 0) (hi := 60) a4.2
    exact ⟨Int.le_trans a0.1 (Int.le_trans a1.1 (Int.le_trans a2.1 (Int.le_trans a3.1 (Int.le_trans a4.1 a5.1)))), a5.2⟩
  · split
    · split
      · have a1 := pQ_1 (w := gWc 6) (P := D 0 0) (x := -1) h
        have a2 := pQ_1 (w := gWc 7) (P := D 0 0) (x := pRa T (D 0 0) s) a1.2
        have a3 := pN_1 (w := gWc 8) (lo := 1) (hi := 20) a2.2
        have a4 := pN_1 (w := gWc 9) (lo := 1) (hi := 99) a3.2
        unfold pR4
        split
        · exact ⟨Int.le_trans a1.1 (Int.le_trans a2.1 (Int.le_trans a3.1 a4.1)), a4.2⟩
        · exact ⟨Int.le_trans a1.1 (Int.le_trans a2.1 a3.1), a3.2⟩
      · exact pBl_2 h
    · split
      · split
        · have a0 := pTw_1 (w := gWc 10) h
          have a1 := pQ_1 (w := gWc 11) (P := D 0 0) (x := -1) a0.2
          have a2 := pQ_1 (w := gWc 7) (P := D 0 0) (x := pFa T (D 0 0) s) a1.2
          have a3 := pN_1 (w := gWc 12) (lo := 0) (hi := 9) a2.2
          have a4 := pN_1 (w := gWc 13) (lo := 0) (hi := 999) a3.2
          have a5 := pN_1 (w := gWc 14) (lo := 0) (hi := 100) a4.2
          exact ⟨Int.le_trans a0.1 (Int.le_trans a1.1 (Int.le_trans a2.1 (Int.le_trans a3.1 (Int.le_trans a4.1 a5.1)))), a5.2⟩
        · exact pBl_2 h
      · split
        · have a0 := pTw_1 (w := gWc 15) h
          have a1 := pQ_1 (w := gWc 11) (P := D 0 0) (x := -1) a0.2
          have a2 := pN_1 (w := gWc 16) (lo := 0) (hi := 60) a1.2
          exact ⟨Int.le_trans a0.1 (Int.le_trans a1.1 a2.1), a2.2⟩
        · exact pBl_2 h
/-! a step: a line, its sign -/
def pS1 (T : zMm) (s : Int × Int × Int) (D : zMm) : Int × Int × Int := pSg T (pL T s D)
def dS1 (T : zMm) (s : Int × Int × Int) (D : zMm) : zMm := zmu (dL T s D) 0 10 (D 0 10 + 1)
theorem pSg_g {T : zMm} {s : Int × Int × Int} (h : s.1 ≤ T 0 0) : (s.1 ≤ (pSg T s).1 ∧ (pSg T s).1 ≤ T 0 0) ∧ ((pSg T s).2.1 = 0 → s.2.1 = 0 ∧ s.1 + 1 ≤ (pSg T s).1) := by
  unfold pSg
  by_cases c : s.2.1 = 0 ∧ gKi T s.1 = 3
  · rw [if_pos c]
    have a := gEd_b h
    have b := gSt1_s h
    refine ⟨pAd_1 h, fun _ => ⟨c.1, ?_⟩⟩
    show s.1 + 1 ≤ gEd T s.1
    have := a.2.2.1 (by omega)
    omega
  · rw [if_neg c]
    exact ⟨pBl_2 h, fun z => absurd z (pBl_g (by decide))⟩
def gDo (D : zMm) : Prop := gOk D ∧ D 0 9 = 0
theorem dRow_ok {D : zMm} {a b l t : Int} (hk : gOk D) (h10 : D 0 10 ≠ 0) (h5 : D 0 5 < 8) (ha : 0 ≤ a ∧ a < D 0 0) (hb : 0 ≤ b ∧ b < D 0 0) (hab : a ≠ b) (hl : 1 ≤ l ∧ l ≤ 20) (ht : 0 ≤ t ∧ t ≤ 99) : gOk (dRow D a b l t) := by
  have h := hk.1
  have k5 : dRow D a b l t 0 5 = D 0 5 + 1 := by unfold dRow; rw [zmu_same]
  have k0 : ∀ i, i ≠ 5 → dRow D a b l t 0 i = D 0 i := fun i hi => by
    unfold dRow
    rw [zmu_i (by omega), zmu_c (by decide), zmu_c (by decide), zmu_c (by decide), zmu_c (by decide)]
  have k1 : ∀ i, i < 4 * D 0 5 → dRow D a b l t 1 i = D 1 i := fun i hi => by
    unfold dRow
    rw [zmu_c (by decide), zmu_i (by omega), zmu_i (by omega), zmu_i (by omega), zmu_i (by omega)]
  have k2 : ∀ i, dRow D a b l t 2 i = D 2 i := fun i => by
    unfold dRow
    rw [zmu_c (by decide), zmu_c (by decide), zmu_c (by decide), zmu_c (by decide), zmu_c (by decide)]
  refine ⟨?_, fun r x y => ?_, fun f x y => ?_⟩
  · rw [k5, k0 0 (by decide), k0 1 (by decide), k0 2 (by decide), k0 3 (by decide), k0 4 (by decide), k0 6 (by decide), k0 7 (by decide), k0 8 (by decide), k0 9 (by decide), k0 10 (by decide)]
    omega
  · rw [k5] at y
    rw [k0 0 (by decide)]
    by_cases c : r = D 0 5
    · have e0 : vA (dRow D a b l t) r = a := by
        unfold vA dRow
        rw [c, zmu_c (by decide), zmu_i (by omega), zmu_i (by omega), zmu_i (by omega), zmu_same]
      have e1 : vB (dRow D a b l t) r = b := by
        unfold vB dRow
        rw [c, zmu_c (by decide), zmu_i (by omega), zmu_i (by omega), zmu_same]
      have e2 : vM (dRow D a b l t) r = l := by
        unfold vM dRow
        rw [c, zmu_c (by decide), zmu_i (by omega), zmu_same]
      have e3 : vT (dRow D a b l t) r = t := by
        unfold vT dRow
        rw [c, zmu_c (by decide), zmu_same]
      rw [e0, e1, e2, e3]
      exact ⟨ha, hb, hab, hl, ht⟩
    · have q := hk.2.1 r x (by omega)
      unfold vA vB vM vT at q ⊢
      rw [k1 _ (by omega), k1 _ (by omega), k1 _ (by omega), k1 _ (by omega)]
      exact q
  · rw [k0 6 (by decide)] at y
    rw [k0 0 (by decide)]
    have q := hk.2.2 f x y
    unfold vF at q ⊢
    rw [k2, k2, k2, k2, k2]
    exact q
theorem dFow_ok {D : zMm} {a b o p e : Int} (hk : gOk D) (h10 : D 0 10 ≠ 0) (h5 : D 0 6 < 6) (ha : 0 ≤ a ∧ a < D 0 0) (hb : 0 ≤ b ∧ b < D 0 0) (hab : a ≠ b) (ho : 0 ≤ o ∧ o ≤ 9) (hp : 0 ≤ p ∧ p ≤ 999) (he : 0 ≤ e ∧ e ≤ 100) : gOk (dFow D a b o p e) := by
  have h := hk.1
  have k5 : dFow D a b o p e 0 6 = D 0 6 + 1 := by unfold dFow; rw [zmu_same]
  have k0 : ∀ i, i ≠ 6 → dFow D a b o p e 0 i = D 0 i := fun i hi => by
    unfold dFow
    rw [zmu_i (by omega), zmu_c (by decide), zmu_c (by decide), zmu_c (by decide), zmu_c (by decide), zmu_c (by decide)]
  have k1 : ∀ i, i < 5 * D 0 6 → dFow D a b o p e 2 i = D 2 i := fun i hi => by
    unfold dFow
    rw [zmu_c (by decide), zmu_i (by omega), zmu_i (by omega), zmu_i (by omega), zmu_i (by omega), zmu_i (by omega)]
  have k2 : ∀ i, dFow D a b o p e 1 i = D 1 i := fun i => by
    unfold dFow
    rw [zmu_c (by decide), zmu_c (by decide), zmu_c (by decide), zmu_c (by decide), zmu_c (by decide), zmu_c (by decide)]
  refine ⟨?_, fun r x y => ?_, fun f x y => ?_⟩
  · rw [k5, k0 0 (by decide), k0 1 (by decide), k0 2 (by decide), k0 3 (by decide), k0 4 (by decide), k0 5 (by decide), k0 7 (by decide), k0 8 (by decide), k0 9 (by decide), k0 10 (by decide)]
    omega
  · rw [k0 5 (by decide)] at y
    rw [k0 0 (by decide)]
    have q := hk.2.1 r x y
    unfold vA vB vM vT at q ⊢
    rw [k2, k2, k2, k2]
    exact q
  · rw [k5] at y
    rw [k0 0 (by decide)]
    by_cases c : f = D 0 6
    · have e0 : vF (dFow D a b o p e) f 0 = a := by
        unfold vF dFow
        rw [c, zmu_c (by decide), zmu_i (by omega), zmu_i (by omega), zmu_i (by omega), zmu_i (by omega), Int.add_zero, zmu_same]
      have e1 : vF (dFow D a b o p e) f 1 = b := by
        unfold vF dFow
        rw [c, zmu_c (by decide), zmu_i (by omega), zmu_i (by omega), zmu_i (by omega), zmu_same]
      have e2 : vF (dFow D a b o p e) f 2 = o := by
        unfold vF dFow
        rw [c, zmu_c (by decide), zmu_i (by omega), zmu_i (by omega), zmu_same]
      have e3 : vF (dFow D a b o p e) f 3 = p := by
        unfold vF dFow
        rw [c, zmu_c (by decide), zmu_i (by omega), zmu_same]
      have e4 : vF (dFow D a b o p e) f 4 = e := by
        unfold vF dFow
        rw [c, zmu_c (by decide), zmu_same]
      rw [e0, e1, e2, e3, e4]
      exact ⟨ha, hb, hab, ho, hp, he⟩
    · have q := hk.2.2 f x (by omega)
      unfold vF at q ⊢
      rw [k1 _ (by omega), k1 _ (by omega), k1 _ (by omega), k1 _ (by omega), k1 _ (by omega)]
      exact q
