/-! ===== lines: the state behind, the draft ===== -/
def pN (T : zMm) (w lo hi : Int) (s : Int × Int × Int) : Int × Int × Int := pNu T lo hi (pTw T w s)
def pV (T : zMm) (w lo hi e : Int) (s : Int × Int × Int) : Int := pVa T lo hi e (pTw T w s)
def pQ (T : zMm) (w P x : Int) (s : Int × Int × Int) : Int × Int × Int := pNu T 0 (P - 1) (pPl T w x s)
def pR (T : zMm) (w P x : Int) (s : Int × Int × Int) : Int := pVa T 0 (P - 1) 0 (pPl T w x s)
def pH1 (T : zMm) (s : Int × Int × Int) : Int × Int × Int := pN T (gWc 1) 2 6 (pTw T (gWc 0) s)
def pH2 (T : zMm) (s : Int × Int × Int) : Int × Int × Int := pN T (gWc 2) 0 9999 (pH1 T s)
def pH3 (T : zMm) (s : Int × Int × Int) : Int × Int × Int := pN T (gWc 3) 0 999 (pH2 T s)
def pH4 (T : zMm) (s : Int × Int × Int) : Int × Int × Int := pN T (gWc 4) 1 999 (pH3 T s)
def pH5 (T : zMm) (s : Int × Int × Int) : Int × Int × Int := pN T (gWc 5) 0 60 (pH4 T s)
def dH (T : zMm) (s : Int × Int × Int) (D : zMm) : zMm := zmu (zmu (zmu (zmu (zmu D 0 0 (pV T (gWc 1) 2 6 0 (pTw T (gWc 0) s))) 0 1 (pV T (gWc 2) 0 9999 0 (pH1 T s))) 0 2 (pV T (gWc 3) 0 999 0 (pH2 T s))) 0 3 (pV T (gWc 4) 1 999 0 (pH3 T s))) 0 4 (pV T (gWc 5) 0 60 0 (pH4 T s))
def pR1 (T : zMm) (P : Int) (s : Int × Int × Int) : Int × Int × Int := pQ T (gWc 6) P (-1) s
def pRa (T : zMm) (P : Int) (s : Int × Int × Int) : Int := pR T (gWc 6) P (-1) s
def pR2 (T : zMm) (P : Int) (s : Int × Int × Int) : Int × Int × Int := pQ T (gWc 7) P (pRa T P s) (pR1 T P s)
def pRb (T : zMm) (P : Int) (s : Int × Int × Int) : Int := pR T (gWc 7) P (pRa T P s) (pR1 T P s)
def pR3 (T : zMm) (P : Int) (s : Int × Int × Int) : Int × Int × Int := pN T (gWc 8) 1 20 (pR2 T P s)
def pRl (T : zMm) (P : Int) (s : Int × Int × Int) : Int := pV T (gWc 8) 1 20 0 (pR2 T P s)
def pR4 (T : zMm) (P : Int) (s : Int × Int × Int) : Int × Int × Int := if pIs T (gWc 9) (pR3 T P s) then pN T (gWc 9) 1 99 (pR3 T P s) else pR3 T P s
def pRt (T : zMm) (P : Int) (s : Int × Int × Int) : Int := if pIs T (gWc 9) (pR3 T P s) then pV T (gWc 9) 1 99 0 (pR3 T P s) else 0
def dRow (D : zMm) (a b l t : Int) : zMm := zmu (zmu (zmu (zmu (zmu D 1 (4 * D 0 5) a) 1 (4 * D 0 5 + 1) b) 1 (4 * D 0 5 + 2) l) 1 (4 * D 0 5 + 3) t) 0 5 (D 0 5 + 1)
def dR (T : zMm) (s : Int × Int × Int) (D : zMm) : zMm := dRow D (pRa T (D 0 0) s) (pRb T (D 0 0) s) (pRl T (D 0 0) s) (pRt T (D 0 0) s)
def pF1 (T : zMm) (P : Int) (s : Int × Int × Int) : Int × Int × Int := pQ T (gWc 11) P (-1) (pTw T (gWc 10) s)
def pFa (T : zMm) (P : Int) (s : Int × Int × Int) : Int := pR T (gWc 11) P (-1) (pTw T (gWc 10) s)
def pF2 (T : zMm) (P : Int) (s : Int × Int × Int) : Int × Int × Int := pQ T (gWc 7) P (pFa T P s) (pF1 T P s)
def pFb (T : zMm) (P : Int) (s : Int × Int × Int) : Int := pR T (gWc 7) P (pFa T P s) (pF1 T P s)
def pF3 (T : zMm) (P : Int) (s : Int × Int × Int) : Int × Int × Int := pN T (gWc 12) 0 9 (pF2 T P s)
def pFo (T : zMm) (P : Int) (s : Int × Int × Int) : Int := pV T (gWc 12) 0 9 0 (pF2 T P s)
def pF4 (T : zMm) (P : Int) (s : Int × Int × Int) : Int × Int × Int := pN T (gWc 13) 0 999 (pF3 T P s)
def pFc (T : zMm) (P : Int) (s : Int × Int × Int) : Int := pV T (gWc 13) 0 999 0 (pF3 T P s)
def pF5 (T : zMm) (P : Int) (s : Int × Int × Int) : Int × Int × Int := pN T (gWc 14) 0 100 (pF4 T P s)
def pFd (T : zMm) (P : Int) (s : Int × Int × Int) : Int := pV T (gWc 14) 0 100 0 (pF4 T P s)
def dFow (D : zMm) (a b o c e : Int) : zMm := zmu (zmu (zmu (zmu (zmu (zmu D 2 (5 * D 0 6) a) 2 (5 * D 0 6 + 1) b) 2 (5 * D 0 6 + 2) o) 2 (5 * D 0 6 + 3) c) 2 (5 * D 0 6 + 4) e) 0 6 (D 0 6 + 1)
def dF (T : zMm) (s : Int × Int × Int) (D : zMm) : zMm := dFow D (pFa T (D 0 0) s) (pFb T (D 0 0) s) (pFo T (D 0 0) s) (pFc T (D 0 0) s) (pFd T (D 0 0) s)
def pG1 (T : zMm) (P : Int) (s : Int × Int × Int) : Int × Int × Int := pQ T (gWc 11) P (-1) (pTw T (gWc 15) s)
def pGa (T : zMm) (P : Int) (s : Int × Int × Int) : Int := pR T (gWc 11) P (-1) (pTw T (gWc 15) s)
def pG2 (T : zMm) (P : Int) (s : Int × Int × Int) : Int × Int × Int := pN T (gWc 16) 0 60 (pG1 T P s)
def pGp (T : zMm) (P : Int) (s : Int × Int × Int) : Int := pV T (gWc 16) 0 60 0 (pG1 T P s)
def dG (T : zMm) (s : Int × Int × Int) (D : zMm) : zMm := zmu (zmu D 0 7 (pGa T (D 0 0) s)) 0 8 (pGp T (D 0 0) s)
def pL (T : zMm) (s : Int × Int × Int) (D : zMm) : Int × Int × Int :=
  if D 0 10 = 0 then pH5 T s
  else if pIs T (gWc 6) s then (if D 0 5 < 8 then pR4 T (D 0 0) s else pBl T 3 s)
  else if pIs T (gWc 10) s then (if D 0 6 < 6 then pF5 T (D 0 0) s else pBl T 3 s)
  else if pIs T (gWc 15) s then pG2 T (D 0 0) s else pBl T 1 s
def dL (T : zMm) (s : Int × Int × Int) (D : zMm) : zMm :=
  if D 0 10 = 0 then dH T s D
  else if pIs T (gWc 6) s then (if D 0 5 < 8 then dR T s D else D)
  else if pIs T (gWc 10) s then (if D 0 6 < 6 then dF T s D else D)
  else if pIs T (gWc 15) s then dG T s D else D
/-! the class's draft -/
def gFdr (m m' : zMm) : Prop := ∀ c i, c ≤ 0 ∨ c = 2 ∨ 20 ≤ c ∨ (c = 1 ∧ i = 0) → m' c i = m c i
theorem gFdr_p {m m' : zMm} (h : gFp m m') : gFdr m m' := fun c i hc => h c i (by omega)
theorem gFdr_tr {m m' m'' : zMm} (h1 : gFdr m m') (h2 : gFdr m' m'') : gFdr m m'' := fun c i h => by rw [h2 c i h, h1 c i h]
theorem gFdr_u {m : zMm} {c i v : Int} (h : 3 ≤ c ∧ c ≤ 19) : gFdr m (zmu m c i v) := fun c' i' hc => zmu_c (by omega)
theorem gPc_u {T m : zMm} {s : Int × Int × Int} {c i v : Int} (h : gPc T s m) (hc : 3 ≤ c) : gPc T s (zmu m c i v) := by
  obtain ⟨ht, ⟨q4, q5, q6, q7⟩, f1, f2, hq⟩ := h
  have e : ∀ i', zmu m c i v 1 i' = m 1 i' := fun i' => zmu_c (by omega)
  exact ⟨gTp_of ht (e 0) (fun i' => zmu_c (by omega)), ⟨by rw [e]; exact q4, by rw [e]; exact q5, by rw [e]; exact q6, by rw [e]; exact q7⟩, by rw [e]; exact f1, by rw [e]; exact f2, hq⟩
theorem gCS_p {D m m' : zMm} (h : gCS 3 D m) (hf : gFp m m') : gCS 3 D m' := by
  have e : ∀ c i, 3 ≤ c → m' c i = m c i := fun c i hc => hf c i (by omega)
  refine ⟨?_, fun r a b => ?_, fun f a b => ?_⟩
  · simp only [e 3 _ (by decide)]; exact h.1
  · simp only [e (3 + 3 + r) _ (by omega)]; exact h.2.1 r a b
  · simp only [e (3 + 11 + f) _ (by omega)]; exact h.2.2 f a b
theorem gCS_u {D m : zMm} {i j v : Int} (hj : (i = 0 ∧ j = 10) ∨ (i = 1 ∧ j = 0) ∨ (i = 2 ∧ j = 1) ∨ (i = 3 ∧ j = 2) ∨ (i = 4 ∧ j = 3) ∨ (i = 5 ∧ j = 4) ∨ (i = 6 ∧ j = 7) ∨ (i = 7 ∧ j = 8)) (h : gCS 3 D m) : gCS 3 (zmu D 0 j v) (zmu m 3 i v) := by
  have e5 : zmu D 0 j v 0 5 = D 0 5 := zmu_i (by omega)
  have e6 : zmu D 0 j v 0 6 = D 0 6 := zmu_i (by omega)
  have e1 : ∀ k, zmu D 0 j v 1 k = D 1 k := fun k => zmu_c (by decide)
  have e2 : ∀ k, zmu D 0 j v 2 k = D 2 k := fun k => zmu_c (by decide)
  refine ⟨?_, fun r a b => ?_, fun f a b => ?_⟩
  · obtain ⟨h0, h1, h2, h3, h4, h5, h6, h7, h8, h9⟩ := h.1
    rcases hj with ⟨rfl, rfl⟩ | ⟨rfl, rfl⟩ | ⟨rfl, rfl⟩ | ⟨rfl, rfl⟩ | ⟨rfl, rfl⟩ | ⟨rfl, rfl⟩ | ⟨rfl, rfl⟩ | ⟨rfl, rfl⟩ <;> simp (disch := decide) only [zmu_i, zmu_same, true_and, and_true, h0, h1, h2, h3, h4, h5, h6, h7, h8, h9]
  · rw [e5] at b
    unfold vA vB vM vT
    simp only [e1, zmu_c (show 3 + 3 + r ≠ 3 by omega)]; exact h.2.1 r a b
  · rw [e6] at b
    unfold vF
    simp only [e2, zmu_c (show 3 + 11 + f ≠ 3 by omega)]; exact h.2.2 f a b
theorem gCS_l {D m : zMm} (h : gCS 3 D m) : m 3 0 = D 0 10 ∧ m 3 1 = D 0 0 ∧ m 3 8 = D 0 5 ∧ m 3 9 = D 0 6 := ⟨h.1.1, h.1.2.1, h.1.2.2.2.2.2.2.2.2.1, h.1.2.2.2.2.2.2.2.2.2⟩
theorem gN0 : ((0 : Nat) : Int) = 0 := rfl
theorem gN1 : ((1 : Nat) : Int) = 1 := rfl
theorem gz52 {d : Nat} {m : zMm} {T D : zMm} {s : Int × Int × Int} (hk : gTo1 T) (hp : gPc T s m) (hc : gCS 3 D m) : zC (d + 6) 52 [.inr (.inr 1), .inr (.inr 3)] m (fun r' m' => r' = none ∧ gPc T (pH5 T s) m' ∧ gCS 3 (dH T s D) m' ∧ gFdr m m') := by
  refine ze52 ?_
  simp +contextual (disch := (first | omega | assumption | decide)) only [zw52_0, zr_3, zr_7, zr_9, zr_13, zr_68, zr_72, zlg_0, zlg_s, zrc_1, zrc_s, zcat_n, zcat_i, zcat_l, zcat_r, zkd_1, zkd_105, zkd_21, zkd_3, zkd_67, zkd_86, Int.cast_ofNat_Int, Int.reduceAdd, zmu_same, zmu_c, zmu_i, false_and, and_false, true_and, and_true, true_or, or_true, false_or, or_false, Option.toList, List.nil_append, List.cons_append, zif0, zif1, zif01, zem1, zem2, Int.reduceEq, Int.reduceLT, Int.reduceLE, Int.reduceNeg, Int.reduceSub, Int.reduceMul, if_true, if_false, not_false_eq_true, not_true_eq_false, true_implies, false_implies, Classical.not_not, Nat.reduceAdd, Nat.reduceLeDiff, gN0, gN1]
  refine gK (gz58 (w := 0) hk (by decide) rfl hp) rfl rfl (Nat.le_of_ble_eq_true rfl) ?_
  rintro _ m1 ⟨rfl, p1, f1⟩
  simp +contextual (disch := (first | omega | assumption | decide)) only [zw52_0, zr_3, zr_7, zr_9, zr_13, zr_68, zr_72, zlg_0, zlg_s, zrc_1, zrc_s, zcat_n, zcat_i, zcat_l, zcat_r, zkd_1, zkd_105, zkd_21, zkd_3, zkd_67, zkd_86, Int.cast_ofNat_Int, Int.reduceAdd, zmu_same, zmu_c, zmu_i, false_and, and_false, true_and, and_true, true_or, or_true, false_or, or_false, Option.toList, List.nil_append, List.cons_append, zif0, zif1, zif01, zem1, zem2, Int.reduceEq, Int.reduceLT, Int.reduceLE, Int.reduceNeg, Int.reduceSub, Int.reduceMul, if_true, if_false, not_false_eq_true, not_true_eq_false, true_implies, false_implies, Classical.not_not, Nat.reduceAdd, Nat.reduceLeDiff, gN0, gN1]
  refine gK (gz56 (w := 1) hk (by decide) rfl p1) rfl rfl (Nat.le_of_ble_eq_true rfl) ?_
  rintro _ m2 ⟨rfl, p2, f2⟩
  have c2 := gCS_u (v := pV T (gWc 1) 2 6 0 (pTw T (gWc 0) s)) (i := 1) (j := 0) (by decide) (gCS_p hc (gFp_tr f1 f2))
  simp +contextual (disch := (first | omega | assumption | decide)) only [zw52_0, zr_3, zr_7, zr_9, zr_13, zr_68, zr_72, zlg_0, zlg_s, zrc_1, zrc_s, zcat_n, zcat_i, zcat_l, zcat_r, zkd_1, zkd_105, zkd_21, zkd_3, zkd_67, zkd_86, Int.cast_ofNat_Int, Int.reduceAdd, zmu_same, zmu_c, zmu_i, false_and, and_false, true_and, and_true, true_or, or_true, false_or, or_false, Option.toList, List.nil_append, List.cons_append, zif0, zif1, zif01, zem1, zem2, Int.reduceEq, Int.reduceLT, Int.reduceLE, Int.reduceNeg, Int.reduceSub, Int.reduceMul, if_true, if_false, not_false_eq_true, not_true_eq_false, true_implies, false_implies, Classical.not_not, Nat.reduceAdd, Nat.reduceLeDiff, gN0, gN1]
  refine gK (gz56 (w := 2) hk (by decide) rfl (gPc_u p2 (by decide))) rfl rfl (Nat.le_of_ble_eq_true rfl) ?_
  rintro _ m3 ⟨rfl, p3, f3⟩
  have c3 := gCS_u (v := pV T (gWc 2) 0 9999 0 (pH1 T s)) (i := 2) (j := 1) (by decide) (gCS_p c2 f3)
  simp +contextual (disch := (first | omega | assumption | decide)) only [zw52_0, zr_3, zr_7, zr_9, zr_13, zr_68, zr_72, zlg_0, zlg_s, zrc_1, zrc_s, zcat_n, zcat_i, zcat_l, zcat_r, zkd_1, zkd_105, zkd_21, zkd_3, zkd_67, zkd_86, Int.cast_ofNat_Int, Int.reduceAdd, zmu_same, zmu_c, zmu_i, false_and, and_false, true_and, and_true, true_or, or_true, false_or, or_false, Option.toList, List.nil_append, List.cons_append, zif0, zif1, zif01, zem1, zem2, Int.reduceEq, Int.reduceLT, Int.reduceLE, Int.reduceNeg, Int.reduceSub, Int.reduceMul, if_true, if_false, not_false_eq_true, not_true_eq_false, true_implies, false_implies, Classical.not_not, Nat.reduceAdd, Nat.reduceLeDiff, gN0, gN1]
  refine gK (gz56 (w := 3) hk (by decide) rfl (gPc_u p3 (by decide))) rfl rfl (Nat.le_of_ble_eq_true rfl) ?_
  rintro _ m4 ⟨rfl, p4, f4⟩
  have c4 := gCS_u (v := pV T (gWc 3) 0 999 0 (pH2 T s)) (i := 3) (j := 2) (by decide) (gCS_p c3 f4)
  simp +contextual (disch := (first | omega | assumption | decide)) only [zw52_0, zr_3, zr_7, zr_9, zr_13, zr_68, zr_72, zlg_0, zlg_s, zrc_1, zrc_s, zcat_n, zcat_i, zcat_l, zcat_r, zkd_1, zkd_105, zkd_21, zkd_3, zkd_67, zkd_86, Int.cast_ofNat_Int, Int.reduceAdd, zmu_same, zmu_c, zmu_i, false_and, and_false, true_and, and_true, true_or, or_true, false_or, or_false, Option.toList, List.nil_append, List.cons_append, zif0, zif1, zif01, zem1, zem2, Int.reduceEq, Int.reduceLT, Int.reduceLE, Int.reduceNeg, Int.reduceSub, Int.reduceMul, if_true, if_false, not_false_eq_true, not_true_eq_false, true_implies, false_implies, Classical.not_not, Nat.reduceAdd, Nat.reduceLeDiff, gN0, gN1]
  refine gK (gz56 (w := 4) hk (by decide) rfl (gPc_u p4 (by decide))) rfl rfl (Nat.le_of_ble_eq_true rfl) ?_
  rintro _ m5 ⟨rfl, p5, f5⟩
  have c5 := gCS_u (v := pV T (gWc 4) 1 999 0 (pH3 T s)) (i := 4) (j := 3) (by decide) (gCS_p c4 f5)
  simp +contextual (disch := (first | omega | assumption | decide)) only [zw52_0, zr_3, zr_7, zr_9, zr_13, zr_68, zr_72, zlg_0, zlg_s, zrc_1, zrc_s, zcat_n, zcat_i, zcat_l, zcat_r, zkd_1, zkd_105, zkd_21, zkd_3, zkd_67, zkd_86, Int.cast_ofNat_Int, Int.reduceAdd, zmu_same, zmu_c, zmu_i, false_and, and_false, true_and, and_true, true_or, or_true, false_or, or_false, Option.toList, List.nil_append, List.cons_append, zif0, zif1, zif01, zem1, zem2, Int.reduceEq, Int.reduceLT, Int.reduceLE, Int.reduceNeg, Int.reduceSub, Int.reduceMul, if_true, if_false, not_false_eq_true, not_true_eq_false, true_implies, false_implies, Classical.not_not, Nat.reduceAdd, Nat.reduceLeDiff, gN0, gN1]
  refine gK (gz56 (w := 5) hk (by decide) rfl (gPc_u p5 (by decide))) rfl rfl (Nat.le_of_ble_eq_true rfl) ?_
  rintro _ m6 ⟨rfl, p6, f6⟩
  have c6 := gCS_u (v := pV T (gWc 5) 0 60 0 (pH4 T s)) (i := 5) (j := 4) (by decide) (gCS_p c5 f6)
  simp +contextual (disch := (first | omega | assumption | decide)) only [zw52_0, zr_3, zr_7, zr_9, zr_13, zr_68, zr_72, zlg_0, zlg_s, zrc_1, zrc_s, zcat_n, zcat_i, zcat_l, zcat_r, zkd_1, zkd_105, zkd_21, zkd_3, zkd_67, zkd_86, Int.cast_ofNat_Int, Int.reduceAdd, zmu_same, zmu_c, zmu_i, false_and, and_false, true_and, and_true, true_or, or_true, false_or, or_false, Option.toList, List.nil_append, List.cons_append, zif0, zif1, zif01, zem1, zem2, Int.reduceEq, Int.reduceLT, Int.reduceLE, Int.reduceNeg, Int.reduceSub, Int.reduceMul, if_true, if_false, not_false_eq_true, not_true_eq_false, true_implies, false_implies, Classical.not_not, Nat.reduceAdd, Nat.reduceLeDiff, gN0, gN1]
  have u : ∀ {m : zMm} {i v : Int}, gFdr m (zmu m 3 i v) := gFdr_u (by decide)
  exact ⟨gPc_u p6 (by decide), c6, gFdr_tr (gFdr_p (gFp_tr f1 f2)) (gFdr_tr u (gFdr_tr (gFdr_p f3) (gFdr_tr u (gFdr_tr (gFdr_p f4) (gFdr_tr u (gFdr_tr (gFdr_p f5) (gFdr_tr u (gFdr_tr (gFdr_p f6) u))))))))⟩
