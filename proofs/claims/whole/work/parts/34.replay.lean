/-! ===== states stay good; begin, copyOf ===== -/
theorem gFl_bd {V : zMm} {S : Int → Int} {g r : Int} (hk : gSok V S) (hg : gLg S g) (h0 : 0 ≤ r) (h1 : r < 8) : 0 ≤ gFl V S g r ∧ gFl V S g r ≤ S 0 + 1 ∧ ((zbit (gS1 S g) r = 1 ∨ ¬ (r < V 0 5 ∧ 0 < vT V r)) → gFl V S g r = 0) := by
  have b := hk.2.2.2.2.2.2.2 r h0 h1
  have e := gS1_bit hk hg h0 h1
  unfold gFl
  refine ⟨by split <;> omega, by split <;> omega, fun z => ?_⟩
  rw [if_neg (by omega)]
  rcases z with z | z
  · rw [z] at e
    have : zbit (S 4) r = 1 := by
      by_cases y : zbit (S 4) r = 1 ∧ r ≠ g
      · exact y.1
      · rw [if_neg y] at e; omega
    have := b.2.2 (Or.inl this)
    omega
  · have := b.2.2 (Or.inr z)
    omega
theorem gBk_f {V : zMm} {S : Int → Int} {g r : Int} (h0 : 0 ≤ r) (h1 : r < 8) : gBk V S g (6 + r) = gFl V S g r := by
  unfold gBk
  rw [if_neg (by omega), if_neg (by omega), if_neg (by omega), if_pos (by omega), show 6 + r - 6 = r by omega]
theorem gSok_bk {V : zMm} {S : Int → Int} {g p u : Int} (hV : gOk V) (hk : gSok V S) (hg : gLg S g) (hn : S 0 < 1000) (hp : 0 ≤ p ∧ p ≤ 9999 + 540000 * (S 0 + 1)) (hu : u = 0 ∨ u = 1) : gSok V (fun i => if i = 1 then p else if i = 2 then u else gBk V S g i) ∧ S 5 + 1 ≤ S 0 + 1 := by
  have b1 := gS1_bd hk hg
  have e3 : (fun i => if i = 1 then p else if i = 2 then u else gBk V S g i) 3 = if g = -1 then S 3 else min (vA V g) (vB V g) := rfl
  have ef : ∀ r, 0 ≤ r → r < 8 → (fun i => if i = 1 then p else if i = 2 then u else gBk V S g i) (6 + r) = gFl V S g r := fun r a b => by
    dsimp only
    rw [if_neg (by omega), if_neg (by omega), gBk_f a b]
  refine ⟨⟨?_, ?_, hu, ?_, b1, ?_, fun r a b z => ?_, fun r a b => ?_⟩, ?_⟩
  · show 0 ≤ S 0 + 1 ∧ S 0 + 1 ≤ 1000
    have := hk.1; omega
  · exact hp
  · rw [e3]
    have h3 := hk.2.2.2.1
    by_cases c : g = -1
    · rw [if_pos c]; exact h3
    · rw [if_neg c]
      have yb : 0 ≤ g ∧ g < 8 ∧ zbit (S 4) g = 1 := by unfold gLg at hg; omega
      have gr := hk.2.2.2.2.2.2.1 g yb.1 yb.2.1 yb.2.2
      have br := hV.2.1 g yb.1 gr.1
      have hb := hV.1
      omega
  · show 0 ≤ S 5 ∧ S 5 ≤ S 0 + 1
    have := hk.2.2.2.2.2.1; omega
  · have z' : zbit (gS1 S g) r = 1 := z
    rw [gS1_bit hk hg a b] at z'
    have : zbit (S 4) r = 1 := by
      by_cases y : zbit (S 4) r = 1 ∧ r ≠ g
      · exact y.1
      · rw [if_neg y] at z'; omega
    exact hk.2.2.2.2.2.2.1 r a b this
  · rw [ef r a b]
    exact gFl_bd hk hg a b
  · have := hk.2.2.2.2.2.1; omega
theorem gSok_rb {V : zMm} {S : Int → Int} {x : Int} (hV : gOk V) (hk : gSok V S) (hx : 0 ≤ x) (h5 : S 5 + 1 ≤ S 0) : gSok V (gRb S x) := by
  unfold gRb
  by_cases c : x ≤ S 1 ∧ 2 ≤ S (6 + gMx (fun r => S (6 + r)) 7)
  · rw [if_pos c]
    have bL := gMx_bd (fun r => S (6 + r)) 7
    generalize gMx (fun r => S (6 + r)) 7 = L at c bL ⊢
    have hL := hk.2.2.2.2.2.2.2 L bL.1 (by omega)
    have nL : ¬ (zbit (S 4) L = 1 ∨ ¬ (L < V 0 5 ∧ 0 < vT V L)) := fun z => by have := hL.2.2 z; omega
    have bp := p2_bd (k := L) (by omega)
    have b4 := hk.2.2.2.2.1
    have bz := fun r (a : 0 ≤ r) (b : r < 8) => zbit_or (j := r) b4 bp a
    generalize hS2 : (fun i => if i = 1 then S 1 - x else if i = 4 then zor (S 4) (2 ^ L.toNat) else if i = 5 then S 5 + 1 else if i = 6 + L then 0 else S i) = S2
    have s0 : S2 0 = S 0 := by rw [← hS2]; dsimp only; rw [if_neg (by decide), if_neg (by decide), if_neg (by decide), if_neg (by omega)]
    have s1 : S2 1 = S 1 - x := by rw [← hS2]; rfl
    have s2 : S2 2 = S 2 := by rw [← hS2]; dsimp only; rw [if_neg (by decide), if_neg (by decide), if_neg (by decide), if_neg (by omega)]
    have s3 : S2 3 = S 3 := by rw [← hS2]; dsimp only; rw [if_neg (by decide), if_neg (by decide), if_neg (by decide), if_neg (by omega)]
    have s4 : S2 4 = zor (S 4) (2 ^ L.toNat) := by rw [← hS2]; rfl
    have s5 : S2 5 = S 5 + 1 := by rw [← hS2]; rfl
    have sf : ∀ r, 0 ≤ r → r < 8 → S2 (6 + r) = if r = L then 0 else S (6 + r) := fun r a b => by
      rw [← hS2]; dsimp only; rw [if_neg (by omega), if_neg (by omega), if_neg (by omega)]
      by_cases e : r = L
      · rw [if_pos e, if_pos (by omega)]
      · rw [if_neg e, if_neg (by omega)]
    unfold gSok
    rw [s0, s1, s2, s3, s4, s5]
    have h0 := hk.1
    have h1 := hk.2.1
    have h55 := hk.2.2.2.2.2.1
    refine ⟨hk.1, by omega, hk.2.2.1, hk.2.2.2.1, zor_bd b4 bp, by omega, fun r a b z => ?_, fun r a b => ?_⟩
    · rw [bz r a b, zbit_p2 ⟨bL.1, by omega⟩ ⟨a, b⟩] at z
      by_cases e : r = L
      · rw [e]; omega
      · rw [if_neg e] at z
        have : zbit (S 4) r = 1 := by
          by_cases y : zbit (S 4) r = 1
          · exact y
          · rw [if_neg (by omega)] at z; omega
        exact hk.2.2.2.2.2.2.1 r a b this
    · rw [sf r a b]
      have hr := hk.2.2.2.2.2.2.2 r a b
      by_cases e : r = L
      · rw [if_pos e]
        exact ⟨by decide, h0.1, fun _ => rfl⟩
      · rw [if_neg e]
        refine ⟨hr.1, hr.2.1, fun z => hr.2.2 ?_⟩
        rcases z with z | z
        · rw [bz r a b, zbit_p2 ⟨bL.1, by omega⟩ ⟨a, b⟩, if_neg e] at z
          left
          by_cases y : zbit (S 4) r = 1
          · exact y
          · rw [if_neg (by omega)] at z; omega
        · exact Or.inr z
  · rw [if_neg c]; exact hk
theorem gSok_ni {V : zMm} {S : Int → Int} {g : Int} (hV : gOk V) (hk : gSok V S) (hg : gLg S g) (hn : S 0 < 1000) : gSok V (gNi V S g) := by
  have hb := hV.1
  have bT := gTk_bd hV (s := gS1 S g)
  have b1 := hk.2.1
  have b0 := hk.1
  unfold gNi
  split
  · exact (gSok_bk hV hk hg hn (by omega) (Or.inr rfl)).1
  · rename_i c
    have e : (fun i => if i = 1 then S 1 + gTk V (gS1 S g) - V 0 2 else gBk V S g i) = (fun i => if i = 1 then S 1 + gTk V (gS1 S g) - V 0 2 else if i = 2 then S 2 else gBk V S g i) := by
      funext i
      by_cases c1 : i = 1
      · rw [if_pos c1, if_pos c1]
      · rw [if_neg c1, if_neg c1]
        by_cases c2 : i = 2
        · rw [if_pos c2, c2]; rfl
        · rw [if_neg c2]
    rw [e]
    have q := gSok_bk hV hk hg hn (p := S 1 + gTk V (gS1 S g) - V 0 2) (u := S 2) (by omega) hk.2.2.1
    exact gSok_rb hV q.1 (by omega) q.2
theorem gRb_0 {S : Int → Int} {x : Int} : gRb S x 0 = S 0 := by
  unfold gRb
  split
  · have bL := gMx_bd (fun r => S (6 + r)) 7
    dsimp only
    rw [if_neg (by decide), if_neg (by decide), if_neg (by decide), if_neg (by omega)]
  · rfl
theorem gNi_0 {V : zMm} {S : Int → Int} {g : Int} : gNi V S g 0 = S 0 + 1 := by
  unfold gNi
  split
  · rfl
  · rw [gRb_0]; rfl
/-- the start -/
def gBe (V : zMm) : Int → Int := fun i => if i = 1 then V 0 1 else if i = 3 then V 0 7 else if i = 4 then gGb V else 0
theorem gBe_ok {V : zMm} (hV : gOk V) : gSok V (gBe V) := by
  have hb := hV.1
  refine ⟨by show (0 : Int) ≤ 0 ∧ (0 : Int) ≤ 1000; omega, ?_, Or.inl rfl, ?_, gGb_bd hV, by show (0 : Int) ≤ 0 ∧ (0 : Int) ≤ 0; omega, fun r a b z => ?_, fun r a b => ?_⟩
  · show 0 ≤ V 0 1 ∧ V 0 1 ≤ 9999 + 540000 * 0
    omega
  · show 0 ≤ V 0 7 ∧ V 0 7 < 6 ∧ (0 < V 0 10 → V 0 7 < V 0 0)
    omega
  · have z' : zbit (gGb V) r = 1 := z
    rw [zbit_Gb hV a b] at z'
    by_cases y : r < V 0 5 ∧ 0 < vT V r
    · exact y
    · rw [if_neg y] at z'; omega
  · have e : gBe V (6 + r) = 0 := by
      unfold gBe
      rw [if_neg (by omega), if_neg (by omega), if_neg (by omega)]
    rw [e]
    exact ⟨by decide, by show (0 : Int) ≤ 0; decide, fun _ => rfl⟩
theorem gz41 {d : Nat} {m : zMm} {c : Int} {V : zMm} (hV : gOk V) (hv : gCV V m) (hc : gStc c) : zC (d + 3) 41 [.inr (.inr c), .inr (.inr 21)] m (fun r' m' => r' = none ∧ gSt (gBe V) c m' ∧ gEq c m m') := by
  refine ze41 ?_
  have k0 := hc.1
  have k1 := hc.2.1
  have k7 := hc.2.2.1
  have k8 := hc.2.2.2.1
  have k9 := hc.2.2.2.2.1
  have k10 := hc.2.2.2.2.2
  have hv2 : gCV V (zmu (zmu (zmu (zmu m c 0 0) c 1 (V 0 1)) c 2 0) c 3 (V 0 7)) := gCV_of hv (fun c' i a b => by rw [zmu_c (by omega), zmu_c (by omega), zmu_c (by omega), zmu_c (by omega)]) hV
  simp +contextual (disch := (first | omega | assumption | decide)) only [zw41_0, zr_3, zr_7, zr_10, zr_12, zr_13, zr_15, zr_68, zr_69, zr_72, zlg_0, zlg_s, zrc_1, zrc_s, zcat_n, zcat_i, zcat_l, zcat_r, zkd_105, zkd_21, zkd_3, zkd_43, zkd_44, zkd_45, zkd_46, zkd_51, zkd_52, zkd_53, zkd_54, zkd_55, zkd_56, zkd_57, zkd_58, zkd_59, zkd_60, zkd_67, zkd_86, zkd_a50, zkd_a50_6, zln_44, zln_46, zln_52, zln_54, zln_56, zln_58, zln_60, zln_a50_6, zrf_43_6, zrf_45_6, zrf_51_6, zrf_53_6, zrf_55_6, zrf_57_6, zrf_59_6, zrf_a50_6, Int.cast_ofNat_Int, Int.reduceAdd, zmu_same, zmu_c, zmu_i, false_and, and_false, true_and, and_true, true_or, or_true, false_or, or_false, Option.toList, List.nil_append, List.cons_append, zif0, zif1, zif01, zem1, zem2, Int.reduceEq, Int.reduceLT, Int.reduceLE, Int.reduceNeg, Int.reduceSub, Int.reduceMul, if_true, if_false, not_false_eq_true, not_true_eq_false, true_implies, false_implies, Classical.not_not, Nat.reduceAdd, Nat.reduceLeDiff, k7, k8, gA_0 hv, gA_1 hv, gA_2 hv, gA_3 hv, gA_4 hv, gA_5 hv, gA_6 hv, gA_7 hv, gA_8 hv, gA_9 hv, gA_r0 hv, gA_r1 hv, gA_r2 hv, gA_r3 hv, gA_f0 hv, gA_f1 hv, gA_f2 hv, gA_f3 hv, gA_f4 hv, zq35 hV hv2, zq4 k9 k10]
  refine ⟨⟨?_, fun r a b => ?_⟩, fun c' i hc' => ?_⟩
  · have e : ∀ (m1 : zMm) i, gfil m1 (c + 1) 8 0 c i = m1 c i := fun m1 i => by unfold gfil; rw [if_neg (by omega)]
    simp only [e, zmu, true_and]
    refine ⟨?_, ?_, ?_, ?_, ?_, ?_⟩ <;> simp only [Int.reduceEq, if_true, if_false, gBe]
  · have e : gBe V (6 + r) = 0 := by
      unfold gBe
      rw [if_neg (by omega), if_neg (by omega), if_neg (by omega)]
    rw [e]
    unfold gfil
    rw [if_pos ⟨rfl, a, b⟩]
  · unfold gfil
    rw [if_neg (by omega), zmu_c (by omega), zmu_c (by omega), zmu_c (by omega), zmu_c (by omega), zmu_c (by omega), zmu_c (by omega)]
theorem gz42 {d : Nat} {m : zMm} {c : Int} {e : Int} {S : Int → Int} (hc : gStc c) (he : gStc e) (hS : gSt S e m) (hce : c ≠ e ∧ c ≠ e + 1 ∧ e ≠ c + 1) (h2 : S 2 = 0 ∨ S 2 = 1) : zC (d + 2) 42 [.inr (.inr c), .inr (.inr e)] m (fun r' m' => r' = none ∧ gSt S c m' ∧ gEq c m m') := by
  refine ze42 ?_
  have k7 := hc.2.2.1
  have k8 := hc.2.2.2.1
  have k9 := hc.2.2.2.2.1
  have k10 := hc.2.2.2.2.2
  have j7 := he.2.2.1
  have j8 := he.2.2.2.1
  have j9 := he.2.2.2.2.1
  have j10 := he.2.2.2.2.2
  obtain ⟨t0, t1, t2, t3, t4, t5⟩ := hS.1
  have kk : zkd (e + 1) = zkd (c + 1) := by rw [j9, k9]
  have k1 : zkd (e + 1) = 1 ∨ zkd (e + 1) = 2 := Or.inl j9
  have kl : (0 : Int) ≤ 0 ∧ (0 : Int) ≤ 0 ∧ (0 : Int) ≤ 8 ∧ 0 + 8 ≤ zln (e + 1) ∧ 0 + 8 ≤ zln (c + 1) := by rw [j10, k10]; decide
  simp +contextual (disch := (first | omega | assumption | decide)) only [zw42_0, zr_3, zr_7, zr_10, zr_12, zr_13, zr_15, zr_69, zr_72, zlg_0, zlg_s, zcat_n, zcat_i, zcat_l, zcat_r, zkd_43, zkd_44, zkd_45, zkd_46, zkd_51, zkd_52, zkd_53, zkd_54, zkd_55, zkd_56, zkd_57, zkd_58, zkd_59, zkd_60, zkd_a50, zkd_a50_6, zln_44, zln_46, zln_52, zln_54, zln_56, zln_58, zln_60, zln_a50_6, zrf_43_6, zrf_45_6, zrf_51_6, zrf_53_6, zrf_55_6, zrf_57_6, zrf_59_6, zrf_a50_6, Int.cast_ofNat_Int, Int.reduceAdd, zmu_same, zmu_c, zmu_i, false_and, and_false, true_and, and_true, true_or, or_true, false_or, or_false, Option.toList, List.nil_append, List.cons_append, zif0, zif1, zif01, zem1, zem2, Int.reduceEq, Int.reduceLT, Int.reduceLE, Int.reduceNeg, Int.reduceSub, Int.reduceMul, if_true, if_false, not_false_eq_true, not_true_eq_false, true_implies, false_implies, Classical.not_not, Nat.reduceAdd, Nat.reduceLeDiff, k7, k8, j7, j8, t0, t1, t2, t3, t4, t5, z01 h2, zq1000 kk k1 kl]
  have e0 : ∀ (m1 : zMm) i, gcpy m1 (e + 1) 0 (c + 1) 0 8 c i = m1 c i := fun m1 i => by unfold gcpy; rw [if_neg (by omega)]
  refine ⟨⟨?_, fun r a b => ?_⟩, fun c' i hc' => ?_⟩
  · simp only [e0, zmu, true_and]
    refine ⟨?_, ?_, ?_, ?_, ?_, ?_⟩ <;> simp only [Int.reduceEq, if_true, if_false]
  · unfold gcpy
    rw [if_pos ⟨rfl, by omega, by omega⟩, zmu_c (by omega), zmu_c (by omega), zmu_c (by omega), zmu_c (by omega), zmu_c (by omega), zmu_c (by omega), show 0 + (r - 0) = r by omega]
    exact hS.2 r a b
  · unfold gcpy
    rw [if_neg (by omega), zmu_c (by omega), zmu_c (by omega), zmu_c (by omega), zmu_c (by omega), zmu_c (by omega), zmu_c (by omega)]
