/-! ===== what a gate brings ===== -/
theorem gWt_le {N : Int} {a b w w' : Int → Int} {o : Int → Prop} (h : ∀ r, 0 ≤ r → r < N → w' r ≤ w r) : ∀ {l : List Int} {p q : Int}, gWk N a b o l p q → gWt w' l ≤ gWt w l
  | [], _, _, _ => Int.le_refl _
  | r :: t, _, _, ⟨h1, _, _, h4⟩ => by
    have := gWt_le h h4
    have := h r h1.1 h1.2
    show w' r + gWt w' t ≤ w r + gWt w t
    omega
theorem gC_mono {V : zMm} (hV : gOk V) {s s' p q : Int} (hp : 0 ≤ p ∧ p < V 0 0) (h : ∀ r, 0 ≤ r → r < V 0 5 → vW V s' r ≤ vW V s r) : gC V s' (-1) p q ≤ gC V s (-1) p q ∧ (gC V s (-1) p q = 268435456 → gC V s' (-1) p q = 268435456) := by
  have h1 := gC_cl1 hV s
  have h2 := gC_cl1 hV s'
  have hr : ∀ r, 0 ≤ r → r < V 0 5 → True → (0 ≤ vA V r ∧ vA V r < V 0 0) ∧ 0 ≤ vB V r ∧ vB V r < V 0 0 := fun r a b _ => by have := hV.2.1 r a b; omega
  have b1 := h1.2.1 p q
  have b2 := h2.2.1 p q
  refine ⟨?_, fun e => ?_⟩
  · by_cases c : gC V s (-1) p q < 268435456
    · obtain ⟨l, l1, l2⟩ := h1.2.2.2.2.1 p q c
      have := gCl_min h2 hr l1
      have := gWt_le h l1
      omega
    · omega
  · by_cases c : gC V s' (-1) p q < 268435456
    · exfalso
      rcases gBest hV (s := s') (v := q) hp with ⟨b1, _⟩ | ⟨_, _, _, _, b5, b6⟩
      · omega
      · have m1 := gCl_min h1 hr b6
        have m2 : ∀ {l : List Int} {u : Int}, gWk (V 0 5) (vA V) (vB V) (fun _ => True) l u q → gWt (vW V s) l ≤ 101396 * l.length := by
          intro l
          induction l with
          | nil => intro u _; show (0 : Int) ≤ 101396 * ((0 : Nat) : Int); omega
          | cons r t ih =>
            rintro u ⟨g1, _, _, g4⟩
            have := ih g4
            have := vW_bd hV (s := s) g1.1 g1.2
            show vW V s r + gWt (vW V s) t ≤ 101396 * ((t.length + 1 : Nat) : Int)
            omega
        have := m2 b6
        omega
    · omega
theorem gFa_mono {V : zMm} (hV : gOk V) {s s' f : Int} (hf : 0 ≤ f ∧ f < V 0 6) (h : ∀ r, 0 ≤ r → r < V 0 5 → vW V s' r ≤ vW V s r) : gFa V s' f ≤ gFa V s f := by
  have b := hV.2.2 f hf.1 hf.2
  have m := gC_mono hV (q := vF V f 1) b.1 h
  have b1 := gC_bd hV (s := s) (x := -1) (p := vF V f 0) (q := vF V f 1)
  have b2 := gC_bd hV (s := s') (x := -1) (p := vF V f 0) (q := vF V f 1)
  unfold gFa
  by_cases c : 268435456 ≤ gC V s (-1) (vF V f 0) (vF V f 1)
  · rw [if_pos c, if_pos (by omega)]; exact Int.le_refl _
  · rw [if_neg c]
    by_cases c2 : 268435456 ≤ gC V s' (-1) (vF V f 0) (vF V f 1)
    · rw [if_pos c2]
      have := Int.mul_nonneg (show 0 ≤ gC V s (-1) (vF V f 0) (vF V f 1) / 1024 by omega) b.2.2.2.1.1
      omega
    · rw [if_neg c2]
      exact Int.mul_le_mul_of_nonneg_right (by omega) b.2.2.2.1.1
theorem gSm_mono {g g' : Int → Int} : ∀ N : Nat, (∀ r : Nat, r < N → g r ≤ g' r) → gSm g N ≤ gSm g' N
  | 0, _ => Int.le_refl _
  | k + 1, h => by
    have := gSm_mono k (fun r hr => h r (by omega))
    have := h k (by omega)
    show gSm g k + g k ≤ gSm g' k + g' k
    omega
theorem gTk_mono {V : zMm} (hV : gOk V) {s s' : Int} (h : ∀ r, 0 ≤ r → r < V 0 5 → zbit s' r = 1 → zbit s r = 1) : gTk V s' ≤ gTk V s := by
  refine gSm_mono _ (fun f hf => ?_)
  have := gFa_mono hV (s := s) (s' := s') (f := f) (by omega) (fun r a b => by
    have b1 := hV.2.1 r a b
    unfold vW
    by_cases c : zbit s' r = 1
    · rw [if_pos c, if_pos (h r a b c)]; exact Int.le_refl _
    · rw [if_neg c]
      split <;> omega)
  show max 0 (gFa V s' f) ≤ max 0 (gFa V s f)
  omega
/-- standing without g -/
def gWo (s g : Int) : Int := zand s (zxor (2 ^ g.toNat) (-1))
theorem gWo_bd {s g : Int} (hs : 0 ≤ s ∧ s < 256) (hg : 0 ≤ g ∧ g < 8) : 0 ≤ gWo s g ∧ gWo s g < 256 := by
  have := zandn_bd hs (p2_bd hg)
  unfold gWo
  omega
theorem gWo_bit {s g r : Int} (hs : 0 ≤ s ∧ s < 256) (hg : 0 ≤ g ∧ g < 8) (hr : 0 ≤ r ∧ r < 8) : zbit (gWo s g) r = if zbit s r = 1 ∧ r ≠ g then 1 else 0 := by
  unfold gWo
  rw [zbit_andn hs (p2_bd hg) hr, zbit_p2 hg hr]
  by_cases c : r = g
  · rw [if_pos c, if_neg (by omega), if_neg (by omega)]
  · rw [if_neg c]
    by_cases z : zbit s r = 1
    · rw [if_pos ⟨z, rfl⟩, if_pos ⟨z, c⟩]
    · rw [if_neg (fun q => z q.1), if_neg (fun q => z q.1)]
/-- what is lost by a gate -/
def gLo (V : zMm) (g : Int) : Int := gTk V (gSn V 4) - gTk V (gWo (gSn V 4) g)
theorem gLo_nn {V : zMm} (hV : gOk V) (hs : 0 ≤ gSn V 4 ∧ gSn V 4 < 256) {g : Int} (hg : 0 ≤ g ∧ g < 8) : 0 ≤ gLo V g ∧ gLo V g ≤ 540000 := by
  have hb := hV.1
  have := gTk_mono hV (s := gSn V 4) (s' := gWo (gSn V 4) g) (fun r a b z => by
    rw [gWo_bit hs hg ⟨a, by omega⟩] at z
    by_cases y : zbit (gSn V 4) r = 1 ∧ r ≠ g
    · exact y.1
    · rw [if_neg y] at z; omega)
  have b1 := gTk_bd hV (s := gSn V 4)
  have b2 := gTk_bd hV (s := gWo (gSn V 4) g)
  unfold gLo
  omega
theorem gz97 {d : Nat} {m : zMm} {g : Int} {V : zMm} (hI : gI V m) (hg : 0 ≤ g ∧ g < 8) : zC (d + 5) 97 [.inr (.inr 0), .inl g] m (fun r' m' => r' = some (.inl (gLo V g)) ∧ gA V m' ∧ gE m m') := by
  refine ze97 ?_
  have b4 := (gI_k hI).1.2.2.2.2.1
  have bw := gWo_bd b4 hg
  have ew : zand (gSn V 4) (zxor (2 ^ g.toNat) (-1)) = gWo (gSn V 4) g := rfl
  have b1 := gTk_bd hI.1.1 (s := gSn V 4)
  have b2 := gTk_bd hI.1.1 (s := gWo (gSn V 4) g)
  simp +contextual (disch := (first | omega | assumption | decide)) only [zw97_0, zr_1, zr_3, zr_4, zr_7, zr_10, zr_12, zr_27, zr_31, zr_33, zr_34, zr_68, zr_70, zlg_0, zlg_s, zls_0, zls_1, zls_s, zkl_i, zkl_r, zkl_l, zkl_n, zrc_1, zrc_s, zcat_n, zcat_i, zcat_l, zcat_r, zkd_0, zkd_20, zkd_43, zkd_45, zkd_51, zkd_53, zkd_55, zkd_57, zkd_59, zkd_a50, zrf_0_2, zrf_0_6, Int.cast_ofNat_Int, Int.reduceAdd, zw_id, false_and, and_false, true_and, and_true, true_or, or_true, false_or, or_false, Option.toList, List.nil_append, List.cons_append, zif0, zif1, zif01, zem1, zem2, Int.reduceEq, Int.reduceLT, Int.reduceLE, Int.reduceNeg, Int.reduceSub, Int.reduceMul, if_true, if_false, not_false_eq_true, not_true_eq_false, true_implies, false_implies, Classical.not_not, Nat.reduceAdd, Nat.reduceLeDiff, gA_0 hI.1.2.1, gA_1 hI.1.2.1, gA_2 hI.1.2.1, gA_3 hI.1.2.1, gA_4 hI.1.2.1, gA_5 hI.1.2.1, gA_6 hI.1.2.1, gA_7 hI.1.2.1, gA_8 hI.1.2.1, gA_9 hI.1.2.1, gA_r0 hI.1.2.1, gA_r1 hI.1.2.1, gA_r2 hI.1.2.1, gA_r3 hI.1.2.1, gA_f0 hI.1.2.1, gA_f1 hI.1.2.1, gA_f2 hI.1.2.1, gA_f3 hI.1.2.1, gA_f4 hI.1.2.1, gA_d hI.1, gI_s0 hI, gI_s1 hI, gI_s2 hI, gI_s3 hI, gI_s4 hI, gI_s5 hI, gI_n hI, zshl_1, ew]
  refine gK (gz19 hI.1 b4) rfl rfl (Nat.le_of_ble_eq_true rfl) ?_
  rintro _ m1 ⟨rfl, hA1, hE1⟩
  simp +contextual (disch := (first | omega | assumption | decide)) only [zw97_0, zr_1, zr_3, zr_4, zr_7, zr_10, zr_12, zr_27, zr_31, zr_33, zr_34, zr_68, zr_70, zlg_0, zlg_s, zls_0, zls_1, zls_s, zkl_i, zkl_r, zkl_l, zkl_n, zrc_1, zrc_s, zcat_n, zcat_i, zcat_l, zcat_r, zkd_0, zkd_20, zkd_43, zkd_45, zkd_51, zkd_53, zkd_55, zkd_57, zkd_59, zkd_a50, zrf_0_2, zrf_0_6, Int.cast_ofNat_Int, Int.reduceAdd, zw_id, false_and, and_false, true_and, and_true, true_or, or_true, false_or, or_false, Option.toList, List.nil_append, List.cons_append, zif0, zif1, zif01, zem1, zem2, Int.reduceEq, Int.reduceLT, Int.reduceLE, Int.reduceNeg, Int.reduceSub, Int.reduceMul, if_true, if_false, not_false_eq_true, not_true_eq_false, true_implies, false_implies, Classical.not_not, Nat.reduceAdd, Nat.reduceLeDiff]
  refine gK (gz19 hA1 bw) rfl rfl (Nat.le_of_ble_eq_true rfl) ?_
  rintro _ m2 ⟨rfl, hA2, hE2⟩
  simp +contextual (disch := (first | omega | assumption | decide)) only [zw97_0, zr_1, zr_3, zr_4, zr_7, zr_10, zr_12, zr_27, zr_31, zr_33, zr_34, zr_68, zr_70, zlg_0, zlg_s, zls_0, zls_1, zls_s, zkl_i, zkl_r, zkl_l, zkl_n, zrc_1, zrc_s, zcat_n, zcat_i, zcat_l, zcat_r, zkd_0, zkd_20, zkd_43, zkd_45, zkd_51, zkd_53, zkd_55, zkd_57, zkd_59, zkd_a50, zrf_0_2, zrf_0_6, Int.cast_ofNat_Int, Int.reduceAdd, zw_id, false_and, and_false, true_and, and_true, true_or, or_true, false_or, or_false, Option.toList, List.nil_append, List.cons_append, zif0, zif1, zif01, zem1, zem2, Int.reduceEq, Int.reduceLT, Int.reduceLE, Int.reduceNeg, Int.reduceSub, Int.reduceMul, if_true, if_false, not_false_eq_true, not_true_eq_false, true_implies, false_implies, Classical.not_not, Nat.reduceAdd, Nat.reduceLeDiff]
  exact ⟨rfl, hA2, gE_tr hE1 hE2⟩
theorem gz234 {d : Nat} {m : zMm} {g : Int} {V : zMm} (hV : gOk V) (hM : gMo V m) (hL : gL V (gSn V) m) (hs : 0 ≤ gSn V 4 ∧ gSn V 4 < 256) (hg : 0 ≤ g ∧ g < 8) : zC (d + 12) 234 [.inr (.inr 131), .inl g] m (fun r' m' => r' = some (.inl (gLo V g)) ∧ gEw m m') := by
  refine ze234 ?_
  have bw := gWo_bd hs hg
  have ew : zand (gSn V 4) (zxor (2 ^ g.toNat) (-1)) = gWo (gSn V 4) g := rfl
  have b1 := gTk_bd hV (s := gSn V 4)
  have b2 := gTk_bd hV (s := gWo (gSn V 4) g)
  simp +contextual (disch := (first | omega | assumption | decide)) only [zw234_0, zr_1, zr_3, zr_7, zr_10, zr_27, zr_31, zr_33, zr_34, zr_68, zr_70, zlg_0, zlg_s, zrc_1, zrc_s, zcat_n, zcat_i, zcat_l, zcat_r, zkd_131, Int.cast_ofNat_Int, Int.reduceAdd, zw_id, false_and, and_false, true_and, and_true, true_or, or_true, false_or, or_false, Option.toList, List.nil_append, List.cons_append, zif0, zif1, zif01, zem1, zem2, Int.reduceEq, Int.reduceLT, Int.reduceLE, Int.reduceNeg, Int.reduceSub, Int.reduceMul, if_true, if_false, not_false_eq_true, not_true_eq_false, true_implies, false_implies, Classical.not_not, Nat.reduceAdd, Nat.reduceLeDiff, gL_4 hL]
  refine gK (gz214 hV hM hs) rfl rfl (Nat.le_of_ble_eq_true rfl) ?_
  rintro _ m1 ⟨rfl, hW1⟩
  have hL1 := gL_w hL hW1
  simp +contextual (disch := (first | omega | assumption | decide)) only [zw234_0, zr_1, zr_3, zr_7, zr_10, zr_27, zr_31, zr_33, zr_34, zr_68, zr_70, zlg_0, zlg_s, zrc_1, zrc_s, zcat_n, zcat_i, zcat_l, zcat_r, zkd_131, Int.cast_ofNat_Int, Int.reduceAdd, zw_id, false_and, and_false, true_and, and_true, true_or, or_true, false_or, or_false, Option.toList, List.nil_append, List.cons_append, zif0, zif1, zif01, zem1, zem2, Int.reduceEq, Int.reduceLT, Int.reduceLE, Int.reduceNeg, Int.reduceSub, Int.reduceMul, if_true, if_false, not_false_eq_true, not_true_eq_false, true_implies, false_implies, Classical.not_not, Nat.reduceAdd, Nat.reduceLeDiff, gL_4 hL1, zshl_1, ew]
  refine gK (gz214 hV (gEw_mo hW1 hM) bw) rfl rfl (Nat.le_of_ble_eq_true rfl) ?_
  rintro _ m2 ⟨rfl, hW2⟩
  simp +contextual (disch := (first | omega | assumption | decide)) only [zw234_0, zr_1, zr_3, zr_7, zr_10, zr_27, zr_31, zr_33, zr_34, zr_68, zr_70, zlg_0, zlg_s, zrc_1, zrc_s, zcat_n, zcat_i, zcat_l, zcat_r, zkd_131, Int.cast_ofNat_Int, Int.reduceAdd, zw_id, false_and, and_false, true_and, and_true, true_or, or_true, false_or, or_false, Option.toList, List.nil_append, List.cons_append, zif0, zif1, zif01, zem1, zem2, Int.reduceEq, Int.reduceLT, Int.reduceLE, Int.reduceNeg, Int.reduceSub, Int.reduceMul, if_true, if_false, not_false_eq_true, not_true_eq_false, true_implies, false_implies, Classical.not_not, Nat.reduceAdd, Nat.reduceLeDiff]
  exact ⟨rfl, gEw_tr hW1 hW2⟩
theorem gz235t {d : Nat} {m V : zMm} {g : Int} (hQ : gQ V m) (hc : 0 ≤ g ∧ g < 8 ∧ zbit (gSn V 4) g = 1) : zC (d + 14) 235 [.inr (.inr 131), .inl g] m (fun r' m' => r' = some (.inl 1) ∧ gL V (gSn V) m' ∧ gY m m') := by
  have hb := hQ.1.1
  have hk := gSk hQ
  have gr := hk.2.2.2.2.2.2.1 g hc.1 hc.2.1 hc.2.2
  have b4 := hk.2.2.2.2.1
  have h5 : 0 ≤ m 138 5 ∧ m 138 5 ≤ 8 := by rw [gM_5 hQ.2.2.1]; omega
  have cc : (0 ≤ g ∧ g ≤ V 0 5 - 1) ∧ 0 < vT V g := ⟨by omega, gr.2⟩
  refine ze235 ?_
  simp +contextual (disch := (first | omega | assumption | decide)) only [↓zbrT, ↓zbrF, zw235_0, zw235_1, zw235_2, zr_1, zr_3, zr_7, zr_10, zr_46, zr_62, zr_68, zr_69, zr_76, zlg_0, zlg_s, zrc_1, zrc_s, zcat_n, zcat_i, zcat_l, zcat_r, zkd_131, Int.cast_ofNat_Int, Int.reduceAdd, false_and, and_false, true_and, and_true, true_or, or_true, false_or, or_false, Option.toList, List.nil_append, List.cons_append, zif0, zif1, zif01, zem1, zem2, Int.reduceEq, Int.reduceLT, Int.reduceLE, Int.reduceNeg, Int.reduceSub, Int.reduceMul, if_true, if_false, not_false_eq_true, not_true_eq_false, true_implies, false_implies, Classical.not_not, Nat.reduceAdd, Nat.reduceLeDiff, zq204 h5, gM_0 hQ.2.2.1, gM_1 hQ.2.2.1, gM_2 hQ.2.2.1, gM_3 hQ.2.2.1, gM_4 hQ.2.2.1, gM_5 hQ.2.2.1, gM_6 hQ.2.2.1, gM_7 hQ.2.2.1, gM_8 hQ.2.2.1, gM_9 hQ.2.2.1, gM_10 hQ.2.2.1, gM_r0 hQ.2.2.1, gM_r1 hQ.2.2.1, gM_r2 hQ.2.2.1, gM_r3 hQ.2.2.1, gM_f0 hQ.2.2.1, gM_f1 hQ.2.2.1, gM_f2 hQ.2.2.1, gM_f3 hQ.2.2.1, gM_f4 hQ.2.2.1, if_pos cc]
  refine gK (gzL hQ) rfl rfl (Nat.le_of_ble_eq_true rfl) ?_
  rintro _ m1 ⟨rfl, hL, hY⟩
  simp +contextual (disch := (first | omega | assumption | decide)) only [↓zbrT, ↓zbrF, zw235_0, zw235_1, zw235_2, zr_1, zr_3, zr_7, zr_10, zr_46, zr_62, zr_68, zr_69, zr_76, zlg_0, zlg_s, zrc_1, zrc_s, zcat_n, zcat_i, zcat_l, zcat_r, zkd_131, Int.cast_ofNat_Int, Int.reduceAdd, false_and, and_false, true_and, and_true, true_or, or_true, false_or, or_false, Option.toList, List.nil_append, List.cons_append, zif0, zif1, zif01, zem1, zem2, Int.reduceEq, Int.reduceLT, Int.reduceLE, Int.reduceNeg, Int.reduceSub, Int.reduceMul, if_true, if_false, not_false_eq_true, not_true_eq_false, true_implies, false_implies, Classical.not_not, Nat.reduceAdd, Nat.reduceLeDiff, gL_4 hL, zq207, hc.2.2]
  exact ⟨hL, hY⟩
theorem gz235f {d : Nat} {m V : zMm} {g : Int} (hQ : gQ V m) (hc : ¬ (0 ≤ g ∧ g < 8 ∧ zbit (gSn V 4) g = 1)) : zC (d + 14) 235 [.inr (.inr 131), .inl g] m (fun r' m' => r' = some (.inl 0) ∧ gY m m') := by
  have hb := hQ.1.1
  have hk := gSk hQ
  have b4 := hk.2.2.2.2.1
  have h5 : 0 ≤ m 138 5 ∧ m 138 5 ≤ 8 := by rw [gM_5 hQ.2.2.1]; omega
  refine ze235 ?_
  by_cases c0 : 0 ≤ g ∧ g ≤ V 0 5 - 1
  · have e3 := gM_r3 hQ.2.2.1 c0.1 (by omega)
    by_cases c1 : 0 < vT V g
    · have cc : (0 ≤ g ∧ g ≤ V 0 5 - 1) ∧ 0 < vT V g := ⟨c0, c1⟩
      have z0 : zbit (gSn V 4) g = 0 := by
        rcases zbit_01 (gSn V 4) g with z | z
        · exact z
        · exact absurd ⟨c0.1, by omega, z⟩ hc
      simp +contextual (disch := (first | omega | assumption | decide)) only [↓zbrT, ↓zbrF, zw235_0, zw235_1, zw235_2, zr_1, zr_3, zr_7, zr_10, zr_46, zr_62, zr_68, zr_69, zr_76, zlg_0, zlg_s, zrc_1, zrc_s, zcat_n, zcat_i, zcat_l, zcat_r, zkd_131, Int.cast_ofNat_Int, Int.reduceAdd, false_and, and_false, true_and, and_true, true_or, or_true, false_or, or_false, Option.toList, List.nil_append, List.cons_append, zif0, zif1, zif01, zem1, zem2, Int.reduceEq, Int.reduceLT, Int.reduceLE, Int.reduceNeg, Int.reduceSub, Int.reduceMul, if_true, if_false, not_false_eq_true, not_true_eq_false, true_implies, false_implies, Classical.not_not, Nat.reduceAdd, Nat.reduceLeDiff, zq204 h5, gM_0 hQ.2.2.1, gM_1 hQ.2.2.1, gM_2 hQ.2.2.1, gM_3 hQ.2.2.1, gM_4 hQ.2.2.1, gM_5 hQ.2.2.1, gM_6 hQ.2.2.1, gM_7 hQ.2.2.1, gM_8 hQ.2.2.1, gM_9 hQ.2.2.1, gM_10 hQ.2.2.1, gM_r0 hQ.2.2.1, gM_r1 hQ.2.2.1, gM_r2 hQ.2.2.1, gM_r3 hQ.2.2.1, gM_f0 hQ.2.2.1, gM_f1 hQ.2.2.1, gM_f2 hQ.2.2.1, gM_f3 hQ.2.2.1, gM_f4 hQ.2.2.1, if_pos cc]
      refine gK (gzL hQ) rfl rfl (Nat.le_of_ble_eq_true rfl) ?_
      rintro _ m1 ⟨rfl, hL, hY⟩
      simp +contextual (disch := (first | omega | assumption | decide)) only [↓zbrT, ↓zbrF, zw235_0, zw235_1, zw235_2, zr_1, zr_3, zr_7, zr_10, zr_46, zr_62, zr_68, zr_69, zr_76, zlg_0, zlg_s, zrc_1, zrc_s, zcat_n, zcat_i, zcat_l, zcat_r, zkd_131, Int.cast_ofNat_Int, Int.reduceAdd, false_and, and_false, true_and, and_true, true_or, or_true, false_or, or_false, Option.toList, List.nil_append, List.cons_append, zif0, zif1, zif01, zem1, zem2, Int.reduceEq, Int.reduceLT, Int.reduceLE, Int.reduceNeg, Int.reduceSub, Int.reduceMul, if_true, if_false, not_false_eq_true, not_true_eq_false, true_implies, false_implies, Classical.not_not, Nat.reduceAdd, Nat.reduceLeDiff, gL_4 hL, zq207, z0]
      exact hY
    · have cc : ¬ ((0 ≤ g ∧ g ≤ V 0 5 - 1) ∧ 0 < vT V g) := fun z => c1 z.2
      simp +contextual (disch := (first | omega | assumption | decide)) only [↓zbrT, ↓zbrF, zw235_0, zw235_1, zw235_2, zr_1, zr_3, zr_7, zr_10, zr_46, zr_62, zr_68, zr_69, zr_76, zlg_0, zlg_s, zrc_1, zrc_s, zcat_n, zcat_i, zcat_l, zcat_r, zkd_131, Int.cast_ofNat_Int, Int.reduceAdd, false_and, and_false, true_and, and_true, true_or, or_true, false_or, or_false, Option.toList, List.nil_append, List.cons_append, zif0, zif1, zif01, zem1, zem2, Int.reduceEq, Int.reduceLT, Int.reduceLE, Int.reduceNeg, Int.reduceSub, Int.reduceMul, if_true, if_false, not_false_eq_true, not_true_eq_false, true_implies, false_implies, Classical.not_not, Nat.reduceAdd, Nat.reduceLeDiff, zq204 h5, gM_0 hQ.2.2.1, gM_1 hQ.2.2.1, gM_2 hQ.2.2.1, gM_3 hQ.2.2.1, gM_4 hQ.2.2.1, gM_5 hQ.2.2.1, gM_6 hQ.2.2.1, gM_7 hQ.2.2.1, gM_8 hQ.2.2.1, gM_9 hQ.2.2.1, gM_10 hQ.2.2.1, gM_r0 hQ.2.2.1, gM_r1 hQ.2.2.1, gM_r2 hQ.2.2.1, gM_r3 hQ.2.2.1, gM_f0 hQ.2.2.1, gM_f1 hQ.2.2.1, gM_f2 hQ.2.2.1, gM_f3 hQ.2.2.1, gM_f4 hQ.2.2.1, if_neg cc]
      exact gY_refl
  · have cc : ¬ ((0 ≤ g ∧ g ≤ V 0 5 - 1) ∧ 0 < m 139 (4 * g + 3)) := fun z => c0 z.1
    have e5 := gM_5 hQ.2.2.1
    simp +contextual (disch := (first | omega | assumption | decide)) only [↓zbrT, ↓zbrF, zw235_0, zw235_1, zw235_2, zr_1, zr_3, zr_7, zr_10, zr_46, zr_62, zr_68, zr_69, zr_76, zlg_0, zlg_s, zrc_1, zrc_s, zcat_n, zcat_i, zcat_l, zcat_r, zkd_131, Int.cast_ofNat_Int, Int.reduceAdd, false_and, and_false, true_and, and_true, true_or, or_true, false_or, or_false, Option.toList, List.nil_append, List.cons_append, zif0, zif1, zif01, zem1, zem2, Int.reduceEq, Int.reduceLT, Int.reduceLE, Int.reduceNeg, Int.reduceSub, Int.reduceMul, if_true, if_false, not_false_eq_true, not_true_eq_false, true_implies, false_implies, Classical.not_not, Nat.reduceAdd, Nat.reduceLeDiff, zq204 h5, e5, if_neg cc]
    exact gY_refl
def sp96 (V : zMm) (g : Int) : Int := if 0 ≤ g ∧ g < 8 ∧ zbit (gSn V 4) g = 1 then gLo V g else -2
theorem gz96 {d : Nat} {m : zMm} {g : Int} {V : zMm} (hI : gI V m) (hg : -2147483648 ≤ g ∧ g < 2147483648) : zC (d + 6) 96 [.inr (.inr 0), .inl g] m (fun r' m' => r' = some (.inl (sp96 V g)) ∧ gI V m' ∧ gX m m') := by
  refine ze96 ?_
  unfold sp96
  by_cases c : 0 ≤ g ∧ g < 8 ∧ zbit (gSn V 4) g = 1
  · rw [if_pos c]
    simp +contextual (disch := (first | omega | assumption | decide)) only [↓zbrT, ↓zbrF, zw96_0, zw96_1, zw96_2, zw96_3, zr_1, zr_3, zr_7, zr_54, zr_61, zr_68, zr_70, zr_73, zlg_0, zlg_s, zrc_1, zrc_s, zcat_n, zcat_i, zcat_l, zcat_r, zkd_0, Int.cast_ofNat_Int, Int.reduceAdd, false_and, and_false, true_and, and_true, true_or, or_true, false_or, or_false, Option.toList, List.nil_append, List.cons_append, zif0, zif1, zif01, zem1, zem2, Int.reduceEq, Int.reduceLT, Int.reduceLE, Int.reduceNeg, Int.reduceSub, Int.reduceMul, if_true, if_false, not_false_eq_true, not_true_eq_false, true_implies, false_implies, Classical.not_not, Nat.reduceAdd, Nat.reduceLeDiff, zq78 hI hg, if_pos c]
    refine gK (gz97 hI ⟨c.1, c.2.1⟩) rfl rfl (Nat.le_of_ble_eq_true rfl) ?_
    rintro _ m1 ⟨rfl, hA1, hE1⟩
    (try simp +contextual (disch := (first | omega | assumption | decide)) only [↓zbrT, ↓zbrF, zw96_0, zw96_1, zw96_2, zw96_3, zr_1, zr_3, zr_7, zr_54, zr_61, zr_68, zr_70, zr_73, zlg_0, zlg_s, zrc_1, zrc_s, zcat_n, zcat_i, zcat_l, zcat_r, zkd_0, Int.cast_ofNat_Int, Int.reduceAdd, false_and, and_false, true_and, and_true, true_or, or_true, false_or, or_false, Option.toList, List.nil_append, List.cons_append, zif0, zif1, zif01, zem1, zem2, Int.reduceEq, Int.reduceLT, Int.reduceLE, Int.reduceNeg, Int.reduceSub, Int.reduceMul, if_true, if_false, not_false_eq_true, not_true_eq_false, true_implies, false_implies, Classical.not_not, Nat.reduceAdd, Nat.reduceLeDiff])
    (first | exact gI_e hI hA1 hE1 | exact ⟨rfl, gI_e hI hA1 hE1⟩)
  · rw [if_neg c]
    simp +contextual (disch := (first | omega | assumption | decide)) only [↓zbrT, ↓zbrF, zw96_0, zw96_1, zw96_2, zw96_3, zr_1, zr_3, zr_7, zr_54, zr_61, zr_68, zr_70, zr_73, zlg_0, zlg_s, zrc_1, zrc_s, zcat_n, zcat_i, zcat_l, zcat_r, zkd_0, Int.cast_ofNat_Int, Int.reduceAdd, false_and, and_false, true_and, and_true, true_or, or_true, false_or, or_false, Option.toList, List.nil_append, List.cons_append, zif0, zif1, zif01, zem1, zem2, Int.reduceEq, Int.reduceLT, Int.reduceLE, Int.reduceNeg, Int.reduceSub, Int.reduceMul, if_true, if_false, not_false_eq_true, not_true_eq_false, true_implies, false_implies, Classical.not_not, Nat.reduceAdd, Nat.reduceLeDiff, zq78 hI hg, if_neg c]
    (first | exact ⟨hI, gX_refl⟩ | exact ⟨rfl, hI, gX_refl⟩)
theorem gz236 {d : Nat} {m : zMm} {g : Int} {V : zMm} (hQ : gQ V m) : zC (d + 15) 236 [.inr (.inr 131), .inl g] m (fun r' m' => r' = some (.inl (sp96 V g)) ∧ gY m m') := by
  refine ze236 ?_
  have hb := hQ.1.1
  have hY0 : gY m (zmu m 131 0 0) := gY_u (by decide)
  have hQ0 := gQ_y hQ hY0
  have h5 : 0 ≤ zmu m 131 0 0 138 5 ∧ zmu m 131 0 0 138 5 ≤ 8 := by rw [gM_5 hQ0.2.2.1]; omega
  have h6 : 0 ≤ zmu m 131 0 0 138 6 ∧ zmu m 131 0 0 138 6 ≤ 6 := by rw [gM_6 hQ0.2.2.1]; omega
  have h0 : 0 ≤ zmu m 131 0 0 138 0 ∧ zmu m 131 0 0 138 0 ≤ 6 := by rw [gM_0 hQ0.2.2.1]; omega
  have b4 := (gSk hQ).2.2.2.2.1
  unfold sp96
  simp +contextual (disch := (first | omega | assumption | decide)) only [↓zbrT, ↓zbrF, zw236_0, zw236_1, zw236_2, zw236_3, zr_1, zr_3, zr_7, zr_13, zr_54, zr_61, zr_68, zr_70, zr_73, zlg_0, zlg_s, zrc_1, zrc_s, zcat_n, zcat_i, zcat_l, zcat_r, zkd_131, Int.cast_ofNat_Int, Int.reduceAdd, zmu_same, zmu_c, zmu_i, false_and, and_false, true_and, and_true, true_or, or_true, false_or, or_false, Option.toList, List.nil_append, List.cons_append, zif0, zif1, zif01, zem1, zem2, Int.reduceEq, Int.reduceLT, Int.reduceLE, Int.reduceNeg, Int.reduceSub, Int.reduceMul, if_true, if_false, not_false_eq_true, not_true_eq_false, true_implies, false_implies, Classical.not_not, Nat.reduceAdd, Nat.reduceLeDiff]
  by_cases c : 0 ≤ g ∧ g < 8 ∧ zbit (gSn V 4) g = 1
  · rw [if_pos c]
    refine gK (gz235t hQ0 c) rfl rfl (Nat.le_of_ble_eq_true rfl) ?_
    rintro _ m1 ⟨rfl, hL, hY⟩
    have hQ1 := gQ_y hQ0 hY
    simp +contextual (disch := (first | omega | assumption | decide)) only [↓zbrT, ↓zbrF, zw236_0, zw236_1, zw236_2, zw236_3, zr_1, zr_3, zr_7, zr_13, zr_54, zr_61, zr_68, zr_70, zr_73, zlg_0, zlg_s, zrc_1, zrc_s, zcat_n, zcat_i, zcat_l, zcat_r, zkd_131, Int.cast_ofNat_Int, Int.reduceAdd, zmu_same, zmu_c, zmu_i, false_and, and_false, true_and, and_true, true_or, or_true, false_or, or_false, Option.toList, List.nil_append, List.cons_append, zif0, zif1, zif01, zem1, zem2, Int.reduceEq, Int.reduceLT, Int.reduceLE, Int.reduceNeg, Int.reduceSub, Int.reduceMul, if_true, if_false, not_false_eq_true, not_true_eq_false, true_implies, false_implies, Classical.not_not, Nat.reduceAdd, Nat.reduceLeDiff]
    refine gK (gz234 hQ.1 hQ1.2.2.1 hL b4 ⟨c.1, c.2.1⟩) rfl rfl (Nat.le_of_ble_eq_true rfl) ?_
    rintro _ m2 ⟨rfl, hW⟩
    (try simp +contextual (disch := (first | omega | assumption | decide)) only [↓zbrT, ↓zbrF, zw236_0, zw236_1, zw236_2, zw236_3, zr_1, zr_3, zr_7, zr_13, zr_54, zr_61, zr_68, zr_70, zr_73, zlg_0, zlg_s, zrc_1, zrc_s, zcat_n, zcat_i, zcat_l, zcat_r, zkd_131, Int.cast_ofNat_Int, Int.reduceAdd, zmu_same, zmu_c, zmu_i, false_and, and_false, true_and, and_true, true_or, or_true, false_or, or_false, Option.toList, List.nil_append, List.cons_append, zif0, zif1, zif01, zem1, zem2, Int.reduceEq, Int.reduceLT, Int.reduceLE, Int.reduceNeg, Int.reduceSub, Int.reduceMul, if_true, if_false, not_false_eq_true, not_true_eq_false, true_implies, false_implies, Classical.not_not, Nat.reduceAdd, Nat.reduceLeDiff])
    have fin := gY_tr (gY_tr hY0 hY) (gY_w hW)
    (first | exact fin | exact ⟨rfl, fin⟩)
  · rw [if_neg c]
    refine gK (gz235f hQ0 c) rfl rfl (Nat.le_of_ble_eq_true rfl) ?_
    rintro _ m1 ⟨rfl, hY⟩
    (try simp +contextual (disch := (first | omega | assumption | decide)) only [↓zbrT, ↓zbrF, zw236_0, zw236_1, zw236_2, zw236_3, zr_1, zr_3, zr_7, zr_13, zr_54, zr_61, zr_68, zr_70, zr_73, zlg_0, zlg_s, zrc_1, zrc_s, zcat_n, zcat_i, zcat_l, zcat_r, zkd_131, Int.cast_ofNat_Int, Int.reduceAdd, zmu_same, zmu_c, zmu_i, false_and, and_false, true_and, and_true, true_or, or_true, false_or, or_false, Option.toList, List.nil_append, List.cons_append, zif0, zif1, zif01, zem1, zem2, Int.reduceEq, Int.reduceLT, Int.reduceLE, Int.reduceNeg, Int.reduceSub, Int.reduceMul, if_true, if_false, not_false_eq_true, not_true_eq_false, true_implies, false_implies, Classical.not_not, Nat.reduceAdd, Nat.reduceLeDiff])
    have fin := gY_tr hY0 hY
    (first | exact fin | exact ⟨rfl, fin⟩)
/-- the first of those with most loss -/
def gFi (V : zMm) : Nat → Int
  | 0 => -1
  | k + 1 => if zbit (gSn V 4) k = 1 ∧ (gFi V k = -1 ∨ gLo V (gFi V k) < gLo V k) then k else gFi V k
theorem gFi_bd {V : zMm} : ∀ k : Nat, -1 ≤ gFi V k ∧ gFi V k < k
  | 0 => by show (-1 : Int) ≤ -1 ∧ (-1 : Int) < ((0 : Nat) : Int); omega
  | k + 1 => by
    have := gFi_bd (V := V) k
    unfold gFi
    split <;> omega
theorem gFi_s {V : zMm} {j : Int} (h : 0 ≤ j) : gFi V (j + 1).toNat = if zbit (gSn V 4) j = 1 ∧ (gFi V j.toNat = -1 ∨ gLo V (gFi V j.toNat) < gLo V j) then j else gFi V j.toNat := by
  rw [show (j + 1).toNat = j.toNat + 1 by omega]
  show (if zbit (gSn V 4) (j.toNat : Nat) = 1 ∧ (gFi V j.toNat = -1 ∨ gLo V (gFi V j.toNat) < gLo V (j.toNat : Nat)) then ((j.toNat : Nat) : Int) else gFi V j.toNat) = _
  rw [show ((j.toNat : Nat) : Int) = j by omega]
def sp98 (V : zMm) : Int := if V 0 10 = 0 then -2 else gFi V (V 0 5).toNat
theorem gz98 {d : Nat} {m : zMm} {V : zMm} (hI : gI V m) : zC (d + 6) 98 [.inr (.inr 0)] m (fun r' m' => r' = some (.inl (sp98 V)) ∧ gI V m' ∧ gX m m') := by
  refine ze98 ?_
  have hb := gA_b hI.1
  have b4 := (gI_k hI).1.2.2.2.2.1
  unfold sp98
  by_cases c1 : V 0 10 = 0
  · rw [if_pos c1]
    simp +contextual (disch := (first | omega | assumption | decide)) only [↓zbrT, ↓zbrF, zw98_0, zw98_1, zw98_2, zw98_4, zw98_5, zw98_6, zw98_7, zw98_8, zr_1, zr_3, zr_4, zr_7, zr_10, zr_12, zr_53, zr_54, zr_58, zr_60, zr_61, zr_68, zr_70, zr_73, zlg_0, zlg_s, zls_0, zls_1, zls_s, zkl_i, zkl_r, zkl_l, zkl_n, zrc_1, zrc_s, zcat_n, zcat_i, zcat_l, zcat_r, zkd_0, zkd_105, zkd_21, zkd_3, zkd_43, zkd_45, zkd_51, zkd_53, zkd_55, zkd_57, zkd_59, zkd_67, zkd_86, zkd_a50, zrf_0_3, zrf_0_6, Int.cast_ofNat_Int, Int.reduceAdd, zw_id, false_and, and_false, true_and, and_true, true_or, or_true, false_or, or_false, Option.toList, List.nil_append, List.cons_append, zif0, zif1, zif01, zem1, zem2, Int.reduceEq, Int.reduceLT, Int.reduceLE, Int.reduceNeg, Int.reduceSub, Int.reduceMul, if_true, if_false, not_false_eq_true, not_true_eq_false, true_implies, false_implies, Classical.not_not, Nat.reduceAdd, Nat.reduceLeDiff, zq74, gA_0 hI.1.2.1, gA_1 hI.1.2.1, gA_2 hI.1.2.1, gA_3 hI.1.2.1, gA_4 hI.1.2.1, gA_5 hI.1.2.1, gA_6 hI.1.2.1, gA_7 hI.1.2.1, gA_8 hI.1.2.1, gA_9 hI.1.2.1, gA_r0 hI.1.2.1, gA_r1 hI.1.2.1, gA_r2 hI.1.2.1, gA_r3 hI.1.2.1, gA_f0 hI.1.2.1, gA_f1 hI.1.2.1, gA_f2 hI.1.2.1, gA_f3 hI.1.2.1, gA_f4 hI.1.2.1, gA_d hI.1, gI_s0 hI, gI_s1 hI, gI_s2 hI, gI_s3 hI, gI_s4 hI, gI_s5 hI, gI_n hI, if_pos c1]
    (first | exact ⟨hI, gX_refl⟩ | exact ⟨rfl, hI, gX_refl⟩)
  · rw [if_neg c1]
    simp +contextual (disch := (first | omega | assumption | decide)) only [↓zbrT, ↓zbrF, zw98_0, zw98_1, zw98_2, zw98_4, zw98_5, zw98_6, zw98_7, zw98_8, zr_1, zr_3, zr_4, zr_7, zr_10, zr_12, zr_53, zr_54, zr_58, zr_60, zr_61, zr_68, zr_70, zr_73, zlg_0, zlg_s, zls_0, zls_1, zls_s, zkl_i, zkl_r, zkl_l, zkl_n, zrc_1, zrc_s, zcat_n, zcat_i, zcat_l, zcat_r, zkd_0, zkd_105, zkd_21, zkd_3, zkd_43, zkd_45, zkd_51, zkd_53, zkd_55, zkd_57, zkd_59, zkd_67, zkd_86, zkd_a50, zrf_0_3, zrf_0_6, Int.cast_ofNat_Int, Int.reduceAdd, zw_id, false_and, and_false, true_and, and_true, true_or, or_true, false_or, or_false, Option.toList, List.nil_append, List.cons_append, zif0, zif1, zif01, zem1, zem2, Int.reduceEq, Int.reduceLT, Int.reduceLE, Int.reduceNeg, Int.reduceSub, Int.reduceMul, if_true, if_false, not_false_eq_true, not_true_eq_false, true_implies, false_implies, Classical.not_not, Nat.reduceAdd, Nat.reduceLeDiff, zq74, gA_0 hI.1.2.1, gA_1 hI.1.2.1, gA_2 hI.1.2.1, gA_3 hI.1.2.1, gA_4 hI.1.2.1, gA_5 hI.1.2.1, gA_6 hI.1.2.1, gA_7 hI.1.2.1, gA_8 hI.1.2.1, gA_9 hI.1.2.1, gA_r0 hI.1.2.1, gA_r1 hI.1.2.1, gA_r2 hI.1.2.1, gA_r3 hI.1.2.1, gA_f0 hI.1.2.1, gA_f1 hI.1.2.1, gA_f2 hI.1.2.1, gA_f3 hI.1.2.1, gA_f4 hI.1.2.1, gA_d hI.1, gI_s0 hI, gI_s1 hI, gI_s2 hI, gI_s3 hI, gI_s4 hI, gI_s5 hI, gI_n hI, if_neg c1]
    refine zfor (V 0 5) (fun j lc m' => 0 ≤ j ∧ lc = [some (.inr (.inr 0)), some (.inl (gFi V j.toNat)), some (.inl (if gFi V j.toNat = -1 then -1 else gLo V (gFi V j.toNat))), some (.inl j)] ∧ gI V m' ∧ gX m m') ?_ ?_ (i := 0) (by omega) ?_
    · rintro j lc m' hj ⟨h0, rfl, hI1, hX⟩ kk
      have b43 : 0 ≤ m' 43 4 ∧ m' 43 4 < 256 := by rw [gI_s4 hI1]; exact b4
      have bl := gLo_nn hI.1.1 b4 (g := j) (by omega)
      have bf := gFi_bd (V := V) j.toNat
      rw [zw98_3]
      by_cases z : zbit (gSn V 4) j = 1
      · have cc : 0 ≤ j ∧ j < 8 ∧ zbit (gSn V 4) j = 1 := ⟨h0, by omega, z⟩
        simp +contextual (disch := (first | omega | assumption | decide)) only [↓zbrT, ↓zbrF, zw98_0, zw98_1, zw98_2, zw98_4, zw98_5, zw98_6, zw98_7, zw98_8, zr_1, zr_3, zr_4, zr_7, zr_10, zr_12, zr_53, zr_54, zr_58, zr_60, zr_61, zr_68, zr_70, zr_73, zlg_0, zlg_s, zls_0, zls_1, zls_s, zkl_i, zkl_r, zkl_l, zkl_n, zrc_1, zrc_s, zcat_n, zcat_i, zcat_l, zcat_r, zkd_0, zkd_105, zkd_21, zkd_3, zkd_43, zkd_45, zkd_51, zkd_53, zkd_55, zkd_57, zkd_59, zkd_67, zkd_86, zkd_a50, zrf_0_3, zrf_0_6, Int.cast_ofNat_Int, Int.reduceAdd, zw_id, false_and, and_false, true_and, and_true, true_or, or_true, false_or, or_false, Option.toList, List.nil_append, List.cons_append, zif0, zif1, zif01, zem1, zem2, Int.reduceEq, Int.reduceLT, Int.reduceLE, Int.reduceNeg, Int.reduceSub, Int.reduceMul, if_true, if_false, not_false_eq_true, not_true_eq_false, true_implies, false_implies, Classical.not_not, Nat.reduceAdd, Nat.reduceLeDiff, gA_0 hI1.1.2.1, gA_1 hI1.1.2.1, gA_2 hI1.1.2.1, gA_3 hI1.1.2.1, gA_4 hI1.1.2.1, gA_5 hI1.1.2.1, gA_6 hI1.1.2.1, gA_7 hI1.1.2.1, gA_8 hI1.1.2.1, gA_9 hI1.1.2.1, gA_r0 hI1.1.2.1, gA_r1 hI1.1.2.1, gA_r2 hI1.1.2.1, gA_r3 hI1.1.2.1, gA_f0 hI1.1.2.1, gA_f1 hI1.1.2.1, gA_f2 hI1.1.2.1, gA_f3 hI1.1.2.1, gA_f4 hI1.1.2.1, gA_d hI1.1, gI_s0 hI1, gI_s1 hI1, gI_s2 hI1, gI_s3 hI1, gI_s4 hI1, gI_s5 hI1, gI_n hI1, zq43 rfl b43, if_pos cc]
        refine gK (gz97 hI1 (by omega)) rfl rfl (Nat.le_of_ble_eq_true rfl) ?_
        rintro _ m2 ⟨rfl, hA2, hE2⟩
        have q := gI_e hI1 hA2 hE2
        by_cases cg : gFi V j.toNat = -1 ∨ gLo V (gFi V j.toNat) < gLo V j
        · have lt : (if gFi V j.toNat = -1 then -1 else gLo V (gFi V j.toNat)) < gLo V j := by split <;> omega
          simp +contextual (disch := (first | omega | assumption | decide)) only [↓zbrT, ↓zbrF, zw98_0, zw98_1, zw98_2, zw98_4, zw98_5, zw98_6, zw98_7, zw98_8, zr_1, zr_3, zr_4, zr_7, zr_10, zr_12, zr_53, zr_54, zr_58, zr_60, zr_61, zr_68, zr_70, zr_73, zlg_0, zlg_s, zls_0, zls_1, zls_s, zkl_i, zkl_r, zkl_l, zkl_n, zrc_1, zrc_s, zcat_n, zcat_i, zcat_l, zcat_r, zkd_0, zkd_105, zkd_21, zkd_3, zkd_43, zkd_45, zkd_51, zkd_53, zkd_55, zkd_57, zkd_59, zkd_67, zkd_86, zkd_a50, zrf_0_3, zrf_0_6, Int.cast_ofNat_Int, Int.reduceAdd, zw_id, false_and, and_false, true_and, and_true, true_or, or_true, false_or, or_false, Option.toList, List.nil_append, List.cons_append, zif0, zif1, zif01, zem1, zem2, Int.reduceEq, Int.reduceLT, Int.reduceLE, Int.reduceNeg, Int.reduceSub, Int.reduceMul, if_true, if_false, not_false_eq_true, not_true_eq_false, true_implies, false_implies, Classical.not_not, Nat.reduceAdd, Nat.reduceLeDiff, lt]
          refine gK (gz97 q.1 (by omega)) rfl rfl (Nat.le_of_ble_eq_true rfl) ?_
          rintro _ m3 ⟨rfl, hA3, hE3⟩
          have q3 := gI_e q.1 hA3 hE3
          simp +contextual (disch := (first | omega | assumption | decide)) only [↓zbrT, ↓zbrF, zw98_0, zw98_1, zw98_2, zw98_4, zw98_5, zw98_6, zw98_7, zw98_8, zr_1, zr_3, zr_4, zr_7, zr_10, zr_12, zr_53, zr_54, zr_58, zr_60, zr_61, zr_68, zr_70, zr_73, zlg_0, zlg_s, zls_0, zls_1, zls_s, zkl_i, zkl_r, zkl_l, zkl_n, zrc_1, zrc_s, zcat_n, zcat_i, zcat_l, zcat_r, zkd_0, zkd_105, zkd_21, zkd_3, zkd_43, zkd_45, zkd_51, zkd_53, zkd_55, zkd_57, zkd_59, zkd_67, zkd_86, zkd_a50, zrf_0_3, zrf_0_6, Int.cast_ofNat_Int, Int.reduceAdd, zw_id, false_and, and_false, true_and, and_true, true_or, or_true, false_or, or_false, Option.toList, List.nil_append, List.cons_append, zif0, zif1, zif01, zem1, zem2, Int.reduceEq, Int.reduceLT, Int.reduceLE, Int.reduceNeg, Int.reduceSub, Int.reduceMul, if_true, if_false, not_false_eq_true, not_true_eq_false, true_implies, false_implies, Classical.not_not, Nat.reduceAdd, Nat.reduceLeDiff]
          refine kk _ _ ⟨by omega, ?_, q3.1, gX_tr (gX_tr hX q.2) q3.2⟩
          rw [gFi_s h0, if_pos ⟨z, cg⟩, if_neg (by omega)]
        · have lt : ¬ (if gFi V j.toNat = -1 then -1 else gLo V (gFi V j.toNat)) < gLo V j := by rw [if_neg (by omega)]; omega
          simp +contextual (disch := (first | omega | assumption | decide)) only [↓zbrT, ↓zbrF, zw98_0, zw98_1, zw98_2, zw98_4, zw98_5, zw98_6, zw98_7, zw98_8, zr_1, zr_3, zr_4, zr_7, zr_10, zr_12, zr_53, zr_54, zr_58, zr_60, zr_61, zr_68, zr_70, zr_73, zlg_0, zlg_s, zls_0, zls_1, zls_s, zkl_i, zkl_r, zkl_l, zkl_n, zrc_1, zrc_s, zcat_n, zcat_i, zcat_l, zcat_r, zkd_0, zkd_105, zkd_21, zkd_3, zkd_43, zkd_45, zkd_51, zkd_53, zkd_55, zkd_57, zkd_59, zkd_67, zkd_86, zkd_a50, zrf_0_3, zrf_0_6, Int.cast_ofNat_Int, Int.reduceAdd, zw_id, false_and, and_false, true_and, and_true, true_or, or_true, false_or, or_false, Option.toList, List.nil_append, List.cons_append, zif0, zif1, zif01, zem1, zem2, Int.reduceEq, Int.reduceLT, Int.reduceLE, Int.reduceNeg, Int.reduceSub, Int.reduceMul, if_true, if_false, not_false_eq_true, not_true_eq_false, true_implies, false_implies, Classical.not_not, Nat.reduceAdd, Nat.reduceLeDiff, lt]
          refine kk _ _ ⟨by omega, ?_, q.1, gX_tr hX q.2⟩
          have e := gFi_s (V := V) h0
          rw [if_neg (fun y => cg y.2)] at e
          rw [e]
      · have cc : ¬ (0 ≤ j ∧ j < 8 ∧ zbit (gSn V 4) j = 1) := fun y => z y.2.2
        simp +contextual (disch := (first | omega | assumption | decide)) only [↓zbrT, ↓zbrF, zw98_0, zw98_1, zw98_2, zw98_4, zw98_5, zw98_6, zw98_7, zw98_8, zr_1, zr_3, zr_4, zr_7, zr_10, zr_12, zr_53, zr_54, zr_58, zr_60, zr_61, zr_68, zr_70, zr_73, zlg_0, zlg_s, zls_0, zls_1, zls_s, zkl_i, zkl_r, zkl_l, zkl_n, zrc_1, zrc_s, zcat_n, zcat_i, zcat_l, zcat_r, zkd_0, zkd_105, zkd_21, zkd_3, zkd_43, zkd_45, zkd_51, zkd_53, zkd_55, zkd_57, zkd_59, zkd_67, zkd_86, zkd_a50, zrf_0_3, zrf_0_6, Int.cast_ofNat_Int, Int.reduceAdd, zw_id, false_and, and_false, true_and, and_true, true_or, or_true, false_or, or_false, Option.toList, List.nil_append, List.cons_append, zif0, zif1, zif01, zem1, zem2, Int.reduceEq, Int.reduceLT, Int.reduceLE, Int.reduceNeg, Int.reduceSub, Int.reduceMul, if_true, if_false, not_false_eq_true, not_true_eq_false, true_implies, false_implies, Classical.not_not, Nat.reduceAdd, Nat.reduceLeDiff, gA_0 hI1.1.2.1, gA_1 hI1.1.2.1, gA_2 hI1.1.2.1, gA_3 hI1.1.2.1, gA_4 hI1.1.2.1, gA_5 hI1.1.2.1, gA_6 hI1.1.2.1, gA_7 hI1.1.2.1, gA_8 hI1.1.2.1, gA_9 hI1.1.2.1, gA_r0 hI1.1.2.1, gA_r1 hI1.1.2.1, gA_r2 hI1.1.2.1, gA_r3 hI1.1.2.1, gA_f0 hI1.1.2.1, gA_f1 hI1.1.2.1, gA_f2 hI1.1.2.1, gA_f3 hI1.1.2.1, gA_f4 hI1.1.2.1, gA_d hI1.1, gI_s0 hI1, gI_s1 hI1, gI_s2 hI1, gI_s3 hI1, gI_s4 hI1, gI_s5 hI1, gI_n hI1, zq43 rfl b43, if_neg cc]
        refine kk _ _ ⟨by omega, ?_, hI1, hX⟩
        have e := gFi_s (V := V) h0
        rw [if_neg (fun y => z y.1)] at e
        rw [e]
    · rintro lc m' ⟨h0, rfl, hI1, hX⟩
      rw [zw98_3]
      simp +contextual (disch := (first | omega | assumption | decide)) only [↓zbrT, ↓zbrF, zw98_0, zw98_1, zw98_2, zw98_4, zw98_5, zw98_6, zw98_7, zw98_8, zr_1, zr_3, zr_4, zr_7, zr_10, zr_12, zr_53, zr_54, zr_58, zr_60, zr_61, zr_68, zr_70, zr_73, zlg_0, zlg_s, zls_0, zls_1, zls_s, zkl_i, zkl_r, zkl_l, zkl_n, zrc_1, zrc_s, zcat_n, zcat_i, zcat_l, zcat_r, zkd_0, zkd_105, zkd_21, zkd_3, zkd_43, zkd_45, zkd_51, zkd_53, zkd_55, zkd_57, zkd_59, zkd_67, zkd_86, zkd_a50, zrf_0_3, zrf_0_6, Int.cast_ofNat_Int, Int.reduceAdd, zw_id, false_and, and_false, true_and, and_true, true_or, or_true, false_or, or_false, Option.toList, List.nil_append, List.cons_append, zif0, zif1, zif01, zem1, zem2, Int.reduceEq, Int.reduceLT, Int.reduceLE, Int.reduceNeg, Int.reduceSub, Int.reduceMul, if_true, if_false, not_false_eq_true, not_true_eq_false, true_implies, false_implies, Classical.not_not, Nat.reduceAdd, Nat.reduceLeDiff, gA_0 hI1.1.2.1, gA_1 hI1.1.2.1, gA_2 hI1.1.2.1, gA_3 hI1.1.2.1, gA_4 hI1.1.2.1, gA_5 hI1.1.2.1, gA_6 hI1.1.2.1, gA_7 hI1.1.2.1, gA_8 hI1.1.2.1, gA_9 hI1.1.2.1, gA_r0 hI1.1.2.1, gA_r1 hI1.1.2.1, gA_r2 hI1.1.2.1, gA_r3 hI1.1.2.1, gA_f0 hI1.1.2.1, gA_f1 hI1.1.2.1, gA_f2 hI1.1.2.1, gA_f3 hI1.1.2.1, gA_f4 hI1.1.2.1, gA_d hI1.1, gI_s0 hI1, gI_s1 hI1, gI_s2 hI1, gI_s3 hI1, gI_s4 hI1, gI_s5 hI1, gI_n hI1]
      exact ⟨hI1, hX⟩
    · exact ⟨by decide, rfl, hI, gX_refl⟩
theorem gz237 {d : Nat} {m : zMm} {V : zMm} (hQ : gQ V m) : zC (d + 14) 237 [.inr (.inr 131)] m (fun r' m' => r' = some (.inl (sp98 V)) ∧ gY m m') := by
  refine ze237 ?_
  have hb := hQ.1.1
  have hY0 : gY m (zmu m 131 0 0) := gY_u (by decide)
  have hQ0 := gQ_y hQ hY0
  have h5 : 0 ≤ zmu m 131 0 0 138 5 ∧ zmu m 131 0 0 138 5 ≤ 8 := by rw [gM_5 hQ0.2.2.1]; omega
  have h6 : 0 ≤ zmu m 131 0 0 138 6 ∧ zmu m 131 0 0 138 6 ≤ 6 := by rw [gM_6 hQ0.2.2.1]; omega
  have h0 : 0 ≤ zmu m 131 0 0 138 0 ∧ zmu m 131 0 0 138 0 ≤ 6 := by rw [gM_0 hQ0.2.2.1]; omega
  have b4 := (gSk hQ).2.2.2.2.1
  unfold sp98
  by_cases c1 : V 0 10 = 0
  · rw [if_pos c1]
    simp +contextual (disch := (first | omega | assumption | decide)) only [↓zbrT, ↓zbrF, zw237_0, zw237_1, zw237_2, zw237_4, zw237_5, zw237_6, zw237_7, zw237_8, zw237_9, zr_1, zr_3, zr_4, zr_7, zr_10, zr_12, zr_13, zr_16, zr_53, zr_54, zr_55, zr_58, zr_60, zr_61, zr_62, zr_68, zr_69, zr_70, zr_73, zlg_0, zlg_s, zls_0, zls_1, zls_s, zkl_i, zkl_r, zkl_l, zkl_n, zrc_1, zrc_s, zcat_n, zcat_i, zcat_l, zcat_r, zkd_131, zkd_138, zln_138, zrf_131_17, Int.cast_ofNat_Int, Int.reduceAdd, zbd, zw_id, zmu_same, zmu_c, zmu_i, false_and, and_false, true_and, and_true, true_or, or_true, false_or, or_false, Option.toList, List.nil_append, List.cons_append, zif0, zif1, zif01, zem1, zem2, Int.reduceEq, Int.reduceLT, Int.reduceLE, Int.reduceNeg, Int.reduceSub, Int.reduceMul, if_true, if_false, not_false_eq_true, not_true_eq_false, true_implies, false_implies, Classical.not_not, Nat.reduceAdd, Nat.reduceLeDiff, zq202, gM_0 hQ.2.2.1, gM_1 hQ.2.2.1, gM_2 hQ.2.2.1, gM_3 hQ.2.2.1, gM_4 hQ.2.2.1, gM_5 hQ.2.2.1, gM_6 hQ.2.2.1, gM_7 hQ.2.2.1, gM_8 hQ.2.2.1, gM_9 hQ.2.2.1, gM_10 hQ.2.2.1, gM_r0 hQ.2.2.1, gM_r1 hQ.2.2.1, gM_r2 hQ.2.2.1, gM_r3 hQ.2.2.1, gM_f0 hQ.2.2.1, gM_f1 hQ.2.2.1, gM_f2 hQ.2.2.1, gM_f3 hQ.2.2.1, gM_f4 hQ.2.2.1]
    (first | exact hY0 | exact ⟨rfl, hY0⟩)
  · rw [if_neg c1]
    simp +contextual (disch := (first | omega | assumption | decide)) only [↓zbrT, ↓zbrF, zw237_0, zw237_1, zw237_2, zw237_4, zw237_5, zw237_6, zw237_7, zw237_8, zw237_9, zr_1, zr_3, zr_4, zr_7, zr_10, zr_12, zr_13, zr_16, zr_53, zr_54, zr_55, zr_58, zr_60, zr_61, zr_62, zr_68, zr_69, zr_70, zr_73, zlg_0, zlg_s, zls_0, zls_1, zls_s, zkl_i, zkl_r, zkl_l, zkl_n, zrc_1, zrc_s, zcat_n, zcat_i, zcat_l, zcat_r, zkd_131, zkd_138, zln_138, zrf_131_17, Int.cast_ofNat_Int, Int.reduceAdd, zbd, zw_id, zmu_same, zmu_c, zmu_i, false_and, and_false, true_and, and_true, true_or, or_true, false_or, or_false, Option.toList, List.nil_append, List.cons_append, zif0, zif1, zif01, zem1, zem2, Int.reduceEq, Int.reduceLT, Int.reduceLE, Int.reduceNeg, Int.reduceSub, Int.reduceMul, if_true, if_false, not_false_eq_true, not_true_eq_false, true_implies, false_implies, Classical.not_not, Nat.reduceAdd, Nat.reduceLeDiff, zq202, gM_0 hQ.2.2.1, gM_1 hQ.2.2.1, gM_2 hQ.2.2.1, gM_3 hQ.2.2.1, gM_4 hQ.2.2.1, gM_5 hQ.2.2.1, gM_6 hQ.2.2.1, gM_7 hQ.2.2.1, gM_8 hQ.2.2.1, gM_9 hQ.2.2.1, gM_10 hQ.2.2.1, gM_r0 hQ.2.2.1, gM_r1 hQ.2.2.1, gM_r2 hQ.2.2.1, gM_r3 hQ.2.2.1, gM_f0 hQ.2.2.1, gM_f1 hQ.2.2.1, gM_f2 hQ.2.2.1, gM_f3 hQ.2.2.1, gM_f4 hQ.2.2.1]
    refine gK (gzL hQ0) rfl rfl (Nat.le_of_ble_eq_true rfl) ?_
    rintro _ m1 ⟨rfl, hL, hY⟩
    have hQ1 := gQ_y hQ0 hY
    have fin : gY m m1 := gY_tr hY0 hY
    simp +contextual (disch := (first | omega | assumption | decide)) only [↓zbrT, ↓zbrF, zw237_0, zw237_1, zw237_2, zw237_4, zw237_5, zw237_6, zw237_7, zw237_8, zw237_9, zr_1, zr_3, zr_4, zr_7, zr_10, zr_12, zr_13, zr_16, zr_53, zr_54, zr_55, zr_58, zr_60, zr_61, zr_62, zr_68, zr_69, zr_70, zr_73, zlg_0, zlg_s, zls_0, zls_1, zls_s, zkl_i, zkl_r, zkl_l, zkl_n, zrc_1, zrc_s, zcat_n, zcat_i, zcat_l, zcat_r, zkd_131, zkd_138, zln_138, zrf_131_17, Int.cast_ofNat_Int, Int.reduceAdd, zbd, zw_id, zmu_same, zmu_c, zmu_i, false_and, and_false, true_and, and_true, true_or, or_true, false_or, or_false, Option.toList, List.nil_append, List.cons_append, zif0, zif1, zif01, zem1, zem2, Int.reduceEq, Int.reduceLT, Int.reduceLE, Int.reduceNeg, Int.reduceSub, Int.reduceMul, if_true, if_false, not_false_eq_true, not_true_eq_false, true_implies, false_implies, Classical.not_not, Nat.reduceAdd, Nat.reduceLeDiff]
    refine zfor (V 0 5) (fun j lc m' => 0 ≤ j ∧ lc = [some (.inr (.inr 131)), some (.inl (gFi V j.toNat)), some (.inl j)] ∧ gEw m1 m') ?_ ?_ (i := 0) (by omega) ?_
    · rintro j lc m' hj ⟨h0', rfl, hW⟩ kk
      have hM1 := gEw_mo hW hQ1.2.2.1
      have hL1 := gL_w hL hW
      have bf := gFi_bd (V := V) j.toNat
      rw [zw237_3]
      by_cases z : zbit (gSn V 4) j = 1
      · by_cases cn : gFi V j.toNat = -1
        · simp +contextual (disch := (first | omega | assumption | decide)) only [↓zbrT, ↓zbrF, zw237_0, zw237_1, zw237_2, zw237_4, zw237_5, zw237_6, zw237_7, zw237_8, zw237_9, zr_1, zr_3, zr_4, zr_7, zr_10, zr_12, zr_13, zr_16, zr_53, zr_54, zr_55, zr_58, zr_60, zr_61, zr_62, zr_68, zr_69, zr_70, zr_73, zlg_0, zlg_s, zls_0, zls_1, zls_s, zkl_i, zkl_r, zkl_l, zkl_n, zrc_1, zrc_s, zcat_n, zcat_i, zcat_l, zcat_r, zkd_131, zkd_138, zln_138, zrf_131_17, Int.cast_ofNat_Int, Int.reduceAdd, zbd, zw_id, zmu_same, zmu_c, zmu_i, false_and, and_false, true_and, and_true, true_or, or_true, false_or, or_false, Option.toList, List.nil_append, List.cons_append, zif0, zif1, zif01, zem1, zem2, Int.reduceEq, Int.reduceLT, Int.reduceLE, Int.reduceNeg, Int.reduceSub, Int.reduceMul, if_true, if_false, not_false_eq_true, not_true_eq_false, true_implies, false_implies, Classical.not_not, Nat.reduceAdd, Nat.reduceLeDiff, gM_0 hM1, gM_1 hM1, gM_2 hM1, gM_3 hM1, gM_4 hM1, gM_5 hM1, gM_6 hM1, gM_7 hM1, gM_8 hM1, gM_9 hM1, gM_10 hM1, gM_r0 hM1, gM_r1 hM1, gM_r2 hM1, gM_r3 hM1, gM_f0 hM1, gM_f1 hM1, gM_f2 hM1, gM_f3 hM1, gM_f4 hM1, gL_4 hL1, zq207, z, cn]
          refine kk _ _ ⟨by omega, ?_, hW⟩
          rw [gFi_s h0', if_pos ⟨z, Or.inl cn⟩]
        · simp +contextual (disch := (first | omega | assumption | decide)) only [↓zbrT, ↓zbrF, zw237_0, zw237_1, zw237_2, zw237_4, zw237_5, zw237_6, zw237_7, zw237_8, zw237_9, zr_1, zr_3, zr_4, zr_7, zr_10, zr_12, zr_13, zr_16, zr_53, zr_54, zr_55, zr_58, zr_60, zr_61, zr_62, zr_68, zr_69, zr_70, zr_73, zlg_0, zlg_s, zls_0, zls_1, zls_s, zkl_i, zkl_r, zkl_l, zkl_n, zrc_1, zrc_s, zcat_n, zcat_i, zcat_l, zcat_r, zkd_131, zkd_138, zln_138, zrf_131_17, Int.cast_ofNat_Int, Int.reduceAdd, zbd, zw_id, zmu_same, zmu_c, zmu_i, false_and, and_false, true_and, and_true, true_or, or_true, false_or, or_false, Option.toList, List.nil_append, List.cons_append, zif0, zif1, zif01, zem1, zem2, Int.reduceEq, Int.reduceLT, Int.reduceLE, Int.reduceNeg, Int.reduceSub, Int.reduceMul, if_true, if_false, not_false_eq_true, not_true_eq_false, true_implies, false_implies, Classical.not_not, Nat.reduceAdd, Nat.reduceLeDiff, gM_0 hM1, gM_1 hM1, gM_2 hM1, gM_3 hM1, gM_4 hM1, gM_5 hM1, gM_6 hM1, gM_7 hM1, gM_8 hM1, gM_9 hM1, gM_10 hM1, gM_r0 hM1, gM_r1 hM1, gM_r2 hM1, gM_r3 hM1, gM_f0 hM1, gM_f1 hM1, gM_f2 hM1, gM_f3 hM1, gM_f4 hM1, gL_4 hL1, zq207, z, cn]
          refine gK (gz234 hQ.1 hM1 hL1 b4 (by omega)) rfl rfl (Nat.le_of_ble_eq_true rfl) ?_
          rintro _ m2 ⟨rfl, hW2⟩
          simp +contextual (disch := (first | omega | assumption | decide)) only [↓zbrT, ↓zbrF, zw237_0, zw237_1, zw237_2, zw237_4, zw237_5, zw237_6, zw237_7, zw237_8, zw237_9, zr_1, zr_3, zr_4, zr_7, zr_10, zr_12, zr_13, zr_16, zr_53, zr_54, zr_55, zr_58, zr_60, zr_61, zr_62, zr_68, zr_69, zr_70, zr_73, zlg_0, zlg_s, zls_0, zls_1, zls_s, zkl_i, zkl_r, zkl_l, zkl_n, zrc_1, zrc_s, zcat_n, zcat_i, zcat_l, zcat_r, zkd_131, zkd_138, zln_138, zrf_131_17, Int.cast_ofNat_Int, Int.reduceAdd, zbd, zw_id, zmu_same, zmu_c, zmu_i, false_and, and_false, true_and, and_true, true_or, or_true, false_or, or_false, Option.toList, List.nil_append, List.cons_append, zif0, zif1, zif01, zem1, zem2, Int.reduceEq, Int.reduceLT, Int.reduceLE, Int.reduceNeg, Int.reduceSub, Int.reduceMul, if_true, if_false, not_false_eq_true, not_true_eq_false, true_implies, false_implies, Classical.not_not, Nat.reduceAdd, Nat.reduceLeDiff]
          refine gK (gz234 hQ.1 (gEw_mo hW2 hM1) (gL_w hL1 hW2) b4 (by omega)) rfl rfl (Nat.le_of_ble_eq_true rfl) ?_
          rintro _ m3 ⟨rfl, hW3⟩
          have hW4 := gEw_tr hW (gEw_tr hW2 hW3)
          by_cases cl : gLo V (gFi V j.toNat) < gLo V j
          · simp +contextual (disch := (first | omega | assumption | decide)) only [↓zbrT, ↓zbrF, zw237_0, zw237_1, zw237_2, zw237_4, zw237_5, zw237_6, zw237_7, zw237_8, zw237_9, zr_1, zr_3, zr_4, zr_7, zr_10, zr_12, zr_13, zr_16, zr_53, zr_54, zr_55, zr_58, zr_60, zr_61, zr_62, zr_68, zr_69, zr_70, zr_73, zlg_0, zlg_s, zls_0, zls_1, zls_s, zkl_i, zkl_r, zkl_l, zkl_n, zrc_1, zrc_s, zcat_n, zcat_i, zcat_l, zcat_r, zkd_131, zkd_138, zln_138, zrf_131_17, Int.cast_ofNat_Int, Int.reduceAdd, zbd, zw_id, zmu_same, zmu_c, zmu_i, false_and, and_false, true_and, and_true, true_or, or_true, false_or, or_false, Option.toList, List.nil_append, List.cons_append, zif0, zif1, zif01, zem1, zem2, Int.reduceEq, Int.reduceLT, Int.reduceLE, Int.reduceNeg, Int.reduceSub, Int.reduceMul, if_true, if_false, not_false_eq_true, not_true_eq_false, true_implies, false_implies, Classical.not_not, Nat.reduceAdd, Nat.reduceLeDiff, cl]
            refine kk _ _ ⟨by omega, ?_, hW4⟩
            rw [gFi_s h0', if_pos ⟨z, Or.inr cl⟩]
          · simp +contextual (disch := (first | omega | assumption | decide)) only [↓zbrT, ↓zbrF, zw237_0, zw237_1, zw237_2, zw237_4, zw237_5, zw237_6, zw237_7, zw237_8, zw237_9, zr_1, zr_3, zr_4, zr_7, zr_10, zr_12, zr_13, zr_16, zr_53, zr_54, zr_55, zr_58, zr_60, zr_61, zr_62, zr_68, zr_69, zr_70, zr_73, zlg_0, zlg_s, zls_0, zls_1, zls_s, zkl_i, zkl_r, zkl_l, zkl_n, zrc_1, zrc_s, zcat_n, zcat_i, zcat_l, zcat_r, zkd_131, zkd_138, zln_138, zrf_131_17, Int.cast_ofNat_Int, Int.reduceAdd, zbd, zw_id, zmu_same, zmu_c, zmu_i, false_and, and_false, true_and, and_true, true_or, or_true, false_or, or_false, Option.toList, List.nil_append, List.cons_append, zif0, zif1, zif01, zem1, zem2, Int.reduceEq, Int.reduceLT, Int.reduceLE, Int.reduceNeg, Int.reduceSub, Int.reduceMul, if_true, if_false, not_false_eq_true, not_true_eq_false, true_implies, false_implies, Classical.not_not, Nat.reduceAdd, Nat.reduceLeDiff, cl]
            refine kk _ _ ⟨by omega, ?_, hW4⟩
            rw [gFi_s h0', if_neg (by omega)]
      · have z0 : zbit (gSn V 4) j = 0 := by have := zbit_01 (gSn V 4) j; omega
        simp +contextual (disch := (first | omega | assumption | decide)) only [↓zbrT, ↓zbrF, zw237_0, zw237_1, zw237_2, zw237_4, zw237_5, zw237_6, zw237_7, zw237_8, zw237_9, zr_1, zr_3, zr_4, zr_7, zr_10, zr_12, zr_13, zr_16, zr_53, zr_54, zr_55, zr_58, zr_60, zr_61, zr_62, zr_68, zr_69, zr_70, zr_73, zlg_0, zlg_s, zls_0, zls_1, zls_s, zkl_i, zkl_r, zkl_l, zkl_n, zrc_1, zrc_s, zcat_n, zcat_i, zcat_l, zcat_r, zkd_131, zkd_138, zln_138, zrf_131_17, Int.cast_ofNat_Int, Int.reduceAdd, zbd, zw_id, zmu_same, zmu_c, zmu_i, false_and, and_false, true_and, and_true, true_or, or_true, false_or, or_false, Option.toList, List.nil_append, List.cons_append, zif0, zif1, zif01, zem1, zem2, Int.reduceEq, Int.reduceLT, Int.reduceLE, Int.reduceNeg, Int.reduceSub, Int.reduceMul, if_true, if_false, not_false_eq_true, not_true_eq_false, true_implies, false_implies, Classical.not_not, Nat.reduceAdd, Nat.reduceLeDiff, gM_0 hM1, gM_1 hM1, gM_2 hM1, gM_3 hM1, gM_4 hM1, gM_5 hM1, gM_6 hM1, gM_7 hM1, gM_8 hM1, gM_9 hM1, gM_10 hM1, gM_r0 hM1, gM_r1 hM1, gM_r2 hM1, gM_r3 hM1, gM_f0 hM1, gM_f1 hM1, gM_f2 hM1, gM_f3 hM1, gM_f4 hM1, gL_4 hL1, zq207, z0]
        refine kk _ _ ⟨by omega, ?_, hW⟩
        rw [gFi_s h0', if_neg (fun y => z y.1)]
    · rintro lc m' ⟨h0', rfl, hW⟩
      have hM1 := gEw_mo hW hQ1.2.2.1
      rw [zw237_3]
      simp +contextual (disch := (first | omega | assumption | decide)) only [↓zbrT, ↓zbrF, zw237_0, zw237_1, zw237_2, zw237_4, zw237_5, zw237_6, zw237_7, zw237_8, zw237_9, zr_1, zr_3, zr_4, zr_7, zr_10, zr_12, zr_13, zr_16, zr_53, zr_54, zr_55, zr_58, zr_60, zr_61, zr_62, zr_68, zr_69, zr_70, zr_73, zlg_0, zlg_s, zls_0, zls_1, zls_s, zkl_i, zkl_r, zkl_l, zkl_n, zrc_1, zrc_s, zcat_n, zcat_i, zcat_l, zcat_r, zkd_131, zkd_138, zln_138, zrf_131_17, Int.cast_ofNat_Int, Int.reduceAdd, zbd, zw_id, zmu_same, zmu_c, zmu_i, false_and, and_false, true_and, and_true, true_or, or_true, false_or, or_false, Option.toList, List.nil_append, List.cons_append, zif0, zif1, zif01, zem1, zem2, Int.reduceEq, Int.reduceLT, Int.reduceLE, Int.reduceNeg, Int.reduceSub, Int.reduceMul, if_true, if_false, not_false_eq_true, not_true_eq_false, true_implies, false_implies, Classical.not_not, Nat.reduceAdd, Nat.reduceLeDiff, gM_0 hM1, gM_1 hM1, gM_2 hM1, gM_3 hM1, gM_4 hM1, gM_5 hM1, gM_6 hM1, gM_7 hM1, gM_8 hM1, gM_9 hM1, gM_10 hM1, gM_r0 hM1, gM_r1 hM1, gM_r2 hM1, gM_r3 hM1, gM_f0 hM1, gM_f1 hM1, gM_f2 hM1, gM_f3 hM1, gM_f4 hM1]
      exact gY_tr fin (gY_w hW)
    · exact ⟨by decide, rfl, gEw_refl⟩
