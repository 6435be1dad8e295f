/-! ===== a night told by cases; the model's night ===== -/
theorem gMx_c {f f' : Int → Int} : ∀ k : Nat, (∀ r, 0 ≤ r → r ≤ (k : Int) → f r = f' r) → gMx f k = gMx f' k
  | 0, _ => rfl
  | k + 1, h => by
    have i := gMx_c k (fun r a b => h r a (by omega))
    have b := gMx_bd f' k
    show (if f (gMx f k) < f (k + 1) then ((k : Int) + 1) else gMx f k) = if f' (gMx f' k) < f' (k + 1) then ((k : Int) + 1) else gMx f' k
    rw [i, h _ b.1 (by omega), h _ (by omega) (by omega)]
theorem gMx_max {f : Int → Int} : ∀ (k : Nat), (∀ r, 0 ≤ r → r ≤ (k : Int) → f r ≤ f (gMx f k)) ∧ (∀ r, 0 ≤ r → r < gMx f k → f r < f (gMx f k))
  | 0 => by
    refine ⟨fun r a b => ?_, fun r a b => ?_⟩
    · rw [show r = 0 by omega]; exact Int.le_refl _
    · have : r < 0 := b
      omega
  | k + 1 => by
    obtain ⟨i1, i2⟩ := gMx_max (f := f) k
    have b := gMx_bd f k
    have e : gMx f (k + 1) = if f (gMx f k) < f (k + 1) then ((k : Int) + 1) else gMx f k := rfl
    rw [e]
    by_cases c : f (gMx f k) < f (k + 1)
    · rw [if_pos c]
      refine ⟨fun r a d => ?_, fun r a d => ?_⟩
      · by_cases z : r = k + 1
        · rw [z]; exact Int.le_refl _
        · have := i1 r a (by omega); omega
      · have := i1 r a (by omega); omega
    · rw [if_neg c]
      refine ⟨fun r a d => ?_, i2⟩
      by_cases z : r = k + 1
      · rw [z]; omega
      · exact i1 r a (by omega)
/-- the gate that fell first of those that lie longest -/
def gLn (V : zMm) (S : Int → Int) (g : Int) : Int := gMx (gFl V S g) 7
theorem gNi_up {V : zMm} {S : Int → Int} {g : Int} (c : S 1 + gTk V (gS1 S g) < V 0 2) : gNi V S g = fun i => if i = 1 then 0 else if i = 2 then 1 else gBk V S g i := by unfold gNi; rw [if_pos c]
theorem gLn_e {V : zMm} {S : Int → Int} {g p : Int} : gMx (fun r => (fun i => if i = 1 then p else gBk V S g i) (6 + r)) 7 = gLn V S g := by
  refine gMx_c 7 (fun r a b => ?_)
  dsimp only
  rw [if_neg (by omega), gBk_f a (by omega)]
theorem gNi_re {V : zMm} {S : Int → Int} {g : Int} (c : ¬ S 1 + gTk V (gS1 S g) < V 0 2) (c2 : V 0 3 ≤ S 1 + gTk V (gS1 S g) - V 0 2 ∧ 2 ≤ gFl V S g (gLn V S g)) : gNi V S g = fun i => if i = 1 then S 1 + gTk V (gS1 S g) - V 0 2 - V 0 3 else if i = 4 then zor (gS1 S g) (2 ^ (gLn V S g).toNat) else if i = 5 then S 5 + 1 else if i = 6 + gLn V S g then 0 else gBk V S g i := by
  have bL : 0 ≤ gLn V S g ∧ gLn V S g ≤ 7 := gMx_bd (gFl V S g) 7
  unfold gNi gRb
  rw [if_neg c, gLn_e]
  rw [if_pos (by
    refine ⟨c2.1, ?_⟩
    dsimp only
    rw [if_neg (by omega), gBk_f bL.1 (by omega)]; exact c2.2)]
  funext i
  dsimp only
  by_cases h1 : i = 1
  · rw [if_pos h1, if_pos h1]; rfl
  · rw [if_neg h1, if_neg h1, if_neg h1]; rfl
theorem gNi_no {V : zMm} {S : Int → Int} {g : Int} (c : ¬ S 1 + gTk V (gS1 S g) < V 0 2) (c2 : ¬ (V 0 3 ≤ S 1 + gTk V (gS1 S g) - V 0 2 ∧ 2 ≤ gFl V S g (gLn V S g))) : gNi V S g = fun i => if i = 1 then S 1 + gTk V (gS1 S g) - V 0 2 else gBk V S g i := by
  have bL : 0 ≤ gLn V S g ∧ gLn V S g ≤ 7 := gMx_bd (gFl V S g) 7
  unfold gNi gRb
  rw [if_neg c, gLn_e]
  rw [if_neg (by
    rintro ⟨z1, z2⟩
    dsimp only at z2
    rw [if_neg (by omega), gBk_f bL.1 (by omega)] at z2
    exact c2 ⟨z1, z2⟩)]
theorem zq209 {d : Nat} {m : zMm} {rest : List zV} {k : List zV → zMm → Prop} {V : zMm} (hV : gOk V) (hM : gMo V m) : zcl (zEx (d + 4)) 209 1 (.inr (.inr 131) :: rest) m k = (zcat rest ≤ 8 ∧ k (.inl (gGb V) :: rest) m) := by
  refine zcl_eq (as := [.inr (.inr 131)]) (r := some (.inl (gGb V))) (zC_eq.mp (ze209 ?_)) rfl rfl
  have hb := hV.1
  have h5 : 0 ≤ m 138 5 ∧ m 138 5 ≤ 8 := by rw [gM_5 hM]; omega
  simp +contextual (disch := (first | omega | assumption | decide)) only [↓zbrT, ↓zbrF, zw209_0, zw209_2, zw209_3, zw209_4, zw209_5, zw209_6, zr_1, zr_3, zr_4, zr_7, zr_12, zr_16, zr_32, zr_34, zr_46, zr_53, zr_54, zr_58, zr_61, zr_68, zr_70, zr_73, zlg_0, zlg_s, zls_0, zls_1, zls_s, zkl_i, zkl_r, zkl_l, zkl_n, zrc_1, zrc_s, zcat_n, zcat_i, zcat_l, zcat_r, zkd_131, zkd_138, zln_138, zrf_131_17, Int.cast_ofNat_Int, Int.reduceAdd, zbd, zw_id, false_and, and_false, true_and, and_true, true_or, or_true, false_or, or_false, Option.toList, List.nil_append, List.cons_append, zif0, zif1, zif01, zem1, zem2, Int.reduceEq, Int.reduceLT, Int.reduceLE, Int.reduceNeg, Int.reduceSub, Int.reduceMul, if_true, if_false, not_false_eq_true, not_true_eq_false, true_implies, false_implies, Classical.not_not, Nat.reduceAdd, Nat.reduceLeDiff]
  refine zfor (V 0 5) (fun r lc m' => 0 ≤ r ∧ lc = [some (.inr (.inr 131)), some (.inl (gBt (fun r => 0 < vT V r) r.toNat)), some (.inl r)] ∧ m' = m) ?_ ?_ (i := 0) (by omega) ?_
  · rintro r lc m' hr ⟨h0, rfl, rfl⟩ kk
    have e3 := gM_r3 hM h0 hr
    rw [zw209_1]
    by_cases c : 0 < vT V r
    · have cc : (0 ≤ r ∧ r ≤ V 0 5 - 1) ∧ 0 < vT V r := ⟨⟨h0, by omega⟩, c⟩
      simp +contextual (disch := (first | omega | assumption | decide)) only [↓zbrT, ↓zbrF, zw209_0, zw209_2, zw209_3, zw209_4, zw209_5, zw209_6, zr_1, zr_3, zr_4, zr_7, zr_12, zr_16, zr_32, zr_34, zr_46, zr_53, zr_54, zr_58, zr_61, zr_68, zr_70, zr_73, zlg_0, zlg_s, zls_0, zls_1, zls_s, zkl_i, zkl_r, zkl_l, zkl_n, zrc_1, zrc_s, zcat_n, zcat_i, zcat_l, zcat_r, zkd_131, zkd_138, zln_138, zrf_131_17, Int.cast_ofNat_Int, Int.reduceAdd, zbd, zw_id, false_and, and_false, true_and, and_true, true_or, or_true, false_or, or_false, Option.toList, List.nil_append, List.cons_append, zif0, zif1, zif01, zem1, zem2, Int.reduceEq, Int.reduceLT, Int.reduceLE, Int.reduceNeg, Int.reduceSub, Int.reduceMul, if_true, if_false, not_false_eq_true, not_true_eq_false, true_implies, false_implies, Classical.not_not, Nat.reduceAdd, Nat.reduceLeDiff, gM_0 hM, gM_1 hM, gM_2 hM, gM_3 hM, gM_4 hM, gM_5 hM, gM_6 hM, gM_7 hM, gM_8 hM, gM_9 hM, gM_10 hM, gM_r0 hM, gM_r1 hM, gM_r2 hM, gM_r3 hM, gM_f0 hM, gM_f1 hM, gM_f2 hM, gM_f3 hM, gM_f4 hM, zq204 h5, if_pos cc, zshl_1]
      refine kk _ _ ⟨by omega, ?_, rfl⟩
      rw [gBt_s h0, if_pos c]
    · have cc : ¬ ((0 ≤ r ∧ r ≤ V 0 5 - 1) ∧ 0 < vT V r) := fun z => c z.2
      simp +contextual (disch := (first | omega | assumption | decide)) only [↓zbrT, ↓zbrF, zw209_0, zw209_2, zw209_3, zw209_4, zw209_5, zw209_6, zr_1, zr_3, zr_4, zr_7, zr_12, zr_16, zr_32, zr_34, zr_46, zr_53, zr_54, zr_58, zr_61, zr_68, zr_70, zr_73, zlg_0, zlg_s, zls_0, zls_1, zls_s, zkl_i, zkl_r, zkl_l, zkl_n, zrc_1, zrc_s, zcat_n, zcat_i, zcat_l, zcat_r, zkd_131, zkd_138, zln_138, zrf_131_17, Int.cast_ofNat_Int, Int.reduceAdd, zbd, zw_id, false_and, and_false, true_and, and_true, true_or, or_true, false_or, or_false, Option.toList, List.nil_append, List.cons_append, zif0, zif1, zif01, zem1, zem2, Int.reduceEq, Int.reduceLT, Int.reduceLE, Int.reduceNeg, Int.reduceSub, Int.reduceMul, if_true, if_false, not_false_eq_true, not_true_eq_false, true_implies, false_implies, Classical.not_not, Nat.reduceAdd, Nat.reduceLeDiff, gM_0 hM, gM_1 hM, gM_2 hM, gM_3 hM, gM_4 hM, gM_5 hM, gM_6 hM, gM_7 hM, gM_8 hM, gM_9 hM, gM_10 hM, gM_r0 hM, gM_r1 hM, gM_r2 hM, gM_r3 hM, gM_f0 hM, gM_f1 hM, gM_f2 hM, gM_f3 hM, gM_f4 hM, zq204 h5, if_neg cc, zshl_1]
      refine kk _ _ ⟨by omega, ?_, rfl⟩
      rw [gBt_s h0, if_neg c]
  · rintro lc m' ⟨h0, rfl, rfl⟩
    rw [zw209_1]
    simp +contextual (disch := (first | omega | assumption | decide)) only [↓zbrT, ↓zbrF, zw209_0, zw209_2, zw209_3, zw209_4, zw209_5, zw209_6, zr_1, zr_3, zr_4, zr_7, zr_12, zr_16, zr_32, zr_34, zr_46, zr_53, zr_54, zr_58, zr_61, zr_68, zr_70, zr_73, zlg_0, zlg_s, zls_0, zls_1, zls_s, zkl_i, zkl_r, zkl_l, zkl_n, zrc_1, zrc_s, zcat_n, zcat_i, zcat_l, zcat_r, zkd_131, zkd_138, zln_138, zrf_131_17, Int.cast_ofNat_Int, Int.reduceAdd, zbd, zw_id, false_and, and_false, true_and, and_true, true_or, or_true, false_or, or_false, Option.toList, List.nil_append, List.cons_append, zif0, zif1, zif01, zem1, zem2, Int.reduceEq, Int.reduceLT, Int.reduceLE, Int.reduceNeg, Int.reduceSub, Int.reduceMul, if_true, if_false, not_false_eq_true, not_true_eq_false, true_implies, false_implies, Classical.not_not, Nat.reduceAdd, Nat.reduceLeDiff, gM_0 hM, gM_1 hM, gM_2 hM, gM_3 hM, gM_4 hM, gM_5 hM, gM_6 hM, gM_7 hM, gM_8 hM, gM_9 hM, gM_10 hM, gM_r0 hM, gM_r1 hM, gM_r2 hM, gM_r3 hM, gM_f0 hM, gM_f1 hM, gM_f2 hM, gM_f3 hM, gM_f4 hM]
    rfl
  · exact ⟨by decide, rfl, rfl⟩
/-- the model's state -/
def gMs (V : zMm) (S : Int → Int) (m : zMm) : Prop := (m 131 28 = S 4 ∧ m 131 29 = S 1 ∧ m 131 30 = S 0 ∧ m 131 31 = S 5 ∧ m 131 32 = S 3 ∧ m 131 33 = S 2) ∧ (∀ r, 0 ≤ r → r < V 0 5 → 0 < vT V r → zbit (S 4) r = 0 → m 146 r = S (6 + r))
/-- alike but for what nights write -/
def gEn (m m' : zMm) : Prop := ∀ c i, c ≠ 143 ∧ c ≠ 144 ∧ c ≠ 145 ∧ c ≠ 146 ∧ (c ≠ 131 ∨ (i ≠ 0 ∧ i < 24) ∨ 33 < i) → m' c i = m c i
theorem gEn_r {m m' : zMm} (h : gEn m m') {c i : Int} (h1 : c ≠ 143 ∧ c ≠ 144 ∧ c ≠ 145 ∧ c ≠ 146 ∧ (c ≠ 131 ∨ (i ≠ 0 ∧ i < 24) ∨ 33 < i)) : m' c i = m c i := h c i h1
theorem gEn_refl {m : zMm} : gEn m m := fun _ _ _ => rfl
theorem gEn_tr {m m' m'' : zMm} (h1 : gEn m m') (h2 : gEn m' m'') : gEn m m'' := fun c i h => by rw [h2 c i h, h1 c i h]
theorem gEn_w {m m' : zMm} (h : gEw m m') : gEn m m' := fun c i hc => h c i (by omega)
theorem gEn_mo {V m m' : zMm} (h : gEn m m') (h1 : gMo V m) : gMo V m' := gMo_of h1 (fun c i a b => h c i (by omega))
theorem gMs_of {V : zMm} {S : Int → Int} {m m' : zMm} (h : gMs V S m) (h1 : ∀ i, 28 ≤ i → i ≤ 33 → m' 131 i = m 131 i) (h2 : ∀ i, m' 146 i = m 146 i) : gMs V S m' := by
  refine ⟨?_, fun r a b c d => ?_⟩
  · rw [h1 28 (by decide) (by decide), h1 29 (by decide) (by decide), h1 30 (by decide) (by decide), h1 31 (by decide) (by decide), h1 32 (by decide) (by decide), h1 33 (by decide) (by decide)]; exact h.1
  · rw [h2]; exact h.2 r a b c d
theorem gMs_w {V : zMm} {S : Int → Int} {m m' : zMm} (h : gEw m m') (hS : gMs V S m) : gMs V S m' := gMs_of hS (fun i a b => h 131 i (by omega)) (fun i => h 146 i (by omega))
theorem gFr_of {V m m' : zMm} (h : gFr V m) (h1 : ∀ i, m' 145 i = m 145 i) : gFr V m' := fun p q a b c d => by rw [h1]; exact h p q a b c d
theorem gFr_w {V m m' : zMm} (h : gEw m m') (hF : gFr V m) : gFr V m' := gFr_of hF (fun i => h 145 i (by omega))
theorem zq220 {d : Nat} {m : zMm} {g : Int} {rest : List zV} {k : List zV → zMm → Prop} {V : zMm} {S : Int → Int} (hV : gOk V) (hM : gMo V m) (hF : gFr V m) (hS : gMs V S m) (hk : gSok V S) (hg : g = -1 ∨ (0 ≤ g ∧ g < V 0 5)) : zcl (zEx (d + 3)) 220 2 (.inl g :: .inr (.inr 131) :: rest) m k = (zcat rest ≤ 8 ∧ k (.inl (gMp V S g) :: rest) m) := by
  refine zcl_eq (as := [.inr (.inr 131), .inl g]) (r := some (.inl (gMp V S g))) (zC_eq.mp (ze220 ?_)) rfl rfl
  have hb := hV.1
  obtain ⟨e4, e1, e0, e5, e3, e2⟩ := hS.1
  have b4 := hk.2.2.2.2.1
  have b3 := hk.2.2.2.1
  unfold gMp
  by_cases c1 : S 2 = 0
  · by_cases c0 : g = -1
    · simp +contextual (disch := (first | omega | assumption | decide)) only [↓zbrT, ↓zbrF, zw220_0, zw220_1, zw220_2, zw220_3, zw220_4, zw220_5, zw220_6, zr_1, zr_3, zr_7, zr_10, zr_54, zr_55, zr_61, zr_62, zr_68, zr_69, zr_73, zr_76, zlg_0, zlg_s, zrc_1, zrc_s, zcat_n, zcat_i, zcat_l, zcat_r, zkd_131, Int.cast_ofNat_Int, Int.reduceAdd, false_and, and_false, true_and, and_true, true_or, or_true, false_or, or_false, Option.toList, List.nil_append, List.cons_append, zif0, zif1, zif01, zem1, zem2, Int.reduceEq, Int.reduceLT, Int.reduceLE, Int.reduceNeg, Int.reduceSub, Int.reduceMul, if_true, if_false, not_false_eq_true, not_true_eq_false, true_implies, false_implies, Classical.not_not, Nat.reduceAdd, Nat.reduceLeDiff, e2, c1, c0]
    · have g8 : 0 ≤ g ∧ g < 8 := by omega
      have gN : 0 ≤ g ∧ g < V 0 5 := by omega
      unfold gMb
      by_cases c2 : zbit (S 4) g = 1
      · by_cases c3 : V 0 8 < min (gD V (S 3) (vA V g)) (gD V (S 3) (vB V g))
        · have cc : S 2 = 0 ∧ (0 ≤ g ∧ g < 8 ∧ zbit (S 4) g = 1) ∧ V 0 8 < min (gD V (S 3) (vA V g)) (gD V (S 3) (vB V g)) := ⟨c1, ⟨g8.1, g8.2, c2⟩, c3⟩
          simp +contextual (disch := (first | omega | assumption | decide)) only [↓zbrT, ↓zbrF, zw220_0, zw220_1, zw220_2, zw220_3, zw220_4, zw220_5, zw220_6, zr_1, zr_3, zr_7, zr_10, zr_54, zr_55, zr_61, zr_62, zr_68, zr_69, zr_73, zr_76, zlg_0, zlg_s, zrc_1, zrc_s, zcat_n, zcat_i, zcat_l, zcat_r, zkd_131, Int.cast_ofNat_Int, Int.reduceAdd, false_and, and_false, true_and, and_true, true_or, or_true, false_or, or_false, Option.toList, List.nil_append, List.cons_append, zif0, zif1, zif01, zem1, zem2, Int.reduceEq, Int.reduceLT, Int.reduceLE, Int.reduceNeg, Int.reduceSub, Int.reduceMul, if_true, if_false, not_false_eq_true, not_true_eq_false, true_implies, false_implies, Classical.not_not, Nat.reduceAdd, Nat.reduceLeDiff, e2, c1, c0, e4, e3, zq207, c2, zq217 hV hM hF, if_pos c3]
          rw [if_pos ⟨g8, c3⟩]
        · have cc : ¬ (S 2 = 0 ∧ (0 ≤ g ∧ g < 8 ∧ zbit (S 4) g = 1) ∧ V 0 8 < min (gD V (S 3) (vA V g)) (gD V (S 3) (vB V g))) := fun z => c3 z.2.2
          simp +contextual (disch := (first | omega | assumption | decide)) only [↓zbrT, ↓zbrF, zw220_0, zw220_1, zw220_2, zw220_3, zw220_4, zw220_5, zw220_6, zr_1, zr_3, zr_7, zr_10, zr_54, zr_55, zr_61, zr_62, zr_68, zr_69, zr_73, zr_76, zlg_0, zlg_s, zrc_1, zrc_s, zcat_n, zcat_i, zcat_l, zcat_r, zkd_131, Int.cast_ofNat_Int, Int.reduceAdd, false_and, and_false, true_and, and_true, true_or, or_true, false_or, or_false, Option.toList, List.nil_append, List.cons_append, zif0, zif1, zif01, zem1, zem2, Int.reduceEq, Int.reduceLT, Int.reduceLE, Int.reduceNeg, Int.reduceSub, Int.reduceMul, if_true, if_false, not_false_eq_true, not_true_eq_false, true_implies, false_implies, Classical.not_not, Nat.reduceAdd, Nat.reduceLeDiff, e2, c1, c0, e4, e3, zq207, c2, zq217 hV hM hF, if_neg c3]
          rw [if_neg (fun z => c3 z.2)]
      · have c20 : zbit (S 4) g = 0 := by have := zbit_01 (S 4) g; omega
        simp +contextual (disch := (first | omega | assumption | decide)) only [↓zbrT, ↓zbrF, zw220_0, zw220_1, zw220_2, zw220_3, zw220_4, zw220_5, zw220_6, zr_1, zr_3, zr_7, zr_10, zr_54, zr_55, zr_61, zr_62, zr_68, zr_69, zr_73, zr_76, zlg_0, zlg_s, zrc_1, zrc_s, zcat_n, zcat_i, zcat_l, zcat_r, zkd_131, Int.cast_ofNat_Int, Int.reduceAdd, false_and, and_false, true_and, and_true, true_or, or_true, false_or, or_false, Option.toList, List.nil_append, List.cons_append, zif0, zif1, zif01, zem1, zem2, Int.reduceEq, Int.reduceLT, Int.reduceLE, Int.reduceNeg, Int.reduceSub, Int.reduceMul, if_true, if_false, not_false_eq_true, not_true_eq_false, true_implies, false_implies, Classical.not_not, Nat.reduceAdd, Nat.reduceLeDiff, e2, c1, c0, e4, e3, zq207, c20]
  · by_cases c0 : g = -1
    · simp +contextual (disch := (first | omega | assumption | decide)) only [↓zbrT, ↓zbrF, zw220_0, zw220_1, zw220_2, zw220_3, zw220_4, zw220_5, zw220_6, zr_1, zr_3, zr_7, zr_10, zr_54, zr_55, zr_61, zr_62, zr_68, zr_69, zr_73, zr_76, zlg_0, zlg_s, zrc_1, zrc_s, zcat_n, zcat_i, zcat_l, zcat_r, zkd_131, Int.cast_ofNat_Int, Int.reduceAdd, false_and, and_false, true_and, and_true, true_or, or_true, false_or, or_false, Option.toList, List.nil_append, List.cons_append, zif0, zif1, zif01, zem1, zem2, Int.reduceEq, Int.reduceLT, Int.reduceLE, Int.reduceNeg, Int.reduceSub, Int.reduceMul, if_true, if_false, not_false_eq_true, not_true_eq_false, true_implies, false_implies, Classical.not_not, Nat.reduceAdd, Nat.reduceLeDiff, e2, c1, c0]
    · unfold gMb
      simp +contextual (disch := (first | omega | assumption | decide)) only [↓zbrT, ↓zbrF, zw220_0, zw220_1, zw220_2, zw220_3, zw220_4, zw220_5, zw220_6, zr_1, zr_3, zr_7, zr_10, zr_54, zr_55, zr_61, zr_62, zr_68, zr_69, zr_73, zr_76, zlg_0, zlg_s, zrc_1, zrc_s, zcat_n, zcat_i, zcat_l, zcat_r, zkd_131, Int.cast_ofNat_Int, Int.reduceAdd, false_and, and_false, true_and, and_true, true_or, or_true, false_or, or_false, Option.toList, List.nil_append, List.cons_append, zif0, zif1, zif01, zem1, zem2, Int.reduceEq, Int.reduceLT, Int.reduceLE, Int.reduceNeg, Int.reduceSub, Int.reduceMul, if_true, if_false, not_false_eq_true, not_true_eq_false, true_implies, false_implies, Classical.not_not, Nat.reduceAdd, Nat.reduceLeDiff, e2, c1, c0]
