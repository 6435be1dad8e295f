/-! ===== what holds between calls ===== -/
/-- the first row found, of g = 0 .. N - 1 -/
def gFo (f : Nat → Option (List Int)) : Nat → Option (List Int)
  | 0 => none
  | k + 1 => match gFo f k with
    | some l => some l
    | none => f k
/-- the first row of just k nights by which the trust gives up -/
def gFs (V : zMm) : Nat → (Int → Int) → Option (List Int)
  | 0, S => if S 2 = 1 then some [] else none
  | k + 1, S => gFo (fun j => if gMp V S ((j : Int) - 1) = 1 then (match gFs V k (gNi V S ((j : Int) - 1)) with
    | some l => some (((j : Int) - 1) :: l)
    | none => none) else none) ((V 0 5).toNat + 1)
/-- the fewest nights, their gates -/
def gFw (V : zMm) : Int := if (gFs V 0 (gSn V)).isSome then 0 else if (gFs V 1 (gSn V)).isSome then 1 else if (gFs V 2 (gSn V)).isSome then 2 else if (gFs V 3 (gSn V)).isSome then 3 else if (gFs V 4 (gSn V)).isSome then 4 else -1
def gPn (V : zMm) : List Int := (gFs V (gFw V).toNat (gSn V)).getD []
/-- what the planner keeps is right -/
def gPl (V m : zMm) : Prop := m 48 3 = 0 ∨ (m 48 3 = 1 ∧ m 48 2 = gFw V ∧ ∀ i : Nat, (i : Int) < gFw V → m 49 i = (gPn V).getD i 0)
/-- the class holds V -/
def gI (V m : zMm) : Prop := gA V m ∧ gAc V ∧ gCa V m ∧ gSt (gSn V) 43 m ∧ gPl V m
theorem gI_s0 {V m : zMm} (h : gI V m) : m 43 0 = gSn V 0 := h.2.2.2.1.1.1
theorem gI_s1 {V m : zMm} (h : gI V m) : m 43 1 = gSn V 1 := h.2.2.2.1.1.2.1
theorem gI_s2 {V m : zMm} (h : gI V m) : m 43 2 = gSn V 2 := h.2.2.2.1.1.2.2.1
theorem gI_s3 {V m : zMm} (h : gI V m) : m 43 3 = gSn V 3 := h.2.2.2.1.1.2.2.2.1
theorem gI_s4 {V m : zMm} (h : gI V m) : m 43 4 = gSn V 4 := h.2.2.2.1.1.2.2.2.2.1
theorem gI_s5 {V m : zMm} (h : gI V m) : m 43 5 = gSn V 5 := h.2.2.2.1.1.2.2.2.2.2
theorem gI_n {V m : zMm} (h : gI V m) : m 0 5 = V 0 9 := h.2.2.1.1
theorem gI_k {V m : zMm} (h : gI V m) : gSok V (gSn V) ∧ gSn V 0 = V 0 9 := by
  have hb := h.1.1.1
  have := gRp_ok h.1.1 h.2.1 (V 0 9).toNat (by omega)
  exact ⟨this.1, by rw [show gSn V 0 = (((V 0 9).toNat : Nat) : Int) from this.2]; omega⟩
/-- alike but for what questions write in the class -/
def gX (m m' : zMm) : Prop := ∀ c i, c ≠ 20 ∧ c ≠ 39 ∧ c ≠ 40 ∧ c ≠ 41 ∧ (c < 45 ∨ 63 < c) → m' c i = m c i
/-- .. and what the planner keeps -/
def gXp (m m' : zMm) : Prop := ∀ c i, c ≠ 20 ∧ c ≠ 39 ∧ c ≠ 40 ∧ c ≠ 41 ∧ (c < 45 ∨ c = 48 ∨ c = 49 ∨ 63 < c) → m' c i = m c i
theorem gXp_X {m m' : zMm} (h : gXp m m') : gX m m' := fun c i hc => h c i (by omega)
theorem gXp_E {m m' : zMm} (h : gE m m') : gXp m m' := fun c i hc => h c i (by omega)
theorem gXp_refl {m : zMm} : gXp m m := fun _ _ _ => rfl
theorem gXp_tr {m m' m'' : zMm} (h1 : gXp m m') (h2 : gXp m' m'') : gXp m m'' := fun c i h => by rw [h2 c i h, h1 c i h]
theorem gI_x {V m m' : zMm} (h : gI V m) (hA : gA V m') (hX : gXp m m') : gI V m' := by
  refine ⟨hA, h.2.1, ⟨by rw [hX 0 5 (by decide)]; exact h.2.2.1.1, fun k a b => by rw [hX 42 k (by decide)]; exact h.2.2.1.2 k a b⟩, gSt_of h.2.2.2.1 (fun i => hX 43 i (by decide)) (fun i => hX 44 i (by decide)), ?_⟩
  rcases h.2.2.2.2 with z | z
  · exact Or.inl (by rw [hX 48 3 (by decide)]; exact z)
  · exact Or.inr ⟨by rw [hX 48 3 (by decide)]; exact z.1, by rw [hX 48 2 (by decide)]; exact z.2.1, fun i hi => by rw [hX 49 i (by decide)]; exact z.2.2 i hi⟩
theorem gI_e {V m m' : zMm} (h : gI V m) (hA : gA V m') (hE : gE m m') : gI V m' ∧ gX m m' := ⟨gI_x h hA (gXp_E hE), gXp_X (gXp_E hE)⟩
theorem gX_refl {m : zMm} : gX m m := fun _ _ _ => rfl
theorem gX_tr {m m' m'' : zMm} (h1 : gX m m') (h2 : gX m' m'') : gX m m'' := fun c i h => by rw [h2 c i h, h1 c i h]
/-- the model holds V -/
def gQ (V m : zMm) : Prop := gOk V ∧ gAc V ∧ gMo V m ∧ gMa V m
/-- alike but for what questions write in the model -/
def gY (m m' : zMm) : Prop := ∀ c i, c ≠ 135 ∧ (c < 143 ∨ 150 < c) ∧ (c ≠ 131 ∨ i = 6 ∨ i = 14 ∨ i = 15) → m' c i = m c i
theorem gY_refl {m : zMm} : gY m m := fun _ _ _ => rfl
theorem gY_tr {m m' m'' : zMm} (h1 : gY m m') (h2 : gY m' m'') : gY m m'' := fun c i h => by rw [h2 c i h, h1 c i h]
theorem gY_n {m m' : zMm} (h : gEn m m') : gY m m' := fun c i hc => h c i (by omega)
theorem gY_w {m m' : zMm} (h : gEw m m') : gY m m' := fun c i hc => h c i (by omega)
theorem gY_u {m : zMm} {i x : Int} (h : i ≠ 6 ∧ i ≠ 14 ∧ i ≠ 15) : gY m (zmu m 131 i x) := fun c j hc => by unfold zmu; rw [if_neg (by omega)]
theorem gY_c {m : zMm} {c i x : Int} (h : 143 ≤ c ∧ c ≤ 150) : gY m (zmu m c i x) := fun c' j hc => zmu_c (by omega)
theorem gQ_y {V m m' : zMm} (h : gQ V m) (hY : gY m m') : gQ V m' := ⟨h.1, h.2.1, gMo_of h.2.2.1 (fun c i a b => hY c i (by omega)), fun k a b => by rw [hY 141 k (by omega)]; exact h.2.2.2 k a b⟩
/-- the model's state lies there -/
def gL (V : zMm) (S : Int → Int) (m : zMm) : Prop := gMs V S m ∧ gFr V m
theorem gL_w {V : zMm} {S : Int → Int} {m m' : zMm} (h : gL V S m) (hw : gEw m m') : gL V S m' := ⟨gMs_w hw h.1, gFr_w hw h.2⟩
theorem gSk {V m : zMm} (h : gQ V m) : gSok V (gSn V) := (gRp_ok h.1 h.2.1 (V 0 9).toNat (by have := h.1.1; omega)).1
/-- lays, out of what holds between calls -/
theorem gzL {d : Nat} {m V : zMm} (h : gQ V m) : zC (d + 13) 219 [.inr (.inr 131)] m (fun r' m' => r' = none ∧ gL V (gSn V) m' ∧ gY m m') := zC_im (gz219 h.1 h.2.1 h.2.2.1 h.2.2.2) (fun r' m' ⟨a, b, c, e⟩ => ⟨a, ⟨b, c⟩, gY_n e⟩)
theorem gL_4 {V : zMm} {S : Int → Int} {m : zMm} (h : gL V S m) : m 131 28 = S 4 := h.1.1.1
theorem gL_1 {V : zMm} {S : Int → Int} {m : zMm} (h : gL V S m) : m 131 29 = S 1 := h.1.1.2.1
theorem gL_0 {V : zMm} {S : Int → Int} {m : zMm} (h : gL V S m) : m 131 30 = S 0 := h.1.1.2.2.1
theorem gL_5 {V : zMm} {S : Int → Int} {m : zMm} (h : gL V S m) : m 131 31 = S 5 := h.1.1.2.2.2.1
theorem gL_3 {V : zMm} {S : Int → Int} {m : zMm} (h : gL V S m) : m 131 32 = S 3 := h.1.1.2.2.2.2.1
theorem gL_2 {V : zMm} {S : Int → Int} {m : zMm} (h : gL V S m) : m 131 33 = S 2 := h.1.1.2.2.2.2.2
/-! ===== gates that stand ===== -/
theorem zq77 {d : Nat} {m : zMm} {g : Int} {rest : List zV} {k : List zV → zMm → Prop} {V : zMm} (hA : gA V m) (hg : -2147483648 ≤ g ∧ g < 2147483648) : zcl (zEx (d + 3)) 77 2 (.inr (.inl g) :: .inr (.inr 0) :: rest) m k = (zcat rest ≤ 8 ∧ k (.inl (if (0 ≤ g ∧ g < V 0 5) ∧ 0 < vT V g then 1 else 0) :: rest) m) := by
  refine zcl_eq (as := [.inr (.inr 0), .inr (.inl g)]) (r := some (.inl (if (0 ≤ g ∧ g < V 0 5) ∧ 0 < vT V g then 1 else 0))) (zC_eq.mp (ze77 ?_)) rfl rfl
  have hb := gA_b hA
  have bG := gGb_bd hA.1
  by_cases c : 0 ≤ g ∧ g < V 0 5
  · have e := zbit_Gb hA.1 c.1 (by omega)
    by_cases c2 : 0 < vT V g
    · rw [if_pos ⟨c.2, c2⟩] at e
      have cc : (0 ≤ g ∧ g < V 0 5) ∧ 0 < vT V g := ⟨c, c2⟩
      simp +contextual (disch := (first | omega | assumption | decide)) only [↓zbrT, ↓zbrF, zw77_0, zw77_1, zw77_2, zw77_3, zw77_4, zr_2, zr_3, zr_7, zr_12, zr_31, zr_35, zr_47, zr_54, zr_56, zr_61, zr_68, zr_73, zr_76, zlg_0, zlg_s, zrc_1, zrc_s, zcat_n, zcat_i, zcat_l, zcat_r, zkd_0, zkd_105, zkd_21, zkd_3, zkd_67, zkd_86, zrf_0_3, Int.cast_ofNat_Int, Int.reduceAdd, zw_id, false_and, and_false, true_and, and_true, true_or, or_true, false_or, or_false, Option.toList, List.nil_append, List.cons_append, zif0, zif1, zif01, zem1, zem2, Int.reduceEq, Int.reduceLT, Int.reduceLE, Int.reduceNeg, Int.reduceSub, Int.reduceMul, if_true, if_false, not_false_eq_true, not_true_eq_false, true_implies, false_implies, Classical.not_not, Nat.reduceAdd, Nat.reduceLeDiff, zq76, gA_0 hA.2.1, gA_1 hA.2.1, gA_2 hA.2.1, gA_3 hA.2.1, gA_4 hA.2.1, gA_5 hA.2.1, gA_6 hA.2.1, gA_7 hA.2.1, gA_8 hA.2.1, gA_9 hA.2.1, gA_r0 hA.2.1, gA_r1 hA.2.1, gA_r2 hA.2.1, gA_r3 hA.2.1, gA_f0 hA.2.1, gA_f1 hA.2.1, gA_f2 hA.2.1, gA_f3 hA.2.1, gA_f4 hA.2.1, gA_d hA, zq35 hA.1 hA.2.1, zbit_of, e, if_pos cc]
    · rw [if_neg (fun z => c2 z.2)] at e
      have cc : ¬ ((0 ≤ g ∧ g < V 0 5) ∧ 0 < vT V g) := fun z => c2 z.2
      simp +contextual (disch := (first | omega | assumption | decide)) only [↓zbrT, ↓zbrF, zw77_0, zw77_1, zw77_2, zw77_3, zw77_4, zr_2, zr_3, zr_7, zr_12, zr_31, zr_35, zr_47, zr_54, zr_56, zr_61, zr_68, zr_73, zr_76, zlg_0, zlg_s, zrc_1, zrc_s, zcat_n, zcat_i, zcat_l, zcat_r, zkd_0, zkd_105, zkd_21, zkd_3, zkd_67, zkd_86, zrf_0_3, Int.cast_ofNat_Int, Int.reduceAdd, zw_id, false_and, and_false, true_and, and_true, true_or, or_true, false_or, or_false, Option.toList, List.nil_append, List.cons_append, zif0, zif1, zif01, zem1, zem2, Int.reduceEq, Int.reduceLT, Int.reduceLE, Int.reduceNeg, Int.reduceSub, Int.reduceMul, if_true, if_false, not_false_eq_true, not_true_eq_false, true_implies, false_implies, Classical.not_not, Nat.reduceAdd, Nat.reduceLeDiff, zq76, gA_0 hA.2.1, gA_1 hA.2.1, gA_2 hA.2.1, gA_3 hA.2.1, gA_4 hA.2.1, gA_5 hA.2.1, gA_6 hA.2.1, gA_7 hA.2.1, gA_8 hA.2.1, gA_9 hA.2.1, gA_r0 hA.2.1, gA_r1 hA.2.1, gA_r2 hA.2.1, gA_r3 hA.2.1, gA_f0 hA.2.1, gA_f1 hA.2.1, gA_f2 hA.2.1, gA_f3 hA.2.1, gA_f4 hA.2.1, gA_d hA, zq35 hA.1 hA.2.1, zbit_of, e, if_neg cc]
  · have cc : ¬ ((0 ≤ g ∧ g < V 0 5) ∧ 0 < vT V g) := fun z => c z.1
    simp +contextual (disch := (first | omega | assumption | decide)) only [↓zbrT, ↓zbrF, zw77_0, zw77_1, zw77_2, zw77_3, zw77_4, zr_2, zr_3, zr_7, zr_12, zr_31, zr_35, zr_47, zr_54, zr_56, zr_61, zr_68, zr_73, zr_76, zlg_0, zlg_s, zrc_1, zrc_s, zcat_n, zcat_i, zcat_l, zcat_r, zkd_0, zkd_105, zkd_21, zkd_3, zkd_67, zkd_86, zrf_0_3, Int.cast_ofNat_Int, Int.reduceAdd, zw_id, false_and, and_false, true_and, and_true, true_or, or_true, false_or, or_false, Option.toList, List.nil_append, List.cons_append, zif0, zif1, zif01, zem1, zem2, Int.reduceEq, Int.reduceLT, Int.reduceLE, Int.reduceNeg, Int.reduceSub, Int.reduceMul, if_true, if_false, not_false_eq_true, not_true_eq_false, true_implies, false_implies, Classical.not_not, Nat.reduceAdd, Nat.reduceLeDiff, zq76, gA_0 hA.2.1, gA_1 hA.2.1, gA_2 hA.2.1, gA_3 hA.2.1, gA_4 hA.2.1, gA_5 hA.2.1, gA_6 hA.2.1, gA_7 hA.2.1, gA_8 hA.2.1, gA_9 hA.2.1, gA_r0 hA.2.1, gA_r1 hA.2.1, gA_r2 hA.2.1, gA_r3 hA.2.1, gA_f0 hA.2.1, gA_f1 hA.2.1, gA_f2 hA.2.1, gA_f3 hA.2.1, gA_f4 hA.2.1, gA_d hA, if_neg cc]
theorem zq78 {d : Nat} {m : zMm} {g : Int} {rest : List zV} {k : List zV → zMm → Prop} {V : zMm} (hI : gI V m) (hg : -2147483648 ≤ g ∧ g < 2147483648) : zcl (zEx (d + 4)) 78 2 (.inl g :: .inr (.inr 0) :: rest) m k = (zcat rest ≤ 8 ∧ k (.inl (if 0 ≤ g ∧ g < 8 ∧ zbit (gSn V 4) g = 1 then 1 else 0) :: rest) m) := by
  refine zcl_eq (as := [.inr (.inr 0), .inl g]) (r := some (.inl (if 0 ≤ g ∧ g < 8 ∧ zbit (gSn V 4) g = 1 then 1 else 0))) (zC_eq.mp (ze78 ?_)) rfl rfl
  have hk := (gI_k hI).1
  have b4 : 0 ≤ m 43 4 ∧ m 43 4 < 256 := by rw [gI_s4 hI]; exact hk.2.2.2.2.1
  by_cases c : 0 ≤ g ∧ g < 8 ∧ zbit (gSn V 4) g = 1
  · have gr := hk.2.2.2.2.2.2.1 g c.1 c.2.1 c.2.2
    have cc : (0 ≤ g ∧ g < V 0 5) ∧ 0 < vT V g := ⟨⟨c.1, gr.1⟩, gr.2⟩
    simp +contextual (disch := (first | omega | assumption | decide)) only [↓zbrT, ↓zbrF, zw78_0, zw78_1, zw78_2, zw78_3, zw78_4, zr_1, zr_3, zr_7, zr_12, zr_46, zr_54, zr_61, zr_68, zr_73, zr_76, zlg_0, zlg_s, zrc_1, zrc_s, zcat_n, zcat_i, zcat_l, zcat_r, zkd_0, zkd_43, zkd_45, zkd_51, zkd_53, zkd_55, zkd_57, zkd_59, zkd_a50, zrf_0_6, Int.cast_ofNat_Int, Int.reduceAdd, false_and, and_false, true_and, and_true, true_or, or_true, false_or, or_false, Option.toList, List.nil_append, List.cons_append, zif0, zif1, zif01, zem1, zem2, Int.reduceEq, Int.reduceLT, Int.reduceLE, Int.reduceNeg, Int.reduceSub, Int.reduceMul, if_true, if_false, not_false_eq_true, not_true_eq_false, true_implies, false_implies, Classical.not_not, Nat.reduceAdd, Nat.reduceLeDiff, zq77 hI.1, if_pos cc, zq43 rfl b4, gI_s4 hI, if_pos c]
  · by_cases cc : (0 ≤ g ∧ g < V 0 5) ∧ 0 < vT V g
    · simp +contextual (disch := (first | omega | assumption | decide)) only [↓zbrT, ↓zbrF, zw78_0, zw78_1, zw78_2, zw78_3, zw78_4, zr_1, zr_3, zr_7, zr_12, zr_46, zr_54, zr_61, zr_68, zr_73, zr_76, zlg_0, zlg_s, zrc_1, zrc_s, zcat_n, zcat_i, zcat_l, zcat_r, zkd_0, zkd_43, zkd_45, zkd_51, zkd_53, zkd_55, zkd_57, zkd_59, zkd_a50, zrf_0_6, Int.cast_ofNat_Int, Int.reduceAdd, false_and, and_false, true_and, and_true, true_or, or_true, false_or, or_false, Option.toList, List.nil_append, List.cons_append, zif0, zif1, zif01, zem1, zem2, Int.reduceEq, Int.reduceLT, Int.reduceLE, Int.reduceNeg, Int.reduceSub, Int.reduceMul, if_true, if_false, not_false_eq_true, not_true_eq_false, true_implies, false_implies, Classical.not_not, Nat.reduceAdd, Nat.reduceLeDiff, zq77 hI.1, if_pos cc, zq43 rfl b4, gI_s4 hI, if_neg c]
    · simp +contextual (disch := (first | omega | assumption | decide)) only [↓zbrT, ↓zbrF, zw78_0, zw78_1, zw78_2, zw78_3, zw78_4, zr_1, zr_3, zr_7, zr_12, zr_46, zr_54, zr_61, zr_68, zr_73, zr_76, zlg_0, zlg_s, zrc_1, zrc_s, zcat_n, zcat_i, zcat_l, zcat_r, zkd_0, zkd_43, zkd_45, zkd_51, zkd_53, zkd_55, zkd_57, zkd_59, zkd_a50, zrf_0_6, Int.cast_ofNat_Int, Int.reduceAdd, false_and, and_false, true_and, and_true, true_or, or_true, false_or, or_false, Option.toList, List.nil_append, List.cons_append, zif0, zif1, zif01, zem1, zem2, Int.reduceEq, Int.reduceLT, Int.reduceLE, Int.reduceNeg, Int.reduceSub, Int.reduceMul, if_true, if_false, not_false_eq_true, not_true_eq_false, true_implies, false_implies, Classical.not_not, Nat.reduceAdd, Nat.reduceLeDiff, zq77 hI.1, if_neg cc, if_neg c]
