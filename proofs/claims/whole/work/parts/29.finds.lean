/-! ===== finds, hasWay, paysBy, incomeBy ===== -/
theorem gWt_W {V : zMm} {s : Int} : ∀ (l : List Int), gWt (vW V s) l = 1024 * gWt (vG V s) l + gWt (vM V) l
  | [] => rfl
  | r :: t => by
    have := gWt_W (V := V) (s := s) t
    show vW V s r + gWt (vW V s) t = 1024 * (vG V s r + gWt (vG V s) t) + (vM V r + gWt (vM V) t)
    have e : vW V s r = vG V s r * 1024 + vM V r := rfl
    omega
theorem gWt_M {V : zMm} (h : gOk V) : ∀ {l : List Int} {u v : Int}, gWk (V 0 5) (vA V) (vB V) (fun _ => True) l u v → 0 ≤ gWt (vM V) l ∧ gWt (vM V) l ≤ 20 * l.length
  | [], _, _, _ => by show (0 : Int) ≤ 0 ∧ (0 : Int) ≤ 20 * ((0 : Nat) : Int); omega
  | r :: t, _, _, ⟨h1, _, _, h4⟩ => by
    have i := gWt_M h h4
    have b := h.2.1 r h1.1 h1.2
    show 0 ≤ vM V r + gWt (vM V) t ∧ vM V r + gWt (vM V) t ≤ 20 * ((t.length + 1 : Nat) : Int)
    omega
/-- what the search finds from u to v -/
theorem gBest {V : zMm} (h : gOk V) {s u v : Int} (hu : 0 ≤ u ∧ u < V 0 0) : (gC V s (-1) u v = 268435456 ∧ (gPs (V 0 5).toNat (vA V) (vB V) v 6 u (2 ^ u.toNat)).foldl (gUp (vG V s) (vM V)) none = none) ∨ (gC V s (-1) u v < 268435456 ∧ (gPs (V 0 5).toNat (vA V) (vB V) v 6 u (2 ^ u.toNat)).foldl (gUp (vG V s) (vM V)) none = some (gTV V s v 6 u) ∧ gWt (vG V s) (gTV V s v 6 u) = gC V s (-1) u v / 1024 ∧ gWt (vM V) (gTV V s v 6 u) = gC V s (-1) u v % 1024 ∧ (gTV V s v 6 u).length < 6 ∧ gWk (V 0 5) (vA V) (vB V) (fun _ => True) (gTV V s v 6 u) u v) := by
  have hb := h.1
  have e : (((V 0 5).toNat : Nat) : Int) = V 0 5 := by omega
  have hc : gCl (V 0 0) ((V 0 5).toNat : Nat) (vA V) (vB V) (vW V s) (fun _ => True) 268435456 6489344 (gC V s (-1)) := by rw [e]; exact gC_cl1 h s
  have hr : gRd (V 0 0) ((V 0 5).toNat : Nat) (vA V) (vB V) (vW V s) := by rw [e]; exact gRd_of h s
  by_cases c : gC V s (-1) u v < 268435456
  · right
    have p8 : ∀ k, k < 6 → (zpc ((2 : Int) ^ k) = 1 ∧ ((0 : Int) ≤ 2 ^ k ∧ (2 : Int) ^ k < 64)) ∧ ∀ j, j < 6 → zbit ((2 : Int) ^ k) (j : Nat) = 1 → j = k := by decide
    obtain ⟨q1, q2⟩ := p8 u.toNat (by omega)
    obtain ⟨L1, L2, h1, h2, h3, h4⟩ := gTr_main (v := v) hc hr 6 u (2 ^ u.toNat) q1.2 hu (by rw [q1.1]; decide) (fun x x0 x1 hx => by
      have := q2 x.toNat (by omega) (by rw [show ((x.toNat : Nat) : Int) = x by omega]; exact hx)
      rw [show x = u by omega]; exact Int.le_refl _) c
    have hall : ∀ x, (x ∈ L1 ∨ x = gTV V s v 6 u ∨ x ∈ L2) → gWk (V 0 5) (vA V) (vB V) (fun _ => True) x u v ∧ x.length < 6 := by
      intro x hx
      have := gPs_wk (N := (V 0 5).toNat) (a := vA V) (b := vB V) (v := v) 6 u (2 ^ u.toNat) x (by
        rw [h1]
        rcases hx with hx | hx | hx
        · exact List.mem_append_left _ hx
        · rw [hx]; exact List.mem_append_right _ List.mem_cons_self
        · exact List.mem_append_right _ (List.mem_cons_of_mem _ hx))
      rw [e] at this
      exact this
    have hw : ∀ x, (x ∈ L1 ∨ x = gTV V s v 6 u ∨ x ∈ L2) → gWt (vW V s) x = 1024 * gWt (vG V s) x + gWt (vM V) x ∧ 0 ≤ gWt (vM V) x ∧ gWt (vM V) x < 1024 := by
      intro x hx
      have := hall x hx
      have a := gWt_M h this.1
      have b := gWt_W (V := V) (s := s) x
      omega
    have t1 := hw (gTV V s v 6 u) (Or.inr (Or.inl rfl))
    have t2 : gWt (vW V s) (gTV V s v 6 u) = gC V s (-1) u v := h2
    refine ⟨c, ?_, by omega, by omega, (hall _ (Or.inr (Or.inl rfl))).2, (hall _ (Or.inr (Or.inl rfl))).1⟩
    rw [h1]
    exact gUp_first hw (fun x hx => by have := h3 x hx; rw [show gWt (vW V s) (gTr (V 0 5).toNat (vA V) (vB V) (vW V s) (gC V s (-1)) v 6 u) = gC V s (-1) u v from h2]; exact this) (fun x hx => by have := h4 x hx; rw [show gWt (vW V s) (gTr (V 0 5).toNat (vA V) (vB V) (vW V s) (gC V s (-1)) v 6 u) = gC V s (-1) u v from h2]; exact this)
  · left
    have bd := gC_bd h (s := s) (x := -1) (p := u) (q := v)
    have f : gC V s (-1) u v = 268435456 := by omega
    refine ⟨f, ?_⟩
    rw [gPs_none hc hr (fun r a b => by have := vW_bd h (s := s) (r := r) a (by omega); omega) (by decide) f (by decide)]
    rfl
/-- the model's best way lies there -/
def gFd (V : zMm) (s u v : Int) (m : zMm) : Prop := (gC V s (-1) u v = 268435456 ∧ m 131 24 = -1) ∨ (gC V s (-1) u v < 268435456 ∧ m 131 24 = (gTV V s v 6 u).length ∧ m 131 25 = gC V s (-1) u v / 1024 ∧ m 131 26 = gC V s (-1) u v % 1024 ∧ (gTV V s v 6 u).length < 6 ∧ ∀ i : Nat, i < (gTV V s v 6 u).length → m 144 i = (gTV V s v 6 u).getD i 0)
theorem gz211 {d : Nat} {m : zMm} {u : Int} {v : Int} {s : Int} {V : zMm} (hV : gOk V) (hM : gMo V m) (hu : 0 ≤ u ∧ u < V 0 0) (hv : 0 ≤ v ∧ v < V 0 0) (hs : 0 ≤ s ∧ s < 256) : zC (d + 8) 211 [.inr (.inr 131), .inl u, .inl v, .inl s] m (fun r' m' => r' = none ∧ gEw m m' ∧ gFd V s u v m') := by
  refine ze211 ?_
  have hb := hV.1
  have p8 : ∀ k, k < 6 → zpc ((2 : Int) ^ k) = 1 ∧ ((0 : Int) ≤ 2 ^ k ∧ (2 : Int) ^ k < 64) := by decide
  have q1 := p8 u.toNat (by omega)
  simp +contextual (disch := (first | omega | assumption | decide)) only [zw211_0, zr_1, zr_3, zr_7, zr_13, zr_34, zr_68, zr_72, zlg_0, zlg_s, zrc_1, zrc_s, zcat_n, zcat_i, zcat_l, zcat_r, zkd_131, Int.cast_ofNat_Int, Int.reduceAdd, zmu_same, zmu_c, zmu_i, false_and, and_false, true_and, and_true, true_or, or_true, false_or, or_false, Option.toList, List.nil_append, List.cons_append, zif0, zif1, zif01, zem1, zem2, Int.reduceEq, Int.reduceLT, Int.reduceLE, Int.reduceNeg, Int.reduceSub, Int.reduceMul, if_true, if_false, not_false_eq_true, not_true_eq_false, true_implies, false_implies, Classical.not_not, Nat.reduceAdd, Nat.reduceLeDiff, zshl_1]
  refine gK (gz210 hV hs hv 6 (d := d) (m := zmu m 131 24 (-1)) (u := u) (met := 2 ^ u.toNat) (n := 0) (tl := 0) (ml := 0) (pre := []) (B := none) (gMo_of hM (fun c i a b => zmu_c (by omega))) hu q1.2 (by rw [q1.1]; decide) (by decide) rfl (fun i hi => absurd hi (by simp)) rfl rfl (by decide) (by decide) zmu_same) rfl rfl (Nat.le_of_ble_eq_true rfl) ?_
  rintro _ m1 ⟨rfl, h1, h2, h3⟩
  (try simp +contextual (disch := (first | omega | assumption | decide)) only [zw211_0, zr_1, zr_3, zr_7, zr_13, zr_34, zr_68, zr_72, zlg_0, zlg_s, zrc_1, zrc_s, zcat_n, zcat_i, zcat_l, zcat_r, zkd_131, Int.cast_ofNat_Int, Int.reduceAdd, zmu_same, zmu_c, zmu_i, false_and, and_false, true_and, and_true, true_or, or_true, false_or, or_false, Option.toList, List.nil_append, List.cons_append, zif0, zif1, zif01, zem1, zem2, Int.reduceEq, Int.reduceLT, Int.reduceLE, Int.reduceNeg, Int.reduceSub, Int.reduceMul, if_true, if_false, not_false_eq_true, not_true_eq_false, true_implies, false_implies, Classical.not_not, Nat.reduceAdd, Nat.reduceLeDiff])
  have e : ((gPs (V 0 5).toNat (vA V) (vB V) v 6 u (2 ^ u.toNat)).map (fun l => [] ++ l)) = gPs (V 0 5).toNat (vA V) (vB V) v 6 u (2 ^ u.toNat) := by
    rw [show (fun l : List Int => [] ++ l) = id from rfl, List.map_id]
  rw [e] at h2
  refine ⟨fun c i hc => ?_, ?_⟩
  · rw [h1 c i hc]
    unfold zmu
    rw [if_neg (by omega)]
  · rcases gBest hV (s := s) (v := v) hu with ⟨b1, b2⟩ | ⟨b1, b2, b3, b4, b5, _⟩
    · rw [b2] at h2
      exact Or.inl ⟨b1, h2⟩
    · rw [b2] at h2
      exact Or.inr ⟨b1, h2.1, by rw [h2.2.1, b3], by rw [h2.2.2.1, b4], b5, h2.2.2.2⟩
theorem gz212 {d : Nat} {m : zMm} {f : Int} {s : Int} {V : zMm} (hV : gOk V) (hM : gMo V m) (hf : 0 ≤ f ∧ f < V 0 6) (hs : 0 ≤ s ∧ s < 256) : zC (d + 9) 212 [.inr (.inr 131), .inl f, .inl s] m (fun r' m' => r' = some (.inl (if gC V s (-1) (vF V f 0) (vF V f 1) = 268435456 then 0 else 1)) ∧ gEw m m' ∧ gFd V s (vF V f 0) (vF V f 1) m') := by
  refine ze212 ?_
  have hb := hV.1
  have b := hV.2.2 f hf.1 hf.2
  simp +contextual (disch := (first | omega | assumption | decide)) only [↓zbrT, ↓zbrF, zw212_0, zw212_1, zw212_2, zw212_3, zr_1, zr_3, zr_7, zr_10, zr_12, zr_16, zr_26, zr_28, zr_54, zr_55, zr_68, zr_73, zr_76, zlg_0, zlg_s, zrc_1, zrc_s, zcat_n, zcat_i, zcat_l, zcat_r, zkd_131, zkd_140, zln_140, zrf_131_19, Int.cast_ofNat_Int, Int.reduceAdd, zbd, zw_id, false_and, and_false, true_and, and_true, true_or, or_true, false_or, or_false, Option.toList, List.nil_append, List.cons_append, zif0, zif1, zif01, zem1, zem2, Int.reduceEq, Int.reduceLT, Int.reduceLE, Int.reduceNeg, Int.reduceSub, Int.reduceMul, if_true, if_false, not_false_eq_true, not_true_eq_false, true_implies, false_implies, Classical.not_not, Nat.reduceAdd, Nat.reduceLeDiff, gM_0 hM, gM_1 hM, gM_2 hM, gM_3 hM, gM_4 hM, gM_5 hM, gM_6 hM, gM_7 hM, gM_8 hM, gM_9 hM, gM_10 hM, gM_r0 hM, gM_r1 hM, gM_r2 hM, gM_r3 hM, gM_f0 hM, gM_f1 hM, gM_f2 hM, gM_f3 hM, gM_f4 hM]
  refine gK (gz211 hV hM b.1 b.2.1 hs) rfl rfl (Nat.le_of_ble_eq_true rfl) ?_
  rintro _ m1 ⟨rfl, h1, h2⟩
  rcases h2 with ⟨b1, b2⟩ | ⟨b1, b2, b3, b4, b5, b6⟩
  · simp +contextual (disch := (first | omega | assumption | decide)) only [↓zbrT, ↓zbrF, zw212_0, zw212_1, zw212_2, zw212_3, zr_1, zr_3, zr_7, zr_10, zr_12, zr_16, zr_26, zr_28, zr_54, zr_55, zr_68, zr_73, zr_76, zlg_0, zlg_s, zrc_1, zrc_s, zcat_n, zcat_i, zcat_l, zcat_r, zkd_131, zkd_140, zln_140, zrf_131_19, Int.cast_ofNat_Int, Int.reduceAdd, zbd, zw_id, false_and, and_false, true_and, and_true, true_or, or_true, false_or, or_false, Option.toList, List.nil_append, List.cons_append, zif0, zif1, zif01, zem1, zem2, Int.reduceEq, Int.reduceLT, Int.reduceLE, Int.reduceNeg, Int.reduceSub, Int.reduceMul, if_true, if_false, not_false_eq_true, not_true_eq_false, true_implies, false_implies, Classical.not_not, Nat.reduceAdd, Nat.reduceLeDiff, b2]
    exact ⟨by rw [if_pos b1], h1, Or.inl ⟨b1, b2⟩⟩
  · simp +contextual (disch := (first | omega | assumption | decide)) only [↓zbrT, ↓zbrF, zw212_0, zw212_1, zw212_2, zw212_3, zr_1, zr_3, zr_7, zr_10, zr_12, zr_16, zr_26, zr_28, zr_54, zr_55, zr_68, zr_73, zr_76, zlg_0, zlg_s, zrc_1, zrc_s, zcat_n, zcat_i, zcat_l, zcat_r, zkd_131, zkd_140, zln_140, zrf_131_19, Int.cast_ofNat_Int, Int.reduceAdd, zbd, zw_id, false_and, and_false, true_and, and_true, true_or, or_true, false_or, or_false, Option.toList, List.nil_append, List.cons_append, zif0, zif1, zif01, zem1, zem2, Int.reduceEq, Int.reduceLT, Int.reduceLE, Int.reduceNeg, Int.reduceSub, Int.reduceMul, if_true, if_false, not_false_eq_true, not_true_eq_false, true_implies, false_implies, Classical.not_not, Nat.reduceAdd, Nat.reduceLeDiff, b2]
    exact ⟨by rw [if_neg (by omega)], h1, Or.inr ⟨b1, b2, b3, b4, b5, b6⟩⟩
theorem gz213 {d : Nat} {m : zMm} {f : Int} {s : Int} {V : zMm} (hV : gOk V) (hM : gMo V m) (hf : 0 ≤ f ∧ f < V 0 6) (hs : 0 ≤ s ∧ s < 256) : zC (d + 10) 213 [.inr (.inr 131), .inl f, .inl s] m (fun r' m' => r' = some (.inl (gFa V s f)) ∧ gEw m m') := by
  refine ze213 ?_
  have hb := hV.1
  have b := hV.2.2 f hf.1 hf.2
  simp +contextual (disch := (first | omega | assumption | decide)) only [↓zbrT, ↓zbrF, zw213_0, zw213_1, zw213_2, zw213_3, zr_1, zr_3, zr_7, zr_10, zr_12, zr_16, zr_26, zr_28, zr_54, zr_61, zr_68, zr_70, zr_73, zlg_0, zlg_s, zrc_1, zrc_s, zcat_n, zcat_i, zcat_l, zcat_r, zkd_131, zkd_140, zln_140, zrf_131_19, Int.cast_ofNat_Int, Int.reduceAdd, zbd, zw_id, false_and, and_false, true_and, and_true, true_or, or_true, false_or, or_false, Option.toList, List.nil_append, List.cons_append, zif0, zif1, zif01, zem1, zem2, Int.reduceEq, Int.reduceLT, Int.reduceLE, Int.reduceNeg, Int.reduceSub, Int.reduceMul, if_true, if_false, not_false_eq_true, not_true_eq_false, true_implies, false_implies, Classical.not_not, Nat.reduceAdd, Nat.reduceLeDiff]
  refine gK (gz212 hV hM hf hs) rfl rfl (Nat.le_of_ble_eq_true rfl) ?_
  rintro _ m1 ⟨rfl, h1, h2⟩
  have hM1 := gEw_mo h1 hM
  rcases h2 with ⟨b1, b2⟩ | ⟨b1, b2, b3, b4, b5, b6⟩
  · simp +contextual (disch := (first | omega | assumption | decide)) only [↓zbrT, ↓zbrF, zw213_0, zw213_1, zw213_2, zw213_3, zr_1, zr_3, zr_7, zr_10, zr_12, zr_16, zr_26, zr_28, zr_54, zr_61, zr_68, zr_70, zr_73, zlg_0, zlg_s, zrc_1, zrc_s, zcat_n, zcat_i, zcat_l, zcat_r, zkd_131, zkd_140, zln_140, zrf_131_19, Int.cast_ofNat_Int, Int.reduceAdd, zbd, zw_id, false_and, and_false, true_and, and_true, true_or, or_true, false_or, or_false, Option.toList, List.nil_append, List.cons_append, zif0, zif1, zif01, zem1, zem2, Int.reduceEq, Int.reduceLT, Int.reduceLE, Int.reduceNeg, Int.reduceSub, Int.reduceMul, if_true, if_false, not_false_eq_true, not_true_eq_false, true_implies, false_implies, Classical.not_not, Nat.reduceAdd, Nat.reduceLeDiff, if_pos b1]
    refine ⟨?_, h1⟩
    unfold gFa
    rw [if_pos (by omega)]
  · have nb : ¬ gC V s (-1) (vF V f 0) (vF V f 1) = 268435456 := by omega
    have bd := gC_bd hV (s := s) (x := -1) (p := vF V f 0) (q := vF V f 1)
    have hd : 0 ≤ gC V s (-1) (vF V f 0) (vF V f 1) / 1024 ∧ gC V s (-1) (vF V f 0) (vF V f 1) / 1024 ≤ 10000 := by omega
    have hm : 0 ≤ vF V f 2 * (gC V s (-1) (vF V f 0) (vF V f 1) / 1024) ∧ vF V f 2 * (gC V s (-1) (vF V f 0) (vF V f 1) / 1024) ≤ 9 * 10000 := ⟨Int.mul_nonneg b.2.2.2.1.1 hd.1, Int.mul_le_mul b.2.2.2.1.2 hd.2 hd.1 (by decide)⟩
    simp +contextual (disch := (first | omega | assumption | decide)) only [↓zbrT, ↓zbrF, zw213_0, zw213_1, zw213_2, zw213_3, zr_1, zr_3, zr_7, zr_10, zr_12, zr_16, zr_26, zr_28, zr_54, zr_61, zr_68, zr_70, zr_73, zlg_0, zlg_s, zrc_1, zrc_s, zcat_n, zcat_i, zcat_l, zcat_r, zkd_131, zkd_140, zln_140, zrf_131_19, Int.cast_ofNat_Int, Int.reduceAdd, zbd, zw_id, false_and, and_false, true_and, and_true, true_or, or_true, false_or, or_false, Option.toList, List.nil_append, List.cons_append, zif0, zif1, zif01, zem1, zem2, Int.reduceEq, Int.reduceLT, Int.reduceLE, Int.reduceNeg, Int.reduceSub, Int.reduceMul, if_true, if_false, not_false_eq_true, not_true_eq_false, true_implies, false_implies, Classical.not_not, Nat.reduceAdd, Nat.reduceLeDiff, if_neg nb, gM_0 hM1, gM_1 hM1, gM_2 hM1, gM_3 hM1, gM_4 hM1, gM_5 hM1, gM_6 hM1, gM_7 hM1, gM_8 hM1, gM_9 hM1, gM_10 hM1, gM_r0 hM1, gM_r1 hM1, gM_r2 hM1, gM_r3 hM1, gM_f0 hM1, gM_f1 hM1, gM_f2 hM1, gM_f3 hM1, gM_f4 hM1, b3]
    refine ⟨?_, h1⟩
    unfold gFa
    rw [if_neg (by omega), Int.mul_comm]
theorem gz214 {d : Nat} {m : zMm} {s : Int} {V : zMm} (hV : gOk V) (hM : gMo V m) (hs : 0 ≤ s ∧ s < 256) : zC (d + 11) 214 [.inr (.inr 131), .inl s] m (fun r' m' => r' = some (.inl (gTk V s)) ∧ gEw m m') := by
  refine ze214 ?_
  have hb := hV.1
  simp +contextual (disch := (first | omega | assumption | decide)) only [↓zbrT, ↓zbrF, zw214_0, zw214_2, zw214_3, zw214_4, zw214_5, zw214_6, zr_1, zr_3, zr_4, zr_7, zr_12, zr_16, zr_26, zr_53, zr_54, zr_56, zr_58, zr_68, zr_70, zr_73, zlg_0, zlg_s, zls_0, zls_1, zls_s, zkl_i, zkl_r, zkl_l, zkl_n, zrc_1, zrc_s, zcat_n, zcat_i, zcat_l, zcat_r, zkd_131, zkd_138, zln_138, zrf_131_17, Int.cast_ofNat_Int, Int.reduceAdd, zbd, zw_id, false_and, and_false, true_and, and_true, true_or, or_true, false_or, or_false, Option.toList, List.nil_append, List.cons_append, zif0, zif1, zif01, zem1, zem2, Int.reduceEq, Int.reduceLT, Int.reduceLE, Int.reduceNeg, Int.reduceSub, Int.reduceMul, if_true, if_false, not_false_eq_true, not_true_eq_false, true_implies, false_implies, Classical.not_not, Nat.reduceAdd, Nat.reduceLeDiff]
  refine zfor (V 0 6) (fun f lc m' => 0 ≤ f ∧ (∃ x4, lc = [some (.inr (.inr 131)), some (.inl s), some (.inl (gSm (fun f => max 0 (gFa V s f)) f.toNat)), some (.inl f), x4]) ∧ gEw m m') ?_ ?_ (i := 0) (by omega) ?_
  · rintro f lc m' hf ⟨h0, ⟨x4, rfl⟩, hE⟩ kk
    have hM1 := gEw_mo hE hM
    have b1 := gTk_bd' hV (s := s) (k := f.toNat) (by omega)
    have b2 := gFa_bd hV (s := s) (f := f) h0 hf
    rw [zw214_1]
    simp +contextual (disch := (first | omega | assumption | decide)) only [↓zbrT, ↓zbrF, zw214_0, zw214_2, zw214_3, zw214_4, zw214_5, zw214_6, zr_1, zr_3, zr_4, zr_7, zr_12, zr_16, zr_26, zr_53, zr_54, zr_56, zr_58, zr_68, zr_70, zr_73, zlg_0, zlg_s, zls_0, zls_1, zls_s, zkl_i, zkl_r, zkl_l, zkl_n, zrc_1, zrc_s, zcat_n, zcat_i, zcat_l, zcat_r, zkd_131, zkd_138, zln_138, zrf_131_17, Int.cast_ofNat_Int, Int.reduceAdd, zbd, zw_id, false_and, and_false, true_and, and_true, true_or, or_true, false_or, or_false, Option.toList, List.nil_append, List.cons_append, zif0, zif1, zif01, zem1, zem2, Int.reduceEq, Int.reduceLT, Int.reduceLE, Int.reduceNeg, Int.reduceSub, Int.reduceMul, if_true, if_false, not_false_eq_true, not_true_eq_false, true_implies, false_implies, Classical.not_not, Nat.reduceAdd, Nat.reduceLeDiff, gM_0 hM1, gM_1 hM1, gM_2 hM1, gM_3 hM1, gM_4 hM1, gM_5 hM1, gM_6 hM1, gM_7 hM1, gM_8 hM1, gM_9 hM1, gM_10 hM1, gM_r0 hM1, gM_r1 hM1, gM_r2 hM1, gM_r3 hM1, gM_f0 hM1, gM_f1 hM1, gM_f2 hM1, gM_f3 hM1, gM_f4 hM1]
    refine gK (gz213 hV hM1 ⟨h0, hf⟩ hs) rfl rfl (Nat.le_of_ble_eq_true rfl) ?_
    rintro _ m2 ⟨rfl, h1⟩
    by_cases c : gFa V s f = -1
    · simp +contextual (disch := (first | omega | assumption | decide)) only [↓zbrT, ↓zbrF, zw214_0, zw214_2, zw214_3, zw214_4, zw214_5, zw214_6, zr_1, zr_3, zr_4, zr_7, zr_12, zr_16, zr_26, zr_53, zr_54, zr_56, zr_58, zr_68, zr_70, zr_73, zlg_0, zlg_s, zls_0, zls_1, zls_s, zkl_i, zkl_r, zkl_l, zkl_n, zrc_1, zrc_s, zcat_n, zcat_i, zcat_l, zcat_r, zkd_131, zkd_138, zln_138, zrf_131_17, Int.cast_ofNat_Int, Int.reduceAdd, zbd, zw_id, false_and, and_false, true_and, and_true, true_or, or_true, false_or, or_false, Option.toList, List.nil_append, List.cons_append, zif0, zif1, zif01, zem1, zem2, Int.reduceEq, Int.reduceLT, Int.reduceLE, Int.reduceNeg, Int.reduceSub, Int.reduceMul, if_true, if_false, not_false_eq_true, not_true_eq_false, true_implies, false_implies, Classical.not_not, Nat.reduceAdd, Nat.reduceLeDiff, c]
      refine kk _ _ ⟨by omega, ⟨some (.inl (-1)), ?_⟩, gEw_tr hE h1⟩
      rw [gSm_s h0, c]; rfl
    · simp +contextual (disch := (first | omega | assumption | decide)) only [↓zbrT, ↓zbrF, zw214_0, zw214_2, zw214_3, zw214_4, zw214_5, zw214_6, zr_1, zr_3, zr_4, zr_7, zr_12, zr_16, zr_26, zr_53, zr_54, zr_56, zr_58, zr_68, zr_70, zr_73, zlg_0, zlg_s, zls_0, zls_1, zls_s, zkl_i, zkl_r, zkl_l, zkl_n, zrc_1, zrc_s, zcat_n, zcat_i, zcat_l, zcat_r, zkd_131, zkd_138, zln_138, zrf_131_17, Int.cast_ofNat_Int, Int.reduceAdd, zbd, zw_id, false_and, and_false, true_and, and_true, true_or, or_true, false_or, or_false, Option.toList, List.nil_append, List.cons_append, zif0, zif1, zif01, zem1, zem2, Int.reduceEq, Int.reduceLT, Int.reduceLE, Int.reduceNeg, Int.reduceSub, Int.reduceMul, if_true, if_false, not_false_eq_true, not_true_eq_false, true_implies, false_implies, Classical.not_not, Nat.reduceAdd, Nat.reduceLeDiff, c]
      refine kk _ _ ⟨by omega, ⟨some (.inl (gFa V s f)), ?_⟩, gEw_tr hE h1⟩
      rw [gSm_s h0, show max 0 (gFa V s f) = gFa V s f by omega]
  · rintro lc m' ⟨h0, ⟨x4, rfl⟩, hE⟩
    have hM1 := gEw_mo hE hM
    rw [zw214_1]
    simp +contextual (disch := (first | omega | assumption | decide)) only [↓zbrT, ↓zbrF, zw214_0, zw214_2, zw214_3, zw214_4, zw214_5, zw214_6, zr_1, zr_3, zr_4, zr_7, zr_12, zr_16, zr_26, zr_53, zr_54, zr_56, zr_58, zr_68, zr_70, zr_73, zlg_0, zlg_s, zls_0, zls_1, zls_s, zkl_i, zkl_r, zkl_l, zkl_n, zrc_1, zrc_s, zcat_n, zcat_i, zcat_l, zcat_r, zkd_131, zkd_138, zln_138, zrf_131_17, Int.cast_ofNat_Int, Int.reduceAdd, zbd, zw_id, false_and, and_false, true_and, and_true, true_or, or_true, false_or, or_false, Option.toList, List.nil_append, List.cons_append, zif0, zif1, zif01, zem1, zem2, Int.reduceEq, Int.reduceLT, Int.reduceLE, Int.reduceNeg, Int.reduceSub, Int.reduceMul, if_true, if_false, not_false_eq_true, not_true_eq_false, true_implies, false_implies, Classical.not_not, Nat.reduceAdd, Nat.reduceLeDiff, gM_0 hM1, gM_1 hM1, gM_2 hM1, gM_3 hM1, gM_4 hM1, gM_5 hM1, gM_6 hM1, gM_7 hM1, gM_8 hM1, gM_9 hM1, gM_10 hM1, gM_r0 hM1, gM_r1 hM1, gM_r2 hM1, gM_r3 hM1, gM_f0 hM1, gM_f1 hM1, gM_f2 hM1, gM_f3 hM1, gM_f4 hM1]
    exact ⟨rfl, hE⟩
  · exact ⟨by decide, ⟨_, rfl⟩, gEw_refl⟩
