/-! ===== words ===== -/
def gSy (k j : Nat) : Int := (zstr.getD k []).getD j 0
def gLn1 (k : Nat) : Nat := (zstr.getD k []).length
def gCc (b : Nat → Int) : Nat → Int
  | 0 => 0
  | n + 1 => 27 * gCc b n + b n - 96
def gWc (k : Nat) : Int := gCc (gSy k) (gLn1 k)
theorem gSy_b : ∀ k, k < 17 → ∀ j, j < gLn1 k → 97 ≤ gSy k j ∧ gSy k j ≤ 122 := by decide
theorem gLn_b : ∀ k, k < 17 → 1 ≤ gLn1 k ∧ gLn1 k ≤ 12 := by decide
theorem gCc_0 {b : Nat → Int} : ∀ n : Nat, (∀ j, j < n → 97 ≤ b j ∧ b j ≤ 122) → 0 ≤ gCc b n ∧ (0 < n → 0 < gCc b n)
  | 0, _ => ⟨Int.le_refl _, fun h => absurd h (by decide)⟩
  | n + 1, h => by
    have i := gCc_0 n (fun j a => h j (by omega))
    have b1 := h n (by omega)
    show 0 ≤ 27 * gCc b n + b n - 96 ∧ (0 < n + 1 → 0 < 27 * gCc b n + b n - 96)
    omega
theorem gCc_u {b c : Nat → Int} : ∀ n k : Nat, (∀ j, j < n → 97 ≤ b j ∧ b j ≤ 122) → (∀ j, j < k → 97 ≤ c j ∧ c j ≤ 122) → gCc b n = gCc c k → n = k ∧ ∀ j, j < n → b j = c j
  | 0, 0, _, _, _ => ⟨rfl, fun j a => by omega⟩
  | 0, k + 1, _, h2, e => by
    have i := (gCc_0 (k + 1) h2).2 (by omega)
    have z : (0 : Int) = gCc c (k + 1) := e
    omega
  | n + 1, 0, h1, _, e => by
    have i := (gCc_0 (n + 1) h1).2 (by omega)
    have z : gCc b (n + 1) = (0 : Int) := e
    omega
  | n + 1, k + 1, h1, h2, e => by
    have z : 27 * gCc b n + b n - 96 = 27 * gCc c k + c k - 96 := e
    have x := h1 n (by omega)
    have y := h2 k (by omega)
    have i := gCc_u n k (fun j a => h1 j (by omega)) (fun j a => h2 j (by omega)) (by omega)
    refine ⟨by omega, fun j hj => ?_⟩
    by_cases q : j = n
    · rw [q]
      have : n = k := i.1
      have q2 : b n = c k := by omega
      rw [q2, this]
    · exact i.2 j (by omega)
theorem gCc_c {b c : Nat → Int} : ∀ n : Nat, (∀ j, j < n → b j = c j) → gCc b n = gCc c n
  | 0, _ => rfl
  | n + 1, h => by
    show 27 * gCc b n + b n - 96 = 27 * gCc c n + c n - 96
    rw [gCc_c n (fun j a => h j (by omega)), h n (by omega)]
theorem gCd_c {T : zMm} {s : Int} : ∀ n : Nat, gCd T s n = if 12 < n then -1 else gCc (fun j => T 1 (s + j)) n
  | 0 => rfl
  | n + 1 => by
    show (if 11 < (n : Int) then -1 else 27 * gCd T s n + T 1 (s + n) - 96) = _
    by_cases c : 12 < n + 1
    · rw [if_pos (by omega), if_pos c]
    · rw [if_neg (by omega), if_neg c, gCd_c n, if_neg (by omega)]
      rfl
/-- the word's code is k's: the word is k -/
theorem gCd_w {T : zMm} {s : Int} {n k : Nat} (hk : k < 17) (h : ∀ j : Nat, j < n → 97 ≤ T 1 (s + j) ∧ T 1 (s + j) ≤ 122) : gCd T s n = gWc k ↔ (n = gLn1 k ∧ ∀ j : Nat, j < n → T 1 (s + j) = gSy k j) := by
  have l := gLn_b k hk
  have b := gSy_b k hk
  have p := (gCc_0 (gLn1 k) b).1
  rw [gCd_c]
  constructor
  · intro e
    by_cases c : 12 < n
    · rw [if_pos c] at e
      unfold gWc at e
      omega
    · rw [if_neg c] at e
      exact gCc_u n (gLn1 k) h b e
  · rintro ⟨e, q⟩
    rw [if_neg (by omega), e]
    exact gCc_c _ (fun j hj => q j (by omega))
theorem zq1001 {d : Nat} {m : zMm} {a : Int} {rest : List zV} {k : List zV → zMm → Prop} {w : Nat} (hw : w < 17) (ha : a = -10 - (w : Int)) : zcl (zEx (d + 1)) 1001 1 (.inr (.inr a) :: rest) m k = (zcat rest ≤ 8 ∧ k (.inl (gLn1 w) :: rest) m) :=
  zcl_eq (as := [.inr (.inr a)]) (r := some (.inl (gLn1 w))) (m' := m) (show zEx (d + 1) 1001 _ m _ m from Or.inl ⟨by decide, rfl, w, hw, ha, rfl⟩) rfl rfl
theorem zq1002 {d : Nat} {m : zMm} {a i : Int} {rest : List zV} {k : List zV → zMm → Prop} {w : Nat} (hw : w < 17) (ha : a = -10 - (w : Int)) (hi : 0 ≤ i ∧ i < (gLn1 w : Int)) : zcl (zEx (d + 1)) 1002 2 (.inl i :: .inr (.inr a) :: rest) m k = (zcat rest ≤ 8 ∧ k (.inl (gSy w i.toNat) :: rest) m) :=
  zcl_eq (as := [.inr (.inr a), .inl i]) (r := some (.inl (gSy w i.toNat))) (m' := m) (show zEx (d + 1) 1002 _ m _ m from Or.inl ⟨by decide, rfl, w, hw, ha, hi, rfl⟩) rfl rfl
theorem gEd_b {T : zMm} {q : Int} (h : q ≤ T 0 0) : gSt1 T q ≤ gEd T q ∧ gEd T q ≤ T 0 0 ∧ (gKi T q ≠ 0 → gSt1 T q < gEd T q) ∧ (gKi T q = 0 ↔ gSt1 T q = T 0 0) := by
  have s := gSt1_s h
  have E1 := gEnd_s (T := T) (P := gLt) s.1.2
  have E2 := gEnd_s (T := T) (P := gDi) s.1.2
  by_cases c : gSt1 T q = T 0 0
  · have k0 : gKi T q = 0 := by unfold gKi; rw [if_pos c]
    unfold gEd
    rw [if_pos k0]
    exact ⟨Int.le_refl _, s.1.2, fun z => absurd k0 z, ⟨fun _ => c, fun _ => k0⟩⟩
  · by_cases cl : gLt (T 1 (gSt1 T q)) = true
    · have k1 : gKi T q = 1 := by unfold gKi; rw [if_neg c, if_pos cl]
      have : gEnd T gLt (gSt1 T q) ≠ gSt1 T q := fun z => by
        rcases E1.2.2 with y | y
        · exact c (by omega)
        · rw [z, cl] at y; exact absurd y (by decide)
      unfold gEd
      rw [if_neg (by omega), if_pos k1]
      refine ⟨E1.1.1, E1.1.2, fun _ => by omega, ?_⟩
      omega
    · by_cases cd : gDi (T 1 (gSt1 T q)) = true
      · have k1 : gKi T q = 2 := by unfold gKi; rw [if_neg c, if_neg cl, if_pos cd]
        have : gEnd T gDi (gSt1 T q) ≠ gSt1 T q := fun z => by
          rcases E2.2.2 with y | y
          · exact c (by omega)
          · rw [z, cd] at y; exact absurd y (by decide)
        unfold gEd
        rw [if_neg (by omega), if_neg (by omega), if_pos k1]
        refine ⟨E2.1.1, E2.1.2, fun _ => by omega, ?_⟩
        omega
      · have k2 : gKi T q = 3 ∨ gKi T q = 4 := by
          unfold gKi
          rw [if_neg c, if_neg cl, if_neg cd]
          split
          · exact Or.inl rfl
          · exact Or.inr rfl
        unfold gEd
        rw [if_neg (by omega), if_neg (by omega), if_neg (by omega)]
        omega
/-! the parser's state: (position, fault, place) -/
def pBl (T : zMm) (c : Int) (s : Int × Int × Int) : Int × Int × Int := if s.2.1 = 0 then (s.1, c, gSt1 T s.1) else s
def pAd (T : zMm) (s : Int × Int × Int) : Int × Int × Int := (gEd T s.1, s.2)
def pIs (T : zMm) (w : Int) (s : Int × Int × Int) : Bool := decide (s.2.1 = 0 ∧ gKi T s.1 = 1 ∧ gCo1 T s.1 = w)
def pTw (T : zMm) (w : Int) (s : Int × Int × Int) : Int × Int × Int := if pIs T w s then pAd T s else pBl T 1 s
def pIn (T : zMm) (lo hi : Int) (s : Int × Int × Int) : Bool := decide ((s.2.1 = 0 ∧ gKi T s.1 = 2) ∧ lo ≤ gVl T s.1 ∧ gVl T s.1 ≤ hi)
def pNu (T : zMm) (lo hi : Int) (s : Int × Int × Int) : Int × Int × Int := if pIn T lo hi s then pAd T s else if s.2.1 = 0 ∧ gKi T s.1 = 2 then pBl T 2 s else pBl T 1 s
def pVa (T : zMm) (lo hi e : Int) (s : Int × Int × Int) : Int := if pIn T lo hi s then gVl T s.1 else e
def pDn (T : zMm) (x : Int) (s : Int × Int × Int) : Int × Int × Int := if (s.2.1 = 0 ∧ gKi T s.1 = 2) ∧ gVl T s.1 = x then pBl T 2 s else s
def pSg (T : zMm) (s : Int × Int × Int) : Int × Int × Int := if s.2.1 = 0 ∧ gKi T s.1 = 3 then pAd T s else pBl T 1 s
theorem pIs_t {T : zMm} {w : Int} {s : Int × Int × Int} : pIs T w s = true ↔ (s.2.1 = 0 ∧ gKi T s.1 = 1 ∧ gCo1 T s.1 = w) := decide_eq_true_iff
theorem pIn_t {T : zMm} {lo hi : Int} {s : Int × Int × Int} : pIn T lo hi s = true ↔ ((s.2.1 = 0 ∧ gKi T s.1 = 2) ∧ lo ≤ gVl T s.1 ∧ gVl T s.1 ≤ hi) := decide_eq_true_iff
/-- the class follows -/
def gPc (T : zMm) (s : Int × Int × Int) (m : zMm) : Prop := gTp T m ∧ gTq T s.1 m ∧ m 1 1 = s.2.1 ∧ m 1 2 = s.2.2 ∧ (0 ≤ s.1 ∧ s.1 ≤ T 0 0)
def gFp (m m' : zMm) : Prop := ∀ c i, ¬ (c = 1 ∧ i ≠ 0) → m' c i = m c i
theorem gFp_refl {m : zMm} : gFp m m := fun _ _ _ => rfl
theorem gFp_tr {m m' m'' : zMm} (h1 : gFp m m') (h2 : gFp m' m'') : gFp m m'' := fun c i h => by rw [h2 c i h, h1 c i h]
theorem zq61 {d : Nat} {m : zMm} {a : Int} {rest : List zV} {k : List zV → zMm → Prop} {T : zMm} {s : Int × Int × Int} {w : Nat} (hk : gTo1 T) (hw : w < 17) (ha : a = -10 - (w : Int)) (hp : gPc T s m) : zcl (zEx (d + 3)) 61 2 (.inr (.inr a) :: .inr (.inr 1) :: rest) m k = (zcat rest ≤ 8 ∧ k (.inl (if pIs T (gWc w) s then 1 else 0) :: rest) m) := by
  refine zcl_eq (as := [.inr (.inr 1), .inr (.inr a)]) (r := some (.inl (if pIs T (gWc w) s then 1 else 0))) (zC_eq.mp (ze61 ?_)) rfl rfl
  have hb := hk.1
  obtain ⟨ht, ⟨q4, q5, q6, q7⟩, f1, f2, hq⟩ := hp
  have eb := gEd_b hq.2
  have ss := gSt1_s hq.2
  by_cases c0 : s.2.1 = 0
  · rw [c0] at f1
    by_cases c1 : gKi T s.1 = 1
    · rw [c1] at q5
      have ed : gEd T s.1 = gEnd T gLt (gSt1 T s.1) := by
        unfold gEd
        rw [if_neg (by omega), if_pos c1]
      have E := gEnd_s (T := T) (P := gLt) ss.1.2
      have lt : ∀ j : Nat, j < (gEd T s.1 - gSt1 T s.1).toNat → 97 ≤ T 1 (gSt1 T s.1 + j) ∧ T 1 (gSt1 T s.1 + j) ≤ 122 := fun j hj => gLt_t.mp (E.2.1 _ (by omega) (by omega))
      have W := gCd_w (k := w) hw lt
      have co : gCo1 T s.1 = gCd T (gSt1 T s.1) (gEd T s.1 - gSt1 T s.1).toNat := by
        unfold gCo1
        rw [if_pos c1]
      rw [← co] at W
      have lw := gLn_b w hw
      by_cases cl : gEd T s.1 - gSt1 T s.1 = (gLn1 w : Int)
      · have cn : (gEd T s.1 - gSt1 T s.1).toNat = gLn1 w := by omega
        rw [cn] at W lt
        simp +contextual (disch := (first | omega | assumption | decide)) only [↓zbrT, ↓zbrF, zw61_0, zw61_1, zw61_2, zw61_3, zw61_4, zw61_6, zw61_7, zw61_8, zw61_9, zr_1, zr_3, zr_4, zr_7, zr_10, zr_26, zr_27, zr_53, zr_54, zr_55, zr_56, zr_58, zr_62, zr_68, zr_73, zr_76, zlg_0, zlg_s, zls_0, zls_1, zls_s, zkl_i, zkl_r, zkl_l, zkl_n, zrc_1, zrc_s, zcat_n, zcat_i, zcat_l, zcat_r, zkd_1, Int.cast_ofNat_Int, Int.reduceAdd, zw_id, false_and, and_false, true_and, and_true, true_or, or_true, false_or, or_false, Option.toList, List.nil_append, List.cons_append, zif0, zif1, zif01, zem1, zem2, Int.reduceEq, Int.reduceLT, Int.reduceLE, Int.reduceNeg, Int.reduceSub, Int.reduceMul, if_true, if_false, not_false_eq_true, not_true_eq_false, true_implies, false_implies, Classical.not_not, Nat.reduceAdd, Nat.reduceLeDiff, f1, q5, q4, q6, cl, zq1001 hw ha]
        refine zfor (gLn1 w : Int) (fun i lc m' => 0 ≤ i ∧ lc = [some (.inr (.inr 1)), some (.inr (.inr a)), some (.inl i)] ∧ m' = m ∧ ∀ j : Nat, (j : Int) < i → T 1 (gSt1 T s.1 + j) = gSy w j) ?_ ?_ (i := 0) (by omega) ?_
        · rintro i lc m' hi ⟨h0, rfl, rfl, hl⟩ kk
          have l1 := lt i.toNat (by omega)
          rw [show ((i.toNat : Nat) : Int) = i by omega] at l1
          have ba : gBa T (gSt1 T s.1 + i) = T 1 (gSt1 T s.1 + i) := by
            unfold gBa gUb
            rw [if_pos (by omega), if_neg (by omega)]
          have hi' : 0 ≤ i ∧ i < (gLn1 w : Int) := ⟨h0, hi⟩
          rw [zw61_5]
          by_cases ce : T 1 (gSt1 T s.1 + i) = gSy w i.toNat
          · simp +contextual (disch := (first | omega | assumption | decide)) only [↓zbrT, ↓zbrF, zw61_0, zw61_1, zw61_2, zw61_3, zw61_4, zw61_6, zw61_7, zw61_8, zw61_9, zr_1, zr_3, zr_4, zr_7, zr_10, zr_26, zr_27, zr_53, zr_54, zr_55, zr_56, zr_58, zr_62, zr_68, zr_73, zr_76, zlg_0, zlg_s, zls_0, zls_1, zls_s, zkl_i, zkl_r, zkl_l, zkl_n, zrc_1, zrc_s, zcat_n, zcat_i, zcat_l, zcat_r, zkd_1, Int.cast_ofNat_Int, Int.reduceAdd, zw_id, false_and, and_false, true_and, and_true, true_or, or_true, false_or, or_false, Option.toList, List.nil_append, List.cons_append, zif0, zif1, zif01, zem1, zem2, Int.reduceEq, Int.reduceLT, Int.reduceLE, Int.reduceNeg, Int.reduceSub, Int.reduceMul, if_true, if_false, not_false_eq_true, not_true_eq_false, true_implies, false_implies, Classical.not_not, Nat.reduceAdd, Nat.reduceLeDiff, q6, zq1001 hw ha, zq62T hk ht, ba, zq1002 hw ha hi', ce]
            refine kk _ _ ⟨by omega, rfl, rfl, fun j hj => ?_⟩
            by_cases ej : (j : Int) = i
            · rw [ej, ce, ← ej]; rfl
            · exact hl j (by omega)
          · have np : ¬ pIs T (gWc w) s = true := fun z => ce (by
              have := (W.mp (pIs_t.mp z).2.2).2 i.toNat (by omega)
              rwa [show ((i.toNat : Nat) : Int) = i by omega] at this)
            rw [if_neg np]
            simp +contextual (disch := (first | omega | assumption | decide)) only [↓zbrT, ↓zbrF, zw61_0, zw61_1, zw61_2, zw61_3, zw61_4, zw61_6, zw61_7, zw61_8, zw61_9, zr_1, zr_3, zr_4, zr_7, zr_10, zr_26, zr_27, zr_53, zr_54, zr_55, zr_56, zr_58, zr_62, zr_68, zr_73, zr_76, zlg_0, zlg_s, zls_0, zls_1, zls_s, zkl_i, zkl_r, zkl_l, zkl_n, zrc_1, zrc_s, zcat_n, zcat_i, zcat_l, zcat_r, zkd_1, Int.cast_ofNat_Int, Int.reduceAdd, zw_id, false_and, and_false, true_and, and_true, true_or, or_true, false_or, or_false, Option.toList, List.nil_append, List.cons_append, zif0, zif1, zif01, zem1, zem2, Int.reduceEq, Int.reduceLT, Int.reduceLE, Int.reduceNeg, Int.reduceSub, Int.reduceMul, if_true, if_false, not_false_eq_true, not_true_eq_false, true_implies, false_implies, Classical.not_not, Nat.reduceAdd, Nat.reduceLeDiff, q6, zq1001 hw ha, zq62T hk ht, ba, zq1002 hw ha hi', ce]
        · rintro lc m' ⟨h0, rfl, rfl, hl⟩
          have yp : pIs T (gWc w) s = true := pIs_t.mpr ⟨c0, c1, W.mpr ⟨rfl, fun j hj => hl j (by omega)⟩⟩
          rw [zw61_5, if_pos yp]
          simp +contextual (disch := (first | omega | assumption | decide)) only [↓zbrT, ↓zbrF, zw61_0, zw61_1, zw61_2, zw61_3, zw61_4, zw61_6, zw61_7, zw61_8, zw61_9, zr_1, zr_3, zr_4, zr_7, zr_10, zr_26, zr_27, zr_53, zr_54, zr_55, zr_56, zr_58, zr_62, zr_68, zr_73, zr_76, zlg_0, zlg_s, zls_0, zls_1, zls_s, zkl_i, zkl_r, zkl_l, zkl_n, zrc_1, zrc_s, zcat_n, zcat_i, zcat_l, zcat_r, zkd_1, Int.cast_ofNat_Int, Int.reduceAdd, zw_id, false_and, and_false, true_and, and_true, true_or, or_true, false_or, or_false, Option.toList, List.nil_append, List.cons_append, zif0, zif1, zif01, zem1, zem2, Int.reduceEq, Int.reduceLT, Int.reduceLE, Int.reduceNeg, Int.reduceSub, Int.reduceMul, if_true, if_false, not_false_eq_true, not_true_eq_false, true_implies, false_implies, Classical.not_not, Nat.reduceAdd, Nat.reduceLeDiff, zq1001 hw ha]
        · exact ⟨by decide, rfl, rfl, fun j hj => by omega⟩
      · rw [if_neg (fun z => cl (by have := (W.mp (pIs_t.mp z).2.2).1; omega))]
        simp +contextual (disch := (first | omega | assumption | decide)) only [↓zbrT, ↓zbrF, zw61_0, zw61_1, zw61_2, zw61_3, zw61_4, zw61_6, zw61_7, zw61_8, zw61_9, zr_1, zr_3, zr_4, zr_7, zr_10, zr_26, zr_27, zr_53, zr_54, zr_55, zr_56, zr_58, zr_62, zr_68, zr_73, zr_76, zlg_0, zlg_s, zls_0, zls_1, zls_s, zkl_i, zkl_r, zkl_l, zkl_n, zrc_1, zrc_s, zcat_n, zcat_i, zcat_l, zcat_r, zkd_1, Int.cast_ofNat_Int, Int.reduceAdd, zw_id, false_and, and_false, true_and, and_true, true_or, or_true, false_or, or_false, Option.toList, List.nil_append, List.cons_append, zif0, zif1, zif01, zem1, zem2, Int.reduceEq, Int.reduceLT, Int.reduceLE, Int.reduceNeg, Int.reduceSub, Int.reduceMul, if_true, if_false, not_false_eq_true, not_true_eq_false, true_implies, false_implies, Classical.not_not, Nat.reduceAdd, Nat.reduceLeDiff, f1, q5, q4, q6, cl, zq1001 hw ha]
    · rw [if_neg (fun z => c1 (pIs_t.mp z).2.1)]
      simp +contextual (disch := (first | omega | assumption | decide)) only [↓zbrT, ↓zbrF, zw61_0, zw61_1, zw61_2, zw61_3, zw61_4, zw61_6, zw61_7, zw61_8, zw61_9, zr_1, zr_3, zr_4, zr_7, zr_10, zr_26, zr_27, zr_53, zr_54, zr_55, zr_56, zr_58, zr_62, zr_68, zr_73, zr_76, zlg_0, zlg_s, zls_0, zls_1, zls_s, zkl_i, zkl_r, zkl_l, zkl_n, zrc_1, zrc_s, zcat_n, zcat_i, zcat_l, zcat_r, zkd_1, Int.cast_ofNat_Int, Int.reduceAdd, zw_id, false_and, and_false, true_and, and_true, true_or, or_true, false_or, or_false, Option.toList, List.nil_append, List.cons_append, zif0, zif1, zif01, zem1, zem2, Int.reduceEq, Int.reduceLT, Int.reduceLE, Int.reduceNeg, Int.reduceSub, Int.reduceMul, if_true, if_false, not_false_eq_true, not_true_eq_false, true_implies, false_implies, Classical.not_not, Nat.reduceAdd, Nat.reduceLeDiff, f1, q5]
  · rw [if_neg (fun z => c0 (pIs_t.mp z).1)]
    simp +contextual (disch := (first | omega | assumption | decide)) only [↓zbrT, ↓zbrF, zw61_0, zw61_1, zw61_2, zw61_3, zw61_4, zw61_6, zw61_7, zw61_8, zw61_9, zr_1, zr_3, zr_4, zr_7, zr_10, zr_26, zr_27, zr_53, zr_54, zr_55, zr_56, zr_58, zr_62, zr_68, zr_73, zr_76, zlg_0, zlg_s, zls_0, zls_1, zls_s, zkl_i, zkl_r, zkl_l, zkl_n, zrc_1, zrc_s, zcat_n, zcat_i, zcat_l, zcat_r, zkd_1, Int.cast_ofNat_Int, Int.reduceAdd, zw_id, false_and, and_false, true_and, and_true, true_or, or_true, false_or, or_false, Option.toList, List.nil_append, List.cons_append, zif0, zif1, zif01, zem1, zem2, Int.reduceEq, Int.reduceLT, Int.reduceLE, Int.reduceNeg, Int.reduceSub, Int.reduceMul, if_true, if_false, not_false_eq_true, not_true_eq_false, true_implies, false_implies, Classical.not_not, Nat.reduceAdd, Nat.reduceLeDiff, f1]
