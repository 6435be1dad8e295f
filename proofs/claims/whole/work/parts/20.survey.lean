/-! ===== Atlas.forget, survey, weigh: tables of roads ===== -/
/-- the caches emptied -/
def gfor (m : zMm) : zMm := gfil (zmu m 20 5 (-1)) 40 256 (-1)
theorem ga6 {d : Nat} {m : zMm} : zEx (d + 2) 6 [.inr (.inr 20)] m none (gfor m) := by
  refine zC_eq.mp (ze6 ?_)
  simp +contextual (disch := (first | omega | rfl)) only [zw6_0, zr_3, zr_7, zr_12, zr_13, zr_69, zr_72, zlg_0, zlg_s, zcat_n, zcat_i, zcat_l, zcat_r, zkd_20, zkd_40, zln_40, zrf_20_3, Int.cast_ofNat_Int, Int.reduceAdd, zmu_same, zmu_c, zmu_i, false_and, and_false, true_and, and_true, true_or, or_true, false_or, or_false, Option.toList, List.nil_append, List.cons_append, zif0, zif1, zif01, zem1, zem2, Int.reduceEq, Int.reduceLT, Int.reduceLE, Int.reduceNeg, Int.reduceSub, Int.reduceMul, if_true, if_false, not_false_eq_true, not_true_eq_false, true_implies, false_implies, Classical.not_not, Nat.reduceAdd, Nat.reduceLeDiff, zq4 (c := 40) (L := 256) rfl rfl (by decide)]
  rfl
theorem zq6 {d : Nat} {m : zMm} {rest : List zV} {k : List zV → zMm → Prop} : zcl (zEx (d + 2)) 6 1 (.inr (.inr 20) :: rest) m k = (zcat rest ≤ 8 ∧ k rest (gfor m)) := zcl_eq (as := [.inr (.inr 20)]) (r := none) ga6 rfl rfl
/-- a table of roads, road r from a r to b r of weight w r if o r -/
def gJ (far : Int) (a b w : Int → Int) (o : Int → Prop) [DecidablePred o] : Nat → Int → Int → Int
  | 0, p, q => if p = q then 0 else far
  | r + 1, p, q => if o r ∧ ((p = a r ∧ q = b r) ∨ (p = b r ∧ q = a r)) then min (w r) (gJ far a b w o r (a r) (b r)) else gJ far a b w o r p q
theorem gJ_sym {far : Int} {a b w : Int → Int} {o : Int → Prop} [DecidablePred o] : ∀ (r : Nat) (p q : Int), gJ far a b w o r p q = gJ far a b w o r q p
  | 0, p, q => by
    show (if p = q then 0 else far) = if q = p then 0 else far
    by_cases h : p = q
    · rw [if_pos h, if_pos h.symm]
    · rw [if_neg h, if_neg (fun z => h z.symm)]
  | r + 1, p, q => by
    show (if o r ∧ ((p = a r ∧ q = b r) ∨ (p = b r ∧ q = a r)) then min (w r) (gJ far a b w o r (a r) (b r)) else gJ far a b w o r p q) = if o r ∧ ((q = a r ∧ p = b r) ∨ (q = b r ∧ p = a r)) then min (w r) (gJ far a b w o r (a r) (b r)) else gJ far a b w o r q p
    by_cases h : o r ∧ ((p = a r ∧ q = b r) ∨ (p = b r ∧ q = a r))
    · rw [if_pos h, if_pos ⟨h.1, by omega⟩]
    · rw [if_neg h, if_neg (fun z => h ⟨z.1, by omega⟩)]
      exact gJ_sym r p q
theorem gJ_good {far : Int} {a b w : Int → Int} {o : Int → Prop} [DecidablePred o] {N : Nat} (hf : 0 ≤ far) (h : ∀ r : Nat, r < N → 0 ≤ w r ∧ (o r → a r ≠ b r)) : ∀ r : Nat, r ≤ N → gG (gJ far a b w o r) far
  | 0, _ => by
    refine ⟨fun p => if_pos rfl, fun p q => ?_⟩
    show 0 ≤ (if p = q then (0 : Int) else far) ∧ (if p = q then (0 : Int) else far) ≤ far
    split <;> omega
  | r + 1, hr => by
    obtain ⟨h1, h2⟩ := gJ_good hf h r (by omega)
    obtain ⟨a3, hab⟩ := h r (by omega)
    refine ⟨fun p => ?_, fun p q => ?_⟩
    · unfold gJ
      rw [if_neg, h1 p]
      rintro ⟨z1, z2⟩
      have := hab z1
      omega
    · unfold gJ
      have a1 := h2 p q
      have a2 := h2 (a r) (b r)
      split <;> omega
/-- a whole table in memory -/
def gTab (m0 : zMm) (c : Int) (T : Int → Int → Int) : zMm := fun c' i' => if c' = c ∧ 0 ≤ i' ∧ i' < 36 then T (i' / 6) (i' % 6) else m0 c' i'
theorem gTab_at {m0 : zMm} {c : Int} {T : Int → Int → Int} {p q : Int} (hp : 0 ≤ p ∧ p < 6) (hq : 0 ≤ q ∧ q < 6) : gTab m0 c T c (p * 6 + q) = T p q := by
  unfold gTab
  rw [if_pos (by omega), show (p * 6 + q) / 6 = p by omega, show (p * 6 + q) % 6 = q by omega]
theorem gTab_o {m0 : zMm} {c : Int} {T : Int → Int → Int} {c' i' : Int} (h : c' ≠ c) : gTab m0 c T c' i' = m0 c' i' := by
  unfold gTab
  rw [if_neg (fun q => h q.1)]
theorem gclr_tab {m : zMm} {c : Int} {a b w : Int → Int} {o : Int → Prop} [DecidablePred o] : gclr m c 6 = gTab m c (gJ 268435456 a b w o 0) := by
  funext c' i'
  simp only [gclr, gTab, gJ]
  (repeat' split) <;> (first | rfl | omega | (exfalso; omega))
theorem gjoi_tab {m : zMm} {c : Int} {a b w : Int → Int} {o : Int → Prop} [DecidablePred o] {r : Nat} (ho : o r) (ha : 0 ≤ a r ∧ a r < 6) (hb : 0 ≤ b r ∧ b r < 6) : gjoi (gTab m c (gJ 268435456 a b w o r)) c (a r) (b r) (w r) = gTab m c (gJ 268435456 a b w o (r + 1)) := by
  funext c' i'
  unfold gjoi
  rw [gTab_at ha hb]
  by_cases h1 : c' = c ∧ 0 ≤ i' ∧ i' < 36
  · have e1 : gTab m c (gJ 268435456 a b w o r) c' i' = gJ 268435456 a b w o r (i' / 6) (i' % 6) := by unfold gTab; rw [if_pos h1]
    have e2 : gTab m c (gJ 268435456 a b w o (r + 1)) c' i' = gJ 268435456 a b w o (r + 1) (i' / 6) (i' % 6) := by unfold gTab; rw [if_pos h1]
    rw [e1, e2]
    show _ = if o r ∧ ((i' / 6 = a r ∧ i' % 6 = b r) ∨ (i' / 6 = b r ∧ i' % 6 = a r)) then min (w r) (gJ 268435456 a b w o r (a r) (b r)) else gJ 268435456 a b w o r (i' / 6) (i' % 6)
    by_cases h2 : i' = a r * 6 + b r ∨ i' = b r * 6 + a r
    · rw [if_pos ⟨h1.1, h2⟩, if_pos ⟨ho, by omega⟩]
    · rw [if_neg (fun z => h2 z.2), if_neg (fun z => h2 (by omega))]
  · rw [if_neg (by omega)]
    unfold gTab
    rw [if_neg h1, if_neg h1]
theorem zq10 {d : Nat} {m : zMm} {c n : Int} {T : Int → Int → Int} {rest : List zV} {k : List zV → zMm → Prop} (hc : zkd c = 1) (hl : zln c = 36) (hn : m 21 1 = n) (h0 : 0 ≤ n ∧ n ≤ 6) (hc21 : (21 : Int) ≠ c) (hT : gG T 268435456) (hm : ∀ p q, 0 ≤ p → p < n → 0 ≤ q → q < n → m c (p * 6 + q) = T p q) : zcl (zEx (d + 2)) 10 2 (.inr (.inr c) :: .inr (.inr 20) :: rest) m k = (zcat rest ≤ 8 ∧ k rest (gTb m c T n.toNat 0 0 n)) := zcl_eq (as := [.inr (.inr 20), .inr (.inr c)]) (r := none) (ga10 hc hl hn h0 hc21 hT hm) rfl rfl
theorem gfor_o {m : zMm} {c' i' : Int} (h1 : c' ≠ 40) (h2 : ¬ (c' = 20 ∧ i' = 5)) : gfor m c' i' = m c' i' := by
  unfold gfor gfil zmu
  rw [if_neg (fun q => h1 q.1), if_neg h2]
/-- the table of miles of the roads themselves -/
def gMi (m : zMm) : Int → Int → Int := gJ 268435456 (fun r => m (24 + r) 0) (fun r => m (24 + r) 1) (fun r => m (24 + r) 2) (fun _ => True) (m 21 8).toNat
/-- what is needed of the roads of the shire in use -/
def gRok (m : zMm) : Prop := (0 ≤ m 21 8 ∧ m 21 8 ≤ 8) ∧ (0 ≤ m 21 1 ∧ m 21 1 ≤ 6) ∧ ∀ r, 0 ≤ r → r < m 21 8 → (0 ≤ m (24 + r) 0 ∧ m (24 + r) 0 < m 21 1) ∧ (0 ≤ m (24 + r) 1 ∧ m (24 + r) 1 < m 21 1) ∧ m (24 + r) 0 ≠ m (24 + r) 1 ∧ 1 ≤ m (24 + r) 2 ∧ m (24 + r) 2 ≤ 20
