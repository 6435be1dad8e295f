/-! ===== Atlas.close: all ways through the first k places ===== -/
def gF (T : Int → Int → Int) : Nat → Int → Int → Int
  | 0, p, q => T p q
  | k + 1, p, q => min (gF T k p q) (gF T k p k + gF T k k q)
/-- a good table: 0 to itself, never below 0, at most far -/
def gG (T : Int → Int → Int) (far : Int) : Prop := (∀ p, T p p = 0) ∧ ∀ p q, 0 ≤ T p q ∧ T p q ≤ far
theorem gF_good {T : Int → Int → Int} {far : Int} (h : gG T far) : ∀ k, gG (gF T k) far
  | 0 => h
  | k + 1 => by
    obtain ⟨h1, h2⟩ := gF_good h k
    refine ⟨fun p => ?_, fun p q => ?_⟩
    · have a := h2 p k
      have b := h2 k p
      show min _ _ = 0
      rw [h1 p]; omega
    · have a := h2 p q
      have b := h2 p k
      have c := h2 k q
      show 0 ≤ min _ _ ∧ min _ _ ≤ far
      omega
theorem gF_row {T : Int → Int → Int} {far : Int} (h : gG T far) (k : Nat) (q : Int) : gF T (k + 1) k q = gF T k k q := by
  have h1 := (gF_good h k).1 k
  show min (gF T k k q) (gF T k k k + gF T k k q) = _
  rw [h1]; omega
theorem gF_col {T : Int → Int → Int} {far : Int} (h : gG T far) (k : Nat) (p : Int) : gF T (k + 1) p k = gF T k p k := by
  have h1 := (gF_good h k).1 k
  show min (gF T k p k) (gF T k p k + gF T k k k) = _
  rw [h1]; omega
/-- the table in memory while pass k is at row a, place b -/
def gTb (m0 : zMm) (c : Int) (T : Int → Int → Int) (k : Nat) (a b n : Int) : zMm := fun c' i' => if c' = c ∧ 0 ≤ i' ∧ i' < 36 ∧ i' / 6 < n ∧ i' % 6 < n then (if i' / 6 < a ∨ (i' / 6 = a ∧ i' % 6 < b) then gF T (k + 1) (i' / 6) (i' % 6) else gF T k (i' / 6) (i' % 6)) else m0 c' i'
theorem gTb_at {m0 : zMm} {c : Int} {T : Int → Int → Int} {k : Nat} {a b n p q : Int} (hp : 0 ≤ p ∧ p < n) (hq : 0 ≤ q ∧ q < n) (hn : n ≤ 6) : gTb m0 c T k a b n c (p * 6 + q) = if p < a ∨ (p = a ∧ q < b) then gF T (k + 1) p q else gF T k p q := by
  have e1 : (p * 6 + q) / 6 = p := by omega
  have e2 : (p * 6 + q) % 6 = q := by omega
  unfold gTb
  rw [e1, e2, if_pos (by omega)]
theorem gTb_o {m0 : zMm} {c : Int} {T : Int → Int → Int} {k : Nat} {a b n c' i' : Int} (h : c' ≠ c) : gTb m0 c T k a b n c' i' = m0 c' i' := by
  unfold gTb
  rw [if_neg (fun q => h q.1)]
