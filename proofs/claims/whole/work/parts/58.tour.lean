/-! ===== rounds: the least through a set and back ===== -/
def gtt (V : zMm) (p q : Int) : Int := if ((0 ≤ p ∧ p < V 0 0) ∧ (0 ≤ q ∧ q < V 0 0)) ∧ gC V (gSn V 4) (-1) p q < 268435456 then gC V (gSn V 4) (-1) p q / 1024 else 100000000
theorem gtt_bd {V : zMm} (hV : gOk V) {p q : Int} : (0 ≤ gtt V p q ∧ gtt V p q ≤ 6400) ∨ gtt V p q = 100000000 := by
  have b := gC_bd hV (s := gSn V 4) (x := -1) (p := p) (q := q)
  unfold gtt
  split
  · left; omega
  · exact Or.inr rfl
def gRB (V : zMm) (H : Int → Int → Int) (t p q : Int) : Int := min 100000000 (gtt V p q + H (gWo t q) q)
/-- the least of the first k -/
def gMq (V : zMm) (H : Int → Int → Int) (h t p : Int) : Nat → Int
  | 0 => if t = 0 then gtt V p h else 100000000
  | k + 1 => if zbit t k = 1 ∧ gRB V H t p k < gMq V H h t p k then gRB V H t p k else gMq V H h t p k
def gHt (V : zMm) (h : Int) : Nat → Int → Int → Int
  | 0 => fun _ _ => 0
  | k + 1 => fun t p => if t = k then gMq V (gHt V h k) h k p 6 else gHt V h k t p
def gH (V : zMm) (h t p : Int) : Int := gHt V h 64 t p
theorem gWo_all : ∀ t, t < 64 → ∀ q, q < 6 → zbit (t : Nat) (q : Nat) = 1 → gWo (t : Nat) (q : Nat) < (t : Nat) ∧ 0 ≤ gWo (t : Nat) (q : Nat) ∧ zpc (gWo (t : Nat) (q : Nat)) = zpc (t : Nat) - 1 := by decide +kernel
theorem gWo_lt {t q : Int} (ht : 0 ≤ t ∧ t < 64) (hq : 0 ≤ q ∧ q < 6) (h : zbit t q = 1) : gWo t q < t ∧ 0 ≤ gWo t q ∧ zpc (gWo t q) = zpc t - 1 := by
  obtain ⟨n, rfl⟩ : ∃ n : Nat, t = n := ⟨t.toNat, by omega⟩
  obtain ⟨k, rfl⟩ : ∃ n : Nat, q = n := ⟨q.toNat, by omega⟩
  exact gWo_all n (by omega) k (by omega) h
theorem gMq_c {V : zMm} {H H' : Int → Int → Int} {h t p : Int} : ∀ k : Nat, (∀ q : Nat, q < k → zbit t q = 1 → H (gWo t q) q = H' (gWo t q) q) → gMq V H h t p k = gMq V H' h t p k
  | 0, _ => rfl
  | k + 1, hq => by
    have i := gMq_c (V := V) (h := h) (p := p) k (fun q a b => hq q (by omega) b)
    show (if zbit t k = 1 ∧ gRB V H t p k < gMq V H h t p k then gRB V H t p k else gMq V H h t p k) = if zbit t k = 1 ∧ gRB V H' t p k < gMq V H' h t p k then gRB V H' t p k else gMq V H' h t p k
    rw [i]
    by_cases c : zbit t k = 1
    · have e : gRB V H t p k = gRB V H' t p k := by unfold gRB; rw [hq k (by omega) c]
      rw [e]
    · rw [if_neg (fun z => c z.1), if_neg (fun z => c z.1)]
theorem gHt_keep {V : zMm} {h t p : Int} {k : Nat} (ht : 0 ≤ t ∧ t < k) : ∀ j : Nat, gHt V h (k + j) t p = gHt V h k t p
  | 0 => rfl
  | j + 1 => by
    show (if t = ((k + j : Nat) : Int) then _ else gHt V h (k + j) t p) = _
    rw [if_neg (by omega), gHt_keep ht j]
theorem gH_eq {V : zMm} {h t p : Int} (ht : 0 ≤ t ∧ t < 64) : gH V h t p = gMq V (gH V h) h t p 6 := by
  unfold gH
  have e1 := gHt_keep (V := V) (h := h) (t := t) (p := p) (k := t.toNat + 1) (by omega) (63 - t.toNat)
  rw [show t.toNat + 1 + (63 - t.toNat) = 64 by omega] at e1
  rw [e1]
  show (if t = (t.toNat : Nat) then gMq V (gHt V h t.toNat) h (t.toNat : Nat) p 6 else _) = _
  rw [if_pos (by omega), show ((t.toNat : Nat) : Int) = t by omega]
  refine gMq_c 6 (fun q a b => ?_)
  have w := gWo_lt ht (q := q) (by omega) b
  have e2 := gHt_keep (V := V) (h := h) (t := gWo t q) (p := q) (k := t.toNat) (by omega) (64 - t.toNat)
  rw [show t.toNat + (64 - t.toNat) = 64 by omega] at e2
  exact e2.symm
theorem gMq_bd {V : zMm} (hV : gOk V) {H : Int → Int → Int} {h t p B : Int} (hB : 0 ≤ B ∧ B ≤ 1000000) (h0 : t = 0 → 6400 ≤ B) : ∀ k : Nat, (∀ q : Nat, q < k → zbit t q = 1 → (0 ≤ H (gWo t q) q ∧ H (gWo t q) q + 6400 ≤ B) ∨ H (gWo t q) q = 100000000) → (0 ≤ gMq V H h t p k ∧ gMq V H h t p k ≤ B) ∨ gMq V H h t p k = 100000000
  | 0, _ => by
    show (0 ≤ (if t = 0 then gtt V p h else 100000000) ∧ (if t = 0 then gtt V p h else 100000000) ≤ B) ∨ (if t = 0 then gtt V p h else 100000000) = 100000000
    have := gtt_bd hV (p := p) (q := h)
    split
    · rename_i c
      have := h0 c
      omega
    · exact Or.inr rfl
  | k + 1, hq => by
    have i := gMq_bd hV (h := h) (p := p) hB h0 k (fun q a b => hq q (by omega) b)
    have e : gMq V H h t p (k + 1) = if zbit t k = 1 ∧ gRB V H t p k < gMq V H h t p k then gRB V H t p k else gMq V H h t p k := rfl
    rw [e]
    split
    · rename_i c
      have g1 := gtt_bd hV (p := p) (q := k)
      have g2 := hq k (by omega) c.1
      unfold gRB
      omega
    · exact i
theorem gH_bd {V : zMm} (hV : gOk V) {h : Int} : ∀ (n : Nat) (t p : Int), (0 ≤ t ∧ t < 64) → zpc t = n → (0 ≤ gH V h t p ∧ gH V h t p ≤ 6400 * ((n : Int) + 1)) ∨ gH V h t p = 100000000
  | n, t, p, ht, hn => by
    have z := gsz (v := t) (by omega)
    rw [gH_eq ht]
    refine gMq_bd hV (B := 6400 * ((n : Int) + 1)) (by omega) (fun _ => by omega) 6 (fun q a b => ?_)
    have w := gWo_lt ht (q := q) (by omega) b
    cases n with
    | zero => exact absurd (z.1.mp (by omega)) (fun y => by rw [y] at b; rw [zbit_0] at b; omega)
    | succ n =>
      have := gH_bd hV (h := h) n (gWo t q) q (by omega) (by omega)
      rcases this with y | y
      · left
        have : ((n + 1 : Nat) : Int) = (n : Int) + 1 := rfl
        omega
      · exact Or.inr y
/-- the least is attained, or there is none -/
theorem gMq_at {V : zMm} {H : Int → Int → Int} {h t p : Int} (ht : t ≠ 0) : ∀ k : Nat, gMq V H h t p k = 100000000 ∨ ∃ q : Nat, q < k ∧ zbit t q = 1 ∧ gRB V H t p q = gMq V H h t p k
  | 0 => Or.inl (by show (if t = 0 then gtt V p h else 100000000) = 100000000; rw [if_neg ht])
  | k + 1 => by
    have e : gMq V H h t p (k + 1) = if zbit t k = 1 ∧ gRB V H t p k < gMq V H h t p k then gRB V H t p k else gMq V H h t p k := rfl
    by_cases c : zbit t k = 1 ∧ gRB V H t p k < gMq V H h t p k
    · rw [if_pos c] at e
      exact Or.inr ⟨k, by omega, c.1, e.symm⟩
    · rw [if_neg c] at e
      rw [e]
      rcases gMq_at (V := V) (H := H) (h := h) (p := p) ht k with z | ⟨q, q1, q2, q3⟩
      · exact Or.inl z
      · exact Or.inr ⟨q, by omega, q2, q3⟩
/-- the first place of a least round -/
def gQ1 (V : zMm) (h t p : Int) (k : Nat) : Int := gFst (fun q => zbit t q = 1 ∧ gRB V (gH V h) t p q = gH V h t p) k
/-- the first least order -/
def gOr (V : zMm) (h : Int) : Nat → Int → Int → List Int
  | 0, _, _ => []
  | k + 1, t, p => gQ1 V h t p 6 :: gOr V h k (gWo t (gQ1 V h t p 6)) (gQ1 V h t p 6)
theorem gOr_len {V : zMm} {h : Int} : ∀ (k : Nat) (t p : Int), (gOr V h k t p).length = k
  | 0, _, _ => rfl
  | k + 1, t, p => by
    show (_ :: gOr V h k _ _).length = k + 1
    rw [List.length_cons, gOr_len]
/-- the first of those that attain the least of the first k -/
theorem gMq_first {V : zMm} {H : Int → Int → Int} {h t p : Int} (ht : t ≠ 0) : ∀ k : Nat, ∀ q : Nat, q < k → zbit t q = 1 → gMq V H h t p k ≤ gRB V H t p q
  | 0, q, hq, _ => by omega
  | k + 1, q, hq, hz => by
    have e : gMq V H h t p (k + 1) = if zbit t k = 1 ∧ gRB V H t p k < gMq V H h t p k then gRB V H t p k else gMq V H h t p k := rfl
    rw [e]
    by_cases c : q = k
    · subst c
      split
      · exact Int.le_refl _
      · rename_i c2
        have : ¬ gRB V H t p q < gMq V H h t p q := fun y => c2 ⟨hz, y⟩
        omega
    · have := gMq_first (V := V) (H := H) (h := h) (p := p) ht k q (by omega) hz
      split
      · rename_i c2
        omega
      · exact this
