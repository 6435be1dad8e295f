/-! ===== the memory behind the two constructors ===== -/
def zMf (L : Nat) (xs : Nat → Int32) : zMm := fun c i =>
  if c = -2 then (if i = -1 then (L : Int) else (xs i.toNat).toInt)
  else if c = 1 ∧ i = 2 then -1 else if c = 20 ∧ i = 5 then -1 else if (c = 123 ∨ c = 125 ∨ c = 127 ∨ c = 129) ∧ i = 1 then -1 else if c = 131 ∧ i = 15 then -1 else if c = 132 ∧ 0 ≤ i ∧ i < 4 then -1 else 0
theorem zMf_0 {L : Nat} {xs : Nat → Int32} {c i : Int} (h0 : c ≠ -2) (h : ¬ (c = 1 ∧ i = 2) ∧ ¬ (c = 20 ∧ i = 5) ∧ ¬ ((c = 123 ∨ c = 125 ∨ c = 127 ∨ c = 129) ∧ i = 1) ∧ ¬ (c = 131 ∧ i = 15) ∧ ¬ (c = 132 ∧ 0 ≤ i ∧ i < 4)) : zMf L xs c i = 0 := by
  unfold zMf
  rw [if_neg h0, if_neg h.1, if_neg h.2.1, if_neg h.2.2.1, if_neg h.2.2.2.1, if_neg h.2.2.2.2]
theorem zMf_b {L : Nat} {xs : Nat → Int32} (hL : L ≤ 3072) (c i : Int) : -2147483648 ≤ zMf L xs c i ∧ zMf L xs c i < 2147483648 := by
  have h1 := Int32.le_toInt (xs i.toNat)
  have h2 := Int32.toInt_lt (xs i.toNat)
  unfold zMf
  split
  · split
    · omega
    · omega
  · split
    · decide
    · split
      · decide
      · split
        · decide
        · split
          · decide
          · split
            · decide
            · decide
theorem zMf_c {L : Nat} {xs : Nat → Int32} (hL : L ≤ 3072) : zCm (zMf L xs) := fun c i => by
  have b := zMf_b (xs := xs) hL c i
  exact ⟨fun _ => ⟨Int64.ofInt (zMf L xs c i), (Int64.toInt_ofInt_of_le (by omega) (by omega)).symm⟩, fun _ => ⟨Int32.ofInt (zMf L xs c i), (Int32.toInt_ofInt_of_le (by omega) (by omega)).symm⟩⟩
theorem zMf_s {L : Nat} {xs : Nat → Int32} (hL : L ≤ 3072) : gSr (zMf L xs) := by
  have e : zMf L xs (-2) (-1) = L := by
    unfold zMf
    rw [if_pos rfl, if_pos rfl]
  exact ⟨by rw [e]; omega, fun j a b => zMf_b hL _ _⟩
def gU0 : zMm := fun a _ => if a = 0 then -1 else 0
def gT0 : zMm := fun a i => if a = 0 ∧ i = 2 then -1 else 0
theorem gBe_0 : ∀ i : Int, 0 ≤ i → gBe gD0 i = 0 := by
  intro i hi
  unfold gBe
  split
  · rfl
  · split
    · rfl
    · split
      · rfl
      · rfl
theorem zMf_w {L : Nat} {xs : Nat → Int32} : gIw (zMf L xs) := by
  have z : ∀ c i : Int, c ≠ -2 → ¬ (c = 1 ∧ i = 2) ∧ ¬ (c = 20 ∧ i = 5) ∧ ¬ ((c = 123 ∨ c = 125 ∨ c = 127 ∨ c = 129) ∧ i = 1) ∧ ¬ (c = 131 ∧ i = 15) ∧ ¬ (c = 132 ∧ 0 ≤ i ∧ i < 4) → zMf L xs c i = 0 := fun c i a b => zMf_0 a b
  have e12 : zMf L xs 1 2 = -1 := rfl
  have e205 : zMf L xs 20 5 = -1 := rfl
  have e13 : zMf L xs 131 15 = -1 := rfl
  have hk := gD0_k.1
  have hcv : gCV gD0 (zMf L xs) := by
    refine ⟨?_, fun r a b => ?_, fun f a b => ?_⟩
    · rw [z 21 0 (by decide) (by decide), z 21 1 (by decide) (by decide), z 21 2 (by decide) (by decide), z 21 3 (by decide) (by decide), z 21 4 (by decide) (by decide), z 21 5 (by decide) (by decide), z 21 6 (by decide) (by decide), z 21 7 (by decide) (by decide), z 21 8 (by decide) (by decide), z 21 9 (by decide) (by decide)]
      exact ⟨rfl, rfl, rfl, rfl, rfl, rfl, rfl, rfl, rfl, rfl⟩
    · unfold gD0 at b; omega
    · unfold gD0 at b; omega
  have hac : gAc gD0 := fun k h => by unfold gD0 at h; omega
  have hI : gI gD0 (zMf L xs) := by
    refine ⟨⟨hk, hcv, fun p q a b => by unfold gD0 at b; omega, fun s a b => Or.inr ?_, fun s x a b c e f => ?_⟩, hac, ⟨z 0 5 (by decide) (by decide), fun k a b => by unfold gD0 at b; omega⟩, ⟨⟨?_, ?_, ?_, ?_, ?_, ?_⟩, fun r a b => ?_⟩, Or.inl (z 48 3 (by decide) (by decide))⟩
    · rw [z 40 s (by decide) (by omega)]; rfl
    · rw [e205] at f; omega
    · rw [z 43 0 (by decide) (by decide)]; exact (gBe_0 0 (by decide)).symm
    · rw [z 43 1 (by decide) (by decide)]; exact (gBe_0 1 (by decide)).symm
    · rw [z 43 2 (by decide) (by decide)]; exact (gBe_0 2 (by decide)).symm
    · rw [z 43 3 (by decide) (by decide)]; exact (gBe_0 3 (by decide)).symm
    · rw [z 43 4 (by decide) (by decide)]; exact (gBe_0 4 (by decide)).symm
    · rw [z 43 5 (by decide) (by decide)]; exact (gBe_0 5 (by decide)).symm
    · rw [z (43 + 1) r (by decide) (by omega)]; exact (gBe_0 (6 + r) (by omega)).symm
  have hQ : gQ gD0 (zMf L xs) := by
    have s0 : gSec 0 gD0 (zMf L xs) := by
      refine ⟨?_, fun r a b => ?_, fun f a b => ?_, fun j a b => ?_⟩
      · rw [z 138 (10 * 0) (by decide) (by decide), z 138 (10 * 0 + 1) (by decide) (by decide), z 138 (10 * 0 + 2) (by decide) (by decide), z 138 (10 * 0 + 3) (by decide) (by decide), z 138 (10 * 0 + 4) (by decide) (by decide), z 138 (10 * 0 + 5) (by decide) (by decide), z 138 (10 * 0 + 6) (by decide) (by decide), z 138 (10 * 0 + 7) (by decide) (by decide), z 138 (10 * 0 + 8) (by decide) (by decide), z 138 (10 * 0 + 9) (by decide) (by decide), z 137 0 (by decide) (by decide)]
        exact ⟨rfl, rfl, rfl, rfl, rfl, rfl, rfl, rfl, rfl, rfl, rfl⟩
      · unfold gD0 at b; omega
      · unfold gD0 at b; omega
      · unfold gD0 at b; omega
    have s1 := gSec_0.mp s0
    exact ⟨hk, hac, s1.1, s1.2⟩
  refine ⟨gD0, gU0, gT0, fun _ => gD0, fun _ => 0, fun s a b => ?_, ⟨by decide, fun i a b => ?_⟩, ⟨hI, fun s a b => ?_, ⟨z 1 0 (by decide) (by decide), z 1 1 (by decide) (by decide), e12, fun i a b => ?_⟩, fun k a b => ⟨z _ _ (by omega) (by omega), fun q => absurd rfl q⟩⟩, ⟨hQ, fun s a b => ?_, ⟨z 131 6 (by decide) (by decide), z 131 14 (by decide) (by decide), e13, fun i a b => ?_⟩, fun k a b => ⟨z _ _ (by omega) (by omega), fun q => absurd rfl q⟩⟩⟩
  · unfold gU0
    rw [if_pos rfl, if_neg (by decide)]
    decide
  · unfold gT0 at b
    rw [if_neg (by decide)] at b
    omega
  · refine ⟨?_, ?_, fun i x y => ?_⟩
    · have : s = 0 ∨ s = 1 ∨ s = 2 ∨ s = 3 := by omega
      rcases this with rfl | rfl | rfl | rfl <;> rfl
    · rw [z _ _ (by omega) (by omega)]; rfl
    · have : gU0 1 s = 0 := rfl
      omega
  · have : gT0 0 0 = 0 := rfl
    omega
  · refine ⟨?_, ?_, fun i x y => ?_⟩
    · have : s = 0 ∨ s = 1 ∨ s = 2 ∨ s = 3 := by omega
      rcases this with rfl | rfl | rfl | rfl <;> rfl
    · rw [z _ _ (by omega) (by omega)]; rfl
    · have : gU0 1 s = 0 := rfl
      omega
  · have : gT0 0 0 = 0 := rfl
    omega
