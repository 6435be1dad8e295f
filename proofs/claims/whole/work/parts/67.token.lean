/-! ===== tokens on the tape ===== -/
/-- the end of the run of bytes with P, from p on -/
def gEn1 (T : zMm) (P : Int → Bool) : Nat → Int → Int
  | 0, p => p
  | k + 1, p => if p < T 0 0 ∧ P (T 1 p) then gEn1 T P k (p + 1) else p
def gEnd (T : zMm) (P : Int → Bool) (p : Int) : Int := gEn1 T P (T 0 0 - p).toNat p
theorem gEn1_s {T : zMm} {P : Int → Bool} : ∀ (k : Nat) (p : Int), p ≤ T 0 0 → (T 0 0 - p).toNat ≤ k → (p ≤ gEn1 T P k p ∧ gEn1 T P k p ≤ T 0 0) ∧ (∀ i, p ≤ i → i < gEn1 T P k p → P (T 1 i)) ∧ (gEn1 T P k p = T 0 0 ∨ P (T 1 (gEn1 T P k p)) = false)
  | 0, p, h1, h2 => ⟨⟨Int.le_refl _, h1⟩, fun i a b => by unfold gEn1 at b; omega, Or.inl (by unfold gEn1; omega)⟩
  | k + 1, p, h1, h2 => by
    unfold gEn1
    by_cases c : p < T 0 0 ∧ P (T 1 p)
    · rw [if_pos c]
      have r := gEn1_s (T := T) (P := P) k (p + 1) (by omega) (by omega)
      refine ⟨by omega, fun i a b => ?_, r.2.2⟩
      by_cases e : i = p
      · rw [e]; exact c.2
      · exact r.2.1 i (by omega) b
    · rw [if_neg c]
      refine ⟨⟨Int.le_refl _, h1⟩, fun i a b => by omega, ?_⟩
      by_cases e : p < T 0 0
      · exact Or.inr (by cases z : P (T 1 p) with
        | false => rfl
        | true => exact absurd ⟨e, z⟩ c)
      · exact Or.inl (by omega)
theorem gEnd_s {T : zMm} {P : Int → Bool} {p : Int} (h : p ≤ T 0 0) : (p ≤ gEnd T P p ∧ gEnd T P p ≤ T 0 0) ∧ (∀ i, p ≤ i → i < gEnd T P p → P (T 1 i)) ∧ (gEnd T P p = T 0 0 ∨ P (T 1 (gEnd T P p)) = false) := gEn1_s _ p h (Nat.le_refl _)
/-- the token read from q on: start, kind, end, value, code -/
def gWs (b : Int) : Bool := decide (b = 32 ∨ b = 10)
def gLt (b : Int) : Bool := decide (97 ≤ b ∧ b ≤ 122)
def gDi (b : Int) : Bool := decide (48 ≤ b ∧ b ≤ 57)
def gSt1 (T : zMm) (q : Int) : Int := gEnd T gWs q
def gKi (T : zMm) (q : Int) : Int := if gSt1 T q = T 0 0 then 0 else if gLt (T 1 (gSt1 T q)) then 1 else if gDi (T 1 (gSt1 T q)) then 2 else if T 1 (gSt1 T q) = 59 then 3 else 4
def gEd (T : zMm) (q : Int) : Int := if gKi T q = 0 then gSt1 T q else if gKi T q = 1 then gEnd T gLt (gSt1 T q) else if gKi T q = 2 then gEnd T gDi (gSt1 T q) else gSt1 T q + 1
def gVx (T : zMm) (s : Int) : Nat → Int
  | 0 => 0
  | k + 1 => min 100000 (10 * gVx T s k + (T 1 (s + k) - 48))
def gVm (T : zMm) (s : Int) : Nat → Int
  | 0 => 0
  | k + 1 => if 100000 < gVm T s k then 1000000 else 10 * gVm T s k + T 1 (s + k) - 48
def gCd (T : zMm) (s : Int) : Nat → Int
  | 0 => 0
  | k + 1 => if 11 < (k : Int) then -1 else 27 * gCd T s k + T 1 (s + k) - 96
def gVl (T : zMm) (q : Int) : Int := if gKi T q = 2 then gVx T (gSt1 T q) (gEd T q - gSt1 T q).toNat else 0
def gVk (T : zMm) (q : Int) : Int := if gKi T q = 2 then gVm T (gSt1 T q) (gEd T q - gSt1 T q).toNat else 0
def gCo1 (T : zMm) (q : Int) : Int := if gKi T q = 1 then gCd T (gSt1 T q) (gEd T q - gSt1 T q).toNat else 0
theorem gWs_t {b : Int} : gWs b = true ↔ (b = 32 ∨ b = 10) := decide_eq_true_iff
theorem gLt_t {b : Int} : gLt b = true ↔ (97 ≤ b ∧ b ≤ 122) := decide_eq_true_iff
theorem gDi_t {b : Int} : gDi b = true ↔ (48 ≤ b ∧ b ≤ 57) := decide_eq_true_iff
theorem gWs_f {b : Int} : gWs b = false ↔ ¬ (b = 32 ∨ b = 10) := decide_eq_false_iff_not
theorem gLt_f {b : Int} : gLt b = false ↔ ¬ (97 ≤ b ∧ b ≤ 122) := decide_eq_false_iff_not
theorem gDi_f {b : Int} : gDi b = false ↔ ¬ (48 ≤ b ∧ b ≤ 57) := decide_eq_false_iff_not
/-- the model's value against the class's -/
theorem gVm_x {T : zMm} {s : Int} : ∀ k : Nat, (∀ j : Nat, j < k → 48 ≤ T 1 (s + j) ∧ T 1 (s + j) ≤ 57) → (0 ≤ gVx T s k ∧ gVx T s k ≤ 100000) ∧ (gVx T s k < 100000 → gVm T s k = gVx T s k) ∧ (gVx T s k = 100000 → 100000 ≤ gVm T s k ∧ gVm T s k ≤ 1000009)
  | 0, _ => by
    show (0 ≤ (0 : Int) ∧ (0 : Int) ≤ 100000) ∧ ((0 : Int) < 100000 → (0 : Int) = 0) ∧ ((0 : Int) = 100000 → 100000 ≤ (0 : Int) ∧ (0 : Int) ≤ 1000009)
    omega
  | k + 1, h => by
    have i := gVm_x (T := T) (s := s) k (fun j a => h j (by omega))
    have b := h k (by omega)
    show (0 ≤ min 100000 (10 * gVx T s k + (T 1 (s + k) - 48)) ∧ min 100000 (10 * gVx T s k + (T 1 (s + k) - 48)) ≤ 100000) ∧ (min 100000 (10 * gVx T s k + (T 1 (s + k) - 48)) < 100000 → (if 100000 < gVm T s k then 1000000 else 10 * gVm T s k + T 1 (s + k) - 48) = min 100000 (10 * gVx T s k + (T 1 (s + k) - 48))) ∧ (min 100000 (10 * gVx T s k + (T 1 (s + k) - 48)) = 100000 → 100000 ≤ (if 100000 < gVm T s k then 1000000 else 10 * gVm T s k + T 1 (s + k) - 48) ∧ (if 100000 < gVm T s k then 1000000 else 10 * gVm T s k + T 1 (s + k) - 48) ≤ 1000009)
    by_cases c : gVx T s k < 100000
    · have e := i.2.1 c
      rw [e, if_neg (by omega)]
      omega
    · have e := i.2.2 (by omega)
      split <;> omega
/-- the code of a word given as a list of letters -/
def gCl1 : List Int → Int → Int
  | [], c => c
  | b :: l, c => gCl1 l (27 * c + b - 96)
