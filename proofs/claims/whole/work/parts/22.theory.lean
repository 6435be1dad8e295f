/-! ===== walks over roads, closed tables ===== -/
/-- where road r leads from p -/
def gBy (a b : Int → Int) (r p : Int) : Int := if p = a r then b r else a r
def gWk (N : Int) (a b : Int → Int) (o : Int → Prop) : List Int → Int → Int → Prop
  | [], p, q => p = q
  | r :: t, p, q => (0 ≤ r ∧ r < N) ∧ o r ∧ (p = a r ∨ p = b r) ∧ gWk N a b o t (gBy a b r p) q
def gWt (w : Int → Int) : List Int → Int
  | [] => 0
  | r :: t => w r + gWt w t
theorem gWt_app {w : Int → Int} : ∀ {l t : List Int}, gWt w (l ++ t) = gWt w l + gWt w t
  | [], t => by show gWt w t = 0 + gWt w t; omega
  | r :: l, t => by show w r + gWt w (l ++ t) = w r + gWt w l + gWt w t; rw [gWt_app]; omega
theorem gWk_app {N : Int} {a b : Int → Int} {o : Int → Prop} : ∀ {l t : List Int} {p k q : Int}, gWk N a b o l p k → gWk N a b o t k q → gWk N a b o (l ++ t) p q
  | [], t, p, k, q, h1, h2 => by
    have : p = k := h1
    subst this; exact h2
  | r :: l, t, p, k, q, ⟨h1, h2, h3, h4⟩, h5 => ⟨h1, h2, h3, gWk_app h4 h5⟩
theorem gBy_a {a b : Int → Int} {r : Int} : gBy a b r (a r) = b r := if_pos rfl
theorem gBy_b {a b : Int → Int} {r : Int} (h : a r ≠ b r) : gBy a b r (b r) = a r := if_neg (fun z => h z.symm)
/-- what the table of roads holds is a walk of one road at most -/
theorem gJ_wk {far : Int} {a b w : Int → Int} {o : Int → Prop} [DecidablePred o] {N W : Int} (hW : ∀ r : Nat, (r : Int) < N → o r → a r ≠ b r ∧ 0 ≤ w r ∧ w r ≤ W) (hW0 : 0 ≤ W) : ∀ (r : Nat) (p q : Int), (r : Int) ≤ N → gJ far a b w o r p q < far → (∃ l, gWk N a b o l p q ∧ gWt w l = gJ far a b w o r p q) ∧ gJ far a b w o r p q ≤ W
  | 0, p, q, _, h => by
    have e : gJ far a b w o 0 p q = if p = q then 0 else far := rfl
    rw [e] at h ⊢
    by_cases c : p = q
    · rw [if_pos c]
      exact ⟨⟨[], c, rfl⟩, hW0⟩
    · rw [if_neg c] at h; omega
  | r + 1, p, q, hr, h => by
    have e : gJ far a b w o (r + 1) p q = if o r ∧ ((p = a r ∧ q = b r) ∨ (p = b r ∧ q = a r)) then min (w r) (gJ far a b w o r (a r) (b r)) else gJ far a b w o r p q := rfl
    rw [e] at h ⊢
    by_cases c : o r ∧ ((p = a r ∧ q = b r) ∨ (p = b r ∧ q = a r))
    · rw [if_pos c] at h ⊢
      obtain ⟨c1, c2⟩ := c
      have hab := hW r (by omega) c1
      by_cases c3 : w r ≤ gJ far a b w o r (a r) (b r)
      · rw [show min (w r) (gJ far a b w o r (a r) (b r)) = w r by omega]
        refine ⟨⟨[(r : Int)], ⟨⟨by omega, by omega⟩, c1, by omega, ?_⟩, by show w r + 0 = w r; omega⟩, hab.2.2⟩
        show gBy a b r p = q
        rcases c2 with ⟨rfl, rfl⟩ | ⟨rfl, rfl⟩
        · exact gBy_a
        · exact gBy_b hab.1
      · rw [show min (w r) (gJ far a b w o r (a r) (b r)) = gJ far a b w o r (a r) (b r) by omega] at h ⊢
        rcases c2 with ⟨rfl, rfl⟩ | ⟨rfl, rfl⟩
        · exact gJ_wk hW hW0 r _ _ (by omega) h
        · rw [gJ_sym] at h ⊢
          exact gJ_wk hW hW0 r _ _ (by omega) h
    · rw [if_neg c] at h ⊢
      exact gJ_wk hW hW0 r p q (by omega) h
theorem gJ_le {far : Int} {a b w : Int → Int} {o : Int → Prop} [DecidablePred o] {r : Nat} (ho : o r) : ∀ R : Nat, r < R → gJ far a b w o R (a r) (b r) ≤ w r
  | 0, h => by omega
  | R + 1, h => by
    have e : gJ far a b w o (R + 1) (a r) (b r) = if o R ∧ ((a r = a R ∧ b r = b R) ∨ (a r = b R ∧ b r = a R)) then min (w R) (gJ far a b w o R (a R) (b R)) else gJ far a b w o R (a r) (b r) := rfl
    rw [e]
    by_cases c : r = R
    · subst c
      rw [if_pos ⟨ho, Or.inl ⟨rfl, rfl⟩⟩]; omega
    · have ih := gJ_le (far := far) (a := a) (b := b) (w := w) ho R (by omega)
      split
      · rename_i c2
        rcases c2.2 with ⟨c3, c4⟩ | ⟨c3, c4⟩
        · rw [c3, c4] at ih; omega
        · rw [c3, c4, gJ_sym] at ih; omega
      · exact ih
theorem gF_le {T : Int → Int → Int} : ∀ (k : Nat) (p q : Int), gF T k p q ≤ T p q
  | 0, p, q => Int.le_refl _
  | k + 1, p, q => by
    have := gF_le (T := T) k p q
    show min (gF T k p q) (gF T k p k + gF T k k q) ≤ T p q
    omega
theorem gF_tri {T : Int → Int → Int} {far : Int} (h : gG T far) : ∀ (k : Nat) (j : Nat) (p q : Int), j < k → gF T k p q ≤ gF T k p j + gF T k j q
  | 0, j, p, q, hj => by omega
  | k + 1, j, p, q, hj => by
    have e : ∀ x y, gF T (k + 1) x y = min (gF T k x y) (gF T k x k + gF T k k y) := fun _ _ => rfl
    by_cases c : j = k
    · subst c
      rw [gF_col h, gF_row h, e p q]; omega
    · have i1 := gF_tri h k j p q (by omega)
      have i2 := gF_tri h k j k q (by omega)
      have i3 := gF_tri h k j p k (by omega)
      have g1 := (gF_good h k).2 k j
      have g2 := (gF_good h k).2 j k
      rw [e p q, e p j, e j q]
      omega
theorem gF_wk {T : Int → Int → Int} {far : Int} (h : gG T far) {P : Int → Int → Int → Prop} (hP : ∀ p q, T p q < far → P p q (T p q)) (hC : ∀ p k q x y, P p k x → P k q y → P p q (x + y)) : ∀ (k : Nat) (p q : Int), gF T k p q < far → P p q (gF T k p q)
  | 0, p, q, hl => hP p q hl
  | k + 1, p, q, hl => by
    have e : gF T (k + 1) p q = min (gF T k p q) (gF T k p k + gF T k k q) := rfl
    rw [e] at hl ⊢
    have g1 := (gF_good h k).2 p k
    have g2 := (gF_good h k).2 k q
    by_cases c : gF T k p q ≤ gF T k p k + gF T k k q
    · rw [show min (gF T k p q) (gF T k p k + gF T k k q) = gF T k p q by omega] at hl ⊢
      exact gF_wk h hP hC k p q hl
    · rw [show min (gF T k p q) (gF T k p k + gF T k k q) = gF T k p k + gF T k k q by omega] at hl ⊢
      exact hC _ _ _ _ _ (gF_wk h hP hC k p k (by omega)) (gF_wk h hP hC k k q (by omega))
theorem gF_bd {T : Int → Int → Int} {far W : Int} (h : gG T far) (hW : 0 ≤ W) (hP : ∀ p q, T p q < far → T p q ≤ W) : ∀ (k : Nat) (p q : Int), gF T k p q < far → gF T k p q ≤ W * 2 ^ k
  | 0, p, q, hl => by rw [Int.pow_zero, Int.mul_one]; exact hP p q hl
  | k + 1, p, q, hl => by
    have e : gF T (k + 1) p q = min (gF T k p q) (gF T k p k + gF T k k q) := rfl
    have g0 := (gF_good h k).2 p q
    have g1 := (gF_good h k).2 p k
    have g2 := (gF_good h k).2 k q
    have i0 := gF_bd h hW hP k p q
    have i1 := gF_bd h hW hP k p k
    have i2 := gF_bd h hW hP k k q
    have e2 : W * 2 ^ (k + 1) = W * 2 ^ k + W * 2 ^ k := by rw [Int.pow_succ, ← Int.mul_assoc]; omega
    have e3 : 0 ≤ W * 2 ^ k := Int.mul_nonneg hW (Int.le_of_lt (Int.pow_pos (by decide)))
    rw [e] at hl ⊢
    rw [e2]
    omega
/-- a closed table: least walks over roads r < N (those with o), of weights w, between places < n -/
def gCl (n N : Int) (a b w : Int → Int) (o : Int → Prop) (far W : Int) (T : Int → Int → Int) : Prop :=
  (∀ p, T p p = 0) ∧ (∀ p q, 0 ≤ T p q ∧ T p q ≤ far) ∧ (∀ p q k, 0 ≤ k → k < n → T p q ≤ T p k + T k q) ∧ (∀ r, 0 ≤ r → r < N → o r → T (a r) (b r) ≤ w r ∧ T (b r) (a r) ≤ w r) ∧ (∀ p q, T p q < far → ∃ l, gWk N a b o l p q ∧ gWt w l = T p q) ∧ (∀ p q, T p q < far → T p q ≤ W)
theorem gCl_of {n N : Int} {a b w : Int → Int} {o : Int → Prop} [DecidablePred o] {far W : Int} (hn : 0 ≤ n ∧ n ≤ 6) (hN : 0 ≤ N) (hf : 0 ≤ far) (hW0 : 0 ≤ W) (hr : ∀ r : Nat, (r : Int) < N → a r ≠ b r ∧ 0 ≤ w r ∧ w r ≤ W) : gCl n N a b w o far (64 * W) (gF (gJ far a b w o N.toNat) n.toNat) := by
  have hg : gG (gJ far a b w o N.toNat) far := gJ_good (N := N.toNat) hf (fun r h => ⟨(hr r (by omega)).2.1, fun _ => (hr r (by omega)).1⟩) _ (Nat.le_refl _)
  have hk := fun p q => gJ_wk (far := far) (o := o) (N := N) (W := W) (fun r h _ => hr r h) hW0 N.toNat p q (by omega)
  refine ⟨(gF_good hg _).1, (gF_good hg _).2, fun p q k h0 h1 => ?_, fun r h0 h1 h2 => ?_, ?_, fun p q h => ?_⟩
  · have := gF_tri hg n.toNat k.toNat p q (by omega)
    rw [show ((k.toNat : Nat) : Int) = k by omega] at this
    exact this
  · have e : ((r.toNat : Nat) : Int) = r := by omega
    have h3 : o (r.toNat : Nat) := by rw [e]; exact h2
    have h4 := gJ_le (far := far) (a := a) (b := b) (w := w) h3 N.toNat (by omega)
    rw [e] at h4
    have h5 := gF_le (T := gJ far a b w o N.toNat) n.toNat (a r) (b r)
    have h6 := gF_le (T := gJ far a b w o N.toNat) n.toNat (b r) (a r)
    rw [gJ_sym] at h6
    omega
  · exact gF_wk hg (P := fun p q x => ∃ l, gWk N a b o l p q ∧ gWt w l = x) (fun p q h => (hk p q h).1) (fun p k q x y ⟨l, h1, h2⟩ ⟨t, h3, h4⟩ => ⟨l ++ t, gWk_app h1 h3, by rw [gWt_app, h2, h4]⟩) _
  · have h1 := gF_bd hg hW0 (fun p q h => (hk p q h).2) n.toNat p q h
    have h2 : (2 : Int) ^ n.toNat ≤ 64 := by
      have : ∀ k, k < 7 → (2 : Int) ^ k ≤ 64 := by decide
      exact this _ (by omega)
    have h3 : W * 2 ^ n.toNat ≤ W * 64 := Int.mul_le_mul_of_nonneg_left h2 hW0
    omega
/-- no walk is less -/
theorem gCl_min {n N : Int} {a b w : Int → Int} {o : Int → Prop} {far W : Int} {T : Int → Int → Int} (h : gCl n N a b w o far W T) (hr : ∀ r, 0 ≤ r → r < N → o r → (0 ≤ a r ∧ a r < n) ∧ 0 ≤ b r ∧ b r < n) : ∀ {l : List Int} {p q : Int}, gWk N a b o l p q → T p q ≤ gWt w l
  | [], p, q, hk => by
    have : p = q := hk
    subst this
    rw [h.1 p]; exact Int.le_refl _
  | r :: t, p, q, ⟨h1, h2, h3, h4⟩ => by
    have ih := gCl_min h hr h4
    have ab := hr r h1.1 h1.2 h2
    have e1 := h.2.2.2.1 r h1.1 h1.2 h2
    show T p q ≤ w r + gWt w t
    rcases h3 with h3 | h3
    · subst h3
      rw [gBy_a] at ih
      have := h.2.2.1 (a r) q (b r) ab.2.1 ab.2.2
      omega
    · unfold gBy at ih
      subst h3
      split at ih
      · rename_i c
        have := h.2.2.1 (b r) q (b r) ab.2.1 ab.2.2
        have := h.1 (b r)
        rw [c] at e1
        have := h.2.1 (a r) (b r)
        have := h.2.1 (b r) (a r)
        rw [c] at *
        omega
      · have := h.2.2.1 (b r) q (a r) ab.1.1 ab.1.2
        omega
/-- two closed tables of the same roads agree -/
theorem gCl_eq {n N : Int} {a b w : Int → Int} {o : Int → Prop} {far far' W W' : Int} {T T' : Int → Int → Int} (h : gCl n N a b w o far W T) (h' : gCl n N a b w o far' W' T') (hr : ∀ r, 0 ≤ r → r < N → o r → (0 ≤ a r ∧ a r < n) ∧ 0 ≤ b r ∧ b r < n) (hW : W < far') (hW' : W' < far) (p q : Int) : (T p q < far ∧ T' p q = T p q) ∨ (T p q = far ∧ T' p q = far') := by
  by_cases c : T p q < far
  · left
    refine ⟨c, ?_⟩
    obtain ⟨l, h1, h2⟩ := h.2.2.2.2.1 p q c
    have a1 := gCl_min h' hr h1
    have a2 := h.2.2.2.2.2 p q c
    obtain ⟨t, h3, h4⟩ := h'.2.2.2.2.1 p q (by omega)
    have a3 := gCl_min h hr h3
    omega
  · right
    have a1 := h.2.1 p q
    have a2 := h'.2.1 p q
    refine ⟨by omega, ?_⟩
    by_cases c2 : T' p q < far'
    · exfalso
      obtain ⟨t, h3, h4⟩ := h'.2.2.2.2.1 p q c2
      have a3 := gCl_min h hr h3
      have a4 := h'.2.2.2.2.2 p q c2
      omega
    · omega
