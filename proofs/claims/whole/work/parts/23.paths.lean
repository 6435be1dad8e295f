/-! ===== the first of the least ways ===== -/
/-- the least r < N with c, else -1 -/
def gFst (c : Int → Prop) [DecidablePred c] : Nat → Int
  | 0 => -1
  | k + 1 => if gFst c k = -1 then (if c k then k else -1) else gFst c k
theorem gFst_none {c : Int → Prop} [DecidablePred c] : ∀ (N : Nat), gFst c N = -1 → ∀ r : Nat, r < N → ¬ c r
  | 0, _, r, h => by omega
  | k + 1, h, r, hr => by
    have e : gFst c (k + 1) = if gFst c k = -1 then (if c k then (k : Int) else -1) else gFst c k := rfl
    rw [e] at h
    by_cases c1 : gFst c k = -1
    · rw [if_pos c1] at h
      by_cases c2 : c k
      · rw [if_pos c2] at h; omega
      · by_cases c3 : r = k
        · rw [c3]; exact c2
        · exact gFst_none k c1 r (by omega)
    · rw [if_neg c1] at h; exact absurd h c1
theorem gFst_some {c : Int → Prop} [DecidablePred c] : ∀ (N : Nat), gFst c N ≠ -1 → ∃ r : Nat, r < N ∧ gFst c N = r ∧ c r ∧ gFst c r = -1
  | 0, h => absurd rfl h
  | k + 1, h => by
    have e : gFst c (k + 1) = if gFst c k = -1 then (if c k then (k : Int) else -1) else gFst c k := rfl
    rw [e] at h ⊢
    by_cases c1 : gFst c k = -1
    · rw [if_pos c1] at h ⊢
      by_cases c2 : c k
      · rw [if_pos c2] at h ⊢
        exact ⟨k, by omega, rfl, c2, c1⟩
      · rw [if_neg c2] at h; exact absurd rfl h
    · rw [if_neg c1] at h ⊢
      obtain ⟨r, h1, h2⟩ := gFst_some k c1
      exact ⟨r, by omega, h2⟩
/-- once found, it stays -/
theorem gFst_at {c : Int → Prop} [DecidablePred c] {r : Nat} (h1 : gFst c r = -1) (h2 : c r) : ∀ N : Nat, r < N → gFst c N = r
  | 0, h => by omega
  | k + 1, h => by
    have e : gFst c (k + 1) = if gFst c k = -1 then (if c k then (k : Int) else -1) else gFst c k := rfl
    rw [e]
    by_cases c1 : r = k
    · subst c1; rw [if_pos h1, if_pos h2]
    · have := gFst_at h1 h2 k (by omega)
      rw [if_neg (by omega), this]
/-- ways found one road behind the other: the first best road each time -/
def gTr (N : Nat) (a b w : Int → Int) (T : Int → Int → Int) (v : Int) : Nat → Int → List Int
  | 0, _ => []
  | k + 1, u => if u = v then [] else if gFst (fun r => (u = a r ∨ u = b r) ∧ w r + T (gBy a b r u) v = T u v) N = -1 then [] else gFst (fun r => (u = a r ∨ u = b r) ∧ w r + T (gBy a b r u) v = T u v) N :: gTr N a b w T v k (gBy a b (gFst (fun r => (u = a r ∨ u = b r) ∧ w r + T (gBy a b r u) v = T u v) N) u)
def gPr (f : Int → List (List Int)) : Nat → List (List Int)
  | 0 => []
  | r + 1 => gPr f r ++ f r
/-- all ways from u to v that meet no place of met, in the order in which they are tried -/
def gPs (N : Nat) (a b : Int → Int) (v : Int) : Nat → Int → Int → List (List Int)
  | 0, _, _ => []
  | k + 1, u, met => if u = v then [[]] else gPr (fun r => if (u = a r ∨ u = b r) ∧ zbit met (gBy a b r u) = 0 then (gPs N a b v k (gBy a b r u) (met + 2 ^ (gBy a b r u).toNat)).map (fun l => r :: l) else []) N
theorem gPr_mem {f : Int → List (List Int)} {x : List Int} : ∀ (N : Nat), x ∈ gPr f N → ∃ r : Nat, r < N ∧ x ∈ f r
  | 0, h => by cases h
  | k + 1, h => by
    have e : gPr f (k + 1) = gPr f k ++ f k := rfl
    rw [e, List.mem_append] at h
    rcases h with h | h
    · obtain ⟨r, h1, h2⟩ := gPr_mem k h
      exact ⟨r, by omega, h2⟩
    · exact ⟨k, by omega, h⟩
theorem gPr_cut {f : Int → List (List Int)} {r : Nat} : ∀ (N : Nat), r < N → ∃ L, gPr f N = gPr f r ++ (f r ++ L) ∧ ∀ x, x ∈ L → ∃ j : Nat, j < N ∧ x ∈ f j
  | 0, h => by omega
  | k + 1, h => by
    have e : gPr f (k + 1) = gPr f k ++ f k := rfl
    by_cases c : r = k
    · subst c
      exact ⟨[], by rw [e, List.append_nil], fun x hx => by cases hx⟩
    · obtain ⟨L, h1, h2⟩ := gPr_cut (f := f) (r := r) k (by omega)
      refine ⟨L ++ f k, by rw [e, h1]; simp only [List.append_assoc], fun x hx => ?_⟩
      rcases List.mem_append.mp hx with hx | hx
      · obtain ⟨j, h3, h4⟩ := h2 x hx
        exact ⟨j, by omega, h4⟩
      · exact ⟨k, by omega, hx⟩
theorem gPs_wk {N : Nat} {a b : Int → Int} {v : Int} : ∀ (k : Nat) (u met : Int) (x : List Int), x ∈ gPs N a b v k u met → gWk N a b (fun _ => True) x u v ∧ x.length < k
  | 0, u, met, x, h => by cases h
  | k + 1, u, met, x, h => by
    unfold gPs at h
    by_cases c : u = v
    · rw [if_pos c] at h
      cases h with
      | head => exact ⟨c, by simp⟩
      | tail _ h => cases h
    · rw [if_neg c] at h
      obtain ⟨r, h1, h2⟩ := gPr_mem N h
      by_cases c2 : (u = a r ∨ u = b r) ∧ zbit met (gBy a b r u) = 0
      · rw [if_pos c2] at h2
        obtain ⟨y, h3, rfl⟩ := List.mem_map.mp h2
        obtain ⟨h4, h5⟩ := gPs_wk k _ _ y h3
        exact ⟨⟨⟨by omega, by omega⟩, trivial, c2.1, h4⟩, by rw [List.length_cons]; omega⟩
      · rw [if_neg c2] at h2; cases h2
theorem gmet_all : ∀ x, x < 64 → ∀ j, j < 6 → zbit (x : Nat) (j : Nat) = 0 → zpc ((x : Nat) + 2 ^ ((j : Nat) : Int).toNat) = zpc (x : Nat) + 1 ∧ ((x : Nat) : Int) + 2 ^ ((j : Nat) : Int).toNat < 64 ∧ zor (x : Nat) (2 ^ ((j : Nat) : Int).toNat) = (x : Nat) + 2 ^ ((j : Nat) : Int).toNat := by decide +kernel
theorem gmet_bits : ∀ x, x < 64 → ∀ j, j < 6 → zbit (x : Nat) (j : Nat) = 0 → ∀ i, i < 6 → (zbit ((x : Nat) + 2 ^ ((j : Nat) : Int).toNat) (i : Nat) = if i = j then 1 else zbit (x : Nat) (i : Nat)) := by decide +kernel
theorem gmet {x j : Int} (hx : 0 ≤ x ∧ x < 64) (hj : 0 ≤ j ∧ j < 6) (h : zbit x j = 0) : zpc (x + 2 ^ j.toNat) = zpc x + 1 ∧ (0 ≤ x + 2 ^ j.toNat ∧ x + 2 ^ j.toNat < 64) ∧ zor x (2 ^ j.toNat) = x + 2 ^ j.toNat ∧ ∀ i, 0 ≤ i → i < 6 → zbit (x + 2 ^ j.toNat) i = if i = j then 1 else zbit x i := by
  obtain ⟨y, rfl⟩ : ∃ n : Nat, x = n := ⟨x.toNat, by omega⟩
  obtain ⟨k, rfl⟩ : ∃ n : Nat, j = n := ⟨j.toNat, by omega⟩
  obtain ⟨h1, h2, h3⟩ := gmet_all y (by omega) k (by omega) h
  have h0 := zpow8 (k := (k : Int)) (by omega) (by omega)
  refine ⟨h1, ⟨by omega, h2⟩, h3, fun i i0 i1 => ?_⟩
  obtain ⟨t, rfl⟩ : ∃ n : Nat, i = n := ⟨i.toNat, by omega⟩
  rw [gmet_bits y (by omega) k (by omega) h t (by omega)]
  by_cases c : t = k
  · rw [if_pos c, if_pos (by omega)]
  · rw [if_neg c, if_neg (by omega)]
theorem gpc64 : ∀ x, x < 64 → zpc (x : Nat) ≤ 6 := by decide +kernel
/-- what is needed of the roads, and of the table -/
def gRd (n N : Int) (a b w : Int → Int) : Prop := (0 ≤ n ∧ n ≤ 6) ∧ ∀ r, 0 ≤ r → r < N → ((0 ≤ a r ∧ a r < n) ∧ 0 ≤ b r ∧ b r < n) ∧ a r ≠ b r ∧ 1 ≤ w r
theorem gBy_in {n N : Int} {a b w : Int → Int} (h : gRd n N a b w) {r u : Int} (h0 : 0 ≤ r) (h1 : r < N) : 0 ≤ gBy a b r u ∧ gBy a b r u < n := by
  have := h.2 r h0 h1
  unfold gBy
  split <;> omega
/-- a first road of a least way -/
theorem gTr_go {n : Int} {N : Nat} {a b w : Int → Int} {far W : Int} {T : Int → Int → Int} (h : gCl n N a b w (fun _ => True) far W T) (hr : gRd n N a b w) {u v : Int} (huv : u ≠ v) (hf : T u v < far) : gFst (fun r => (u = a r ∨ u = b r) ∧ w r + T (gBy a b r u) v = T u v) N ≠ -1 := by
  intro c
  obtain ⟨l, h1, h2⟩ := h.2.2.2.2.1 u v hf
  cases l with
  | nil => exact huv h1
  | cons r t =>
    obtain ⟨h3, _, h4, h5⟩ := h1
    have h6 := gCl_min h (fun r x y _ => (hr.2 r x y).1) h5
    have h7 : gWt w (r :: t) = w r + gWt w t := rfl
    have h8 := gCl_min h (fun r x y _ => (hr.2 r x y).1) (l := [r]) (p := u) (q := gBy a b r u) ⟨h3, trivial, h4, rfl⟩
    have h9 : gWt w [r] = w r + 0 := rfl
    have h10 := gBy_in hr (u := u) h3.1 h3.2
    have h11 := h.2.2.1 u v _ h10.1 h10.2
    have := gFst_none N c r.toNat (by omega)
    rw [show ((r.toNat : Nat) : Int) = r by omega] at this
    exact this ⟨h4, by omega⟩
theorem gTr_main {n : Int} {N : Nat} {a b w : Int → Int} {far W : Int} {T : Int → Int → Int} (h : gCl n N a b w (fun _ => True) far W T) (hr : gRd n N a b w) {v : Int} : ∀ (k : Nat) (u met : Int), (0 ≤ met ∧ met < 64) → (0 ≤ u ∧ u < n) → zpc met = 7 - k → (∀ x, 0 ≤ x → x < n → zbit met x = 1 → T u v ≤ T x v) → T u v < far → ∃ L1 L2, gPs N a b v k u met = L1 ++ gTr N a b w T v k u :: L2 ∧ gWt w (gTr N a b w T v k u) = T u v ∧ (∀ x, x ∈ L1 → T u v < gWt w x) ∧ (∀ x, x ∈ L2 → T u v ≤ gWt w x)
  | 0, u, met, hm, hu, hp, hT, hf => by
    exfalso
    have := gpc64 met.toNat (by omega)
    rw [show ((met.toNat : Nat) : Int) = met by omega] at this
    omega
  | k + 1, u, met, hm, hu, hp, hT, hf => by
    have hr' : ∀ r, 0 ≤ r → r < (N : Int) → True → (0 ≤ a r ∧ a r < n) ∧ 0 ≤ b r ∧ b r < n := fun r x y _ => (hr.2 r x y).1
    by_cases c : u = v
    · refine ⟨[], [], ?_, ?_, fun x hx => (by cases hx), fun x hx => (by cases hx)⟩
      · unfold gPs gTr
        rw [if_pos c, if_pos c]; rfl
      · unfold gTr
        rw [if_pos c, c, h.1 v]; rfl
    · have hgo := gTr_go h hr c hf
      obtain ⟨r, r1, r2, r3, r4⟩ := gFst_some N hgo
      have eT : gTr N a b w T v (k + 1) u = (r : Int) :: gTr N a b w T v k (gBy a b r u) := by
        show (if u = v then [] else if gFst (fun r => (u = a r ∨ u = b r) ∧ w r + T (gBy a b r u) v = T u v) N = -1 then [] else gFst (fun r => (u = a r ∨ u = b r) ∧ w r + T (gBy a b r u) v = T u v) N :: gTr N a b w T v k (gBy a b (gFst (fun r => (u = a r ∨ u = b r) ∧ w r + T (gBy a b r u) v = T u v) N) u)) = _
        rw [if_neg c, if_neg hgo, r2]
      have q0 := gBy_in hr (r := r) (u := u) (by omega) (by omega)
      have q1 := (hr.2 r (by omega) (by omega)).2
      have q2 : T (gBy a b r u) v < T u v := by have := r3.2; omega
      have q3 : zbit met (gBy a b r u) = 0 := by
        rcases zbit_01 met (gBy a b r u) with z | z
        · exact z
        · have := hT _ q0.1 q0.2 z; omega
      have g := gmet hm (j := gBy a b r u) ⟨q0.1, by have := hr.1; omega⟩ q3
      obtain ⟨L1, L2, i1, i2, i3, i4⟩ := gTr_main (v := v) h hr k (gBy a b r u) (met + 2 ^ (gBy a b r u).toNat) g.2.1 q0 (by omega) (fun x x0 x1 hx => by
        rw [g.2.2.2 x x0 (by have := hr.1; omega)] at hx
        by_cases cx : x = gBy a b r u
        · rw [cx]; omega
        · rw [if_neg cx] at hx
          have := hT x x0 x1 hx
          omega) (by omega)
      have eP : gPs N a b v (k + 1) u met = gPr (fun r => if (u = a r ∨ u = b r) ∧ zbit met (gBy a b r u) = 0 then (gPs N a b v k (gBy a b r u) (met + 2 ^ (gBy a b r u).toNat)).map (fun l => r :: l) else []) N := by
        show (if u = v then [[]] else _) = _
        rw [if_neg c]
      obtain ⟨L3, j1, j2⟩ := gPr_cut (f := (fun r => if (u = a r ∨ u = b r) ∧ zbit met (gBy a b r u) = 0 then (gPs N a b v k (gBy a b r u) (met + 2 ^ (gBy a b r u).toNat)).map (fun l => r :: l) else [])) (r := r) N r1
      have j3 : ∀ x (j : Nat), j < N → x ∈ (if (u = a j ∨ u = b j) ∧ zbit met (gBy a b j u) = 0 then (gPs N a b v k (gBy a b j u) (met + 2 ^ (gBy a b j u).toNat)).map (fun l => (j : Int) :: l) else []) → (u = a j ∨ u = b j) ∧ w j + T (gBy a b j u) v ≤ gWt w x ∧ T u v ≤ w j + T (gBy a b j u) v := by
        intro x j jN hx
        by_cases c2 : (u = a j ∨ u = b j) ∧ zbit met (gBy a b j u) = 0
        · rw [if_pos c2] at hx
          obtain ⟨y, y1, rfl⟩ := List.mem_map.mp hx
          have y2 := (gPs_wk k _ _ y y1).1
          have y3 := gCl_min h hr' y2
          have y4 := gCl_min h hr' (l := [(j : Int)]) (p := u) (q := gBy a b j u) ⟨⟨by omega, by omega⟩, trivial, c2.1, rfl⟩
          have y5 := gBy_in hr (r := j) (u := u) (by omega) (by omega)
          have y6 := h.2.2.1 u v _ y5.1 y5.2
          have y7 : gWt w [(j : Int)] = w j + 0 := rfl
          have y8 : gWt w ((j : Int) :: y) = w j + gWt w y := rfl
          exact ⟨c2.1, by omega, by omega⟩
        · rw [if_neg c2] at hx; cases hx
      refine ⟨gPr (fun r => if (u = a r ∨ u = b r) ∧ zbit met (gBy a b r u) = 0 then (gPs N a b v k (gBy a b r u) (met + 2 ^ (gBy a b r u).toNat)).map (fun l => r :: l) else []) r ++ L1.map (fun l => (r : Int) :: l), L2.map (fun l => (r : Int) :: l) ++ L3, ?_, ?_, ?_, ?_⟩
      · rw [eP, j1, if_pos ⟨r3.1, q3⟩, i1, eT]
        simp only [List.map_append, List.map_cons, List.append_assoc, List.cons_append]
      · rw [eT]
        show w r + gWt w _ = _
        rw [i2]; exact r3.2
      · intro x hx
        rcases List.mem_append.mp hx with hx | hx
        · obtain ⟨j, j4, j5⟩ := gPr_mem r hx
          obtain ⟨j6, j7, j8⟩ := j3 x j (by omega) j5
          have := gFst_none r r4 j j4
          have : ¬ (w j + T (gBy a b j u) v = T u v) := fun z => this ⟨j6, z⟩
          omega
        · obtain ⟨y, y1, rfl⟩ := List.mem_map.mp hx
          have := i3 y y1
          have y8 : gWt w ((r : Int) :: y) = w r + gWt w y := rfl
          have := r3.2
          omega
      · intro x hx
        rcases List.mem_append.mp hx with hx | hx
        · obtain ⟨y, y1, rfl⟩ := List.mem_map.mp hx
          have := i4 y y1
          have y8 : gWt w ((r : Int) :: y) = w r + gWt w y := rfl
          have := r3.2
          omega
        · obtain ⟨j, j4, j5⟩ := j2 x hx
          obtain ⟨j6, j7, j8⟩ := j3 x j j4 j5
          omega
theorem gPs_none {n : Int} {N : Nat} {a b w : Int → Int} {far W : Int} {T : Int → Int → Int} (h : gCl n N a b w (fun _ => True) far W T) (hr : gRd n N a b w) {v u met : Int} (hw : ∀ r, 0 ≤ r → r < (N : Int) → w r ≤ W) (hW : 8 * W < far) (hf : T u v = far) (hW0 : 0 ≤ W) : gPs N a b v 6 u met = [] := by
  apply List.eq_nil_iff_forall_not_mem.mpr
  intro x hx
  obtain ⟨h1, h2⟩ := gPs_wk 6 u met x hx
  have h3 := gCl_min h (fun r x y _ => (hr.2 r x y).1) h1
  have h4 : ∀ (l : List Int) (p : Int), gWk N a b (fun _ => True) l p v → gWt w l ≤ W * l.length := by
    intro l
    induction l with
    | nil => intro p _; show (0 : Int) ≤ W * ((0 : Nat) : Int); omega
    | cons r t ih =>
      intro p hp
      have := ih _ hp.2.2.2
      have := hw r hp.1.1 hp.1.2
      show w r + gWt w t ≤ W * ((t.length + 1 : Nat) : Int)
      rw [Int.natCast_add, Int.mul_add]
      show w r + gWt w t ≤ W * (t.length : Int) + W * 1
      omega
  have h5 := h4 x u h1
  have h6 : W * (x.length : Int) ≤ W * 8 := Int.mul_le_mul_of_nonneg_left (by omega) hW0
  omega
/-! ===== the better of two ways ===== -/
def gLs (t g : Int → Int) (p q : List Int) : Prop := gWt t p < gWt t q ∨ (gWt t p = gWt t q ∧ gWt g p < gWt g q)
def gUp (t g : Int → Int) (B : Option (List Int)) (p : List Int) : Option (List Int) :=
  match B with
  | none => some p
  | some q => if gWt t p < gWt t q ∨ (gWt t p = gWt t q ∧ gWt g p < gWt g q) then some p else some q
theorem gUp_in {t g : Int → Int} : ∀ (L : List (List Int)) (B : Option (List Int)), L.foldl (gUp t g) B = B ∨ ∃ x, x ∈ L ∧ L.foldl (gUp t g) B = some x
  | [], B => Or.inl rfl
  | p :: L, B => by
    show L.foldl (gUp t g) (gUp t g B p) = B ∨ ∃ x, x ∈ p :: L ∧ L.foldl (gUp t g) (gUp t g B p) = some x
    rcases gUp_in L (gUp t g B p) with h | ⟨x, h1, h2⟩
    · rw [h]
      cases B with
      | none => exact Or.inr ⟨p, List.mem_cons_self, rfl⟩
      | some q =>
        simp only [gUp]
        split
        · exact Or.inr ⟨p, List.mem_cons_self, rfl⟩
        · exact Or.inl rfl
    · exact Or.inr ⟨x, List.mem_cons_of_mem _ h1, h2⟩
theorem gUp_stay {t g : Int → Int} {p : List Int} : ∀ (L : List (List Int)), (∀ x, x ∈ L → ¬ (gWt t x < gWt t p ∨ (gWt t x = gWt t p ∧ gWt g x < gWt g p))) → L.foldl (gUp t g) (some p) = some p
  | [], _ => rfl
  | x :: L, h => by
    show L.foldl (gUp t g) (gUp t g (some p) x) = some p
    have : gUp t g (some p) x = some p := by
      simp only [gUp]
      rw [if_neg (h x List.mem_cons_self)]
    rw [this]
    exact gUp_stay L (fun y hy => h y (List.mem_cons_of_mem _ hy))
theorem gUp_first {t g w : Int → Int} {p : List Int} {L1 L2 : List (List Int)} (hw : ∀ x, (x ∈ L1 ∨ x = p ∨ x ∈ L2) → gWt w x = 1024 * gWt t x + gWt g x ∧ 0 ≤ gWt g x ∧ gWt g x < 1024) (h1 : ∀ x, x ∈ L1 → gWt w p < gWt w x) (h2 : ∀ x, x ∈ L2 → gWt w p ≤ gWt w x) : (L1 ++ p :: L2).foldl (gUp t g) none = some p := by
  rw [List.foldl_append]
  show L2.foldl (gUp t g) (gUp t g (L1.foldl (gUp t g) none) p) = some p
  have e : gUp t g (L1.foldl (gUp t g) none) p = some p := by
    rcases gUp_in (t := t) (g := g) L1 none with h | ⟨x, h3, h4⟩
    · rw [h]; rfl
    · rw [h4]
      simp only [gUp]
      have a1 := h1 x h3
      have a2 := hw x (Or.inl h3)
      have a3 := hw p (Or.inr (Or.inl rfl))
      rw [if_pos (by omega)]
  rw [e]
  refine gUp_stay L2 (fun x hx => ?_)
  have a1 := h2 x hx
  have a2 := hw x (Or.inr (Or.inr hx))
  have a3 := hw p (Or.inr (Or.inl rfl))
  omega
