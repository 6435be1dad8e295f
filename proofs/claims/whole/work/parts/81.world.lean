/-! ===== the abstract machine over the true one: values, cells, locals ===== -/
/-- what stays the same for the whole run: the classes' places, the arrays' classes, the cells' addresses, the String constants' and their rows' addresses, the script's -/
abbrev zG : Type := va_G × (Nat → ClassId) × (Nat → Nat) × (Nat → Nat) × (Nat → Nat) × Nat
def zra (G : zG) (c : Int) : Nat := if c = -2 then G.2.2.2.2.2 else if c < 0 then G.2.2.2.1 (-10 - c).toNat else G.2.2.1 c.toNat
def zph (G : zG) : zV → Value
  | .inl v => .int (Int32.ofInt v)
  | .inr (.inl v) => .long (Int64.ofInt v)
  | .inr (.inr c) => .ref (zra G c)
def ztys (G : zG) : List (ClassId × FieldType) := [(G.2.1 1, .int), (G.2.1 2, .long), (G.2.1 3, .byte), (G.2.1 4, .boolean), (G.2.1 5, .object RX4), (G.2.1 6, .object RX1), (G.2.1 7, .object RX7), (G.2.1 8, .object RX2), (G.2.1 9, .object RX6)]
def zfv (G : zG) (t : Nat) (r v : Int) : Value := if t = 0 then .ref (zra G r) else if t = 2 then .long (Int64.ofInt v) else .int (Int32.ofInt v)
def zfs (G : zG) (m : zMm) (c : Int) (ci : Nat) : List Value := (List.range (znf ci)).map (fun k => zfv G (zft ci k) (zrf c k) (m c k))
def zcE (G : zG) (m : zMm) (c : Int) : va_E :=
  if zkd c = 2 then .inl (G.2.1 2, (zln c).toNat, .inr (.inl (fun i => Int64.ofInt (m c i))))
  else if zkd c ≤ 4 then .inl (G.2.1 (zkd c).toNat, (zln c).toNat, .inl (fun i => Int32.ofInt (m c i)))
  else if zkd c < 100 then .inl (G.2.1 (zkd c).toNat, (zln c).toNat, .inr (.inr (.inr (.inr (fun i => some (zra G (zrf c i)))))))
  else .inr ((zkd c - 100).toNat, zfs G m c (zkd c - 100).toNat)
def zWl (G : zG) (m : zMm) : va_W := (List.range 151).map (fun (c : Nat) => (zra G (c : Int), zcE G m (c : Int)))
def zCv : zV → Prop
  | .inl x => ∃ X : Int32, x = X.toInt
  | .inr (.inl x) => ∃ X : Int64, x = X.toInt
  | .inr (.inr _) => True
/-- a slot that holds a long -/
def zlo (c i : Int) : Prop := zkd c = 2 ∨ (100 ≤ zkd c ∧ zft (zkd c - 100).toNat i.toNat = 2)
def zCm (m : zMm) : Prop := ∀ c i, (zlo c i → ∃ X : Int64, m c i = X.toInt) ∧ (¬ zlo c i → ∃ X : Int32, m c i = X.toInt)
def zLR (G : zG) (ls : Array Slot) (nL : Nat) (lc : zLc) : Prop := ∃ lv, lv_has ls nL lv ∧ ∀ i v, zlg lc i = some v → (i, zph G v) ∈ lv
theorem zph_i (G : zG) (X : Int32) : zph G (.inl X.toInt) = .int X := by simp [zph]
theorem zph_l (G : zG) (X : Int64) : zph G (.inr (.inl X.toInt)) = .long X := by simp [zph]
theorem zph_r (G : zG) (c : Int) : zph G (.inr (.inr c)) = .ref (zra G c) := rfl
theorem zmp_i (G : zG) (X : Int32) (st : List zV) : List.map (zph G) (.inl X.toInt :: st) = .int X :: List.map (zph G) st := by rw [List.map_cons, zph_i]
theorem zmp_l (G : zG) (X : Int64) (st : List zV) : List.map (zph G) (.inr (.inl X.toInt) :: st) = .long X :: List.map (zph G) st := by rw [List.map_cons, zph_l]
theorem zmp_r (G : zG) (c : Int) (st : List zV) : List.map (zph G) (.inr (.inr c) :: st) = .ref (zra G c) :: List.map (zph G) st := rfl
/-! locals -/
theorem zls_get : ∀ (l : zLc) (a : Nat) (x : Option zV) (i : Nat) (w : zV), zlg (zls l a x) i = some w → (i = a ∧ x = some w) ∨ (i ≠ a ∧ zlg l i = some w ∧ (i + 1 = a → ∀ q, w ≠ .inr (.inl q)))
  | [], _, _, i, w, h => by cases h
  | b :: t, 0, x, i, w, h => by
    cases i with
    | zero => exact Or.inl ⟨rfl, h⟩
    | succ i => exact Or.inr ⟨by omega, h, by omega⟩
  | b :: t, 1, x, i, w, h => by
    cases i with
    | zero =>
      refine Or.inr ⟨by omega, ?_⟩
      have h : zkl b = some w := h
      show b = some w ∧ _
      rcases b with _ | (q | q | q)
      · cases h
      · cases h; exact ⟨rfl, fun _ z e => by cases e⟩
      · cases h
      · cases h; exact ⟨rfl, fun _ z e => by cases e⟩
    | succ i =>
      rcases zls_get t 0 x i w h with ⟨e1, e2⟩ | ⟨e1, e2, e3⟩
      · exact Or.inl ⟨by omega, e2⟩
      · exact Or.inr ⟨by omega, e2, by omega⟩
  | b :: t, n + 2, x, i, w, h => by
    cases i with
    | zero => exact Or.inr ⟨by omega, h, by omega⟩
    | succ i =>
      rcases zls_get t (n + 1) x i w h with ⟨e1, e2⟩ | ⟨e1, e2, e3⟩
      · exact Or.inl ⟨by omega, e2⟩
      · exact Or.inr ⟨by omega, e2, fun q => e3 (by omega)⟩
theorem zlL_get : ∀ (l : zLc) (a : Nat) (x : Option zV) (i : Nat) (w : zV), zlg (zlL l a x) i = some w → (i = a ∧ x = some w) ∨ (i ≠ a ∧ i ≠ a + 1 ∧ zlg l i = some w ∧ (i + 1 = a → ∀ q, w ≠ .inr (.inl q)))
  | [], _, _, i, w, h => by cases h
  | b :: t, 0, x, i, w, h => by
    cases i with
    | zero => exact Or.inl ⟨rfl, h⟩
    | succ i =>
      cases i with
      | zero => cases h
      | succ i =>
        refine Or.inr ⟨by omega, by omega, ?_, by omega⟩
        have h : zlg t.tail i = some w := h
        cases t with
        | nil => cases h
        | cons c t => exact h
  | b :: t, 1, x, i, w, h => by
    cases i with
    | zero =>
      refine Or.inr ⟨by omega, by omega, ?_⟩
      have h : zkl b = some w := h
      show b = some w ∧ _
      rcases b with _ | (q | q | q)
      · cases h
      · cases h; exact ⟨rfl, fun _ z e => by cases e⟩
      · cases h
      · cases h; exact ⟨rfl, fun _ z e => by cases e⟩
    | succ i =>
      rcases zlL_get t 0 x i w h with ⟨e1, e2⟩ | ⟨e1, e4, e2, e3⟩
      · exact Or.inl ⟨by omega, e2⟩
      · exact Or.inr ⟨by omega, by omega, e2, by omega⟩
  | b :: t, n + 2, x, i, w, h => by
    cases i with
    | zero => exact Or.inr ⟨by omega, by omega, h, by omega⟩
    | succ i =>
      rcases zlL_get t (n + 1) x i w h with ⟨e1, e2⟩ | ⟨e1, e4, e2, e3⟩
      · exact Or.inl ⟨by omega, e2⟩
      · exact Or.inr ⟨by omega, by omega, e2, fun q => e3 (by omega)⟩
theorem zph_cat (G : zG) (w : zV) (h : ∀ q, w ≠ .inr (.inl q)) : (zph G w).category = 1 := by
  rcases w with q | q | q
  · rfl
  · exact absurd rfl (h q)
  · rfl
theorem zLR.at {G : zG} {ls : Array Slot} {nL : Nat} {lc : zLc} (h : zLR G ls nL lc) {i : Nat} {v : zV} (hv : zlg lc i = some v) : ls[i]? = some (.val (zph G v)) := by
  obtain ⟨lv, h1, h2⟩ := h
  exact h1.2.2 _ (h2 i v hv)
theorem zLR.st1 {G : zG} {lv : List (Nat × Value)} {lc : zLc} (h2 : ∀ i v, zlg lc i = some v → (i, zph G v) ∈ lv) {a : Nat} {v : zV} : ∀ i w, zlg (zls lc a (some v)) i = some w → (i, zph G w) ∈ ((a, zph G v) :: lv.filter (fun q => !(q.1 == a) && !(q.1 + 1 == a && q.2.category == 2))) := by
  intro i w h
  rcases zls_get _ _ _ _ _ h with ⟨rfl, e⟩ | ⟨e1, e2, e3⟩
  · cases e; exact List.mem_cons_self
  · refine List.mem_cons_of_mem _ (List.mem_filter.mpr ⟨h2 _ _ e2, ?_⟩)
    by_cases q : i + 1 = a
    · have := zph_cat G w (e3 q)
      simp [e1, this]
    · simp [e1, q]
theorem zLR.st2 {G : zG} {lv : List (Nat × Value)} {lc : zLc} (h2 : ∀ i v, zlg lc i = some v → (i, zph G v) ∈ lv) {a : Nat} {v : zV} : ∀ i w, zlg (zlL lc a (some v)) i = some w → (i, zph G w) ∈ ((a, zph G v) :: lv.filter (fun q => !(q.1 == a) && (!(q.1 == a + 1) && !(q.1 + 1 == a && q.2.category == 2)))) := by
  intro i w h
  rcases zlL_get _ _ _ _ _ h with ⟨rfl, e⟩ | ⟨e1, e4, e2, e3⟩
  · cases e; exact List.mem_cons_self
  · refine List.mem_cons_of_mem _ (List.mem_filter.mpr ⟨h2 _ _ e2, ?_⟩)
    by_cases q : i + 1 = a
    · have := zph_cat G w (e3 q)
      simp [e1, e4, this]
    · simp [e1, e4, q]
/-- the locals at the entry -/
theorem zal_get (G : zG) : ∀ (as : List zV) (n o i : Nat) (v : zV), zlg (zal as n) i = some v → (o + i, zph G v) ∈ lv_args o (as.map (zph G))
  | [], n, o, i, v, h => by
    exfalso
    have : ∀ (n i : Nat), zlg (List.replicate n none) i ≠ some v := by
      intro n
      induction n with
      | zero => intro i h; cases h
      | succ n ih => intro i h; cases i with
        | zero => cases h
        | succ i => exact ih i h
    exact this n i h
  | .inl x :: t, n, o, i, v, h => by
    cases i with
    | zero => cases h; exact List.mem_cons_self
    | succ i =>
      have := zal_get G t (n - 1) (o + 1) i v h
      rw [show o + (i + 1) = o + 1 + i by omega]
      exact List.mem_cons_of_mem _ this
  | .inr (.inl x) :: t, n, o, i, v, h => by
    cases i with
    | zero => cases h; exact List.mem_cons_self
    | succ i =>
      cases i with
      | zero => cases h
      | succ i =>
        have := zal_get G t (n - 2) (o + 2) i v h
        rw [show o + (i + 1 + 1) = o + 2 + i by omega]
        exact List.mem_cons_of_mem _ this
  | .inr (.inr x) :: t, n, o, i, v, h => by
    cases i with
    | zero => cases h; exact List.mem_cons_self
    | succ i =>
      have := zal_get G t (n - 1) (o + 1) i v h
      rw [show o + (i + 1) = o + 1 + i by omega]
      exact List.mem_cons_of_mem _ this
theorem zal_mem : ∀ (as : List zV) (n i : Nat) (v : zV), zlg (zal as n) i = some v → v ∈ as
  | [], n, i, v, h => by
    exfalso
    have : ∀ (n i : Nat), zlg (List.replicate n none) i ≠ some v := by
      intro n
      induction n with
      | zero => intro i h; cases h
      | succ n ih => intro i h; cases i with
        | zero => cases h
        | succ i => exact ih i h
    exact this n i h
  | .inl x :: t, n, i, v, h => by
    cases i with
    | zero => cases h; exact List.mem_cons_self
    | succ i => exact List.mem_cons_of_mem _ (zal_mem t (n - 1) i v h)
  | .inr (.inl x) :: t, n, i, v, h => by
    cases i with
    | zero => cases h; exact List.mem_cons_self
    | succ i =>
      cases i with
      | zero => cases h
      | succ i => exact List.mem_cons_of_mem _ (zal_mem t (n - 2) i v h)
  | .inr (.inr x) :: t, n, i, v, h => by
    cases i with
    | zero => cases h; exact List.mem_cons_self
    | succ i => exact List.mem_cons_of_mem _ (zal_mem t (n - 1) i v h)
theorem zcat_map (G : zG) : ∀ st : List zV, ((st.map (zph G)).map fun v => v.category).sum = zcat st
  | [] => rfl
  | .inl x :: t => by rw [List.map_cons, List.map_cons, List.sum_cons, zcat_map G t]; show 1 + zcat t = zcat t + 1; omega
  | .inr (.inl x) :: t => by rw [List.map_cons, List.map_cons, List.sum_cons, zcat_map G t]; show 2 + zcat t = zcat t + 2; omega
  | .inr (.inr x) :: t => by rw [List.map_cons, List.map_cons, List.sum_cons, zcat_map G t]; show 1 + zcat t = zcat t + 1; omega
theorem zcat_sl (G : zG) : ∀ st : List zV, (lg_sl (st.map (zph G))).length = zcat st
  | [] => rfl
  | .inl x :: t => by have := zcat_sl G t; simp only [List.map_cons, lg_sl, List.flatMap_cons, zph, Value.category] at this ⊢; simp [this, zcat]
  | .inr (.inl x) :: t => by have := zcat_sl G t; simp only [List.map_cons, lg_sl, List.flatMap_cons, zph, Value.category] at this ⊢; simp [this, zcat]
  | .inr (.inr x) :: t => by have := zcat_sl G t; simp only [List.map_cons, lg_sl, List.flatMap_cons, zph, Value.category] at this ⊢; simp [this, zcat]
/-! cells -/
theorem zsh_in {c : Int} (h : ¬ zkd c = 0) : 0 ≤ c ∧ c < 151 := by
  unfold zkd zsh at h
  by_cases h0 : c < 0
  · rw [if_pos h0] at h; exact absurd rfl h
  · rw [if_neg h0] at h
    refine ⟨by omega, ?_⟩
    by_cases h1 : c < 151
    · exact h1
    · exfalso
      have : zSH.length ≤ c.toNat := by rw [show zSH.length = 151 from rfl]; omega
      rw [List.getD_eq_getElem?_getD, List.getElem?_eq_none this] at h
      exact h rfl
theorem zWl_at (G : zG) (m : zMm) {c : Int} (h : ¬ zkd c = 0) : (zWl G m)[c.toNat]? = some (zra G c, zcE G m c) := by
  obtain ⟨h1, h2⟩ := zsh_in h
  have e : ((c.toNat : Nat) : Int) = c := by omega
  unfold zWl
  rw [List.getElem?_map, List.getElem?_range (by omega)]
  simp only [Option.map_some, e]
theorem zWl_set (G : zG) (m m' : zMm) {c : Int} (h : ¬ zkd c = 0) (hm : ∀ c', c' ≠ c → ∀ i, m' c' i = m c' i) : (zWl G m).set c.toNat (zra G c, zcE G m' c) = zWl G m' := by
  obtain ⟨h1, h2⟩ := zsh_in h
  have e : ((c.toNat : Nat) : Int) = c := by omega
  apply List.ext_getElem?
  intro i
  by_cases hi : i = c.toNat
  · subst hi
    rw [zWl_at G m' h, List.getElem?_set_self (by unfold zWl; simp; omega)]
  · rw [List.getElem?_set_ne (Ne.symm hi)]
    unfold zWl
    rw [List.getElem?_map, List.getElem?_map]
    by_cases h3 : i < 151
    · rw [List.getElem?_range h3]
      simp only [Option.map_some]
      have hne : (i : Int) ≠ c := by omega
      have : ∀ j, m' i j = m i j := hm i hne
      simp only [zcE, zfs, this]
    · rw [List.getElem?_eq_none (by simpa using h3)]
      rfl
theorem zcE_ob (G : zG) (m : zMm) {c : Int} {ci : Nat} (h : zkd c = 100 + ci) : zcE G m c = .inr (ci, zfs G m c ci) := by
  have e : (zkd c - 100).toNat = ci := by omega
  unfold zcE
  rw [if_neg (by omega), if_neg (by omega), if_neg (by omega), e]
theorem zfs_at (G : zG) (m : zMm) (c : Int) (ci k : Nat) (hk : k < znf ci) : (zfs G m c ci)[k]? = some (zfv G (zft ci k) (zrf c k) (m c k)) := by
  unfold zfs
  rw [List.getElem?_map, List.getElem?_range hk]
  rfl
theorem zfs_set (G : zG) (m : zMm) (c : Int) (ci k : Nat) (hk : k < znf ci) (v : Int) (h0 : ¬ zft ci k = 0) : (zfs G m c ci).set k (if zft ci k = 2 then .long (Int64.ofInt v) else .int (Int32.ofInt v)) = zfs G (zmu m c k v) c ci := by
  apply List.ext_getElem?
  intro i
  by_cases hi : i = k
  · subst hi
    rw [List.getElem?_set_self (by unfold zfs; simp; exact hk), zfs_at _ _ _ _ _ hk]
    simp [zfv, zmu, h0]
  · rw [List.getElem?_set_ne (Ne.symm hi)]
    by_cases h3 : i < znf ci
    · rw [zfs_at _ _ _ _ _ h3, zfs_at _ _ _ _ _ h3]
      have : ¬ (i : Int) = k := by omega
      simp [zmu, this]
    · rw [List.getElem?_eq_none (by unfold zfs; simpa using h3), List.getElem?_eq_none (by unfold zfs; simpa using h3)]
theorem zmu_ne (m : zMm) (c i v : Int) : ∀ c', c' ≠ c → ∀ j, zmu m c i v c' j = m c' j := by
  intro c' h j
  unfold zmu
  rw [if_neg (fun q => h q.1)]
/-- every reference of a shape is a cell -/
theorem zrf_ob : ∀ c, c < 151 → ∀ ci, ci < 12 → zkd (c : Nat) = 100 + (ci : Nat) → ∀ k, k < 44 → zft ci k = 0 → 0 ≤ zrf (c : Nat) (k : Nat) := by decide +kernel
theorem zrf_ar : ∀ c, c < 151 → 5 ≤ zkd (c : Nat) → zkd (c : Nat) ≤ 9 → ∀ i : Nat, i < 8 → ((i : Nat) : Int) < zln (c : Nat) → 0 ≤ zrf (c : Nat) (i : Nat) := by decide +kernel
theorem zln_ar : ∀ c, c < 151 → 5 ≤ zkd (c : Nat) → zkd (c : Nat) ≤ 9 → zln (c : Nat) ≤ 8 := by decide +kernel
theorem zln_all : ∀ c, c < 151 → 0 ≤ zln (c : Nat) ∧ zln (c : Nat) ≤ 1000 ∧ 0 < zkd (c : Nat) ∧ (zkd (c : Nat) ≤ 9 ∨ (100 ≤ zkd (c : Nat) ∧ zkd (c : Nat) < 112)) := by decide +kernel
theorem zft_all : ∀ ci, ci < 12 → ∀ k, k < znf ci → zft ci k = 0 ∨ (zft ci k = 1 ∧ parseFieldDescriptor (zT ci k).2.2.1 = some .int) ∨ (zft ci k = 2 ∧ parseFieldDescriptor (zT ci k).2.2.1 = some .long) ∨ (zft ci k = 4 ∧ parseFieldDescriptor (zT ci k).2.2.1 = some .boolean) := by decide +kernel
theorem zft_fin : ∀ ci, ci < 12 → ∀ k, k < znf ci → (zT ci k).2.2.2 = false ∨ zft ci k = 0 := by decide +kernel
