/-! ===== what the start gives ===== -/
theorem zb_in {args : Array Value} {s : State} (hts : ∀ w ∈ lw_tbl, w.before args s = true) : ∀ w ∈ zBIG, w.before args s = true := fun w h => hts w (List.mem_filter.mp h).1
theorem zins_all : ∀ ci, ci < 12 → Cond.instantiable (zCN ci) (znf ci) ∈ zBIG := by
  intro ci h
  have : (Cond.instantiable (zCN ci) (znf ci)) ∈ zKW := by
    match ci, h with
    | 0, _ => decide +kernel
    | 1, _ => decide +kernel
    | 2, _ => decide +kernel
    | 3, _ => decide +kernel
    | 4, _ => decide +kernel
    | 5, _ => decide +kernel
    | 6, _ => decide +kernel
    | 7, _ => decide +kernel
    | 8, _ => decide +kernel
    | 9, _ => decide +kernel
    | 10, _ => decide +kernel
    | 11, _ => decide +kernel
    | _ + 12, h => exact absurd h (by omega)
  obtain ⟨k, hk⟩ := List.getElem?_of_mem this
  exact zKW_in hk
theorem zac_in : Cond.arrayClass .int ∈ zBIG ∧ Cond.arrayClass .long ∈ zBIG ∧ Cond.arrayClass .byte ∈ zBIG ∧ Cond.arrayClass .boolean ∈ zBIG := by
  have h : ∀ w ∈ [Cond.arrayClass .int, Cond.arrayClass .long, Cond.arrayClass .byte, Cond.arrayClass .boolean], w ∈ zKW := by decide +kernel
  have g : ∀ w ∈ [Cond.arrayClass .int, Cond.arrayClass .long, Cond.arrayClass .byte, Cond.arrayClass .boolean], w ∈ zBIG := fun w hw => by
    obtain ⟨k, hk⟩ := List.getElem?_of_mem (h w hw)
    exact zKW_in hk
  exact ⟨g _ (by decide), g _ (by decide), g _ (by decide), g _ (by decide)⟩
set_option maxRecDepth 100000 in
theorem zao_in : ∀ C ∈ [RX4, RX1, RX7, RX2, RX6], Cond.arrayOver (.object C) ∈ lw_tbl := by decide +kernel
theorem zKa {args : Array Value} {s : State} {ty : FieldType} (h : (Cond.arrayClass ty).before args s = true) (hp : ∀ U cA, va_RA U cA ty ↔ U.vm.findClass ("[" ++ ty.toString) = some cA) : ∃ cA : ClassId, ArrOfT s cA ty ∧ va_RA s cA ty := by
  obtain ⟨cA, kA, comp, h1, h2, h3⟩ := Cond.arrayClass_spec h
  exact ⟨cA, fun n z => ⟨fun k h => (by cases h), kA, h2, comp, h3⟩, (hp _ _).mpr h1⟩
theorem zKo {s : State} {C : String} (h : va_AO C s) : ∃ cA : ClassId, ArrOfT s cA (.object C) ∧ va_RA s cA (.object C) := by
  obtain ⟨comp, cA, kA, h1, -, h2, h3, h4⟩ := Cond.arrayOver_spec h
  exact ⟨cA, fun n z => ⟨fun k h => (by cases h), kA, h2, comp, h3⟩, kA, comp, h2, h3, h1, h4⟩
theorem zK_all {args : Array Value} {s : State} (hts : ∀ w ∈ lw_tbl, w.before args s = true) : ∃ (D : va_G) (T : Nat → ClassId), ∀ r : (Nat → Nat) × (Nat → Nat) × (Nat → Nat) × Nat, zCn (D, T, r) s := by
  have hB := zb_in hts
  have h1 : ∀ ci : Nat, ∃ q : ClassId × (Nat → Nat), ci < 12 → u_Kn s (zCN ci) (zT ci) (znf ci) q.1 q.2 := by
    intro ci
    by_cases h : ci < 12
    · obtain ⟨cC, iS, hk⟩ := u_known hB (zU_all ci h) (hB _ (zins_all ci h))
      exact ⟨(cC, iS), fun _ => hk⟩
    · exact ⟨(0, fun _ => 0), fun z => absurd z h⟩
  obtain ⟨f, hf⟩ := Classical.axiomOfChoice h1
  obtain ⟨i1, i2, i3, i4⟩ := zac_in
  obtain ⟨c1, k1⟩ := zKa (hB _ i1) (fun _ _ => Iff.rfl)
  obtain ⟨c2, k2⟩ := zKa (hB _ i2) (fun _ _ => Iff.rfl)
  obtain ⟨c3, k3⟩ := zKa (hB _ i3) (fun _ _ => Iff.rfl)
  obtain ⟨c4, k4⟩ := zKa (hB _ i4) (fun _ _ => Iff.rfl)
  have o5 : va_AO RX4 s := va_AO.of (hts _ (zao_in RX4 (by decide)))
  have o6 : va_AO RX1 s := va_AO.of (hts _ (zao_in RX1 (by decide)))
  have o7 : va_AO RX7 s := va_AO.of (hts _ (zao_in RX7 (by decide)))
  have o8 : va_AO RX2 s := va_AO.of (hts _ (zao_in RX2 (by decide)))
  have o9 : va_AO RX6 s := va_AO.of (hts _ (zao_in RX6 (by decide)))
  obtain ⟨c5, k5⟩ := zKo o5
  obtain ⟨c6, k6⟩ := zKo o6
  obtain ⟨c7, k7⟩ := zKo o7
  obtain ⟨c8, k8⟩ := zKo o8
  obtain ⟨c9, k9⟩ := zKo o9
  refine ⟨(fun ci => (f ci).1, fun ci => (f ci).2), fun k => if k = 1 then c1 else if k = 2 then c2 else if k = 3 then c3 else if k = 4 then c4 else if k = 5 then c5 else if k = 6 then c6 else if k = 7 then c7 else if k = 8 then c8 else c9, fun r => ⟨⟨fun c q hq => ?_, fun k q hq => ?_⟩, ⟨o5, o6, o7, o8, o9⟩, fun k e he => ?_⟩⟩
  · have hc : c < 12 := (List.getElem?_eq_some_iff.mp hq).1
    rw [zcl12_at c hc] at hq
    have e := Option.some.inj hq
    subst e
    exact hf c hc
  · have hk : k < 9 := (List.getElem?_eq_some_iff.mp hq).1
    match k, hk, hq with
    | 0, _, hq => cases hq; exact k1
    | 1, _, hq => cases hq; exact k2
    | 2, _, hq => cases hq; exact k3
    | 3, _, hq => cases hq; exact k4
    | 4, _, hq => cases hq; exact k5
    | 5, _, hq => cases hq; exact k6
    | 6, _, hq => cases hq; exact k7
    | 7, _, hq => cases hq; exact k8
    | 8, _, hq => cases hq; exact k9
    | _ + 9, h, _ => exact absurd h (by omega)
  · have := List.all_eq_true.mp zNL_s (znlW e) (List.mem_map.mpr ⟨e, List.mem_of_getElem? he, rfl⟩)
    exact va_Nw.of rfl (hts _ (List.contains_iff_mem.mp this))
def zTm (i : Nat) : Term := .string RX8 (zSIX.getD i 0)
set_option maxRecDepth 100000 in
theorem zs1 : ∀ i, i < 17 → Cond.exactly (zTm i) "java/lang/String" ∈ flatC (Jvm.Cond.and given_1 narrow_1) := by decide +kernel
set_option maxRecDepth 100000 in
theorem zs2 : ∀ i, i < 17 → Cond.eq (.field (zTm i) "java/lang/String" "coder" "B") (.int 0) ∈ flatC (Jvm.Cond.and given_1 narrow_1) := by decide +kernel
set_option maxRecDepth 100000 in
theorem zs3 : ∀ i, i < 17 → Cond.arrayOf (.field (zTm i) "java/lang/String" "value" "[B") .byte ∈ flatC (Jvm.Cond.and given_1 narrow_1) := by decide +kernel
set_option maxRecDepth 100000 in
theorem zs4 : ∀ i, i < 17 → Cond.eq (.length (.field (zTm i) "java/lang/String" "value" "[B")) (.int (Int32.ofNat (zlenS.getD i 0))) ∈ flatC (Jvm.Cond.and given_1 narrow_1) := by decide +kernel
set_option maxRecDepth 100000 in
theorem zs5 : ∀ i, i < 17 → ∀ j, j < zlenS.getD i 0 → Cond.eq (.elem (.field (zTm i) "java/lang/String" "value" "[B") (.int (Int32.ofNat j))) (.int ((zbytS.getD i []).getD j 0)) ∈ flatC (Jvm.Cond.and given_1 narrow_1) := by decide +kernel
def zNE : List (Nat × Nat) := [(0, 1), (0, 2), (1, 2), (0, 3), (1, 3), (2, 3), (0, 4), (1, 4), (2, 4), (3, 4), (0, 5), (1, 5), (2, 5), (3, 5), (4, 5), (0, 6), (1, 6), (2, 6), (3, 6), (4, 6), (5, 6), (0, 7), (1, 7), (2, 7), (3, 7), (4, 7), (5, 7), (6, 7), (0, 8), (1, 8), (2, 8), (3, 8), (4, 8), (5, 8), (6, 8), (7, 8), (0, 9), (1, 9), (2, 9), (3, 9), (4, 9), (5, 9), (6, 9), (7, 9), (8, 9), (0, 10), (1, 10), (2, 10), (3, 10), (4, 10), (5, 10), (6, 10), (7, 10), (8, 10), (9, 10), (0, 11), (1, 11), (2, 11), (3, 11), (4, 11), (5, 11), (6, 11), (7, 11), (8, 11), (9, 11), (10, 11), (0, 12), (1, 12), (2, 12), (3, 12), (4, 12), (5, 12), (6, 12), (7, 12), (8, 12), (9, 12), (10, 12), (11, 12), (0, 13), (1, 13), (2, 13), (3, 13), (4, 13), (5, 13), (6, 13), (7, 13), (8, 13), (9, 13), (10, 13), (11, 13), (12, 13), (0, 14), (1, 14), (2, 14), (3, 14), (4, 14), (5, 14), (6, 14), (7, 14), (8, 14), (9, 14), (10, 14), (11, 14), (12, 14), (13, 14), (0, 15), (1, 15), (2, 15), (3, 15), (4, 15), (5, 15), (6, 15), (7, 15), (8, 15), (9, 15), (10, 15), (11, 15), (12, 15), (13, 15), (14, 15), (0, 16), (1, 16), (2, 16), (3, 16), (4, 16), (5, 16), (6, 16), (7, 16), (8, 16), (9, 16), (10, 16), (11, 16), (12, 16), (13, 16), (14, 16), (15, 16)]
set_option maxRecDepth 100000 in
theorem zNE_s : (zNE.map (fun e => Cond.not (Cond.eq (zTm e.1) (zTm e.2)))).isSublist (flatC (Jvm.Cond.and given_1 narrow_1)) = true := by decide +kernel
theorem zNE_b : (List.range 17).all (fun i => (List.range 17).all (fun j => i == j || (zNE.contains (i, j) || zNE.contains (j, i)))) = true := by decide +kernel
theorem zNE_a (i : Nat) (hi : i < 17) (j : Nat) (hj : j < 17) (h : i ≠ j) : (i, j) ∈ zNE ∨ (j, i) ∈ zNE := by
  have x := List.all_eq_true.mp zNE_b i (List.mem_range.mpr hi)
  have y := List.all_eq_true.mp x j (List.mem_range.mpr hj)
  rw [Bool.or_eq_true, Bool.or_eq_true] at y
  rcases y with z | z | z
  · exact absurd (beq_iff_eq.mp z) h
  · exact Or.inl (List.contains_iff_mem.mp z)
  · exact Or.inr (List.contains_iff_mem.mp z)
theorem zNE_in {e : Nat × Nat} (h : e ∈ zNE) : Cond.not (Cond.eq (zTm e.1) (zTm e.2)) ∈ flatC (Jvm.Cond.and given_1 narrow_1) := (List.isSublist_iff_sublist.mp zNE_s).subset (List.mem_map.mpr ⟨e, h, rfl⟩)
theorem zs6 : ∀ i, i < 17 → ∀ j, j < 17 → i ≠ j → Cond.not (Cond.eq (zTm i) (zTm j)) ∈ flatC (Jvm.Cond.and given_1 narrow_1) ∨ Cond.not (Cond.eq (zTm j) (zTm i)) ∈ flatC (Jvm.Cond.and given_1 narrow_1) := fun i hi j hj h => (zNE_a i hi j hj h).imp (fun z => zNE_in z) (fun z => zNE_in z)
set_option maxRecDepth 100000 in
theorem zs7 : Cond.eq (.static "java/lang/String" "COMPACT_STRINGS" "Z") (.int 1) ∈ flatC (Jvm.Cond.and given_1 narrow_1) ∧ Cond.isRef (.static "jdk/internal/util/Preconditions" "SIOOBE_FORMATTER" "Ljava/util/function/BiFunction;") ∈ flatC (Jvm.Cond.and given_1 narrow_1) := by decide +kernel
set_option maxRecDepth 100000 in
theorem zs8 : ∀ i, i < 17 → Cond.stringRef RX8 (zSIX.getD i 0) (zSTX.getD i "") ∈ lw_tbl := by decide +kernel
set_option maxRecDepth 100000 in
theorem zs9 : Cond.laysStatic "java/lang/String" "COMPACT_STRINGS" "Z" ∈ lw_tbl ∧ Cond.laysStatic "jdk/internal/util/Preconditions" "SIOOBE_FORMATTER" "Ljava/util/function/BiFunction;" ∈ lw_tbl ∧ Cond.initialized "java/lang/String" ∈ lw_tbl ∧ Cond.initialized "jdk/internal/util/Preconditions" ∈ lw_tbl ∧ Cond.methodLinkNest RX5 66 yX10_bit "DaughtersGate" ∈ lw_tbl := by decide +kernel
theorem zs10 : ∀ i, i < 17 → zlenS.getD i 0 < 2 ^ 31 := by decide
theorem zS_all {args : Array Value} {s : State} {A : Nat → Prop} (hts : ∀ w ∈ lw_tbl, w.before args s = true) (hg : (Jvm.Cond.and given_1 narrow_1).before args s = true) (hA : ∀ a : Nat, a < s.heap.size → ¬ A a) : ∃ adK adV : Nat → Nat, vk_S 17 zlenS zbytS adK adV A s s.heap ∧ (∀ k, k < 17 → vk_R RX8 (zSIX.getD k 0) (zSTX.getD k "") (adK k) s) ∧ va_Z "java/lang/String" "COMPACT_STRINGS" "Z" (.int 1) A s s.heap ∧ va_Nw (.methodLinkNest RX5 66 yX10_bit "DaughtersGate") s ∧ va_Zq "jdk/internal/util/Preconditions" "SIOOBE_FORMATTER" "Ljava/util/function/BiFunction;" A s s.heap := by
  have hs := flat_of_before _ hg
  obtain ⟨adK, adV, h1, h2⟩ := vk_Sof (args := args) (tm := zTm) (len := zlenS) (byt := zbytS) (A := A) (N := 17) zs10 (fun i hi => hs _ (zs1 i hi)) (fun i hi => hs _ (zs2 i hi)) (fun i hi => hs _ (zs3 i hi)) (fun i hi => hs _ (zs4 i hi)) (fun i hi j hj => hs _ (zs5 i hi j hj)) (fun i j hi hj hij => (zs6 i hi j hj hij).imp (hs _) (hs _)) hA
  obtain ⟨w1, w2, w3, w4, w5⟩ := zs9
  exact ⟨adK, adV, h1, fun k hk => vk_R.of (hts _ (zs8 k hk)) (h2 k hk), va_Zof (hts _ w1) (hts _ w3) (va_eqt (hs _ zs7.1)) hA, va_Nw.of rfl (hts _ w5), va_Zqof (hts _ w2) (hts _ w4) (hs _ zs7.2) hA⟩
