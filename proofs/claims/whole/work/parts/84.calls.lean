def zPc (G : zG) (A : Nat → Prop) (as : List zV) (mem : zMm) : Array Value → State → Prop := va_Pc (as.map (zph G)) (fun U => va_P G.1 zcl12 (zWl G mem) U.heap ∧ zCx G A U)
def zQc (G : zG) (A : Nat → Prop) (r : Option zV) (mem : zMm) : Array Value → State → Outcome → State → Prop := fun _ st oc t => oc = .returned (r.map (zph G)) ∧ (∀ v, r = some v → zCv v) ∧ zCm mem ∧ va_P G.1 zcl12 (zWl G mem) t.heap ∧ va_F A st t
theorem zPc_blind {G : zG} {A : Nat → Prop} {as : List zV} {mem : zMm} : FrameBlind (zPc G A as mem) := fun a U g mk q => ⟨q.1, q.2.1, q.2.2.calling g mk a⟩
def zws (y : Nat) : List Cond := zcoW y :: zBIG
theorem zgood {w : Cond} (h : w ∈ zBIG) : (w.onTables && w.keeps) = true ∨ ∃ ty, w = .arrayClass ty := good_of_word (List.mem_filter.mp h).2
theorem zws_in {a : Nat} (ha : a < 311) {w : Cond} (h : w ∈ zws a) : w ∈ zBIG := by
  rcases List.mem_cons.mp h with rfl | h
  · exact zco_all a ha
  · exact h
theorem zrc_spec : ∀ {n : Nat} {s : List zV} {v : Int}, zrc n s v → ∃ c As, (s.take n).reverse = .inr (.inr c) :: As ∧ (v < 0 ∨ zkd c = 100 + v)
  | 0, s, v, h => by cases s <;> exact h.elim
  | 1, [], v, h => h.elim
  | 1, .inl _ :: _, v, h => h.elim
  | 1, .inr (.inl _) :: _, v, h => h.elim
  | 1, .inr (.inr c) :: t, v, h => ⟨c, [], by simp, h⟩
  | n + 2, [], v, h => h.elim
  | n + 2, x :: t, v, h => by
    obtain ⟨c, As, h1, h2⟩ := zrc_spec (n := n + 1) (s := t) (v := v) h
    exact ⟨c, As ++ [x], by rw [List.take_succ_cons, List.reverse_cons, h1]; rfl, h2⟩
theorem zpushed (G : zG) (r : Option zV) (rest : List zV) : (r.map (zph G)).toList ++ rest.map (zph G) = (r.toList ++ rest).map (zph G) := by cases r <;> rfl
theorem zfit {R rm : Room} (h : 8 + 22 + rm.locals ≤ R.locals) {x : Nat} (hx : x ≤ 11) : 8 + (x + 11) + rm.locals ≤ R.locals := by omega
section ZS
variable {p : Program} {l : Launch} {e : Env} {R : Room} {s : State} {m : MethodId} {args : Array Value} {below : List Frame} {meth : Method} {c : Code} {Qf : State → Prop} {G : zG} {A : Nat → Prop} {y : Nat}
variable {E : Nat → List zV → zMm → Option zV → zMm → Prop} {a b : Nat} {v : Int} {pc : Nat} {i : Instr} {len : Nat} {lc : zLc} {st : List zV} {mem : zMm} {K : Nat → zLc → List zV → zMm → Prop} {Q : Option zV → zMm → Prop} {k : zLc → List zV → zMm → Prop}
theorem zcallX {r : Option zV} {mem' : zMm} {ls : Array Slot} {st0 rest : List Value} {H : Heap} {locs : List Loc} {ar : Array Value} (hr : va_Run p l e R s m args below meth c H locs R.cells R.slots 0 0 (F0 m pc ls st0) rest (zQc G A r mem' ar) A) (hS : va_S A s.heap H locs)
    (kk : ∀ (H1 : Heap) (locs1 : List Loc), (∀ v, r = some v → zCv v) → zCm mem' → va_P G.1 zcl12 (zWl G mem') H1 → va_S A s.heap H1 locs1 → W p l e R s m args below meth c H1 locs1 R.cells R.slots Qf (F0 m (pc + 3) ls ((r.map (zph G)).toList ++ rest))) : W p l e R s m args below meth c H locs R.cells R.slots Qf (F0 m pc ls st0) := by
  intro T hT X
  obtain ⟨v, st₀, t, T', L, h0, X', hL, e1, e2, ⟨hv, hcr, hcm, hP, hz, hk⟩, st⟩ := hr T hT X
  cases hv
  rw [h0] at hz hk
  obtain ⟨t2, a1, b1⟩ := kk T'.heap (locs ++ L) hcr hcm (by rw [e1]; exact hP) ⟨Nat.le_trans hS.1 (by rw [e1]; exact hz), fun q h1 h2 => by rw [e1, hk q (Nat.lt_of_lt_of_le h1 hS.1) h2]; exact hS.2.1 q h1 h2, fun q hq => (List.mem_append.mp hq).elim (hS.2.2 q) (fun h => hL q h)⟩ T' rfl X'
  exact ⟨t2, st t2 a1, b1⟩
/-- behind a call: the locals stay, the answer lies on what was below the arguments -/
theorem zI.back {G : zG} {A : Nat → Prop} {s : State} {y : Nat} {H H1 : Heap} {locs locs1 : List Loc} {lc : zLc} {st : List zV} {mem mem1 : zMm} {ls : Array Slot} {r : Option zV} {n : Nat} (h : zI G A s y H locs lc st mem ls) (hr : ∀ v, r = some v → zCv v) (hc : zCm mem1) (hP : va_P G.1 zcl12 (zWl G mem1) H1) (hS : va_S A s.heap H1 locs1) : zI G A s y H1 locs1 lc (r.toList ++ st.drop n) mem1 ls := by
  refine ⟨h.1, h.2.1, fun v hv => ?_, hc, hP, hS⟩
  rcases List.mem_append.mp hv with q | q
  · exact hr v (by cases r with
      | none => cases q
      | some w => simp at q; rw [q])
  · exact h.2.2.1 v (List.mem_of_mem_drop q)
theorem zI.ar {G : zG} {A : Nat → Prop} {s : State} {y : Nat} {H : Heap} {locs : List Loc} {lc : zLc} {st : List zV} {mem : zMm} {ls : Array Slot} {n : Nat} (h : zI G A s y H locs lc st mem ls) : ∀ v ∈ (st.take n).reverse, zCv v := fun v hv => h.2.2.1 v (List.mem_of_mem_take (List.mem_reverse.mp hv))
theorem zI.sz {G : zG} {A : Nat → Prop} {s : State} {y : Nat} {H : Heap} {locs : List Loc} {lc : zLc} {st : List zV} {mem : zMm} {ls : Array Slot} (h : zI G A s y H locs lc st mem ls) : ls.size = zmx y := by
  obtain ⟨⟨lv, h1, -⟩, -⟩ := h
  exact h1.1
variable {rm : Room}
/-- what is known of the methods that are called: their contracts, at a room that fits -/
def zKn (l : Launch) (R rm : Room) (G : zG) (A : Nat → Prop) (E : Nat → List zV → zMm → Option zV → zMm → Prop) : Prop :=
  (rm.cells = 0 ∧ rm.slots = 0 ∧ rm.frames + 1 ≤ R.frames ∧ 8 + 22 + rm.locals ≤ R.locals ∧ 100 ≤ R.locals) ∧ (∀ a as mem r mem', E a as mem r mem' → a < 311 → (∀ v ∈ as, zCv v) → zCm mem → Met l (zmt a).1 (zws a) rm (zPc G A as mem) (zQc G A r mem') 0 0 A) ∧
  (∀ as mem r mem', E 1001 as mem r mem' → zCm mem → Met l yJ0_length_8abf5 (.code yJ0_length_8abf5 cJ0_length_8abf5 1 (some .int) :: zBIG) rm (zPc G A as mem) (zQc G A r mem') 0 0 A) ∧
  (∀ as mem r mem', E 1002 as mem r mem' → zCm mem → Met l yJ0_charAt_5068e (.code yJ0_charAt_5068e cJ0_charAt_5068e 2 (some .char) :: zBIG) rm (zPc G A as mem) (zQc G A r mem') 0 0 A) ∧
  (∀ a as mem r mem', E a as mem r mem' → 1000 ≤ a → zpr a as mem r mem')
set_option maxRecDepth 100000 in
theorem zJl_in : Cond.code yJ0_length_8abf5 cJ0_length_8abf5 1 (some .int) ∈ zBIG ∧ Cond.instanceMethod yJ0_length_8abf5 ∈ zBIG ∧ Cond.selects "java/lang/String" yJ0_length_8abf5 yJ0_length_8abf5 ∈ zBIG ∧ Cond.initialized "java/lang/String" ∈ zBIG := ⟨List.mem_filter.mpr ⟨zt1_in (Or.inr (Or.inl (List.mem_of_getElem? (i := 235) rfl))), rfl⟩, List.mem_filter.mpr ⟨zt1_in (Or.inr (Or.inl (List.mem_of_getElem? (i := 233) rfl))), rfl⟩, List.mem_filter.mpr ⟨zt1_in (Or.inr (Or.inl (List.mem_of_getElem? (i := 234) rfl))), rfl⟩, List.mem_filter.mpr ⟨zt1_in (Or.inl (List.mem_of_getElem? (i := 14) rfl)), rfl⟩⟩
set_option maxRecDepth 100000 in
theorem zJc_in : Cond.code yJ0_charAt_5068e cJ0_charAt_5068e 2 (some .char) ∈ zBIG ∧ Cond.instanceMethod yJ0_charAt_5068e ∈ zBIG ∧ Cond.selects "java/lang/String" yJ0_charAt_5068e yJ0_charAt_5068e ∈ zBIG := ⟨List.mem_filter.mpr ⟨zt1_in (Or.inr (Or.inr (Or.inl (List.mem_of_getElem? (i := 5) rfl)))), rfl⟩, List.mem_filter.mpr ⟨zt1_in (Or.inr (Or.inr (Or.inl (List.mem_of_getElem? (i := 3) rfl)))), rfl⟩, List.mem_filter.mpr ⟨zt1_in (Or.inr (Or.inr (Or.inl (List.mem_of_getElem? (i := 4) rfl)))), rfl⟩⟩
set_option maxRecDepth 100000 in
theorem zJa_in : Cond.native arraycopyName ∈ zBIG ∧ Cond.static arraycopyName ∈ zBIG ∧ Cond.initialized "java/lang/System" ∈ zBIG := ⟨List.mem_filter.mpr ⟨zt1_in (Or.inr (Or.inr (Or.inr (Or.inl (List.mem_of_getElem? (i := 177) rfl))))), rfl⟩, List.mem_filter.mpr ⟨zt1_in (Or.inr (Or.inr (Or.inr (Or.inl (List.mem_of_getElem? (i := 176) rfl))))), rfl⟩, List.mem_filter.mpr ⟨zt1_in (Or.inl (List.mem_of_getElem? (i := 20) rfl)), rfl⟩⟩
theorem zs_68 (C : zAt p s m args c y G A) (hd : decode (zmt y).2.1 pc = .ok (i, len)) (hi : zIn_68 y a b v pc i len = true) (h : zst E (68, a, b, v) lc st mem K Q k) (hM : zKn l R rm G A E) (hk : ∀ lc st mem, k lc st mem → zGo p l e R s m args below meth c Qf G A y (pc + len) lc st mem) : zGo p l e R s m args below meth c Qf G A y pc lc st mem := by
  obtain ⟨hx, hb, hml, hown, hts, hC⟩ := C
  intro H locs ls hI
  rw [zst_68] at h
  obtain ⟨hrc, hlen, hcat, r, mem', hE, h⟩ := h
  unfold zIn_68 at hi
  split at hi
  case h_2 => cases hi
  rename_i n
  obtain ⟨c0, As, eA, hrc⟩ := zrc_spec hrc
  simp only [Bool.and_eq_true, Bool.or_eq_true, beq_iff_eq, decide_eq_true_eq] at hi
  obtain ⟨rfl, hi⟩ := hi
  have hsplit : st = (st.take b) ++ st.drop b := (List.take_append_drop b st).symm
  have htk : st.take b = As.reverse ++ [.inr (.inr c0)] := by
    have := congrArg List.reverse eA
    rw [List.reverse_reverse, List.reverse_cons] at this
    exact this
  have hAl : As.length + 1 = b := by
    have := congrArg List.length eA
    simp at this
    omega
  have hstk : st.map (zph G) = (As.map (zph G)).reverse ++ .ref (zra G c0) :: (st.drop b).map (zph G) := by
    conv => lhs; rw [hsplit, htk]
    rw [List.map_append, List.map_append, List.map_reverse, List.append_assoc]
    rfl
  have har := hI.ar (n := b)
  have hW : 2 * (F0 m pc ls (st.map (zph G))).monitorRoom + (((st.drop b).map (zph G)).map fun v => v.category).sum ≤ 8 := lv_room (by rw [zcat_map]; exact hcat)
  rw [eA] at hE har
  rcases hi with ⟨ha, e1, e2, e3, e4⟩ | ⟨e1, e4, e3⟩
  · obtain ⟨⟨q1, q2, q3, q4, q5⟩, hMet, -⟩ := hM
    have hkd : zkd c0 = 100 + (zow a : Nat) := by omega
    have how := zow_all a (by omega)
    have hM1 := hMet _ _ _ _ _ hE ha har hI.2.2.2.1
    have hnh := znh_all a ha
    have hne : ¬ zkd c0 = 0 := by omega
    have hw := zWl_at G mem hne
    rw [zcE_ob G mem hkd] at hw
    have hzow : zow a < 12 := by
      have := zsh_in hne
      have := zln_all c0.toNat (by omega)
      rw [show ((c0.toNat : Nat) : Int) = c0 by omega] at this
      omega
    have hg : GoodIn zBIG (wsV (zCN (zow y)) n (zmt a).1.cls (zmt a).1 (zws a)) := by
      intro w hw
      have : w ∈ zBIG := by
        unfold wsV at hw
        simp only [List.mem_append, List.mem_cons, List.not_mem_nil, or_false] at hw
        rcases hw with (rfl | rfl | rfl | rfl) | hw
        · exact zML_in e1
        · exact zIM_in e2
        · exact zSE_in (zIS a ha e2)
        · rw [how.1]; exact zINI_in how.2.1
        · exact zws_in ha hw
      exact ⟨this, zgood this⟩
    have hrv := va_recv (D := G.1) (cl := zcl12) (tys := ztys G) hC.1 hI.2.2.2.2.1 (zcl12_at _ hzow) hw
    rw [hstk] at hW ⊢
    refine zcallX (va_runV (C := (zmt a).1.cls) (As := As.map (zph G)) (rest := (st.drop b).map (zph G)) ⟨hx, hb, hml, hown, hts⟩ hM1 (cwV (zna a) hts hg rfl q1 q2 ⟨rfl, hnh.2⟩ ⟨q3, zfit q4 how.2.2.1⟩) ⟨zPc_blind, by rw [how.1]; exact hrv, fun U hU hWm => ⟨rfl, by rw [hU]; exact hI.2.2.2.2.1, hC.warm hI.2.2.2.2.2 hU hWm⟩⟩ rfl (by rw [List.length_map]; omega) hI.sz rfl hW hd ⟨Nat.le_refl _, Nat.le_refl _⟩) hI.2.2.2.2.2 (fun H1 locs1 g1 g2 g3 g4 => ?_)
    rw [zpushed]
    exact hk _ _ _ h H1 locs1 ls (hI.back g1 g2 g3 g4)
  · obtain ⟨⟨q1, q2, q3, q4, q5⟩, -, hM1, hM2, hPr⟩ := hM
    have hpl := zPL_in e1
    rcases e3 with ⟨rfl, rfl⟩ | ⟨rfl, rfl⟩
    · have hz := hPr _ _ _ _ _ hE (by decide)
      have hM1 := hM1 _ _ _ _ hE hI.2.2.2.1
      obtain ⟨j1, j2, j3, j4⟩ := zJl_in
      have hAs : As = [] := by cases As with
        | nil => rfl
        | cons x t => simp at hAl
      subst hAs
      obtain ⟨-, kk, hkk, e5, -⟩ := (show mem' = mem ∧ ∃ k : Nat, k < 17 ∧ c0 = -10 - (k : Int) ∧ r = some (.inl (zstr.getD k []).length) from hz)
      have hra : zra G c0 = G.2.2.2.1 kk := by
        unfold zra
        rw [if_neg (by omega), if_pos (by omega), show (-10 - c0).toNat = kk by omega]
      have hg : GoodIn zBIG (wsV (zCN (zow y)) n "java/lang/String" yJ0_length_8abf5 (.code yJ0_length_8abf5 cJ0_length_8abf5 1 (some .int) :: zBIG)) := by
        intro w hw
        have : w ∈ zBIG := by
          unfold wsV at hw
          simp only [List.mem_append, List.mem_cons, List.not_mem_nil, or_false] at hw
          rcases hw with (rfl | rfl | rfl | rfl) | rfl | hw
          · exact hpl
          · exact j2
          · exact j3
          · exact j4
          · exact j1
          · exact hw
        exact ⟨this, zgood this⟩
      have hrv := vk_recv (A := A) (s := s) hC.2.2.1 hkk hI.2.2.2.2.2
      rw [← hra] at hrv
      rw [hstk] at hW ⊢
      refine zcallX (va_runV (C := "java/lang/String") (As := []) (rest := (st.drop 1).map (zph G)) ⟨hx, hb, hml, hown, hts⟩ hM1 (cwV 0 hts hg rfl q1 q2 (by decide +kernel) ⟨q3, zfit q4 (by decide)⟩) ⟨zPc_blind, hrv, fun U hU hWm => ⟨rfl, by rw [hU]; exact hI.2.2.2.2.1, hC.warm hI.2.2.2.2.2 hU hWm⟩⟩ rfl rfl hI.sz rfl hW hd ⟨Nat.le_refl _, Nat.le_refl _⟩) hI.2.2.2.2.2 (fun H1 locs1 g1 g2 g3 g4 => ?_)
      rw [zpushed]
      exact hk _ _ _ h H1 locs1 ls (hI.back g1 g2 g3 g4)
    · have hz := hPr _ _ _ _ _ hE (by decide)
      have hM2 := hM2 _ _ _ _ hE hI.2.2.2.1
      obtain ⟨j1, j2, j3⟩ := zJc_in
      obtain ⟨-, -, -, j4⟩ := zJl_in
      obtain ⟨x0, hAs⟩ : ∃ x0, As = [x0] := by
        match As, hAl with
        | [x0], _ => exact ⟨x0, rfl⟩
      subst hAs
      have hz2 : ∃ kk : Nat, kk < 17 ∧ c0 = -10 - (kk : Int) := by
        rcases x0 with x0 | x0 | x0
        · obtain ⟨-, kk, hkk, e5, -⟩ := (show mem' = mem ∧ ∃ k : Nat, k < 17 ∧ c0 = -10 - (k : Int) ∧ _ from hz)
          exact ⟨kk, hkk, e5⟩
        · exact (show False from hz).elim
        · exact (show False from hz).elim
      obtain ⟨kk, hkk, e5⟩ := hz2
      have hra : zra G c0 = G.2.2.2.1 kk := by
        unfold zra
        rw [if_neg (by omega), if_pos (by omega), show (-10 - c0).toNat = kk by omega]
      have hg : GoodIn zBIG (wsV (zCN (zow y)) n "java/lang/String" yJ0_charAt_5068e (.code yJ0_charAt_5068e cJ0_charAt_5068e 2 (some .char) :: zBIG)) := by
        intro w hw
        have : w ∈ zBIG := by
          unfold wsV at hw
          simp only [List.mem_append, List.mem_cons, List.not_mem_nil, or_false] at hw
          rcases hw with (rfl | rfl | rfl | rfl) | rfl | hw
          · exact hpl
          · exact j2
          · exact j3
          · exact j4
          · exact j1
          · exact hw
        exact ⟨this, zgood this⟩
      have hrv := vk_recv (A := A) (s := s) hC.2.2.1 hkk hI.2.2.2.2.2
      rw [← hra] at hrv
      rw [hstk] at hW ⊢
      refine zcallX (va_runV (C := "java/lang/String") (As := [x0].map (zph G)) (rest := (st.drop 2).map (zph G)) ⟨hx, hb, hml, hown, hts⟩ hM2 (cwV 1 hts hg rfl q1 q2 (by decide +kernel) ⟨q3, zfit q4 (by decide)⟩) ⟨zPc_blind, hrv, fun U hU hWm => ⟨rfl, by rw [hU]; exact hI.2.2.2.2.1, hC.warm hI.2.2.2.2.2 hU hWm⟩⟩ rfl rfl hI.sz rfl hW hd ⟨Nat.le_refl _, Nat.le_refl _⟩) hI.2.2.2.2.2 (fun H1 locs1 g1 g2 g3 g4 => ?_)
      rw [zpushed]
      exact hk _ _ _ h H1 locs1 ls (hI.back g1 g2 g3 g4)
theorem zs_69 (C : zAt p s m args c y G A) (hd : decode (zmt y).2.1 pc = .ok (i, len)) (hi : zIn_69 y a b v pc i len = true) (h : zst E (69, a, b, v) lc st mem K Q k) (hM : zKn l R rm G A E) (hk : ∀ lc st mem, k lc st mem → zGo p l e R s m args below meth c Qf G A y (pc + len) lc st mem) : zGo p l e R s m args below meth c Qf G A y pc lc st mem := by
  obtain ⟨hx, hb, hml, hown, hts, hC⟩ := C
  intro H locs ls hI
  rw [zst_69] at h
  obtain ⟨hlen, hcat, r, mem', hE, h⟩ := h
  unfold zIn_69 at hi
  split at hi
  case h_2 => cases hi
  rename_i n
  simp only [Bool.and_eq_true, Bool.or_eq_true, beq_iff_eq, decide_eq_true_eq] at hi
  obtain ⟨rfl, hi⟩ := hi
  have hsplit : st = (st.take b) ++ st.drop b := (List.take_append_drop b st).symm
  have hAl : (st.take b).reverse.length = b := by simp; omega
  have hstk : st.map (zph G) = ((st.take b).reverse.map (zph G)).reverse ++ (st.drop b).map (zph G) := by
    rw [List.map_reverse, List.reverse_reverse, ← List.map_append, ← hsplit]
  have har := hI.ar (n := b)
  have hW : 2 * (F0 m pc ls (st.map (zph G))).monitorRoom + (((st.drop b).map (zph G)).map fun v => v.category).sum ≤ 8 := lv_room (by rw [zcat_map]; exact hcat)
  rcases hi with ⟨ha, e1, e2, e3⟩ | ⟨e1, rfl, rfl⟩
  · obtain ⟨⟨q1, q2, q3, q4, q5⟩, hMet, -⟩ := hM
    have how := zow_all a (by omega)
    have hM1 := hMet _ _ _ _ _ hE ha har hI.2.2.2.1
    have hnh := znh_all a ha
    have hini : (Cond.initialized (zmt a).1.cls).before args s = true := by rw [how.1]; exact hts _ (zINI_in how.2.1)
    have hg : GoodIn zBIG (zws a) := fun w hw => ⟨zws_in ha hw, zgood (zws_in ha hw)⟩
    rw [hstk] at hW ⊢
    refine zcallX (va_runS (As := (st.take b).reverse.map (zph G)) (rest := (st.drop b).map (zph G)) ⟨hx, hb, hml, hown, hts⟩ hM1 ⟨callB_of (zna a) hts hg rfl q1 q2 hini (hts _ (zML_in e1)) hnh.2 ⟨q3, zfit q4 how.2.2.1⟩, hts _ (zSTA_in e2)⟩ ⟨zPc_blind, fun U hU hWm => ⟨rfl, by rw [hU]; exact hI.2.2.2.2.1, hC.warm hI.2.2.2.2.2 hU hWm⟩⟩ rfl (by rw [List.length_map]; omega) hI.sz rfl hW hd ⟨Nat.le_refl _, Nat.le_refl _⟩) hI.2.2.2.2.2 (fun H1 locs1 g1 g2 g3 g4 => ?_)
    rw [zpushed]
    exact hk _ _ _ h H1 locs1 ls (hI.back g1 g2 g3 g4)
  · obtain ⟨⟨q1, q2, q3, q4, q5⟩, -, -, -, hPr⟩ := hM
    have hz := hPr _ _ _ _ _ hE (by decide)
    obtain ⟨j1, j2, j3⟩ := zJa_in
    have hpl := zPL_in e1
    have hz : zpr 1000 (st.take 5).reverse mem r mem' := hz
    unfold zpr at hz
    rw [if_pos rfl] at hz
    split at hz
    case h_2 => exact hz.elim
    rename_i a0 i0 c1 k0 n0 eas
    obtain ⟨rfl, ⟨hk1, hk2⟩, ⟨b1, b2, b3, b4, b5⟩, rfl⟩ := hz
    rw [eas] at hstk har
    obtain ⟨I0, rfl⟩ := har (.inl i0) (by simp)
    obtain ⟨K0, rfl⟩ := har (.inl k0) (by simp)
    obtain ⟨N0, rfl⟩ := har (.inl n0) (by simp)
    have hne0 : ¬ zkd a0 = 0 := by omega
    have hne1 : ¬ zkd c1 = 0 := by omega
    have hw0 := zWl_at G mem hne0
    have hw1 := zWl_at G mem hne1
    have z1 := zclamp b1
    have z2 := zclamp b2
    have z3 := zclamp b3
    have hL0 := zln_nn hne0
    have hL1 := zln_nn hne1
    have ng : ∀ X : Int32, 0 ≤ X.toInt → ¬ X < 0 := fun X hX q => by have := Int32.lt_iff_toInt_lt.mp q; rw [show (0 : Int32).toInt = 0 from rfl] at this; omega
    have hstk2 : st.map (zph G) = .int N0 :: .int K0 :: .ref (zra G c1) :: .int I0 :: .ref (zra G a0) :: (st.drop 5).map (zph G) := by
      rw [hstk]
      simp only [List.map_cons, List.map_nil, List.reverse_cons, List.reverse_nil, List.nil_append, List.cons_append, zph_i, zph_r]
    have hmm : ∀ c', c' ≠ c1 → ∀ j, (fun c' j => if c' = c1 ∧ K0.toInt ≤ j ∧ j < K0.toInt + N0.toInt then mem a0 (I0.toInt + (j - K0.toInt)) else mem c' j : zMm) c' j = mem c' j := by
      intro c' hc j
      simp only
      rw [if_neg (fun q => hc q.1)]
    have hset := zWl_set G mem (fun c' j => if c' = c1 ∧ K0.toInt ≤ j ∧ j < K0.toInt + N0.toInt then mem a0 (I0.toInt + (j - K0.toInt)) else mem c' j) hne1 hmm
    have hcm : zCm (fun c' j => if c' = c1 ∧ K0.toInt ≤ j ∧ j < K0.toInt + N0.toInt then mem a0 (I0.toInt + (j - K0.toInt)) else mem c' j) := by
      intro c' j
      by_cases q : c' = c1 ∧ K0.toInt ≤ j ∧ j < K0.toInt + N0.toInt
      · simp only [q, and_self, if_true]
        have h3 := hI.2.2.2.1 a0 (I0.toInt + (j - K0.toInt))
        have hlo : zlo c1 j ↔ zlo a0 (I0.toInt + (j - K0.toInt)) := by
          unfold zlo
          rw [hk1]
          constructor <;> (rintro (q | q) <;> first | exact Or.inl q | omega)
        exact ⟨fun z => h3.1 (hlo.mp z), fun z => h3.2 (fun w => z (hlo.mpr w))⟩
      · simp only [q, if_false]
        exact hI.2.2.2.1 c' j
    have hlc : ((((st.drop 5).map (zph G)).map fun v => v.category).sum) + (nativeFrameWords "java/lang/System" "arraycopy" 5 + 11) ≤ R.locals := by
      have e9 : nativeFrameWords "java/lang/System" "arraycopy" 5 = 7 := by decide +kernel
      rw [zcat_map, e9]; omega
    rw [hstk2]
    have fin : ∀ (H1 : Heap) (locs1 : List Loc), va_P G.1 zcl12 (zWl G (fun c' j => if c' = c1 ∧ K0.toInt ≤ j ∧ j < K0.toInt + N0.toInt then mem a0 (I0.toInt + (j - K0.toInt)) else mem c' j)) H1 → va_S A s.heap H1 locs1 → W p l e R s m args below meth c H1 locs1 R.cells R.slots Qf (F0 m (pc + 3) ls ((st.drop 5).map (zph G))) := fun H1 locs1 g3 g4 => hk _ _ _ h H1 locs1 ls (hI.back (r := none) (fun v hv => by cases hv) hcm g3 g4)
    have cp : ∀ {α : Type} (F : Int → α), va_cpy (fun (i : Nat) => F (mem a0 i)) (fun (i : Nat) => F (mem c1 i)) I0.toNatClampNeg K0.toNatClampNeg N0.toNatClampNeg = fun (i : Nat) => F (if c1 = c1 ∧ K0.toInt ≤ (i : Int) ∧ (i : Int) < K0.toInt + N0.toInt then mem a0 (I0.toInt + ((i : Int) - K0.toInt)) else mem c1 i) := by
      intro α F
      funext j
      unfold va_cpy
      by_cases q : K0.toNatClampNeg ≤ j ∧ j < K0.toNatClampNeg + N0.toNatClampNeg
      · rw [if_pos q, if_pos ⟨rfl, by omega, by omega⟩]
        have e8 : ((I0.toNatClampNeg + (j - K0.toNatClampNeg) : Nat) : Int) = I0.toInt + ((j : Int) - K0.toInt) := by omega
        show F (mem a0 ((I0.toNatClampNeg + (j - K0.toNatClampNeg) : Nat) : Int)) = _
        rw [e8]
      · rw [if_neg q, if_neg (fun z => q (by omega))]
    rcases hk2 with hk2 | hk2
    · rw [zcE_i G _ (by omega)] at hset hw0 hw1
      rw [← cp Int32.ofInt] at hset
      refine va_copyi (D := G.1) (cl := zcl12) (tys := ztys G) hx hb (by rw [hml]; exact hI.sz.symm) hown (hts _ hpl) (hts _ j1) (hts _ j2) (hts _ j3) hC.1 hI.2.2.2.2.1 (hC.D mem) hI.2.2.2.2.2 a0.toNat c1.toNat 0 0 (ty := .int) hw0 hw1 rfl rfl rfl (ng _ b1) (ng _ b2) (ng _ b3) (by omega) (by omega) (fun _ _ => rfl) (by omega) hlc hd (fun H1 locs1 hP1 _ hS1 => ?_)
      rw [hset] at hP1
      exact fin H1 locs1 hP1 hS1
    · rw [zcE_l G _ (by omega)] at hset hw0 hw1
      rw [← cp Int64.ofInt] at hset
      refine va_copyl (D := G.1) (cl := zcl12) (tys := ztys G) hx hb (by rw [hml]; exact hI.sz.symm) hown (hts _ hpl) (hts _ j1) (hts _ j2) (hts _ j3) hC.1 hI.2.2.2.2.1 (hC.D mem) hI.2.2.2.2.2 a0.toNat c1.toNat 1 1 (ty := .long) hw0 hw1 rfl rfl rfl (ng _ b1) (ng _ b2) (ng _ b3) (by omega) (by omega) (fun _ _ => rfl) (by omega) hlc hd (fun H1 locs1 hP1 _ hS1 => ?_)
      rw [hset] at hP1
      exact fin H1 locs1 hP1 hS1
theorem zs_78 (C : zAt p s m args c y G A) (hd : decode (zmt y).2.1 pc = .ok (i, len)) (hi : zIn_78 y a b v pc i len = true) (h : zst E (78, a, b, v) lc st mem K Q k) (hM : zKn l R rm G A E) (hk : ∀ lc st mem, k lc st mem → zGo p l e R s m args below meth c Qf G A y (pc + len) lc st mem) : zGo p l e R s m args below meth c Qf G A y pc lc st mem := by
  obtain ⟨hx, hb, hml, hown, hts, hC⟩ := C
  intro H locs ls hI
  rw [zst_78] at h
  obtain ⟨hlen, hcat, r, mem', hE, h⟩ := h
  unfold zIn_78 at hi
  split at hi
  case h_2 => cases hi
  rename_i n
  simp only [Bool.and_eq_true, Bool.or_eq_true, beq_iff_eq, decide_eq_true_eq] at hi
  obtain ⟨rfl, hi⟩ := hi
  have hsplit : st = (st.take b) ++ st.drop b := (List.take_append_drop b st).symm
  have hAl : (st.take b).reverse.length = b := by simp; omega
  have hstk : st.map (zph G) = ((st.take b).reverse.map (zph G)).reverse ++ (st.drop b).map (zph G) := by
    rw [List.map_reverse, List.reverse_reverse, ← List.map_append, ← hsplit]
  have har := hI.ar (n := b)
  have hW : 2 * (F0 m pc ls (st.map (zph G))).monitorRoom + (((st.drop b).map (zph G)).map fun v => v.category).sum ≤ 8 := lv_room (by rw [zcat_map]; exact hcat)
  obtain ⟨e1, rfl, rfl, rfl⟩ := hi
  obtain ⟨⟨q1, q2, q3, q4, q5⟩, hMet, -⟩ := hM
  have how := zow_all 81 (by omega)
  have hM1 := hMet _ _ _ _ _ hE (by decide) har hI.2.2.2.1
  have hnh := znh_all 81 (by decide)
  have hini : (Cond.initialized (zmt 81).1.cls).before args s = true := by rw [how.1]; exact hts _ (zINI_in how.2.1)
  have hg : GoodIn zBIG (zws 81) := fun w hw => ⟨zws_in (by decide) hw, zgood (zws_in (by decide) hw)⟩
  rw [e1] at hown
  have hnw : va_Nw (.methodLinkNest (zCN 5) 66 (zmt 81).1 "DaughtersGate") s := hC.2.2.2.2.2.1
  rw [hstk] at hW ⊢
  refine zcallX (va_runSN (own := zCN 5) (host := "DaughtersGate") (As := (st.take 2).reverse.map (zph G)) (rest := (st.drop 2).map (zph G)) ⟨hx, hb, hml, hown, hts⟩ hM1 ⟨va_cnB (zna 81) hts hg rfl q1 q2 hnw hini hnh.2 ⟨q3, zfit q4 how.2.2.1⟩, hts _ (zSTA_in (by decide +kernel)), trivial⟩ ⟨zPc_blind, fun U hU hWm => ⟨rfl, by rw [hU]; exact hI.2.2.2.2.1, hC.warm hI.2.2.2.2.2 hU hWm⟩⟩ rfl (by rw [List.length_map]; exact hAl) hI.sz rfl hW hd ⟨Nat.le_refl _, Nat.le_refl _⟩) hI.2.2.2.2.2 (fun H1 locs1 g1 g2 g3 g4 => ?_)
  rw [zpushed]
  exact hk _ _ _ h H1 locs1 ls (hI.back g1 g2 g3 g4)
theorem zs_70 {r0 : Option zV} {mem0 : zMm} (hR0 : R.cells = 0 ∧ R.slots = 0) (C : zAt p s m args c y G A) (hr : meth.sig.returnType = (zmt y).2.2.2.1) (hlocks : meth.locks = false) (hd : decode (zmt y).2.1 pc = .ok (i, len)) (hi : zIn_70 y a b v pc i len = true) (h : zst E (70, a, b, v) lc st mem K (fun r m => r = r0 ∧ m = mem0) k) : zGo p l e R s m args below meth c (MQ below (zQc G A r0 mem0) args s 0 0 A) G A y pc lc st mem := by
  obtain ⟨hx, hb, hml, hown, hts, hC⟩ := C
  intro H locs ls hI
  rw [hR0.1, hR0.2]
  rw [zst_70] at h
  split at h
  case h_2 => exact h.elim
  obtain ⟨rfl, rfl⟩ := h
  obtain ⟨hv, hI1⟩ := hI.pop
  obtain ⟨X, rfl⟩ := hv
  unfold zIn_70 at hi
  split at hi
  case h_2 => cases hi
  simp only [Bool.and_eq_true, beq_iff_eq, decide_eq_true_eq] at hi
  obtain ⟨rfl, e1⟩ := hi
  rw [e1] at hr
  rw [zmp_i]
  exact W.iret hx hb hr (fun t ht _ => ⟨by rw [Option.map_some, zph_i], fun v e => by cases e; exact ⟨X, rfl⟩, hI1.2.2.2.1, by rw [ht]; exact hI1.2.2.2.2.1, hI1.2.2.2.2.2.F ht⟩) hI1.2.2.2.2.2.2.2 hd hlocks
theorem zs_71 {r0 : Option zV} {mem0 : zMm} (hR0 : R.cells = 0 ∧ R.slots = 0) (C : zAt p s m args c y G A) (hr : meth.sig.returnType = (zmt y).2.2.2.1) (hlocks : meth.locks = false) (hd : decode (zmt y).2.1 pc = .ok (i, len)) (hi : zIn_71 y a b v pc i len = true) (h : zst E (71, a, b, v) lc st mem K (fun r m => r = r0 ∧ m = mem0) k) : zGo p l e R s m args below meth c (MQ below (zQc G A r0 mem0) args s 0 0 A) G A y pc lc st mem := by
  obtain ⟨hx, hb, hml, hown, hts, hC⟩ := C
  intro H locs ls hI
  rw [hR0.1, hR0.2]
  rw [zst_71] at h
  split at h
  case h_2 => exact h.elim
  obtain ⟨rfl, rfl⟩ := h
  obtain ⟨hv, hI1⟩ := hI.pop
  obtain ⟨X, rfl⟩ := hv
  unfold zIn_71 at hi
  split at hi
  case h_2 => cases hi
  simp only [Bool.and_eq_true, beq_iff_eq, decide_eq_true_eq] at hi
  obtain ⟨rfl, e1⟩ := hi
  rw [e1] at hr
  rw [zmp_l]
  exact W.lret hx hb hr (fun t ht _ => ⟨by rw [Option.map_some, zph_l], fun v e => by cases e; exact ⟨X, rfl⟩, hI1.2.2.2.1, by rw [ht]; exact hI1.2.2.2.2.1, hI1.2.2.2.2.2.F ht⟩) hI1.2.2.2.2.2.2.2 hd hlocks
theorem zs_72 {r0 : Option zV} {mem0 : zMm} (hR0 : R.cells = 0 ∧ R.slots = 0) (C : zAt p s m args c y G A) (hr : meth.sig.returnType = (zmt y).2.2.2.1) (hlocks : meth.locks = false) (hd : decode (zmt y).2.1 pc = .ok (i, len)) (hi : zIn_72 y a b v pc i len = true) (h : zst E (72, a, b, v) lc st mem K (fun r m => r = r0 ∧ m = mem0) k) : zGo p l e R s m args below meth c (MQ below (zQc G A r0 mem0) args s 0 0 A) G A y pc lc st mem := by
  obtain ⟨hx, hb, hml, hown, hts, hC⟩ := C
  intro H locs ls hI
  rw [hR0.1, hR0.2]
  rw [zst_72] at h
  split at h
  case h_2 => exact h.elim
  obtain ⟨rfl, rfl⟩ := h
  unfold zIn_72 at hi
  split at hi
  case h_2 => cases hi
  simp only [Bool.and_eq_true, beq_iff_eq, decide_eq_true_eq] at hi
  obtain ⟨rfl, e1⟩ := hi
  rw [e1] at hr
  exact W.vret hx hb hr (fun t ht _ => ⟨rfl, fun v e => (by cases e), hI.2.2.2.1, by rw [ht]; exact hI.2.2.2.2.1, hI.2.2.2.2.2.F ht⟩) hI.2.2.2.2.2.2.2 hd hlocks
theorem zs_76 {r0 : Option zV} {mem0 : zMm} (hR0 : R.cells = 0 ∧ R.slots = 0) (C : zAt p s m args c y G A) (hr : meth.sig.returnType = (zmt y).2.2.2.1) (hlocks : meth.locks = false) (hd : decode (zmt y).2.1 pc = .ok (i, len)) (hi : zIn_76 y a b v pc i len = true) (h : zst E (76, a, b, v) lc st mem K (fun r m => r = r0 ∧ m = mem0) k) : zGo p l e R s m args below meth c (MQ below (zQc G A r0 mem0) args s 0 0 A) G A y pc lc st mem := by
  obtain ⟨hx, hb, hml, hown, hts, hC⟩ := C
  intro H locs ls hI
  rw [hR0.1, hR0.2]
  rw [zst_76] at h
  split at h
  case h_2 => exact h.elim
  obtain ⟨h01, rfl, rfl⟩ := h
  obtain ⟨hv, hI1⟩ := hI.pop
  obtain ⟨X, rfl⟩ := hv
  unfold zIn_76 at hi
  split at hi
  case h_2 => cases hi
  simp only [Bool.and_eq_true, beq_iff_eq, decide_eq_true_eq] at hi
  obtain ⟨rfl, e1⟩ := hi
  rw [e1] at hr
  rw [zmp_i]
  have hX01 : X = 0 ∨ X = 1 := h01.elim (fun q => Or.inl (Int32.toInt_inj.mp q)) (fun q => Or.inr (Int32.toInt_inj.mp q))
  exact W.zret hx hb hr (by rcases hX01 with rfl | rfl <;> rfl) (fun t ht _ => ⟨by rw [Option.map_some, zph_i], fun v e => by cases e; exact ⟨X, rfl⟩, hI1.2.2.2.1, by rw [ht]; exact hI1.2.2.2.2.1, hI1.2.2.2.2.2.F ht⟩) hI1.2.2.2.2.2.2.2 hd hlocks
end ZS
