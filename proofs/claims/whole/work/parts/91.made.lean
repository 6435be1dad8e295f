/-! ===== cells made one behind the other ===== -/
def zUa (a : Nat → Nat) (n q : Nat) : Nat → Nat := fun i => if i = n then q else a i
def zUe (E : Nat → va_E) (n : Nat) (e : va_E) : Nat → va_E := fun i => if i = n then e else E i
def zAa (a : Nat → Nat) (n : Nat) (b : Nat → Nat) : Nat → Nat := fun i => if i < n then a i else b (i - n)
def zAe (E : Nat → va_E) (n : Nat) (F : Nat → va_E) : Nat → va_E := fun i => if i < n then E i else F (i - n)
def zL (a : Nat → Nat) (E : Nat → va_E) (n : Nat) : va_W := (List.range n).map (fun j => (a j, E j))
theorem zL_at {a : Nat → Nat} {E : Nat → va_E} {n j : Nat} (h : j < n) : (zL a E n)[j]? = some (a j, E j) := by
  unfold zL
  rw [List.getElem?_map, List.getElem?_range h]
  rfl
theorem zL_len {a : Nat → Nat} {E : Nat → va_E} {n : Nat} : (zL a E n).length = n := by
  unfold zL
  rw [List.length_map, List.length_range]
theorem zL_in {a : Nat → Nat} {E : Nat → va_E} {n k : Nat} {q : Nat × va_E} (h : (zL a E n)[k]? = some q) : k < n ∧ q = (a k, E k) := by
  have hk : k < n := by
    have := (List.getElem?_eq_some_iff.mp h).1
    rwa [zL_len] at this
  rw [zL_at hk] at h
  exact ⟨hk, (Option.some.inj h).symm⟩
theorem zL_eq {a b : Nat → Nat} {E F : Nat → va_E} {n : Nat} (h : ∀ j, j < n → a j = b j ∧ E j = F j) : zL a E n = zL b F n := by
  unfold zL
  refine List.map_congr_left (fun j hj => ?_)
  have := h j (List.mem_range.mp hj)
  rw [this.1, this.2]
theorem zL_push {a : Nat → Nat} {E : Nat → va_E} {n q : Nat} {e : va_E} : zL a E n ++ [(q, e)] = zL (zUa a n q) (zUe E n e) (n + 1) := by
  have e1 : zL a E n = zL (zUa a n q) (zUe E n e) n := zL_eq (fun j hj => by
    unfold zUa zUe
    rw [if_neg (by omega), if_neg (by omega)]
    exact ⟨rfl, rfl⟩)
  rw [e1]
  unfold zL
  rw [List.range_succ, List.map_append]
  congr 1
  unfold zUa zUe
  show _ = [((if n = n then q else a n), (if n = n then e else E n))]
  rw [if_pos rfl, if_pos rfl]
theorem zL_set {a : Nat → Nat} {E : Nat → va_E} {n j : Nat} {e : va_E} (h : j < n) : (zL a E n).set j (a j, e) = zL a (zUe E j e) n := by
  apply List.ext_getElem?
  intro i
  rw [List.getElem?_set, zL_len]
  by_cases c : j = i
  · subst c
    rw [if_pos rfl, if_pos h, zL_at h]
    unfold zUe
    rw [if_pos rfl]
  · rw [if_neg c]
    by_cases d : i < n
    · rw [zL_at d, zL_at d]
      unfold zUe
      rw [if_neg (fun z => c z.symm)]
    · rw [List.getElem?_eq_none (by rw [zL_len]; omega), List.getElem?_eq_none (by rw [zL_len]; omega)]
theorem zL_app {a b : Nat → Nat} {E F : Nat → va_E} {n k : Nat} : zL a E n ++ zL b F k = zL (zAa a n b) (zAe E n F) (n + k) := by
  apply List.ext_getElem?
  intro i
  by_cases c : i < n
  · rw [List.getElem?_append_left (by rw [zL_len]; exact c), zL_at c, zL_at (by omega)]
    unfold zAa zAe
    rw [if_pos c, if_pos c]
  · rw [List.getElem?_append_right (by rw [zL_len]; omega), zL_len]
    by_cases d : i - n < k
    · rw [zL_at d, zL_at (by omega)]
      unfold zAa zAe
      rw [if_neg c, if_neg c]
    · rw [List.getElem?_eq_none (by rw [zL_len]; omega), List.getElem?_eq_none (by rw [zL_len]; omega)]
/-- what a constructor finds: classes, array classes, links of nest mates -/
def zCn (G : zG) (U : State) : Prop := va_K G.1 zcl12 (ztys G) U ∧ (va_AO RX4 U ∧ va_AO RX1 U ∧ va_AO RX7 U ∧ va_AO RX2 U ∧ va_AO RX6 U) ∧ ∀ (k : Nat) (e : Nat × Nat × MethodName), zNL[k]? = some e → va_Nw (znlW e) U
theorem zCn.calling {G : zG} {U : State} (h : zCn G U) (g : JFrame) (mk : MethodId) (a : Array Value) : zCn G (U.calling g mk a) := by
  obtain ⟨h1, ⟨a1, a2, a3, a4, a5⟩, h2⟩ := h
  have hv : U.vm.Alike (U.calling g mk a).vm := Vm.Alike.refl U.vm
  exact ⟨va_K.moved (u := U) hv h1, ⟨va_AO.moved (u := U) hv a1, va_AO.moved (u := U) hv a2, va_AO.moved (u := U) hv a3, va_AO.moved (u := U) hv a4, va_AO.moved (u := U) hv a5⟩, fun k e hk => va_Nw.same (u := U) rfl rfl (h2 k e hk)⟩
theorem zCn.warm {G : zG} {s U : State} (h : zCn G s) (hW : s.WarmedH U.vm) : zCn G U := by
  obtain ⟨h1, ⟨a1, a2, a3, a4, a5⟩, h2⟩ := h
  exact ⟨va_K.moved hW.alike h1, ⟨va_AO.moved hW.alike a1, va_AO.moved hW.alike a2, va_AO.moved hW.alike a3, va_AO.moved hW.alike a4, va_AO.moved hW.alike a5⟩, fun k e hk => va_Nw.warmM hW (h2 k e hk)⟩
/-- a constructor's start and end -/
def zPn (G : zG) (h0 sz : Nat) (e0 : va_E) : Array Value → State → Prop := va_Pc [.ref h0] (fun U => U.heap.size = sz ∧ va_P G.1 zcl12 [(h0, e0)] U.heap ∧ zCn G U)
def zQn (G : zG) (h0 sz : Nat) (e0 : va_E) (k : Nat) (F : (Nat → Nat) → Nat → va_E) : Array Value → State → Outcome → State → Prop := va_Qv (fun a : Nat → Nat => a 0 = h0) (fun a t => va_P G.1 zcl12 (zL a (F a) k) t.heap ∧ va_D (va_A [(h0, e0)] sz) (zL a (F a) k)) (va_A [(h0, e0)] sz)
theorem zPn_blind {G : zG} {h0 sz : Nat} {e0 : va_E} : FrameBlind (zPn G h0 sz e0) := fun a U g mk q => ⟨q.1, q.2.1, q.2.2.1, q.2.2.2.calling g mk a⟩
def zMc (p : Program) (s : State) (m : MethodId) (args : Array Value) (c : Code) (cc : ByteArray) (nL o : Nat) (G : zG) : Prop := p.tables.exec = Jvm.exec ∧ c.code = cc ∧ c.maxLocals = nL ∧ s.vm.findClass (zCN o) = some m.cls ∧ (∀ w ∈ zBIG, w.before args s = true) ∧ zCn G s
section ZM
variable {p : Program} {l : Launch} {e : Env} {R : Room} {s : State} {m : MethodId} {args : Array Value} {below : List Frame} {meth : Method} {c : Code} {H : Heap} {locs : List Loc} {cells slots : Nat} {Q : State → Prop}
variable {cc : ByteArray} {pc nL o : Nat} {ls : Array Slot} {rest : List Value} {G : zG} {A : Nat → Prop} {a : Nat → Nat} {E : Nat → va_E} {n : Nat}
theorem zn_new {ci index : Nat} (C : zMc p s m args c cc nL o G) (hP : va_P G.1 zcl12 (zL a E n) H) (hD : va_D A (zL a E n)) (hS : va_S A s.heap H locs) (hA : ∀ q, s.heap.size ≤ q → A q) (hci : ci < 12) (h1 : Cond.classLink (zCN o) index (zCN ci) ∈ zBIG) (h2 : Cond.instantiable (zCN ci) (znf ci) ∈ zBIG) (h3 : Cond.initialized (zCN ci) ∈ zBIG) {fs : List Value} (hfs : ∀ j, j < znf ci → defaultValue (zty ci j) = vp_V fs j) (hcells : cells + 1 ≤ R.cells) (hslots : slots + znf ci ≤ R.slots) (hdg : decode cc pc = .ok (.new index, 3))
    (kk : ∀ (q : Nat) (H1 : Heap), va_P G.1 zcl12 (zL (zUa a n q) (zUe E n (.inr (ci, fs))) (n + 1)) H1 → va_D A (zL (zUa a n q) (zUe E n (.inr (ci, fs))) (n + 1)) → va_S A s.heap H1 locs → W p l e R s m args below meth c H1 locs (cells + 1) (slots + znf ci) Q (F0 m (pc + 3) ls (.ref q :: rest))) : W p l e R s m args below meth c H locs cells slots Q (F0 m pc ls rest) := by
  obtain ⟨hx, hb, hml, hown, hts, hK, -⟩ := C
  refine va_new (ci := ci) (fs := fs) hx hb hts (zU_all ci hci) (zty ci) (zty_all ci hci) hown (hts _ h1) (hts _ h2) (hts _ h3) hK hP hD hS hA (zcl12_at ci hci) hfs hcells hslots hdg (fun q H1 g1 g2 g3 => ?_)
  rw [zL_push] at g1 g2
  exact kk q H1 g1 g2 g3
theorem zn_newa {at0 : ArrayType} {t : Nat} {ty : FieldType} (C : zMc p s m args c cc nL o G) (hP : va_P G.1 zcl12 (zL a E n) H) (hD : va_D A (zL a E n)) (hS : va_S A s.heap H locs) (hA : ∀ q, s.heap.size ≤ q → A q) (hw : Cond.arrayClass (newarray.typeOf at0) ∈ zBIG) (hty : newarray.typeOf at0 = ty) (ht : (ztys G)[t]? = some (G.2.1 (t + 1), ty)) (hp : ∀ U cA, va_RA U cA ty ↔ U.vm.findClass ("[" ++ ty.toString) = some cA) {i : Int32} {N : Nat} {a0 : vp_A} (ha : ∀ cA : ClassId, vp_cell cA a0 = arrV cA N (fun _ => defaultValue ty)) (hn : ¬ i < 0) (hN : i.toNatClampNeg = N) (hbytes : N * componentBytes ty ≤ 536870912) (hcells : cells + 1 ≤ R.cells) (hslots : slots + N ≤ R.slots) (hdg : decode cc pc = .ok (.newarray at0, 2))
    (kk : ∀ (q : Nat) (H1 : Heap), va_P G.1 zcl12 (zL (zUa a n q) (zUe E n (.inl (G.2.1 (t + 1), a0))) (n + 1)) H1 → va_D A (zL (zUa a n q) (zUe E n (.inl (G.2.1 (t + 1), a0))) (n + 1)) → va_S A s.heap H1 locs → W p l e R s m args below meth c H1 locs (cells + 1) (slots + N) Q (F0 m (pc + 2) ls (.ref q :: rest))) : W p l e R s m args below meth c H locs cells slots Q (F0 m pc ls (.int i :: rest)) := by
  obtain ⟨hx, hb, hml, hown, hts, hK, -⟩ := C
  refine va_newa (N' := N) (a0 := a0) hx hb (hts _ hw) hty hK hP hD hS hA ha hn hN hbytes hcells hslots hdg (fun q cA H1 g0 g1 g2 g3 => ?_)
  have k1 := (hK.2 t _ ht).2
  have k2 := (g0.2 9 (cA, ty) (by
    rw [List.getElem?_append_right (show (ztys G).length ≤ 9 from Nat.le_refl 9)]
    rfl)).2
  have : cA = G.2.1 (t + 1) := by
    have x1 := (hp _ _).mp k1
    have x2 := (hp _ _).mp k2
    exact Option.some.inj (x2.symm.trans x1)
  subst this
  rw [zL_push] at g1 g2
  exact kk q H1 g1 g2 g3
theorem zn_newq {index t : Nat} {Cn : String} (C : zMc p s m args c cc nL o G) (hP : va_P G.1 zcl12 (zL a E n) H) (hD : va_D A (zL a E n)) (hS : va_S A s.heap H locs) (hA : ∀ q, s.heap.size ≤ q → A q) (h1 : Cond.classLink (zCN o) index Cn ∈ zBIG) (hover : va_AO Cn s) (ht : (ztys G)[t]? = some (G.2.1 (t + 1), .object Cn)) {i : Int32} {N : Nat} (hn : ¬ i < 0) (hN : i.toNatClampNeg = N) (hbytes : N * 4 ≤ 536870912) (hcells : cells + 1 ≤ R.cells) (hslots : slots + N ≤ R.slots) (hdg : decode cc pc = .ok (.anewarray index, 3))
    (kk : ∀ (q : Nat) (H1 : Heap), va_P G.1 zcl12 (zL (zUa a n q) (zUe E n (.inl (G.2.1 (t + 1), N, .inr (.inr (.inr (.inr (fun _ => none))))))) (n + 1)) H1 → va_D A (zL (zUa a n q) (zUe E n (.inl (G.2.1 (t + 1), N, .inr (.inr (.inr (.inr (fun _ => none))))))) (n + 1)) → va_S A s.heap H1 locs → W p l e R s m args below meth c H1 locs (cells + 1) (slots + N) Q (F0 m (pc + 3) ls (.ref q :: rest))) : W p l e R s m args below meth c H locs cells slots Q (F0 m pc ls (.int i :: rest)) := by
  obtain ⟨hx, hb, hml, hown, hts, hK, -⟩ := C
  refine va_newq (N' := N) hx hb hown (hts _ h1) hover hK hP hD hS hA hn hN hbytes hcells hslots hdg (fun q cA H1 g0 g1 g2 g3 => ?_)
  obtain ⟨_, _, -, -, -, k1⟩ := (hK.2 t _ ht).2
  obtain ⟨_, _, -, -, -, k2⟩ := (g0.2 9 (cA, .object Cn) (by
    rw [List.getElem?_append_right (show (ztys G).length ≤ 9 from Nat.le_refl 9)]
    rfl)).2
  have : cA = G.2.1 (t + 1) := Option.some.inj (k2.symm.trans k1)
  subst this
  rw [zL_push] at g1 g2
  exact kk q H1 g1 g2 g3
theorem zn_put {ci index k j : Nat} {fs : List Value} {v : Value} {x : Nat} (C : zMc p s m args c cc nL o G) (hin : meth.name = "<init>") (hP : va_P G.1 zcl12 (zL a E n) H) (hD : va_D A (zL a E n)) (hS : va_S A s.heap H locs) (hj : j < n) (hE : E j = .inr (ci, fs)) (hx0 : a j = x) (hci : ci < 12) (hk : k < znf ci) (hfl : zFLT.contains (o, index, ci, k) = true) (hdecl : (zT ci k).1 = zCN o) (hn : narrow (zty ci k) v = v) (hfit : fits (zty ci k) v = true) (hl : k < fs.length) (hdg : decode cc pc = .ok (.putfield index, 3))
    (kk : ∀ (H1 : Heap) (locs1 : List Loc), va_P G.1 zcl12 (zL a (zUe E j (.inr (ci, fs.set k v))) n) H1 → va_D A (zL a (zUe E j (.inr (ci, fs.set k v))) n) → va_S A s.heap H1 locs1 → W p l e R s m args below meth c H1 locs1 cells slots Q (F0 m (pc + 3) ls rest)) : W p l e R s m args below meth c H locs cells slots Q (F0 m pc ls (v :: .ref x :: rest)) := by
  obtain ⟨hx, hb, hml, hown, hts, hK, -⟩ := C
  subst hx0
  have he : (zL a E n)[j]? = some (a j, .inr (ci, fs)) := by rw [zL_at hj, hE]
  have kk' : ∀ (H1 : Heap) (locs1 : List Loc), va_P G.1 zcl12 ((zL a E n).set j (a j, .inr (ci, fs.set k v))) H1 → va_D A ((zL a E n).set j (a j, .inr (ci, fs.set k v))) → va_S A s.heap H1 locs1 → W p l e R s m args below meth c H1 locs1 cells slots Q (F0 m (pc + 3) ls rest) := fun H1 locs1 g1 g2 g3 => by
    rw [zL_set hj] at g1 g2
    exact kk H1 locs1 g1 g2 g3
  by_cases hf : (zT ci k).2.2.2 = true
  · exact va_putF (D := G.1) (cl := zcl12) (ref := (zT ci k).1) hx hb hts (zU_all ci hci) (zty ci) (zty_all ci hci) (znm_all ci hci) hown hK hP hD hS j he (zcl12_at ci hci) k hk (hts _ (zFL_in hfl)) (fun _ h => h) hf hin hdecl (zty_all ci hci k hk) hn hfit hl hdg kk'
  · exact va_put (D := G.1) (cl := zcl12) (ref := (zT ci k).1) hx hb hts (zU_all ci hci) (zty ci) (zty_all ci hci) (znm_all ci hci) hown hK hP hD hS j he (zcl12_at ci hci) k hk (hts _ (zFL_in hfl)) (fun _ h => h) (by cases q : (zT ci k).2.2.2 with
      | true => exact absurd q hf
      | false => rfl) (zty_all ci hci k hk) hn hfit hl hdg kk'
theorem zn_get {ci index k j : Nat} {fs : List Value} {v : Value} {x : Nat} (C : zMc p s m args c cc nL o G) (hP : va_P G.1 zcl12 (zL a E n) H) (hj : j < n) (hE : E j = .inr (ci, fs)) (hx0 : a j = x) (hci : ci < 12) (hk : k < znf ci) (hfl : zFLT.contains (o, index, ci, k) = true) (hv : fs[k]? = some v) (hdg : decode cc pc = .ok (.getfield index, 3))
    (kk : W p l e R s m args below meth c H locs cells slots Q (F0 m (pc + 3) ls (v :: rest))) : W p l e R s m args below meth c H locs cells slots Q (F0 m pc ls (.ref x :: rest)) := by
  obtain ⟨hx, hb, hml, hown, hts, hK, -⟩ := C
  subst hx0
  have he : (zL a E n)[j]? = some (a j, .inr (ci, fs)) := by rw [zL_at hj, hE]
  exact va_get (D := G.1) (cl := zcl12) (ref := (zT ci k).1) hx hb hts (zU_all ci hci) hown hK hP j he (zcl12_at ci hci) k hk (hts _ (zFL_in hfl)) (fun _ h => h) hv hdg kk
theorem zn_astq {t j k ci : Nat} {N : Nat} {f : Nat → Option Nat} {vs : List Value} {x y : Nat} {i : Int32} {r : vw_C} (C : zMc p s m args c cc nL o G) (hP : va_P G.1 zcl12 (zL a E n) H) (hD : va_D A (zL a E n)) (hS : va_S A s.heap H locs) (hj : j < n) (hE : E j = .inl (G.2.1 (t + 1), N, .inr (.inr (.inr (.inr f))))) (hx0 : a j = x) (ht : (ztys G)[t]? = some (G.2.1 (t + 1), .object r.1)) (hk : k < n) (hEk : E k = .inr (ci, vs)) (hy : a k = y) (hc : zcl12[ci]? = some r) (hin : vp_in i N) (hdg : decode cc pc = .ok (.aastore, 1))
    (kk : ∀ (H1 : Heap) (locs1 : List Loc), va_P G.1 zcl12 (zL a (zUe E j (.inl (G.2.1 (t + 1), N, .inr (.inr (.inr (.inr (va_up f i.toNatClampNeg (some y)))))))) n) H1 → va_D A (zL a (zUe E j (.inl (G.2.1 (t + 1), N, .inr (.inr (.inr (.inr (va_up f i.toNatClampNeg (some y)))))))) n) → va_S A s.heap H1 locs1 → W p l e R s m args below meth c H1 locs1 cells slots Q (F0 m (pc + 1) ls rest)) : W p l e R s m args below meth c H locs cells slots Q (F0 m pc ls (.ref y :: .int i :: .ref x :: rest)) := by
  obtain ⟨hx, hb, hml, hown, hts, hK, -⟩ := C
  subst hx0
  subst hy
  have he : (zL a E n)[j]? = some (a j, .inl (G.2.1 (t + 1), N, .inr (.inr (.inr (.inr f))))) := by rw [zL_at hj, hE]
  have hv : (zL a E n)[k]? = some (a k, .inr (ci, vs)) := by rw [zL_at hk, hEk]
  refine va_astq (D := G.1) (cl := zcl12) hx hb hK hP hD hS j t k ci he ht hv hc hin hdg (fun H1 locs1 g1 g2 g3 => ?_)
  rw [zL_set hj] at g1 g2
  exact kk H1 locs1 g1 g2 g3
theorem zn_iast {j : Nat} {N : Nat} {f : Nat → Int32} {x : Nat} {i v : Int32} (C : zMc p s m args c cc nL o G) (hP : va_P G.1 zcl12 (zL a E n) H) (hD : va_D A (zL a E n)) (hS : va_S A s.heap H locs) (hj : j < n) (hE : E j = .inl (G.2.1 1, N, .inl f)) (hx0 : a j = x) (hin : vp_in i N) (hdg : decode cc pc = .ok (.iastore, 1))
    (kk : ∀ (H1 : Heap) (locs1 : List Loc), va_P G.1 zcl12 (zL a (zUe E j (.inl (G.2.1 1, N, .inl (upd f i.toNatClampNeg v)))) n) H1 → va_D A (zL a (zUe E j (.inl (G.2.1 1, N, .inl (upd f i.toNatClampNeg v)))) n) → va_S A s.heap H1 locs1 → W p l e R s m args below meth c H1 locs1 cells slots Q (F0 m (pc + 1) ls rest)) : W p l e R s m args below meth c H locs cells slots Q (F0 m pc ls (.int v :: .int i :: .ref x :: rest)) := by
  obtain ⟨hx, hb, hml, hown, hts, hK, -⟩ := C
  subst hx0
  have he : (zL a E n)[j]? = some (a j, .inl (G.2.1 1, N, .inl f)) := by rw [zL_at hj, hE]
  refine va_iast (D := G.1) (cl := zcl12) (tys := ztys G) hx hb hK hP hD hS j 0 he rfl hin hdg (fun H1 locs1 g1 g2 g3 => ?_)
  rw [zL_set hj] at g1 g2
  exact kk H1 locs1 g1 g2 g3
/-- behind the constructor of the cell that was made last -/
theorem zn_back {k : Nat} {b : Nat → Nat} {F : Nat → va_E} {q : Nat} {e0 : va_E} {H1 : Heap} (hP : va_P G.1 zcl12 (zL a E (n + 1)) H) (hD : va_D A (zL a E (n + 1))) (hq : a n = q) (hE : E n = e0) (hnd : va_nd (List.range n) = true) (hk : ∀ x : Nat, x < H.size → ¬ va_A [(q, e0)] H.size x → H1[x]? = H[x]?) (hF : ∀ x, va_A [(q, e0)] H.size x → A x) (hP1 : va_P G.1 zcl12 (zL b F k) H1) (hD1 : va_D (va_A [(q, e0)] H.size) (zL b F k)) : va_P G.1 zcl12 (zL (zAa a n b) (zAe E n F) (n + k)) H1 ∧ va_D A (zL (zAa a n b) (zAe E n F) (n + k)) := by
  have hC : [n].map (fun i => (zL a E (n + 1))[i]?) = [(q, e0)].map some := by
    show [(zL a E (n + 1))[n]?] = _
    rw [zL_at (by omega), hq, hE]
    rfl
  have hR : (List.range n).map (fun i => (zL a E (n + 1))[i]?) = (zL a E n).map some := by
    show _ = ((List.range n).map _).map some
    rw [List.map_map]
    refine List.map_congr_left (fun j hj => ?_)
    have := List.mem_range.mp hj
    rw [zL_at (by omega)]
    rfl
  have := va_join (wr := zL a E n) (w1 := zL b F k) hP hD [n] (List.range n) hC hR hnd (fun i hi z => by
    have := List.mem_range.mp hi
    have := List.mem_singleton.mp z
    omega) hk hF hP1 hD1
  rw [zL_app] at this
  exact this
theorem zn_free {q : Nat} {e0 : va_E} (hD : va_D A (zL a E (n + 1))) (hS : va_S A s.heap H locs) (hA : ∀ q, s.heap.size ≤ q → A q) (hq : a n = q) (hE : E n = e0) : ∀ x, va_A [(q, e0)] H.size x → A x := by
  refine va_free (wc := [(q, e0)]) hD hS hA [n] ?_
  show [(zL a E (n + 1))[n]?] = _
  rw [zL_at (by omega), hq, hE]
  rfl
theorem zn_one {q : Nat} {e0 : va_E} (hP : va_P G.1 zcl12 (zL a E (n + 1)) H) (hq : a n = q) (hE : E n = e0) : va_P G.1 zcl12 [(q, e0)] H := fun k x hx => by
  have : k = 0 := by
    have := (List.getElem?_eq_some_iff.mp hx).1
    have : k < 1 := this
    omega
  subst this
  have e1 : x = (q, e0) := (Option.some.inj hx).symm
  rw [e1, ← hq, ← hE]
  exact hP n _ (zL_at (by omega))
theorem zn_callN {y : MethodName} {bytes : ByteArray} {maxL k mc ms index : Nat} {rm : Room} {q : Nat} {e0 : va_E} {F : (Nat → Nat) → Nat → va_E} (C : zMc p s m args c cc nL o G) (hM : ∀ sz, Met l y (.code y bytes maxL none :: zBIG) rm (zPn G q sz e0) (zQn G q sz e0 k F) mc ms (va_A [(q, e0)] sz)) (hrc : rm.cells = mc) (hrs : rm.slots = ms) (hcode : Cond.code y bytes maxL none ∈ zBIG) (hini : Cond.initialized y.cls ∈ zBIG) (him : Cond.instanceMethod y ∈ zBIG) (hnm : y.name = "<init>") (hlink : va_Nw (.methodLinkNest (zCN o) index y "DaughtersGate") s) (hd : y.cls ≠ "java/lang/invoke/MethodHandle" ∧ y.cls ≠ "java/lang/invoke/VarHandle" ∧ (parseMethodDescriptor y.desc).map (fun d => d.parameters.length) = some 0) (hR : rm.frames + 1 ≤ R.frames ∧ 8 + (maxL + 11) + rm.locals ≤ R.locals) (hcs : cells + mc ≤ R.cells ∧ slots + ms ≤ R.slots) (hls : ls.size = nL) (hrest : 2 * (F0 m pc ls (.ref q :: rest)).monitorRoom + (rest.map fun v => v.category).sum ≤ 8) (hdg : decode cc pc = .ok (.invokespecial index, 3)) (hP : va_P G.1 zcl12 (zL a E (n + 1)) H) (hD : va_D A (zL a E (n + 1))) (hS : va_S A s.heap H locs) (hA : ∀ q, s.heap.size ≤ q → A q) (hq : a n = q) (hE : E n = e0) (hnd : va_nd (List.range n) = true)
    (kk : ∀ (b : Nat → Nat) (H1 : Heap) (locs1 : List Loc), b 0 = q → va_P G.1 zcl12 (zL (zAa a n b) (zAe E n (F b)) (n + k)) H1 → va_D A (zL (zAa a n b) (zAe E n (F b)) (n + k)) → va_S A s.heap H1 locs1 → W p l e R s m args below meth c H1 locs1 (cells + mc) (slots + ms) Q (F0 m (pc + 3) ls rest)) : W p l e R s m args below meth c H locs cells slots Q (F0 m pc ls (.ref q :: rest)) := by
  have hFc := zn_free (n := n) (q := q) (e0 := e0) hD hS hA hq hE
  have hPc := zn_one (n := n) (q := q) (e0 := e0) hP hq hE
  have hg : GoodIn zBIG (.code y bytes maxL none :: zBIG) := fun w hw => (List.mem_cons.mp hw).elim (fun e => by rw [e]; exact ⟨hcode, zgood hcode⟩) (fun h => ⟨h, zgood h⟩)
  have hpre : PreS s H (zPn G q H.size e0) (.ref q :: []) := ⟨zPn_blind, fun U hU hW => ⟨rfl, by rw [hU], by rw [hU]; exact hPc, C.2.2.2.2.2.warm hW⟩⟩
  obtain ⟨hx, hb, hml, hown, hts, hCn⟩ := C
  refine va_callv (va_runIN (As := []) (rest := rest) (host := "DaughtersGate") ⟨hx, hb, hml, hown, hts⟩ (hM H.size) ⟨va_cnB 0 hts hg rfl hrc hrs hlink (hts _ hini) hd hR, hnm, hts _ him⟩ hpre rfl rfl hls rfl hrest hdg hcs) hS (fun q _ h => hFc q h) hFc (fun b t H1 locs1 ht hvm hw hB hz1 hk1 hS1 => ?_)
  obtain ⟨hP1, hD1⟩ := hB
  rw [ht] at hP1
  obtain ⟨hP2, hD2⟩ := zn_back (n := n) hP hD hq hE hnd hk1 hFc hP1 hD1
  exact kk b H1 locs1 hw hP2 hD2 hS1
theorem zn_callI {y : MethodName} {bytes : ByteArray} {maxL k mc ms index : Nat} {rm : Room} {q : Nat} {e0 : va_E} {F : (Nat → Nat) → Nat → va_E} (C : zMc p s m args c cc nL o G) (hM : ∀ sz, Met l y (.code y bytes maxL none :: zBIG) rm (zPn G q sz e0) (zQn G q sz e0 k F) mc ms (va_A [(q, e0)] sz)) (hrc : rm.cells = mc) (hrs : rm.slots = ms) (hcode : Cond.code y bytes maxL none ∈ zBIG) (hini : Cond.initialized y.cls ∈ zBIG) (him : Cond.instanceMethod y ∈ zBIG) (hnm : y.name = "<init>") (hlink : Cond.methodLink (zCN o) index y ∈ zBIG) (hd : y.cls ≠ "java/lang/invoke/MethodHandle" ∧ y.cls ≠ "java/lang/invoke/VarHandle" ∧ (parseMethodDescriptor y.desc).map (fun d => d.parameters.length) = some 0) (hR : rm.frames + 1 ≤ R.frames ∧ 8 + (maxL + 11) + rm.locals ≤ R.locals) (hcs : cells + mc ≤ R.cells ∧ slots + ms ≤ R.slots) (hls : ls.size = nL) (hrest : 2 * (F0 m pc ls (.ref q :: rest)).monitorRoom + (rest.map fun v => v.category).sum ≤ 8) (hdg : decode cc pc = .ok (.invokespecial index, 3)) (hP : va_P G.1 zcl12 (zL a E (n + 1)) H) (hD : va_D A (zL a E (n + 1))) (hS : va_S A s.heap H locs) (hA : ∀ q, s.heap.size ≤ q → A q) (hq : a n = q) (hE : E n = e0) (hnd : va_nd (List.range n) = true)
    (kk : ∀ (b : Nat → Nat) (H1 : Heap) (locs1 : List Loc), b 0 = q → va_P G.1 zcl12 (zL (zAa a n b) (zAe E n (F b)) (n + k)) H1 → va_D A (zL (zAa a n b) (zAe E n (F b)) (n + k)) → va_S A s.heap H1 locs1 → W p l e R s m args below meth c H1 locs1 (cells + mc) (slots + ms) Q (F0 m (pc + 3) ls rest)) : W p l e R s m args below meth c H locs cells slots Q (F0 m pc ls (.ref q :: rest)) := by
  have hFc := zn_free (n := n) (q := q) (e0 := e0) hD hS hA hq hE
  have hPc := zn_one (n := n) (q := q) (e0 := e0) hP hq hE
  have hg : GoodIn zBIG (.code y bytes maxL none :: zBIG) := fun w hw => (List.mem_cons.mp hw).elim (fun e => by rw [e]; exact ⟨hcode, zgood hcode⟩) (fun h => ⟨h, zgood h⟩)
  have hpre : PreS s H (zPn G q H.size e0) (.ref q :: []) := ⟨zPn_blind, fun U hU hW => ⟨rfl, by rw [hU], by rw [hU]; exact hPc, C.2.2.2.2.2.warm hW⟩⟩
  obtain ⟨hx, hb, hml, hown, hts, hCn⟩ := C
  refine va_callv (va_runI (As := []) (rest := rest) ⟨hx, hb, hml, hown, hts⟩ (hM H.size) (cwI 0 hts hg rfl hrc hrs (hts _ hini) (hts _ hlink) (hts _ him) hnm hd hR) hpre rfl rfl hls rfl hrest hdg hcs) hS (fun q _ h => hFc q h) hFc (fun b t H1 locs1 ht hvm hw hB hz1 hk1 hS1 => ?_)
  obtain ⟨hP1, hD1⟩ := hB
  rw [ht] at hP1
  obtain ⟨hP2, hD2⟩ := zn_back (n := n) hP hD hq hE hnd hk1 hFc hP1 hD1
  exact kk b H1 locs1 hw hP2 hD2 hS1
end ZM
