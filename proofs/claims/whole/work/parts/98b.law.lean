/-! ===== the law's rows, soundly ===== -/
def zSL : List Nat := [1, 3, 7, 8, 26, 27, 31, 42, 43, 44, 45, 46, 53, 54, 55, 59, 61, 67, 68, 73, 74, 75, 76]
set_option maxRecDepth 100000 in
theorem zSL_a : zB311.all (fun os => os.all (fun o => zSL.contains o.1)) = true := by decide +kernel
theorem zSL_in {b : Nat} {o : zOp} (h : o ∈ zbl 311 b) : o.1 ∈ zSL := by
  unfold zbl at h
  rw [show zBL.getD 311 [] = zB311 from rfl] at h
  by_cases c : b < zB311.length
  · have e : zB311.getD b [] = zB311[b] := by rw [List.getD_eq_getElem?_getD, List.getElem?_eq_getElem c]; rfl
    rw [e] at h
    have := List.all_eq_true.mp zSL_a _ (List.getElem_mem c)
    have := List.all_eq_true.mp this o h
    exact List.contains_iff_mem.mp this
  · rw [List.getD_eq_getElem?_getD, List.getElem?_eq_none (by omega)] at h
    exact absurd h List.not_mem_nil
section ZLW
variable {p : Program} {l : Launch} {e : Env} {R : Room} {s : State} {m : MethodId} {args : Array Value} {below : List Frame} {meth : Method} {c : Code} {Qf : State → Prop} {G : zG} {A : Nat → Prop} {rm : Room}
variable {E : Nat → List zV → zMm → Option zV → zMm → Prop} {K : Nat → zLc → List zV → zMm → Prop} {Q : Option zV → zMm → Prop} {P : zMm → Prop}
def zRl (p : Program) (l : Launch) (e : Env) (R : Room) (s : State) (m : MethodId) (args : Array Value) (below : List Frame) (meth : Method) (c : Code) (Qf : State → Prop) (G : zG) (A : Nat → Prop) (E : Nat → List zV → zMm → Option zV → zMm → Prop) (Q : Option zV → zMm → Prop) (P : zMm → Prop) : Prop :=
  ∀ (op a b : Nat) (v : Int) (pc : Nat) (i : Instr) (len : Nat) (lc : zLc) (st : List zV) (mem : zMm) (K : Nat → zLc → List zV → zMm → Prop) (k : zLc → List zV → zMm → Prop), op = 74 ∨ op = 75 ∨ op = 76 → P mem → decode (zmt 311).2.1 pc = .ok (i, len) → zInA 311 (op, a, b, v) pc i len = true → zst E (op, a, b, v) lc st mem K Q k → (∀ lc st, k lc st mem → zGo p l e R s m args below meth c Qf G A 311 (pc + len) lc st mem) → zGo p l e R s m args below meth c Qf G A 311 pc lc st mem
theorem zrunL (hE : ∀ y as m r m', E y as m r m' → P m → P m') (C : zAt p s m args c 311 G A) (hM : zKn l R rm G A E) (hR : zRl p l e R s m args below meth c Qf G A E Q P) (hK : ∀ b lc st mem, K b lc st mem → P mem → zGo p l e R s m args below meth c Qf G A 311 (zbp 311 b) lc st mem) : ∀ (os : List zOp) (pc : Nat) (lc : zLc) (st : List zV) (mem : zMm), (∀ o ∈ os, o.1 ∈ zSL) → zChk 311 pc os = true → P mem → zrun E os lc st mem K Q → zGo p l e R s m args below meth c Qf G A 311 pc lc st mem
  | [], _, _, _, _, _, _, _, h => h.elim
  | o :: r, pc, lc, st, mem, ho, hc, hm, h => by
    have h : zst E o lc st mem K Q (fun lc st mem => zrun E r lc st mem K Q) := h
    have h0 := ho o List.mem_cons_self
    obtain ⟨op, a, b, v⟩ := o
    unfold zChk at hc
    by_cases h73 : op = 73
    · subst h73
      simp only [if_true, beq_iff_eq] at hc
      have h : K a lc st mem := h
      rw [hc]
      exact hK _ _ _ _ h hm
    · simp only [h73, if_false] at hc
      split at hc
      case h_2 => cases hc
      rename_i i len hd
      rw [Bool.and_eq_true] at hc
      obtain ⟨hi, hc⟩ := hc
      have hk0 : ∀ lc st mem, P mem → zrun E r lc st mem K Q → zGo p l e R s m args below meth c Qf G A 311 (pc + len) lc st mem := fun lc st mem hm q => zrunL hE C hM hR hK r (pc + len) lc st mem (fun o h => ho o (List.mem_cons_of_mem _ h)) hc hm q
      have hk : ∀ lc st mem, (zrun E r lc st mem K Q ∧ P mem) → zGo p l e R s m args below meth c Qf G A 311 (pc + len) lc st mem := fun lc st mem q => hk0 lc st mem q.2 q.1
      have hK' : ∀ b lc st mem, (K b lc st mem ∧ P mem) → zGo p l e R s m args below meth c Qf G A 311 (zbp 311 b) lc st mem := fun b lc st mem q => hK b lc st mem q.1 q.2
      have h0 : op ∈ zSL := h0
      unfold zSL at h0
      simp only [List.mem_cons, List.not_mem_nil, or_false] at h0
      rcases h0 with rfl | rfl | rfl | rfl | rfl | rfl | rfl | rfl | rfl | rfl | rfl | rfl | rfl | rfl | rfl | rfl | rfl | rfl | rfl | rfl | rfl | rfl | rfl
      · exact zs_1 C hd hi (zv_1 h hm) hk
      · exact zs_3 C hd hi (zv_3 h hm) hk
      · exact zs_7 C hd hi (zv_7 h hm) hk
      · exact zs_8 C hd hi (zv_8 h hm) hk
      · exact zs_26 C hd hi (zv_26 h hm) hk
      · exact zs_27 C hd hi (zv_27 h hm) hk
      · exact zs_31 C hd hi (zv_31 h hm) hk
      · exact zs_42 C hd hi (zv_42 h hm) hk
      · exact zs_43 C hd hi (zv_43 h hm) hk
      · exact zs_44 C hd hi (zv_44 h hm) hk
      · exact zs_45 C hd hi (zv_45 h hm) hk
      · exact zs_46 C hd hi (zv_46 h hm) hk
      · exact zs_53 C hd hi (zv_53 h hm) hk
      · exact zs_54 C hd hi (zv_54 h hm) hK'
      · exact zs_55 C hd hi (zv_55 h hm) hK'
      · exact zs_59 C hd hi (zv_59 h hm) hK'
      · exact zs_61 C hd hi (zv_61 h hm) hK'
      · exact zs_67 C hd hi (zv_67 h hm) hK'
      · exact zs_68 C hd hi (zv_68 hE h hm) hM hk
      · exact absurd rfl h73
      · exact hR 74 a b v pc i len lc st mem K _ (by decide) hm hd hi h (fun lc st q => hk0 lc st mem hm q)
      · exact hR 75 a b v pc i len lc st mem K _ (by decide) hm hd hi h (fun lc st q => hk0 lc st mem hm q)
      · exact hR 76 a b v pc i len lc st mem K _ (by decide) hm hd hi h (fun lc st q => hk0 lc st mem hm q)
theorem zblkL (hok : ∀ b, zChk 311 (zbp 311 b) (zbl 311 b) = true) (hE : ∀ y as m r m', E y as m r m' → P m → P m') (C : zAt p s m args c 311 G A) (hM : zKn l R rm G A E) (hR : zRl p l e R s m args below meth c Qf G A E Q P) : ∀ (n b : Nat) (lc : zLc) (st : List zV) (mem : zMm), P mem → zWPn E n 311 b lc st mem Q → zGo p l e R s m args below meth c Qf G A 311 (zbp 311 b) lc st mem
  | 0, _, _, _, _, _, h => h.elim
  | n + 1, b, lc, st, mem, hm, h => zrunL hE C hM hR (fun b' lc st mem q hm => zblkL hok hE C hM hR n b' lc st mem hm q) (zbl 311 b) (zbp 311 b) lc st mem (fun o h => zSL_in h) (hok b) hm h
end ZLW
