def zInA (y : Nat) (o : zOp) (pc : Nat) (i : Instr) (len : Nat) : Bool :=
  if o.1 = 1 then zIn_1 y o.2.1 o.2.2.1 o.2.2.2 pc i len else if o.1 = 2 then zIn_2 y o.2.1 o.2.2.1 o.2.2.2 pc i len else if o.1 = 3 then zIn_3 y o.2.1 o.2.2.1 o.2.2.2 pc i len else if o.1 = 4 then zIn_4 y o.2.1 o.2.2.1 o.2.2.2 pc i len else if o.1 = 5 then zIn_5 y o.2.1 o.2.2.1 o.2.2.2 pc i len else if o.1 = 6 then zIn_6 y o.2.1 o.2.2.1 o.2.2.2 pc i len else if o.1 = 7 then zIn_7 y o.2.1 o.2.2.1 o.2.2.2 pc i len else if o.1 = 8 then zIn_8 y o.2.1 o.2.2.1 o.2.2.2 pc i len else if o.1 = 9 then zIn_9 y o.2.1 o.2.2.1 o.2.2.2 pc i len else if o.1 = 10 then zIn_10 y o.2.1 o.2.2.1 o.2.2.2 pc i len else if o.1 = 11 then zIn_11 y o.2.1 o.2.2.1 o.2.2.2 pc i len else if o.1 = 12 then zIn_12 y o.2.1 o.2.2.1 o.2.2.2 pc i len else if o.1 = 13 then zIn_13 y o.2.1 o.2.2.1 o.2.2.2 pc i len else if o.1 = 14 then zIn_14 y o.2.1 o.2.2.1 o.2.2.2 pc i len else if o.1 = 15 then zIn_15 y o.2.1 o.2.2.1 o.2.2.2 pc i len else if o.1 = 16 then zIn_16 y o.2.1 o.2.2.1 o.2.2.2 pc i len else if o.1 = 17 then zIn_17 y o.2.1 o.2.2.1 o.2.2.2 pc i len else if o.1 = 19 then zIn_19 y o.2.1 o.2.2.1 o.2.2.2 pc i len else if o.1 = 20 then zIn_20 y o.2.1 o.2.2.1 o.2.2.2 pc i len else if o.1 = 21 then zIn_21 y o.2.1 o.2.2.1 o.2.2.2 pc i len else if o.1 = 22 then zIn_22 y o.2.1 o.2.2.1 o.2.2.2 pc i len else if o.1 = 24 then zIn_24 y o.2.1 o.2.2.1 o.2.2.2 pc i len else if o.1 = 25 then zIn_25 y o.2.1 o.2.2.1 o.2.2.2 pc i len else if o.1 = 26 then zIn_26 y o.2.1 o.2.2.1 o.2.2.2 pc i len else if o.1 = 27 then zIn_27 y o.2.1 o.2.2.1 o.2.2.2 pc i len else if o.1 = 28 then zIn_28 y o.2.1 o.2.2.1 o.2.2.2 pc i len else if o.1 = 29 then zIn_29 y o.2.1 o.2.2.1 o.2.2.2 pc i len else if o.1 = 30 then zIn_30 y o.2.1 o.2.2.1 o.2.2.2 pc i len else if o.1 = 31 then zIn_31 y o.2.1 o.2.2.1 o.2.2.2 pc i len else if o.1 = 32 then zIn_32 y o.2.1 o.2.2.1 o.2.2.2 pc i len else if o.1 = 33 then zIn_33 y o.2.1 o.2.2.1 o.2.2.2 pc i len else if o.1 = 34 then zIn_34 y o.2.1 o.2.2.1 o.2.2.2 pc i len else if o.1 = 35 then zIn_35 y o.2.1 o.2.2.1 o.2.2.2 pc i len else if o.1 = 36 then zIn_36 y o.2.1 o.2.2.1 o.2.2.2 pc i len else if o.1 = 37 then zIn_37 y o.2.1 o.2.2.1 o.2.2.2 pc i len else if o.1 = 38 then zIn_38 y o.2.1 o.2.2.1 o.2.2.2 pc i len else if o.1 = 39 then zIn_39 y o.2.1 o.2.2.1 o.2.2.2 pc i len else if o.1 = 40 then zIn_40 y o.2.1 o.2.2.1 o.2.2.2 pc i len else if o.1 = 41 then zIn_41 y o.2.1 o.2.2.1 o.2.2.2 pc i len else if o.1 = 42 then zIn_42 y o.2.1 o.2.2.1 o.2.2.2 pc i len else if o.1 = 43 then zIn_43 y o.2.1 o.2.2.1 o.2.2.2 pc i len else if o.1 = 44 then zIn_44 y o.2.1 o.2.2.1 o.2.2.2 pc i len else if o.1 = 45 then zIn_45 y o.2.1 o.2.2.1 o.2.2.2 pc i len else if o.1 = 46 then zIn_46 y o.2.1 o.2.2.1 o.2.2.2 pc i len else if o.1 = 47 then zIn_47 y o.2.1 o.2.2.1 o.2.2.2 pc i len else if o.1 = 48 then zIn_48 y o.2.1 o.2.2.1 o.2.2.2 pc i len else if o.1 = 49 then zIn_49 y o.2.1 o.2.2.1 o.2.2.2 pc i len else if o.1 = 50 then zIn_50 y o.2.1 o.2.2.1 o.2.2.2 pc i len else if o.1 = 51 then zIn_51 y o.2.1 o.2.2.1 o.2.2.2 pc i len else if o.1 = 52 then zIn_52 y o.2.1 o.2.2.1 o.2.2.2 pc i len else if o.1 = 53 then zIn_53 y o.2.1 o.2.2.1 o.2.2.2 pc i len else if o.1 = 54 then zIn_54 y o.2.1 o.2.2.1 o.2.2.2 pc i len else if o.1 = 55 then zIn_55 y o.2.1 o.2.2.1 o.2.2.2 pc i len else if o.1 = 56 then zIn_56 y o.2.1 o.2.2.1 o.2.2.2 pc i len else if o.1 = 57 then zIn_57 y o.2.1 o.2.2.1 o.2.2.2 pc i len else if o.1 = 58 then zIn_58 y o.2.1 o.2.2.1 o.2.2.2 pc i len else if o.1 = 59 then zIn_59 y o.2.1 o.2.2.1 o.2.2.2 pc i len else if o.1 = 60 then zIn_60 y o.2.1 o.2.2.1 o.2.2.2 pc i len else if o.1 = 61 then zIn_61 y o.2.1 o.2.2.1 o.2.2.2 pc i len else if o.1 = 62 then zIn_62 y o.2.1 o.2.2.1 o.2.2.2 pc i len else if o.1 = 63 then zIn_63 y o.2.1 o.2.2.1 o.2.2.2 pc i len else if o.1 = 64 then zIn_64 y o.2.1 o.2.2.1 o.2.2.2 pc i len else if o.1 = 65 then zIn_65 y o.2.1 o.2.2.1 o.2.2.2 pc i len else if o.1 = 66 then zIn_66 y o.2.1 o.2.2.1 o.2.2.2 pc i len else if o.1 = 67 then zIn_67 y o.2.1 o.2.2.1 o.2.2.2 pc i len else if o.1 = 68 then zIn_68 y o.2.1 o.2.2.1 o.2.2.2 pc i len else if o.1 = 69 then zIn_69 y o.2.1 o.2.2.1 o.2.2.2 pc i len else if o.1 = 70 then zIn_70 y o.2.1 o.2.2.1 o.2.2.2 pc i len else if o.1 = 71 then zIn_71 y o.2.1 o.2.2.1 o.2.2.2 pc i len else if o.1 = 72 then zIn_72 y o.2.1 o.2.2.1 o.2.2.2 pc i len else if o.1 = 74 then zIn_74 y o.2.1 o.2.2.1 o.2.2.2 pc i len else if o.1 = 75 then zIn_75 y o.2.1 o.2.2.1 o.2.2.2 pc i len else if o.1 = 76 then zIn_76 y o.2.1 o.2.2.1 o.2.2.2 pc i len else if o.1 = 78 then zIn_78 y o.2.1 o.2.2.1 o.2.2.2 pc i len else false
def zChk (y : Nat) : Nat → List zOp → Bool
  | _, [] => true
  | pc, o :: r => if o.1 = 73 then pc == zbp y o.2.1 else match decode (zmt y).2.1 pc with
    | .ok (i, len) => zInA y o pc i len && zChk y (pc + len) r
    | .error _ => false
section ZS
variable {p : Program} {l : Launch} {e : Env} {R : Room} {s : State} {m : MethodId} {args : Array Value} {below : List Frame} {meth : Method} {c : Code} {Qf : State → Prop} {G : zG} {A : Nat → Prop} {y : Nat}
variable {E : Nat → List zV → zMm → Option zV → zMm → Prop} {K : Nat → zLc → List zV → zMm → Prop} {Q : Option zV → zMm → Prop}
variable {rm : Room}
/-- the ways out of a method, and the script's own rows, for whoever has them -/
def zRt (p : Program) (l : Launch) (e : Env) (R : Room) (s : State) (m : MethodId) (args : Array Value) (below : List Frame) (meth : Method) (c : Code) (Qf : State → Prop) (G : zG) (A : Nat → Prop) (y : Nat) (E : Nat → List zV → zMm → Option zV → zMm → Prop) (Q : Option zV → zMm → Prop) : Prop :=
  ∀ (op a b : Nat) (v : Int) (pc : Nat) (i : Instr) (len : Nat) (lc : zLc) (st : List zV) (mem : zMm) (K : Nat → zLc → List zV → zMm → Prop) (k : zLc → List zV → zMm → Prop), op = 70 ∨ op = 71 ∨ op = 72 ∨ op = 74 ∨ op = 75 ∨ op = 76 → decode (zmt y).2.1 pc = .ok (i, len) → zInA y (op, a, b, v) pc i len = true → zst E (op, a, b, v) lc st mem K Q k → (∀ lc st mem, k lc st mem → zGo p l e R s m args below meth c Qf G A y (pc + len) lc st mem) → zGo p l e R s m args below meth c Qf G A y pc lc st mem
theorem zrun_go (C : zAt p s m args c y G A) (hM : zKn l R rm G A E) (hR : zRt p l e R s m args below meth c Qf G A y E Q) (hK : ∀ b lc st mem, K b lc st mem → zGo p l e R s m args below meth c Qf G A y (zbp y b) lc st mem) : ∀ (os : List zOp) (pc : Nat) (lc : zLc) (st : List zV) (mem : zMm), zChk y pc os = true → zrun E os lc st mem K Q → zGo p l e R s m args below meth c Qf G A y pc lc st mem
  | [], _, _, _, _, _, h => h.elim
  | o :: r, pc, lc, st, mem, hc, h => by
    have h : zst E o lc st mem K Q (fun lc st mem => zrun E r lc st mem K Q) := h
    obtain ⟨op, a, b, v⟩ := o
    unfold zChk at hc
    by_cases h73 : op = 73
    · subst h73
      simp only [if_true, beq_iff_eq] at hc
      have h : K a lc st mem := h
      rw [hc]
      exact hK _ _ _ _ h
    · simp only [h73, if_false] at hc
      split at hc
      case h_2 => cases hc
      rename_i i len hd
      rw [Bool.and_eq_true] at hc
      obtain ⟨hi, hc⟩ := hc
      have hk : ∀ lc st mem, zrun E r lc st mem K Q → zGo p l e R s m args below meth c Qf G A y (pc + len) lc st mem := fun lc st mem q => zrun_go C hM hR hK r (pc + len) lc st mem hc q
      have h0 := zst_no h
      simp only [List.mem_cons, List.not_mem_nil, or_false] at h0
      rcases h0 with rfl | rfl | rfl | rfl | rfl | rfl | rfl | rfl | rfl | rfl | rfl | rfl | rfl | rfl | rfl | rfl | rfl | rfl | rfl | rfl | rfl | rfl | rfl | rfl | rfl | rfl | rfl | rfl | rfl | rfl | rfl | rfl | rfl | rfl | rfl | rfl | rfl | rfl | rfl | rfl | rfl | rfl | rfl | rfl | rfl | rfl | rfl | rfl | rfl | rfl | rfl | rfl | rfl | rfl | rfl | rfl | rfl | rfl | rfl | rfl | rfl | rfl | rfl | rfl | rfl | rfl | rfl | rfl | rfl | rfl | rfl | rfl | rfl | rfl | rfl
      · exact zs_1 C hd hi h hk
      · exact zs_2 C hd hi h hk
      · exact zs_3 C hd hi h hk
      · exact zs_4 C hd hi h hk
      · exact zs_5 C hd hi h hk
      · exact zs_6 C hd hi h hk
      · exact zs_7 C hd hi h hk
      · exact zs_8 C hd hi h hk
      · exact zs_9 C hd hi h hk
      · exact zs_10 C hd hi h hk
      · exact zs_11 C hd hi h hk
      · exact zs_12 C hd hi h hk
      · exact zs_13 C hd hi h hk
      · exact zs_14 C hd hi h hk
      · exact zs_15 C hd hi h hk
      · exact zs_16 C hd hi h hk
      · exact zs_17 C hd hi h hk
      · exact zs_19 C hd hi h hk
      · exact zs_20 C hd hi h hk
      · exact zs_21 C hd hi h hk
      · exact zs_22 C hd hi h hk
      · exact zs_24 C hd hi h hk
      · exact zs_25 C hd hi h hk
      · exact zs_26 C hd hi h hk
      · exact zs_27 C hd hi h hk
      · exact zs_28 C hd hi h hk
      · exact zs_29 C hd hi h hk
      · exact zs_30 C hd hi h hk
      · exact zs_31 C hd hi h hk
      · exact zs_32 C hd hi h hk
      · exact zs_33 C hd hi h hk
      · exact zs_34 C hd hi h hk
      · exact zs_35 C hd hi h hk
      · exact zs_36 C hd hi h hk
      · exact zs_37 C hd hi h hk
      · exact zs_38 C hd hi h hk
      · exact zs_39 C hd hi h hk
      · exact zs_40 C hd hi h hk
      · exact zs_41 C hd hi h hk
      · exact zs_42 C hd hi h hk
      · exact zs_43 C hd hi h hk
      · exact zs_44 C hd hi h hk
      · exact zs_45 C hd hi h hk
      · exact zs_46 C hd hi h hk
      · exact zs_47 C hd hi h hk
      · exact zs_48 C hd hi h hk
      · exact zs_49 C hd hi h hk
      · exact zs_50 C hd hi h hk
      · exact zs_51 C hd hi h hk
      · exact zs_52 C hd hi h hk
      · exact zs_53 C hd hi h hk
      · exact zs_54 C hd hi h hK
      · exact zs_55 C hd hi h hK
      · exact zs_56 C hd hi h hK
      · exact zs_57 C hd hi h hK
      · exact zs_58 C hd hi h hK
      · exact zs_59 C hd hi h hK
      · exact zs_60 C hd hi h hK
      · exact zs_61 C hd hi h hK
      · exact zs_62 C hd hi h hK
      · exact zs_63 C hd hi h hK
      · exact zs_64 C hd hi h hK
      · exact zs_65 C hd hi h hK
      · exact zs_66 C hd hi h hK
      · exact zs_67 C hd hi h hK
      · exact zs_68 C hd hi h hM hk
      · exact zs_69 C hd hi h hM hk
      · exact hR 70 a b v pc i len lc st mem K _ (by decide) hd hi h hk
      · exact hR 71 a b v pc i len lc st mem K _ (by decide) hd hi h hk
      · exact hR 72 a b v pc i len lc st mem K _ (by decide) hd hi h hk
      · exact absurd rfl h73
      · exact hR 74 a b v pc i len lc st mem K _ (by decide) hd hi h hk
      · exact hR 75 a b v pc i len lc st mem K _ (by decide) hd hi h hk
      · exact hR 76 a b v pc i len lc st mem K _ (by decide) hd hi h hk
      · exact zs_78 C hd hi h hM hk
theorem zblk_go (hok : ∀ b, zChk y (zbp y b) (zbl y b) = true) (C : zAt p s m args c y G A) (hM : zKn l R rm G A E) (hR : zRt p l e R s m args below meth c Qf G A y E Q) : ∀ (n b : Nat) (lc : zLc) (st : List zV) (mem : zMm), zWPn E n y b lc st mem Q → zGo p l e R s m args below meth c Qf G A y (zbp y b) lc st mem
  | 0, _, _, _, _, h => h.elim
  | n + 1, b, lc, st, mem, h => zrun_go C hM hR (fun b' lc st mem q => zblk_go hok C hM hR n b' lc st mem q) (zbl y b) (zbp y b) lc st mem (hok b) h
end ZS
def zrm (d : Nat) : Room := { frames := d + 6, cells := 0, slots := 0, locals := 40 * d + 300 }
theorem zRt_of {p : Program} {l : Launch} {e : Env} {R : Room} {s : State} {m : MethodId} {args : Array Value} {below : List Frame} {meth : Method} {c : Code} {G : zG} {A : Nat → Prop} {y : Nat} {E : Nat → List zV → zMm → Option zV → zMm → Prop} {r0 : Option zV} {mem0 : zMm} (hy : y < 311) (h74 : ∀ b, ∀ o ∈ zbl y b, o.1 ≠ 74 ∧ o.1 ≠ 75) : True := trivial

