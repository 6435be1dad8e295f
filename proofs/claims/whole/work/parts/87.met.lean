/-! ===== every method's contract, by the depth of the calls ===== -/
theorem zm_of {l : Launch} {y : MethodName} {ws : List Cond} {rm : Room} {G : zG} {A : Nat → Prop} {as : List zV} {mem : zMm} {r : zV} {rv : Value} (h : Met l y ws rm (zPv G A (as.map (zph G)) mem) (zQv G A (some rv) mem) 0 0 A) (hr : zph G r = rv) (hc : zCv r) (hm : zCm mem) : Met l y ws rm (zPc G A as mem) (zQc G A (some r) mem) 0 0 A := by
  have e : (fun (a : Array Value) (st : State) (o : Outcome) (t : State) => zQv G A (some rv) mem a st o t ∧ ∃ L, FrameEnd st o t L 0 0 ∧ ∀ q ∈ L, A q.base) = (fun (a : Array Value) (st : State) (o : Outcome) (t : State) => zQc G A (some r) mem a st o t ∧ ∃ L, FrameEnd st o t L 0 0 ∧ ∀ q ∈ L, A q.base) := by
    funext a st o t
    apply propext
    constructor
    · rintro ⟨⟨h1, h2, h3⟩, h4⟩
      exact ⟨⟨by rw [h1, Option.map_some, hr], fun v e => by cases e; exact hc, hm, h2, h3⟩, h4⟩
    · rintro ⟨⟨h1, -, -, h2, h3⟩, h4⟩
      exact ⟨⟨by rw [h1, Option.map_some, hr], h2, h3⟩, h4⟩
  unfold Met at h ⊢
  rw [e] at h
  exact h
theorem zst_74no {E : Nat → List zV → zMm → Option zV → zMm → Prop} {y a b : Nat} {v : Int} {pc : Nat} {i : Instr} {len : Nat} (hy : y < 311) (h : zIn_74 y a b v pc i len = true ∨ zIn_75 y a b v pc i len = true) : False := by
  rcases h with h | h
  · unfold zIn_74 at h
    split at h
    · simp only [Bool.and_eq_true, beq_iff_eq] at h; omega
    · cases h
  · unfold zIn_75 at h
    split at h
    · simp only [Bool.and_eq_true, beq_iff_eq] at h; omega
    · cases h
theorem zMet_all (hok : ∀ y, y < 311 → zbp y 0 = 0 ∧ ∀ b, zChk y (zbp y b) (zbl y b) = true) (l : Launch) (G : zG) (A : Nat → Prop) : ∀ d, zKn l (zrm (d + 1)) (zrm d) G A (zEx d) := by
  have base : ∀ d, (zrm d).cells = 0 ∧ (zrm d).slots = 0 ∧ (zrm d).frames + 1 ≤ (zrm (d + 1)).frames ∧ 8 + 22 + (zrm d).locals ≤ (zrm (d + 1)).locals ∧ 100 ≤ (zrm (d + 1)).locals := by
    intro d
    refine ⟨rfl, rfl, Nat.le_refl _, ?_, ?_⟩
    · show 8 + 22 + (40 * d + 300) ≤ 40 * (d + 1) + 300; omega
    · show 100 ≤ 40 * (d + 1) + 300; omega
  intro d
  induction d with
  | zero => exact ⟨base 0, fun _ _ _ _ _ h => h.elim, fun _ _ _ _ h => h.elim, fun _ _ _ _ h => h.elim, fun _ _ _ _ _ h => h.elim⟩
  | succ d ih =>
    refine ⟨base (d + 1), ?_, ?_, ?_, ?_⟩
    · intro a as mem r mem' hE ha hcv hcm
      rcases (hE : (1000 ≤ a ∧ zpr a as mem r mem') ∨ _) with ⟨q, -⟩ | ⟨⟨-, hcat⟩, n, hW⟩
      · omega
      have hnh := znh_all a ha
      have how := zow_all a (by omega)
      refine va_MetF (cc := (zmt a).2.1) (maxL := zmx a) (ret := (zmt a).2.2.2.1) hnh.1 rfl ?_
      intro p e s m args below meth c s₁ B hml hv
      obtain ⟨rfl, hP, hC⟩ := hv
      have hts0 := atoms_spec (ws := zws a) B.pre
      have C : zAt p s m (as.map (zph G)).toArray c a G A := ⟨B.exec, B.bytes, hml, by rw [← how.1]; exact findClass_of_methodNamed B.named, fun w h => hts0 w (List.mem_cons_of_mem _ h), hC⟩
      have hl := lv_entry (as.map (zph G)) (n := zmx a) (by rw [zcat_sl]; exact hcat)
      rw [lg_entry_eq]
      have hR : zRt p l e (zrm (d + 1)) s m (as.map (zph G)).toArray below meth c (MQ below (zQc G A r mem') (as.map (zph G)).toArray s 0 0 A) G A a (zEx d) (fun r' m'' => r' = r ∧ m'' = mem') := by
        intro op a1 b1 v1 pc i len lc st m1 K k hop hd hi h hk
        rcases hop with rfl | rfl | rfl | rfl | rfl | rfl
        · exact zs_70 ⟨rfl, rfl⟩ C B.returns B.notSynchronized hd hi h
        · exact zs_71 ⟨rfl, rfl⟩ C B.returns B.notSynchronized hd hi h
        · exact zs_72 ⟨rfl, rfl⟩ C B.returns B.notSynchronized hd hi h
        · exact (zst_74no (E := zEx d) (a := a1) (b := b1) (v := v1) (pc := pc) (i := i) (len := len) ha (Or.inl hi)).elim
        · exact (zst_74no (E := zEx d) (a := a1) (b := b1) (v := v1) (pc := pc) (i := i) (len := len) ha (Or.inr hi)).elim
        · exact zs_76 ⟨rfl, rfl⟩ C B.returns B.notSynchronized hd hi h
      have g := zblk_go (R := zrm (d + 1)) (hok a ha).2 C ih hR n 0 _ _ _ hW
      rw [(hok a ha).1] at g
      exact g s.heap [] _ ⟨⟨_, hl, fun i v q => by have := zal_get G as (zmx a) 0 i v q; rw [Nat.zero_add] at this; exact this⟩, fun i v q => hcv v (zal_mem as _ i v q), fun v q => (by cases q), hcm, hP, va_S.rf⟩
    · intro as mem r mem' hE hcm
      rcases (hE : (1000 ≤ 1001 ∧ zpr 1001 as mem r mem') ∨ _) with ⟨-, hz⟩ | ⟨⟨q, -⟩, -⟩
      · unfold zpr at hz
        rw [if_neg (by decide), if_pos rfl] at hz
        split at hz
        case h_2 => exact hz.elim
        obtain ⟨rfl, k, hk, rfl, rfl⟩ := hz
        have e1 : zra G (-10 - (k : Int)) = G.2.2.2.1 k := by
          unfold zra
          rw [if_neg (by omega), if_pos (by omega), show (-10 - (-10 - (k : Int))).toNat = k by omega]
        have e2 := (zS_len k hk).2
        have e3 : (((zstr.getD k []).length : Nat) : Int) = (Int32.ofNat (zstr.getD k []).length).toInt := by rw [Int32.toInt_ofNat_of_lt (by omega)]
        refine zm_of (rv := .int (Int32.ofNat (zstr.getD k []).length)) ?_ (by rw [e3, zph_i]) ⟨_, e3⟩ hcm
        show Met l _ _ _ (zPv G A [.ref (zra G (-10 - (k : Int)))] _) _ 0 0 A
        rw [e1]
        exact zm_len l G A _ (zrm (d + 1)) ⟨by show 4 ≤ d + 1 + 6; omega, by show 160 ≤ 40 * (d + 1) + 300; omega⟩ k hk
      · omega
    · intro as mem r mem' hE hcm
      rcases (hE : (1000 ≤ 1002 ∧ zpr 1002 as mem r mem') ∨ _) with ⟨-, hz⟩ | ⟨⟨q, -⟩, -⟩
      · unfold zpr at hz
        rw [if_neg (by decide), if_neg (by decide)] at hz
        split at hz
        case h_2 => exact hz.elim
        rename_i a0 i0
        obtain ⟨rfl, k, hk, rfl, ⟨hi0, hi1⟩, rfl⟩ := hz
        have e1 : zra G (-10 - (k : Int)) = G.2.2.2.1 k := by
          unfold zra
          rw [if_neg (by omega), if_pos (by omega), show (-10 - (-10 - (k : Int))).toNat = k by omega]
        have e2 := (zS_len k hk).2
        have e4 := zS_ten k hk
        have e3 : i0 = (Int32.ofInt i0).toInt := (Int32.toInt_ofInt_of_le (by omega) (by omega)).symm
        obtain ⟨y1, y2, y3⟩ := zS_chr k hk i0.toNat (by omega) (by omega)
        refine zm_of (rv := .int (Int32.ofInt ((zstr.getD k []).getD i0.toNat 0))) ?_ rfl ⟨_, y3.symm⟩ hcm
        show Met l _ _ _ (zPv G A [.ref (zra G (-10 - (k : Int))), .int (Int32.ofInt i0)] _) _ 0 0 A
        rw [e1]
        have := zm_chr l G A mem' (zrm (d + 1)) ⟨by show 4 ≤ d + 1 + 6; omega, by show 160 ≤ 40 * (d + 1) + 300; omega⟩ k hk (Int32.ofInt i0) (by omega) (by omega)
        rw [← e3] at this
        exact this
      · omega
    · intro a as mem r mem' hE ha
      rcases (hE : (1000 ≤ a ∧ zpr a as mem r mem') ∨ _) with ⟨-, hz⟩ | ⟨⟨q, -⟩, -⟩
      · exact hz
      · omega
