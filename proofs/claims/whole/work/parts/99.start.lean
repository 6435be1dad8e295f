/-! THE CLAIM OUT OF ONE WALK OF THE LAW'S BODY. Your part is whole_start (and what it stands on); all else here is the same for every law, but numbers. -/
def R_law : String := "DaughtersGateLaw"
def lw_P (b : Addr) (xs : List Int32) (args : Array Value) (s : State) : Prop := args = #[.ref b] ∧ s.IntsAt b xs ∧ xs.length ≤ 3072 ∧ (Jvm.Cond.and given_1 narrow_1).before args s = true
def lw_Q (_ : Array Value) (s : State) (o : Outcome) (t : State) : Prop := o = .returned (some (.int 1)) ∧ Framed s o t [] 600000 7302250
def lw_Z (below : List Frame) (a : Array Value) (s : State) : State → Prop := fun t => ∃ o, t.status = .running ∧ Ended t below o ∧ lw_Q a s o t
/-- the law's own end, with 1 on the stack, nothing written that was there before, its room as the claim has it -/
theorem lw_ret {p : Program} {l : Launch} {e : Env} {s : State} {m : MethodId} {below : List Frame} {meth : Method} {c : Code} {b : Nat} (hx : p.tables.exec = Jvm.exec) (hb : c.code = code) (hr : meth.sig.returnType = ret) (hlocks : meth.locks = false) {pc : Nat} {H : Heap} {ls : Array Slot} (hdg : decode code pc = .ok (.ireturn, 1)) : W p l e room_1 s m #[Value.ref b] below meth c H [] 600000 7302250 (lw_Z below #[Value.ref b] s) (F0 m pc ls [.int 1]) := by
  intro T hT X
  obtain ⟨fs, hret, hrun, hended, hW, hframe⟩ := X.leave (v := some (.int 1)) (hlocks := hlocks) (fun h => by rw [hr] at h; cases h)
  have hmeth' : T.vm.method? m = some meth := X.method'
  refine ⟨T.setFrames fs, ?_, .returned (some (.int 1)), hrun, hended, rfl, ⟨_, rfl⟩, hW, hframe⟩
  jvm_step X.here [X.here.top, hx, hb, hdg, hmeth', hr, ret, narrow_b1]
  (try refine ⟨rfl, ?_⟩); (try refine ⟨rfl, ?_⟩)
  first | (intro acts; rw [hret _ acts rfl rfl rfl]) | rw [hret _ _ rfl rfl rfl]
  exact Steps.refl _
/-- what holds at the law's entry: the machine, the code, the tables' words (any of lw_tbl by 'hts w (by decide +kernel)'), the script of L ints xs at the cell b, what the Statement gives of the start (any of its parts by flat_of_before) -/
def lw_At (p : Program) (s : State) (m : MethodId) (meth : Method) (c : Code) (b L : Nat) (xs : Nat → Int32) : Prop :=
  p.tables.exec = Jvm.exec ∧ c.code = code ∧ meth.sig.returnType = ret ∧ c.maxLocals = 4 ∧ s.vm.findClass R_law = some m.cls ∧ (∀ w ∈ lw_tbl, w.before #[Value.ref b] s = true) ∧ va_X b L xs s s.heap ∧ b < s.heap.size ∧ meth.locks = false ∧ (Jvm.Cond.and given_1 narrow_1).before #[Value.ref b] s = true
theorem dnL_0 : decode code 0 = .ok (.new 7, 3) := by decide +kernel
theorem dnL_3 : decode code 3 = .ok (.dup, 1) := by decide +kernel
theorem dnL_4 : decode code 4 = .ok (.invokespecial 9, 3) := by decide +kernel
theorem dnL_7 : decode code 7 = .ok (.astore_n 1, 1) := by decide +kernel
theorem dnL_8 : decode code 8 = .ok (.new 10, 3) := by decide +kernel
theorem dnL_11 : decode code 11 = .ok (.dup, 1) := by decide +kernel
theorem dnL_12 : decode code 12 = .ok (.invokespecial 12, 3) := by decide +kernel
theorem dnL_15 : decode code 15 = .ok (.astore_n 2, 1) := by decide +kernel
theorem dnL_16 : decode code 16 = .ok (.iconst 0, 1) := by decide +kernel
theorem dnL_17 : decode code 17 = .ok (.istore_n 3, 1) := by decide +kernel
theorem zRl_law {p : Program} {l : Launch} {e : Env} {s : State} {m : MethodId} {below : List Frame} {meth : Method} {c : Code} {b L : Nat} {xs : Nat → Int32} {D : va_G} {T : Nat → ClassId} {u adK adV : Nat → Nat} {E : Nat → List zV → zMm → Option zV → zMm → Prop} (hL : L ≤ 3072) (hx : p.tables.exec = Jvm.exec) (hb : c.code = code) (hr : meth.sig.returnType = ret) (hX : va_X b L xs s s.heap) (hbl : b < s.heap.size) (hlocks : meth.locks = false) : zRl p l e room_1 s m #[Value.ref b] below meth c (lw_Z below #[Value.ref b] s) (D, T, u, adK, adV, b) (fun q => s.heap.size ≤ q) E (fun r' _ => r' = some (.inl 1)) (fun mem => ∀ j, mem (-2) j = zMf L xs (-2) j) := by
  intro op a b' v pc i len lc st mem K k hop hP hd hi h hk H locs ls hI
  have hbA : ¬ (fun q : Nat => s.heap.size ≤ q) b := Nat.not_le.mpr hbl
  have eL : mem (-2) (-1) = (Int32.ofNat L).toInt := by
    rw [hP (-1), Int32.toInt_ofNat_of_lt (by omega)]
    rfl
  have eL2 : (Int32.ofNat L).toInt = (L : Int) := Int32.toInt_ofNat_of_lt (by omega)
  rcases hop with rfl | rfl | rfl
  · rw [zst_74] at h
    split at h
    case h_2 => exact h.elim
    rename_i i0 c0 st0
    obtain ⟨rfl, ⟨g1, g2⟩, h⟩ := h
    obtain ⟨⟨X, rfl⟩, hI1⟩ := hI.pop
    have hI2 := hI1.pop.2
    have hi : zIn_74 311 a b' v pc i len = true := hi
    unfold zIn_74 at hi
    split at hi
    case h_2 => cases hi
    simp only [Bool.and_eq_true, beq_iff_eq] at hi
    obtain ⟨rfl, -⟩ := hi
    rw [eL, eL2] at g2
    have e1 : mem (-2) X.toInt = (xs X.toNatClampNeg).toInt := by
      rw [hP X.toInt]
      unfold zMf
      rw [if_pos rfl, if_neg (by omega)]
      rfl
    have hin : vp_in X L := fun z => by
      rcases z with z | z
      · have := Int32.lt_iff_toInt_lt.mp z
        have : X.toInt < (0 : Int32).toInt := this
        have e0 : (0 : Int32).toInt = 0 := rfl
        omega
      · have : X.toNatClampNeg = X.toInt.toNat := rfl
        omega
    rw [zmp_i, zmp_r]
    refine va_sld hx hb hX hbl hbA hI2.2.2.2.2.2 hin hd ?_
    have := hk _ _ h H locs ls (by rw [e1]; exact hI2.push ⟨_, rfl⟩)
    rw [e1, zmp_i] at this
    exact this
  · rw [zst_75] at h
    split at h
    case h_2 => exact h.elim
    rename_i c0 st0
    obtain ⟨rfl, h⟩ := h
    have hI2 := hI.pop.2
    have hi : zIn_75 311 a b' v pc i len = true := hi
    unfold zIn_75 at hi
    split at hi
    case h_2 => cases hi
    simp only [Bool.and_eq_true, beq_iff_eq] at hi
    obtain ⟨rfl, -⟩ := hi
    rw [zmp_r]
    refine va_slen hx hb hX hbl hbA hI2.2.2.2.2.2 hd ?_
    have := hk _ _ h H locs ls (by rw [eL]; exact hI2.push ⟨_, rfl⟩)
    rw [eL, zmp_i] at this
    exact this
  · rw [zst_76] at h
    split at h
    case h_2 => exact h.elim
    rename_i x0
    obtain ⟨-, h⟩ := h
    have e1 : x0 = 1 := by
      have h : some (Sum.inl x0) = (some (.inl 1) : Option zV) := h
      cases h
      rfl
    subst e1
    have hi : zIn_76 311 a b' v pc i len = true := hi
    unfold zIn_76 at hi
    split at hi
    case h_2 => cases hi
    simp only [Bool.and_eq_true, beq_iff_eq] at hi
    obtain ⟨rfl, -⟩ := hi
    refine va_forget (fun q hq => hI.2.2.2.2.2.2.2 q hq) ?_
    exact lw_ret hx hb hr hlocks hd
theorem zn_cmp2 {D : va_G} {A : Nat → Prop} {H : Heap} {a : Nat → Nat} {E : Nat → va_E} {K h0 h1 : Nat} {F : (Nat → Nat) → Nat → va_E} (hP : va_P D zcl12 (zL a E K) H) (hD : va_D A (zL a E K)) (h : a 0 = h0) (h' : a 131 = h1) (he : ∀ j, j < K → E j = F a j) : ∃ u : Nat → Nat, u 0 = h0 ∧ u 131 = h1 ∧ va_P D zcl12 (zL u (F u) K) H ∧ va_D A (zL u (F u) K) := by
  have e : zL a E K = zL a (F a) K := zL_eq (fun j hj => ⟨rfl, he j hj⟩)
  rw [e] at hP hD
  exact ⟨a, h, h', hP, hD⟩
set_option maxHeartbeats 4000000 in
set_option maxRecDepth 100000 in
theorem whole_start {p : Program} {e : Env} {s : State} {m : MethodId} {below : List Frame} {meth : Method} {c : Code} (l : Launch) {b L : Nat} {xs : Nat → Int32} (hL : L ≤ 3072) (C0 : lw_At p s m meth c b L xs) : W p l e room_1 s m #[Value.ref b] below meth c s.heap [] 0 0 (lw_Z below #[Value.ref b] s) (entryFrame m ([Value.ref b] : List Value).toArray 4) := by
  obtain ⟨hx, hb, hr, hml, hown, hts, hX, hbl, hlocks, hgv⟩ := id C0
  have hA : ∀ q : Nat, s.heap.size ≤ q → (fun q : Nat => s.heap.size ≤ q) q := fun _ h => h
  have hbA : ∀ a : Nat, a < s.heap.size → ¬ (fun q : Nat => s.heap.size ≤ q) a := fun a h => Nat.not_le.mpr h
  obtain ⟨D, T, hCn⟩ := zK_all hts
  obtain ⟨adK, adV, hS1, hS2, hS3, hS4, hS5⟩ := zS_all hts hgv hbA
  obtain ⟨G, hG⟩ : ∃ G : zG, G = (D, T, (fun _ => 0), (fun _ => 0), (fun _ => 0), 0) := ⟨_, rfl⟩
  have hCg : zCn G s := by rw [hG]; exact hCn _
  have C : zMc p s m #[Value.ref b] c code 4 12 G := ⟨hx, hb, hml, hown, zb_in hts, hCg⟩
  have hS : va_S (fun q : Nat => s.heap.size ≤ q) s.heap s.heap [] := va_S.rf
  have hP : va_P G.1 zcl12 (zL (fun _ => 0) (fun _ => .inr (0, [])) 0) s.heap := fun k q h => by cases h
  have hD : va_D (fun q : Nat => s.heap.size ≤ q) (zL (fun _ => 0) (fun _ => .inr (0, [])) 0) := ⟨fun i j p q h => (by cases h), fun k q h => (by cases h)⟩
  have hl := lv_entry ([.ref b]) (n := 4) (Nat.le_of_ble_eq_true rfl)
  rw [lg_entry_eq]
  generalize (lg_sl ([.ref b]) ++ List.replicate (4 - (lg_sl ([.ref b])).length) Slot.unset).toArray = ls at hl ⊢
  replace hl : lv_has ls 4 [(0, .ref b)] := hl
  refine zn_new (ci := 10) (fs := zBk10) C hP hD hS hA (by decide) (zKW_in (k := 0) rfl) (zKW_in (k := 1) rfl) (zINI_in (by decide)) zdf10 (Nat.le_of_ble_eq_true rfl) (Nat.le_of_ble_eq_true rfl) dnL_0 (fun q0 H hP hD hS => ?_)
  refine W.widen (k := 1) (n := 13) (Nat.le_of_ble_eq_true rfl) (Nat.le_of_ble_eq_true rfl) ?_
  refine lv_dup hx hb dnL_3 rfl ?_
  refine zn_callI (n := 0) (q := q0) (e0 := .inr (10, zBk10)) (F := zF10 G.2.1) C (zk10 l G q0) rfl rfl zcd10 zii10 zim10 rfl (zKW_in (k := 2) rfl) zds10 ⟨(Nat.le_of_ble_eq_true rfl), (Nat.le_of_ble_eq_true rfl)⟩ ⟨(Nat.le_of_ble_eq_true rfl), (Nat.le_of_ble_eq_true rfl)⟩ hl.1 (lv_room (Nat.le_of_ble_eq_true rfl)) dnL_4 hP hD hS hA rfl rfl (by decide +kernel) (fun a0 H locs hw hP hD hS => ?_)
  replace hw : a0 0 = q0 := hw
  subst hw
  refine W.widen (k := 131) (n := 2275) (Nat.le_of_ble_eq_true rfl) (Nat.le_of_ble_eq_true rfl) ?_
  refine lv_astore_n (lv' := [(1, .ref (a0 0)), (0, .ref b)]) hx hb dnL_7 rfl hl (by decide) rfl (fun ls hl => ?_)
  refine zn_new (ci := 11) (fs := zBk11) C hP hD hS hA (by decide) (zKW_in (k := 68) rfl) (zKW_in (k := 69) rfl) (zINI_in (by decide)) zdf11 (Nat.le_of_ble_eq_true rfl) (Nat.le_of_ble_eq_true rfl) dnL_8 (fun q1 H hP hD hS => ?_)
  refine W.widen (k := 132) (n := 2319) (Nat.le_of_ble_eq_true rfl) (Nat.le_of_ble_eq_true rfl) ?_
  refine lv_dup hx hb dnL_11 rfl ?_
  refine zn_callI (n := 131) (q := q1) (e0 := .inr (11, zBk11)) (F := zF11 G.2.1) C (zk11 l G q1) rfl rfl zcd11 zii11 zim11 rfl (zKW_in (k := 70) rfl) zds11 ⟨(Nat.le_of_ble_eq_true rfl), (Nat.le_of_ble_eq_true rfl)⟩ ⟨(Nat.le_of_ble_eq_true rfl), (Nat.le_of_ble_eq_true rfl)⟩ hl.1 (lv_room (Nat.le_of_ble_eq_true rfl)) dnL_12 hP hD hS hA rfl rfl (by decide +kernel) (fun a1 H locs hw hP hD hS => ?_)
  replace hw : a1 0 = q1 := hw
  subst hw
  refine W.widen (k := 600000) (n := 7302250) (Nat.le_of_ble_eq_true rfl) (Nat.le_of_ble_eq_true rfl) ?_
  refine lv_astore_n (lv' := [(2, .ref (a1 0)), (1, .ref (a0 0)), (0, .ref b)]) hx hb dnL_15 rfl hl (by decide) rfl (fun ls hl => ?_)
  refine lv_iconst (v := 0) hx hb dnL_16 rfl ?_
  refine lv_istore_n (lv' := [(3, .int 0), (2, .ref (a1 0)), (1, .ref (a0 0)), (0, .ref b)]) hx hb dnL_17 rfl hl (by decide) rfl (fun ls hl => ?_)
  obtain ⟨u, hu0, hu1, hP, hD⟩ := zn_cmp2 (K := 151) (F := zFL G.2.1) hP hD (h0 := a0 0) (h1 := a1 0) rfl rfl (fun j hj => by
    match j, hj with
    | 0, _ => rfl
    | 1, _ => rfl
    | 2, _ => rfl
    | 3, _ => rfl
    | 4, _ => rfl
    | 5, _ => rfl
    | 6, _ => rfl
    | 7, _ => rfl
    | 8, _ => rfl
    | 9, _ => rfl
    | 10, _ => rfl
    | 11, _ => rfl
    | 12, _ => rfl
    | 13, _ => rfl
    | 14, _ => rfl
    | 15, _ => rfl
    | 16, _ => rfl
    | 17, _ => rfl
    | 18, _ => rfl
    | 19, _ => rfl
    | 20, _ => rfl
    | 21, _ => rfl
    | 22, _ => rfl
    | 23, _ => rfl
    | 24, _ => rfl
    | 25, _ => rfl
    | 26, _ => rfl
    | 27, _ => rfl
    | 28, _ => rfl
    | 29, _ => rfl
    | 30, _ => rfl
    | 31, _ => rfl
    | 32, _ => rfl
    | 33, _ => rfl
    | 34, _ => rfl
    | 35, _ => rfl
    | 36, _ => rfl
    | 37, _ => rfl
    | 38, _ => rfl
    | 39, _ => rfl
    | 40, _ => rfl
    | 41, _ => rfl
    | 42, _ => rfl
    | 43, _ => rfl
    | 44, _ => rfl
    | 45, _ => rfl
    | 46, _ => rfl
    | 47, _ => rfl
    | 48, _ => rfl
    | 49, _ => rfl
    | 50, _ => rfl
    | 51, _ => rfl
    | 52, _ => rfl
    | 53, _ => rfl
    | 54, _ => rfl
    | 55, _ => rfl
    | 56, _ => rfl
    | 57, _ => rfl
    | 58, _ => rfl
    | 59, _ => rfl
    | 60, _ => rfl
    | 61, _ => rfl
    | 62, _ => rfl
    | 63, _ => rfl
    | 64, _ => rfl
    | 65, _ => rfl
    | 66, _ => rfl
    | 67, _ => rfl
    | 68, _ => rfl
    | 69, _ => rfl
    | 70, _ => rfl
    | 71, _ => rfl
    | 72, _ => rfl
    | 73, _ => rfl
    | 74, _ => rfl
    | 75, _ => rfl
    | 76, _ => rfl
    | 77, _ => rfl
    | 78, _ => rfl
    | 79, _ => rfl
    | 80, _ => rfl
    | 81, _ => rfl
    | 82, _ => rfl
    | 83, _ => rfl
    | 84, _ => rfl
    | 85, _ => rfl
    | 86, _ => rfl
    | 87, _ => rfl
    | 88, _ => rfl
    | 89, _ => rfl
    | 90, _ => rfl
    | 91, _ => rfl
    | 92, _ => rfl
    | 93, _ => rfl
    | 94, _ => rfl
    | 95, _ => rfl
    | 96, _ => rfl
    | 97, _ => rfl
    | 98, _ => rfl
    | 99, _ => rfl
    | 100, _ => rfl
    | 101, _ => rfl
    | 102, _ => rfl
    | 103, _ => rfl
    | 104, _ => rfl
    | 105, _ => rfl
    | 106, _ => rfl
    | 107, _ => rfl
    | 108, _ => rfl
    | 109, _ => rfl
    | 110, _ => rfl
    | 111, _ => rfl
    | 112, _ => rfl
    | 113, _ => rfl
    | 114, _ => rfl
    | 115, _ => rfl
    | 116, _ => rfl
    | 117, _ => rfl
    | 118, _ => rfl
    | 119, _ => rfl
    | 120, _ => rfl
    | 121, _ => rfl
    | 122, _ => rfl
    | 123, _ => rfl
    | 124, _ => rfl
    | 125, _ => rfl
    | 126, _ => rfl
    | 127, _ => rfl
    | 128, _ => rfl
    | 129, _ => rfl
    | 130, _ => rfl
    | 131, _ => rfl
    | 132, _ => rfl
    | 133, _ => rfl
    | 134, _ => rfl
    | 135, _ => rfl
    | 136, _ => rfl
    | 137, _ => rfl
    | 138, _ => rfl
    | 139, _ => rfl
    | 140, _ => rfl
    | 141, _ => rfl
    | 142, _ => rfl
    | 143, _ => rfl
    | 144, _ => rfl
    | 145, _ => rfl
    | 146, _ => rfl
    | 147, _ => rfl
    | 148, _ => rfl
    | 149, _ => rfl
    | 150, _ => rfl
    | _ + 151, h => exact absurd h (by omega))
  have hGT : G.2.1 = T := by rw [hG]
  have hGD : G.1 = D := by rw [hG]
  rw [hGT] at hP hD
  rw [hGD] at hP
  have hW0 : va_P D zcl12 (zWl (D, T, u, adK, adV, b) (zMf L xs)) H := zW_of hP
  have hza : ∀ i : Nat, i < 151 → zra (D, T, u, adK, adV, b) (i : Int) = u i := fun i _ => by
    unfold zra
    rw [if_neg (by omega), if_neg (by omega)]
    rfl
  have hCx : zCx (D, T, u, adK, adV, b) (fun q : Nat => s.heap.size ≤ q) s := by
    refine ⟨(hCn _).1, ⟨fun i j hi hj h => ?_, fun i hi => ?_⟩, hS1, hS2, hS3, hS4, hS5⟩
    · rw [hza i hi, hza j hj] at h
      exact hD.1 i j _ _ (zL_at hi) (zL_at hj) h
    · rw [hza i hi]
      exact hD.2 i _ (zL_at hi)
  have Ca : zAt p s m #[Value.ref b] c 311 (D, T, u, adK, adV, b) (fun q : Nat => s.heap.size ≤ q) := ⟨hx, hb, hml, hown, zb_in hts, hCx⟩
  have hM := zMet_all zok_all l (D, T, u, adK, adV, b) (fun q : Nat => s.heap.size ≤ q) 90
  have hKn : zKn l room_1 (zrm 90) (D, T, u, adK, adV, b) (fun q : Nat => s.heap.size ≤ q) (zXs 90) := ⟨⟨rfl, rfl, by decide, by decide, by decide⟩, fun a as mem r mem' h => hM.2.1 a as mem r mem' h.1, fun as mem r mem' h => hM.2.2.1 as mem r mem' h.1, fun as mem r mem' h => hM.2.2.2.1 as mem r mem' h.1, fun a as mem r mem' h => hM.2.2.2.2 a as mem r mem' h.1⟩
  obtain ⟨n, hn⟩ := gLaw (d := 0) L 0 (zMf L xs) zMf_w (zMf_s hL) ⟨Int.le_refl _, (zMf_s hL).1.1⟩ (by
    have e : zMf L xs (-2) (-1) = L := rfl
    rw [e]
    omega)
  have go := zblkL (p := p) (e := e) (below := below) (meth := meth) (P := fun mem => ∀ j, mem (-2) j = zMf L xs (-2) j) zok_law (fun y as m r m' h hm j => by rw [h.2 j]; exact hm j) Ca hKn (zRl_law hL hx hb hr hX hbl hlocks) n 0 _ _ _ (fun _ => rfl) hn
  have e18 : zbp 311 0 = 18 := by decide
  rw [e18] at go
  refine go H _ ls ⟨⟨_, hl, fun i v q => ?_⟩, fun i v q => ?_, fun v q => (by cases q), zMf_c hL, hW0, hS⟩
  · match i, q with
    | 0, q => cases q; exact List.mem_cons_of_mem _ (List.mem_cons_of_mem _ (List.mem_cons_of_mem _ List.mem_cons_self))
    | 1, q =>
      cases q
      rw [show zph (D, T, u, adK, adV, b) (.inr (.inr 0)) = .ref (u 0) from rfl, hu0]
      exact List.mem_cons_of_mem _ (List.mem_cons_of_mem _ List.mem_cons_self)
    | 2, q =>
      cases q
      rw [show zph (D, T, u, adK, adV, b) (.inr (.inr 131)) = .ref (u 131) from rfl, hu1]
      exact List.mem_cons_of_mem _ List.mem_cons_self
    | 3, q => cases q; exact List.mem_cons_self
    | i + 4, q => cases q
  · match i, q with
    | 0, q => cases q; exact trivial
    | 1, q => cases q; exact trivial
    | 2, q => cases q; exact trivial
    | 3, q => cases q; exact ⟨0, rfl⟩
    | i + 4, q => cases q
set_option maxHeartbeats 4000000 in
theorem lw_walk (l : Launch) (b : Addr) (xs : List Int32) : MetFree l x (headSpec (Jvm.Cond.code x code maxLocals ret :: tables_1) room_1) (lw_P b xs) (fun _ _ _ _ _ => True) lw_Q := by
  refine MetFree.of_bodyS (code := code) (maxLocals := maxLocals) (ret := ret) (by decide) ?_ ?_
  · intro args s m h hn
    obtain ⟨meth, c, h1, h2, h3, h4, h5, h6, -, -⟩ := Cond.code_spec hn (atoms_spec (ws := Jvm.Cond.code x code maxLocals ret :: tables_1) h _ List.mem_cons_self)
    exact ⟨meth, c, h1, h2, h3, h4, h5, h6⟩
  · intro p e s m args below meth c s₁ B hml0 hP _
    obtain ⟨rfl, hx, hbd, hgv⟩ := hP
    obtain ⟨scr, harrAt, hlist, hof, hsmall⟩ := hx
    obtain ⟨hcb, hkn, -, -⟩ := State.arrayAt?_spec harrAt
    have hown : s.vm.findClass R_law = some m.cls := findClass_of_methodNamed B.named
    have hts0 : ∀ c ∈ (Jvm.Cond.code x code maxLocals ret :: tables_1), c.before #[Value.ref b] s = true := atoms_spec (ws := Jvm.Cond.code x code maxLocals ret :: tables_1) B.pre
    have hts : ∀ w ∈ lw_tbl, w.before #[Value.ref b] s = true := k2_hts_sels lw_privs (fun w hw => hts0 w (List.mem_cons_of_mem _ hw)) lw_privs_ok
    have hml : c.maxLocals = 4 := B.maxLocals_eq (hts0 _ List.mem_cons_self)
    have X₀ : Stand p l e room_1 s m #[Value.ref b] below meth c s₁ [] 0 0 := Stand.of_body B
    have hh0 : s₁.heap = s.heap := by rw [B.state]; rfl
    have hsz : scr.slots.size = xs.length := by rw [← Array.length_toList, hlist, List.length_map]
    have hval : ∀ j : Nat, j < xs.length → scr.slots[j]? = some (.int (xs.getD j 0)) := fun j hj => by
      rw [← Array.getElem?_toList, hlist]
      simp [hj]
    have hbl : b < s.heap.size := (Array.getElem?_eq_some_iff.mp hcb).1
    have hX : va_X b xs.length (fun j => xs.getD j 0) s s.heap := ⟨scr, hcb, hof, hkn, hsz, hval⟩
    have K : W p l e room_1 s m #[Value.ref b] below meth c s₁.heap [] 0 0 (lw_Z below #[Value.ref b] s) (entryFrame m ([Value.ref b] : List Value).toArray 4) := by
      rw [hh0]
      exact whole_start l hbd ⟨B.exec, B.bytes, B.returns, hml, hown, hts, hX, hbl, B.notSynchronized, hgv⟩
    obtain ⟨t, a1, o, b1, b2, b3⟩ := K s₁ rfl X₀
    exact ⟨t, o, a1, b1, b2, b3⟩
theorem lw_pre_spec {args : Array Value} {s : State} (h : (Jvm.Cond.and given_1 narrow_1).before args s = true) (hr : rest_1_c.before args s = true) : ∃ (b : Addr) (xs : List Int32), lw_P b xs args s := by
  have hs := flat_of_before _ h
  have hq := flat_of_before _ hr
  have hc : (Cond.count 1).before args s = true := hs _ (by decide +kernel)
  have harr : (Cond.arrayOf (.arg 0) .int).before args s = true := hs _ (by decide +kernel)
  have hle : (Cond.le (.length (.arg 0)) (.int 3072)).before args s = true := hs _ (by decide +kernel)
  have hlen : (Cond.isInt (.length (.arg 0))).before args s = true := hq _ (by decide +kernel)
  have hall : (Cond.all (.arg 0) (.isInt (.elem (.arg 0) (.index 0)))).before args s = true := hq _ (by decide +kernel)
  obtain ⟨b, xs, hb, hx⟩ := State.ints_of_pre rfl harr hlen hall
  have hsm : xs.length < 2 ^ 31 := hx.choose_spec.2.2.2
  have hev : (Term.length (.arg 0)).eval args s none [] s = some (.int xs.length.toInt32) := hx.length_eval hb
  have hv := Cond.le_ints hev (show (Term.int 3072).eval args s none [] s = some (.int 3072) from rfl)
  have hd : xs.length.toInt32 ≤ 3072 := by
    simpa [Cond.before, Cond.holds, hv] using hle
  have hN : xs.length ≤ 3072 := (Int32.ofNat_le_ofNat hsm (by decide)).mp (show Int32.ofNat xs.length ≤ Int32.ofNat 3072 from hd)
  exact ⟨b, xs, Cond.one_arg hc (show args[0]? = some (.ref b) from hb), hx, hN, h⟩
theorem lw_comes (l : Launch) : Comes l x (Jvm.Cond.code x code maxLocals ret :: tables_1) room_1 (fun tb e args s => Calls_1 tb e args s ∧ rest_1 tb e args s ∧ Pre_1 tb e args s)
    (fun _ _ args s o t => lw_Q args s o t) := by
  intro p e ha hc hk s m args below hf hfit hheap happ hpre
  obtain ⟨b, xs, hP⟩ := lw_pre_spec hpre.2.2 hpre.2.1
  obtain ⟨k, o, h1, h2, h3, hQ⟩ := lw_walk l b xs p e ha hc hk s m args below hf ((Spec.applies_iff_loose hf).mp happ).1 hP trivial
  exact ⟨k, o, h1, h2, h3, hQ⟩
theorem lw_frame {s t : State} {o : Outcome} {args : Array Value} (h : Framed s o t [] 600000 7302250) :
    Framed s o t (fieldLocs frame_1_writes args s ++ arrayLocs frame_1_arrays args s ++ staticLocs frame_1_statics s) 600000 7302250 := h
theorem lw_limb (L : Cond) (hL : ∀ (args : Array Value) (s t : State), L.after args s (.returned (some (.int 1))) t = true) :
    ArmFor flags0 classFile x code maxLocals ret World_1 tables_1 room_1 Calls_1 rest_1 Pre_1
      (fun tb e a s o t => postC L tb e a s o t ∧ Framed s o t (fieldLocs frame_1_writes a s ++ arrayLocs frame_1_arrays a s ++ staticLocs frame_1_statics s) 600000 7302250) := by
  intro l _ _ _ p e ha hc hk s m args below hf hfit hheap happ hpre
  obtain ⟨k, o, h1, h2, h3, rfl, hF⟩ := lw_comes l p e ha hc hk s m args below hf hfit hheap happ hpre
  exact ⟨k, _, h1, h2, h3, hL args s _, lw_frame hF⟩
theorem i_vc : Claimed_1_1 ∧ Claimed_1_2 := ⟨lw_limb limb_1_1 (fun args s t => by simp [limb_1_1, Cond.after, Cond.holds, Cond.value]), lw_limb limb_1_2 (fun args s t => Cond.after_iff.mpr (by
  first | (rw [show limb_1_2 = Cond.eq .result (.int 1) from rfl, Cond.eq_ints (x := 1) (y := 1) rfl rfl]; simp; done) | (simp [limb_1_2, Cond.value, Term.eval]; done)))⟩
