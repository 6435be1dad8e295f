/-! ===== the constructors ===== -/
def zBk0 : List Value := [.null, .null, .null, .null, .null, .int 0]
theorem zdf0 : ∀ j, j < znf 0 → defaultValue (zty 0 j) = vp_V zBk0 j := fun j hj => by
  have hj : j < 6 := hj
  match j, hj with
  | 0, _ => rfl
  | 1, _ => rfl
  | 2, _ => rfl
  | 3, _ => rfl
  | 4, _ => rfl
  | 5, _ => rfl
  | _ + 6, h => exact absurd h (by omega)
def zBk1 : List Value := [.int 0, .int 0, .int 0, .int 0, .int 0]
theorem zdf1 : ∀ j, j < znf 1 → defaultValue (zty 1 j) = vp_V zBk1 j := fun j hj => by
  have hj : j < 5 := hj
  match j, hj with
  | 0, _ => rfl
  | 1, _ => rfl
  | 2, _ => rfl
  | 3, _ => rfl
  | 4, _ => rfl
  | _ + 5, h => exact absurd h (by omega)
def zBk2 : List Value := [.null, .null, .int 0, .int 0]
theorem zdf2 : ∀ j, j < znf 2 → defaultValue (zty 2 j) = vp_V zBk2 j := fun j hj => by
  have hj : j < 4 := hj
  match j, hj with
  | 0, _ => rfl
  | 1, _ => rfl
  | 2, _ => rfl
  | 3, _ => rfl
  | _ + 4, h => exact absurd h (by omega)
def zBk3 : List Value := [.null, .null, .int 0, .int 0]
theorem zdf3 : ∀ j, j < znf 3 → defaultValue (zty 3 j) = vp_V zBk3 j := fun j hj => by
  have hj : j < 4 := hj
  match j, hj with
  | 0, _ => rfl
  | 1, _ => rfl
  | 2, _ => rfl
  | 3, _ => rfl
  | _ + 4, h => exact absurd h (by omega)
def zBk4 : List Value := [.int 0, .int 0, .int 0, .int 0]
theorem zdf4 : ∀ j, j < znf 4 → defaultValue (zty 4 j) = vp_V zBk4 j := fun j hj => by
  have hj : j < 4 := hj
  match j, hj with
  | 0, _ => rfl
  | 1, _ => rfl
  | 2, _ => rfl
  | 3, _ => rfl
  | _ + 4, h => exact absurd h (by omega)
def zBk5 : List Value := [.int 0, .int 0, .int 0, .int 0, .int 0, .int 0, .int 0, .int 0, .int 0, .int 0, .null, .null]
theorem zdf5 : ∀ j, j < znf 5 → defaultValue (zty 5 j) = vp_V zBk5 j := fun j hj => by
  have hj : j < 12 := hj
  match j, hj with
  | 0, _ => rfl
  | 1, _ => rfl
  | 2, _ => rfl
  | 3, _ => rfl
  | 4, _ => rfl
  | 5, _ => rfl
  | 6, _ => rfl
  | 7, _ => rfl
  | 8, _ => rfl
  | 9, _ => rfl
  | 10, _ => rfl
  | 11, _ => rfl
  | _ + 12, h => exact absurd h (by omega)
def zBk6 : List Value := [.null, .int 0, .int 0]
theorem zdf6 : ∀ j, j < znf 6 → defaultValue (zty 6 j) = vp_V zBk6 j := fun j hj => by
  have hj : j < 3 := hj
  match j, hj with
  | 0, _ => rfl
  | 1, _ => rfl
  | 2, _ => rfl
  | _ + 3, h => exact absurd h (by omega)
def zBk7 : List Value := [.int 0, .int 0, .int 0, .int 0, .int 0, .int 0, .null]
theorem zdf7 : ∀ j, j < znf 7 → defaultValue (zty 7 j) = vp_V zBk7 j := fun j hj => by
  have hj : j < 7 := hj
  match j, hj with
  | 0, _ => rfl
  | 1, _ => rfl
  | 2, _ => rfl
  | 3, _ => rfl
  | 4, _ => rfl
  | 5, _ => rfl
  | 6, _ => rfl
  | _ + 7, h => exact absurd h (by omega)
def zBk8 : List Value := [.int 0, .int 0, .int 0, .null, .int 0, .int 0, .int 0, .int 0]
theorem zdf8 : ∀ j, j < znf 8 → defaultValue (zty 8 j) = vp_V zBk8 j := fun j hj => by
  have hj : j < 8 := hj
  match j, hj with
  | 0, _ => rfl
  | 1, _ => rfl
  | 2, _ => rfl
  | 3, _ => rfl
  | 4, _ => rfl
  | 5, _ => rfl
  | 6, _ => rfl
  | 7, _ => rfl
  | _ + 8, h => exact absurd h (by omega)
def zBk9 : List Value := [.null, .int 0, .null, .int 0, .int 0]
theorem zdf9 : ∀ j, j < znf 9 → defaultValue (zty 9 j) = vp_V zBk9 j := fun j hj => by
  have hj : j < 5 := hj
  match j, hj with
  | 0, _ => rfl
  | 1, _ => rfl
  | 2, _ => rfl
  | 3, _ => rfl
  | 4, _ => rfl
  | _ + 5, h => exact absurd h (by omega)
def zBk10 : List Value := [.null, .null, .null, .null, .null, .int 0, .null, .null, .null, .null, .null, .null, .null]
theorem zdf10 : ∀ j, j < znf 10 → defaultValue (zty 10 j) = vp_V zBk10 j := fun j hj => by
  have hj : j < 13 := hj
  match j, hj with
  | 0, _ => rfl
  | 1, _ => rfl
  | 2, _ => rfl
  | 3, _ => rfl
  | 4, _ => rfl
  | 5, _ => rfl
  | 6, _ => rfl
  | 7, _ => rfl
  | 8, _ => rfl
  | 9, _ => rfl
  | 10, _ => rfl
  | 11, _ => rfl
  | 12, _ => rfl
  | _ + 13, h => exact absurd h (by omega)
def zBk11 : List Value := [.int 0, .null, .null, .null, .null, .null, .int 0, .int 0, .int 0, .int 0, .int 0, .long 0, .int 0, .int 0, .int 0, .int 0, .null, .null, .null, .null, .null, .null, .null, .null, .int 0, .int 0, .int 0, .null, .int 0, .int 0, .int 0, .int 0, .int 0, .int 0, .null, .int 0, .int 0, .null, .null, .null, .null, .int 0, .int 0, .int 0]
theorem zdf11 : ∀ j, j < znf 11 → defaultValue (zty 11 j) = vp_V zBk11 j := fun j hj => by
  have hj : j < 44 := hj
  match j, hj with
  | 0, _ => rfl
  | 1, _ => rfl
  | 2, _ => rfl
  | 3, _ => rfl
  | 4, _ => rfl
  | 5, _ => rfl
  | 6, _ => rfl
  | 7, _ => rfl
  | 8, _ => rfl
  | 9, _ => rfl
  | 10, _ => rfl
  | 11, _ => rfl
  | 12, _ => rfl
  | 13, _ => rfl
  | 14, _ => rfl
  | 15, _ => rfl
  | 16, _ => rfl
  | 17, _ => rfl
  | 18, _ => rfl
  | 19, _ => rfl
  | 20, _ => rfl
  | 21, _ => rfl
  | 22, _ => rfl
  | 23, _ => rfl
  | 24, _ => rfl
  | 25, _ => rfl
  | 26, _ => rfl
  | 27, _ => rfl
  | 28, _ => rfl
  | 29, _ => rfl
  | 30, _ => rfl
  | 31, _ => rfl
  | 32, _ => rfl
  | 33, _ => rfl
  | 34, _ => rfl
  | 35, _ => rfl
  | 36, _ => rfl
  | 37, _ => rfl
  | 38, _ => rfl
  | 39, _ => rfl
  | 40, _ => rfl
  | 41, _ => rfl
  | 42, _ => rfl
  | 43, _ => rfl
  | _ + 44, h => exact absurd h (by omega)
theorem zcd4 : Cond.code yX4_init cX4_init 1 none ∈ zBIG := (zKW_in (k := 24) rfl)
theorem zii4 : Cond.initialized yX4_init.cls ∈ zBIG := zINI_in (o := 4) (by decide)
theorem zim4 : Cond.instanceMethod yX4_init ∈ zBIG := (zKW_in (k := 23) rfl)
theorem zds4 : yX4_init.cls ≠ "java/lang/invoke/MethodHandle" ∧ yX4_init.cls ≠ "java/lang/invoke/VarHandle" ∧ (parseMethodDescriptor yX4_init.desc).map (fun d => d.parameters.length) = some 0 := by decide +kernel
theorem zcd1 : Cond.code yX1_init cX1_init 1 none ∈ zBIG := (zKW_in (k := 28) rfl)
theorem zii1 : Cond.initialized yX1_init.cls ∈ zBIG := zINI_in (o := 1) (by decide)
theorem zim1 : Cond.instanceMethod yX1_init ∈ zBIG := (zKW_in (k := 27) rfl)
theorem zds1 : yX1_init.cls ≠ "java/lang/invoke/MethodHandle" ∧ yX1_init.cls ≠ "java/lang/invoke/VarHandle" ∧ (parseMethodDescriptor yX1_init.desc).map (fun d => d.parameters.length) = some 0 := by decide +kernel
theorem zcd8 : Cond.code yX8_init cX8_init 1 none ∈ zBIG := (zKW_in (k := 11) rfl)
theorem zii8 : Cond.initialized yX8_init.cls ∈ zBIG := zINI_in (o := 8) (by decide)
theorem zim8 : Cond.instanceMethod yX8_init ∈ zBIG := (zKW_in (k := 10) rfl)
theorem zds8 : yX8_init.cls ≠ "java/lang/invoke/MethodHandle" ∧ yX8_init.cls ≠ "java/lang/invoke/VarHandle" ∧ (parseMethodDescriptor yX8_init.desc).map (fun d => d.parameters.length) = some 0 := by decide +kernel
theorem zcd7 : Cond.code yX7_init cX7_init 1 none ∈ zBIG := (zKW_in (k := 41) rfl)
theorem zii7 : Cond.initialized yX7_init.cls ∈ zBIG := zINI_in (o := 7) (by decide)
theorem zim7 : Cond.instanceMethod yX7_init ∈ zBIG := (zKW_in (k := 40) rfl)
theorem zds7 : yX7_init.cls ≠ "java/lang/invoke/MethodHandle" ∧ yX7_init.cls ≠ "java/lang/invoke/VarHandle" ∧ (parseMethodDescriptor yX7_init.desc).map (fun d => d.parameters.length) = some 0 := by decide +kernel
theorem zcd9 : Cond.code yX9_init cX9_init 1 none ∈ zBIG := (zKW_in (k := 53) rfl)
theorem zii9 : Cond.initialized yX9_init.cls ∈ zBIG := zINI_in (o := 9) (by decide)
theorem zim9 : Cond.instanceMethod yX9_init ∈ zBIG := (zKW_in (k := 52) rfl)
theorem zds9 : yX9_init.cls ≠ "java/lang/invoke/MethodHandle" ∧ yX9_init.cls ≠ "java/lang/invoke/VarHandle" ∧ (parseMethodDescriptor yX9_init.desc).map (fun d => d.parameters.length) = some 0 := by decide +kernel
theorem zcd6 : Cond.code yX6_init cX6_init 1 none ∈ zBIG := (zKW_in (k := 65) rfl)
theorem zii6 : Cond.initialized yX6_init.cls ∈ zBIG := zINI_in (o := 6) (by decide)
theorem zim6 : Cond.instanceMethod yX6_init ∈ zBIG := (zKW_in (k := 64) rfl)
theorem zds6 : yX6_init.cls ≠ "java/lang/invoke/MethodHandle" ∧ yX6_init.cls ≠ "java/lang/invoke/VarHandle" ∧ (parseMethodDescriptor yX6_init.desc).map (fun d => d.parameters.length) = some 0 := by decide +kernel
theorem zcd5 : Cond.code yX5_init cX5_init 2 none ∈ zBIG := (zKW_in (k := 18) rfl)
theorem zii5 : Cond.initialized yX5_init.cls ∈ zBIG := zINI_in (o := 5) (by decide)
theorem zim5 : Cond.instanceMethod yX5_init ∈ zBIG := (zKW_in (k := 17) rfl)
theorem zds5 : yX5_init.cls ≠ "java/lang/invoke/MethodHandle" ∧ yX5_init.cls ≠ "java/lang/invoke/VarHandle" ∧ (parseMethodDescriptor yX5_init.desc).map (fun d => d.parameters.length) = some 0 := by decide +kernel
theorem zcd0 : Cond.code yX0_init cX0_init 1 none ∈ zBIG := (zKW_in (k := 33) rfl)
theorem zii0 : Cond.initialized yX0_init.cls ∈ zBIG := zINI_in (o := 0) (by decide)
theorem zim0 : Cond.instanceMethod yX0_init ∈ zBIG := (zKW_in (k := 32) rfl)
theorem zds0 : yX0_init.cls ≠ "java/lang/invoke/MethodHandle" ∧ yX0_init.cls ≠ "java/lang/invoke/VarHandle" ∧ (parseMethodDescriptor yX0_init.desc).map (fun d => d.parameters.length) = some 0 := by decide +kernel
theorem zcd2 : Cond.code yX2_init cX2_init 1 none ∈ zBIG := (zKW_in (k := 59) rfl)
theorem zii2 : Cond.initialized yX2_init.cls ∈ zBIG := zINI_in (o := 2) (by decide)
theorem zim2 : Cond.instanceMethod yX2_init ∈ zBIG := (zKW_in (k := 58) rfl)
theorem zds2 : yX2_init.cls ≠ "java/lang/invoke/MethodHandle" ∧ yX2_init.cls ≠ "java/lang/invoke/VarHandle" ∧ (parseMethodDescriptor yX2_init.desc).map (fun d => d.parameters.length) = some 0 := by decide +kernel
theorem zcd3 : Cond.code yX3_init cX3_init 2 none ∈ zBIG := (zKW_in (k := 47) rfl)
theorem zii3 : Cond.initialized yX3_init.cls ∈ zBIG := zINI_in (o := 3) (by decide)
theorem zim3 : Cond.instanceMethod yX3_init ∈ zBIG := (zKW_in (k := 46) rfl)
theorem zds3 : yX3_init.cls ≠ "java/lang/invoke/MethodHandle" ∧ yX3_init.cls ≠ "java/lang/invoke/VarHandle" ∧ (parseMethodDescriptor yX3_init.desc).map (fun d => d.parameters.length) = some 0 := by decide +kernel
theorem zcd10 : Cond.code yX10_init cX10_init 2 none ∈ zBIG := (zKW_in (k := 4) rfl)
theorem zii10 : Cond.initialized yX10_init.cls ∈ zBIG := zINI_in (o := 10) (by decide)
theorem zim10 : Cond.instanceMethod yX10_init ∈ zBIG := (zKW_in (k := 3) rfl)
theorem zds10 : yX10_init.cls ≠ "java/lang/invoke/MethodHandle" ∧ yX10_init.cls ≠ "java/lang/invoke/VarHandle" ∧ (parseMethodDescriptor yX10_init.desc).map (fun d => d.parameters.length) = some 0 := by decide +kernel
theorem zcd11 : Cond.code yX11_init cX11_init 2 none ∈ zBIG := (zKW_in (k := 72) rfl)
theorem zii11 : Cond.initialized yX11_init.cls ∈ zBIG := zINI_in (o := 11) (by decide)
theorem zim11 : Cond.instanceMethod yX11_init ∈ zBIG := (zKW_in (k := 71) rfl)
theorem zds11 : yX11_init.cls ≠ "java/lang/invoke/MethodHandle" ∧ yX11_init.cls ≠ "java/lang/invoke/VarHandle" ∧ (parseMethodDescriptor yX11_init.desc).map (fun d => d.parameters.length) = some 0 := by decide +kernel
def zUp (g : Nat → Nat) : Nat → Nat → Option Nat
  | 0 => fun _ => none
  | k + 1 => va_up (zUp g k) k (some (g k))
def zUi : Nat → Nat → Int32
  | 0 => fun _ => 0
  | k + 1 => upd (zUi k) k (-1)
theorem zn_D1 {h0 sz : Nat} {e0 : va_E} : va_D (va_A [(h0, e0)] sz) (zL (fun _ => h0) (fun _ => e0) 1) := by
  refine ⟨fun i j p q hi hj _ => ?_, fun k q hk => ?_⟩
  · have a := (zL_in hi).1
    have b := (zL_in hj).1
    omega
  · have a := zL_in hk
    rw [a.2]
    exact Or.inl ⟨0, e0, rfl⟩
theorem zvin {i : Int32} {n : Nat} (h : decide (i < 0 ∨ n ≤ i.toNatClampNeg) = false) : vp_in i n := of_decide_eq_false h
theorem zn_cmp {D : va_G} {A : Nat → Prop} {H : Heap} {a : Nat → Nat} {E : Nat → va_E} {K h0 : Nat} {F : (Nat → Nat) → Nat → va_E} (hP : va_P D zcl12 (zL a E K) H) (hD : va_D A (zL a E K)) (h : a 0 = h0) (he : ∀ j, j < K → E j = F a j) : ∃ u : Nat → Nat, u 0 = h0 ∧ va_P D zcl12 (zL u (F u) K) H ∧ va_D A (zL u (F u) K) := by
  have e : zL a E K = zL a (F a) K := zL_eq (fun j hj => ⟨rfl, he j hj⟩)
  rw [e] at hP hD
  exact ⟨a, h, hP, hD⟩
theorem zn_end {D : va_G} {A : Nat → Prop} {H : Heap} {a : Nat → Nat} {E : Nat → va_E} {K h0 : Nat} {F : (Nat → Nat) → Nat → va_E} (hP : va_P D zcl12 (zL a E K) H) (hD : va_D A (zL a E K)) (h : a 0 = h0) (he : ∀ j, j < K → E j = F a j) : ∃ u : Nat → Nat, u 0 = h0 ∧ va_P D zcl12 (zL u (F u) K) H ∧ va_D A (zL u (F u) K) := by
  have e : zL a E K = zL a (F a) K := zL_eq (fun j hj => ⟨rfl, he j hj⟩)
  rw [e] at hP hD
  exact ⟨a, h, hP, hD⟩
theorem dn4_0 : decode cX4_init 0 = .ok (.aload_n 0, 1) := by decide +kernel
theorem dn4_1 : decode cX4_init 1 = .ok (.invokespecial 3, 3) := by decide +kernel
theorem dn4_4 : decode cX4_init 4 = .ok (.return_, 1) := by decide +kernel
def zF4 (T : Nat → ClassId) (a : Nat → Nat) : Nat → va_E
  | 0 => .inr (4, [.int 0, .int 0, .int 0, .int 0])
  | _ => .inr (0, [])
set_option maxHeartbeats 4000000 in
set_option maxRecDepth 100000 in
theorem zk4 (l : Launch) (G : zG) (h0 sz : Nat) : Met l yX4_init (.code yX4_init cX4_init 1 none :: zBIG) { frames := 1, cells := 0, slots := 0, locals := 12 } (zPn G h0 sz (.inr (4, zBk4))) (zQn G h0 sz (.inr (4, zBk4)) 1 (zF4 G.2.1)) 0 0 (va_A [(h0, .inr (4, zBk4))] sz) := by
  refine Met.ofW (cc := cX4_init) (maxL := 1) (ret := none) (by decide) rfl ?_
  intro p e s m args below meth c s₁ B hml hv
  obtain ⟨rfl, hsz, hP, hCn⟩ := hv
  have hx := B.exec
  have hb := B.bytes
  have hr := B.returns
  have hts0 := atoms_spec (ws := .code yX4_init cX4_init 1 none :: zBIG) B.pre
  have hts : ∀ w ∈ zBIG, w.before _ s = true := fun w h => hts0 w (List.mem_cons_of_mem _ h)
  have hown : s.vm.findClass (zCN 4) = some m.cls := findClass_of_methodNamed B.named
  have hlocks := B.notSynchronized
  have hin : meth.name = "<init>" := (name_of_methodNamed B.named B.method).1
  have C : zMc p s m _ c cX4_init 1 4 G := ⟨hx, hb, hml, hown, hts, hCn⟩
  subst hsz
  replace hP : va_P G.1 zcl12 (zL (fun _ => h0) (fun _ => .inr (4, zBk4)) 1) s.heap := hP
  have hD : va_D (va_A [(h0, .inr (4, zBk4))] s.heap.size) (zL (fun _ => h0) (fun _ => .inr (4, zBk4)) 1) := zn_D1
  generalize hAe : va_A [(h0, .inr (4, zBk4))] s.heap.size = A at hD ⊢
  have hA : ∀ q : Nat, s.heap.size ≤ q → A q := fun q h => by rw [← hAe]; exact Or.inr h
  have hS : va_S A s.heap s.heap [] := va_S.rf
  have hl := lv_entry ([.ref h0]) (n := 1) (Nat.le_of_ble_eq_true rfl)
  rw [lg_entry_eq]
  generalize (lg_sl ([.ref h0]) ++ List.replicate (1 - (lg_sl ([.ref h0])).length) Slot.unset).toArray = ls at hl ⊢
  replace hl : lv_has ls 1 [(0, .ref h0)] := hl
  refine lv_aload_n hx hb dn4_0 rfl (lv_at hl 0 rfl) ?_
  refine W.objInit hx hb hown (hts _ (zKW_in (k := 25) rfl)) (hts _ (zKW_in (k := 6) rfl)) (hts _ (zKW_in (k := 7) rfl)) rfl (by rw [hml]; exact hl.1) rfl dn4_1 (Nat.le_of_ble_eq_true rfl) (Nat.le_of_ble_eq_true rfl) ?_
  refine W.eq (g2 := F0 m 4 ls []) rfl ?_
  obtain ⟨u, hu0, hP9, hD9⟩ := zn_end (K := 1) (F := zF4 G.2.1) hP hD rfl (fun j hj => by
    match j, hj with
    | 0, _ => rfl
    | _ + 1, h => exact absurd h (by omega))
  refine W.widen (k := 0) (n := 0) (Nat.le_of_ble_eq_true rfl) (Nat.le_of_ble_eq_true rfl) ?_
  exact W.vret hx hb hr (fun t ht hW => ⟨⟨u, rfl, hu0, by rw [ht]; exact hP9, by rw [hAe]; exact hD9⟩, by rw [hAe]; exact hS.F ht⟩) hS.2.2 dn4_4
theorem dn1_0 : decode cX1_init 0 = .ok (.aload_n 0, 1) := by decide +kernel
theorem dn1_1 : decode cX1_init 1 = .ok (.invokespecial 1, 3) := by decide +kernel
theorem dn1_4 : decode cX1_init 4 = .ok (.return_, 1) := by decide +kernel
def zF1 (T : Nat → ClassId) (a : Nat → Nat) : Nat → va_E
  | 0 => .inr (1, [.int 0, .int 0, .int 0, .int 0, .int 0])
  | _ => .inr (0, [])
set_option maxHeartbeats 4000000 in
set_option maxRecDepth 100000 in
theorem zk1 (l : Launch) (G : zG) (h0 sz : Nat) : Met l yX1_init (.code yX1_init cX1_init 1 none :: zBIG) { frames := 1, cells := 0, slots := 0, locals := 12 } (zPn G h0 sz (.inr (1, zBk1))) (zQn G h0 sz (.inr (1, zBk1)) 1 (zF1 G.2.1)) 0 0 (va_A [(h0, .inr (1, zBk1))] sz) := by
  refine Met.ofW (cc := cX1_init) (maxL := 1) (ret := none) (by decide) rfl ?_
  intro p e s m args below meth c s₁ B hml hv
  obtain ⟨rfl, hsz, hP, hCn⟩ := hv
  have hx := B.exec
  have hb := B.bytes
  have hr := B.returns
  have hts0 := atoms_spec (ws := .code yX1_init cX1_init 1 none :: zBIG) B.pre
  have hts : ∀ w ∈ zBIG, w.before _ s = true := fun w h => hts0 w (List.mem_cons_of_mem _ h)
  have hown : s.vm.findClass (zCN 1) = some m.cls := findClass_of_methodNamed B.named
  have hlocks := B.notSynchronized
  have hin : meth.name = "<init>" := (name_of_methodNamed B.named B.method).1
  have C : zMc p s m _ c cX1_init 1 1 G := ⟨hx, hb, hml, hown, hts, hCn⟩
  subst hsz
  replace hP : va_P G.1 zcl12 (zL (fun _ => h0) (fun _ => .inr (1, zBk1)) 1) s.heap := hP
  have hD : va_D (va_A [(h0, .inr (1, zBk1))] s.heap.size) (zL (fun _ => h0) (fun _ => .inr (1, zBk1)) 1) := zn_D1
  generalize hAe : va_A [(h0, .inr (1, zBk1))] s.heap.size = A at hD ⊢
  have hA : ∀ q : Nat, s.heap.size ≤ q → A q := fun q h => by rw [← hAe]; exact Or.inr h
  have hS : va_S A s.heap s.heap [] := va_S.rf
  have hl := lv_entry ([.ref h0]) (n := 1) (Nat.le_of_ble_eq_true rfl)
  rw [lg_entry_eq]
  generalize (lg_sl ([.ref h0]) ++ List.replicate (1 - (lg_sl ([.ref h0])).length) Slot.unset).toArray = ls at hl ⊢
  replace hl : lv_has ls 1 [(0, .ref h0)] := hl
  refine lv_aload_n hx hb dn1_0 rfl (lv_at hl 0 rfl) ?_
  refine W.objInit hx hb hown (hts _ (zKW_in (k := 29) rfl)) (hts _ (zKW_in (k := 6) rfl)) (hts _ (zKW_in (k := 7) rfl)) rfl (by rw [hml]; exact hl.1) rfl dn1_1 (Nat.le_of_ble_eq_true rfl) (Nat.le_of_ble_eq_true rfl) ?_
  refine W.eq (g2 := F0 m 4 ls []) rfl ?_
  obtain ⟨u, hu0, hP9, hD9⟩ := zn_end (K := 1) (F := zF1 G.2.1) hP hD rfl (fun j hj => by
    match j, hj with
    | 0, _ => rfl
    | _ + 1, h => exact absurd h (by omega))
  refine W.widen (k := 0) (n := 0) (Nat.le_of_ble_eq_true rfl) (Nat.le_of_ble_eq_true rfl) ?_
  exact W.vret hx hb hr (fun t ht hW => ⟨⟨u, rfl, hu0, by rw [ht]; exact hP9, by rw [hAe]; exact hD9⟩, by rw [hAe]; exact hS.F ht⟩) hS.2.2 dn1_4
theorem dn8_0 : decode cX8_init 0 = .ok (.aload_n 0, 1) := by decide +kernel
theorem dn8_1 : decode cX8_init 1 = .ok (.invokespecial 3, 3) := by decide +kernel
theorem dn8_4 : decode cX8_init 4 = .ok (.aload_n 0, 1) := by decide +kernel
theorem dn8_5 : decode cX8_init 5 = .ok (.iconst (-1), 1) := by decide +kernel
theorem dn8_6 : decode cX8_init 6 = .ok (.putfield 9, 3) := by decide +kernel
theorem dn8_9 : decode cX8_init 9 = .ok (.aload_n 0, 1) := by decide +kernel
theorem dn8_10 : decode cX8_init 10 = .ok (.sipush 900, 3) := by decide +kernel
theorem dn8_13 : decode cX8_init 13 = .ok (.newarray .byte, 2) := by decide +kernel
theorem dn8_15 : decode cX8_init 15 = .ok (.putfield 15, 3) := by decide +kernel
theorem dn8_18 : decode cX8_init 18 = .ok (.return_, 1) := by decide +kernel
def zF8 (T : Nat → ClassId) (a : Nat → Nat) : Nat → va_E
  | 0 => .inr (8, [.int 0, .int 0, .int (-1), .ref (a 1), .int 0, .int 0, .int 0, .int 0])
  | 1 => .inl (T 3, 900, .inl (fun _ => 0))
  | _ => .inr (0, [])
set_option maxHeartbeats 4000000 in
set_option maxRecDepth 100000 in
theorem zk8 (l : Launch) (G : zG) (h0 sz : Nat) : Met l yX8_init (.code yX8_init cX8_init 1 none :: zBIG) { frames := 1, cells := 1, slots := 900, locals := 12 } (zPn G h0 sz (.inr (8, zBk8))) (zQn G h0 sz (.inr (8, zBk8)) 2 (zF8 G.2.1)) 1 900 (va_A [(h0, .inr (8, zBk8))] sz) := by
  refine Met.ofW (cc := cX8_init) (maxL := 1) (ret := none) (by decide) rfl ?_
  intro p e s m args below meth c s₁ B hml hv
  obtain ⟨rfl, hsz, hP, hCn⟩ := hv
  have hx := B.exec
  have hb := B.bytes
  have hr := B.returns
  have hts0 := atoms_spec (ws := .code yX8_init cX8_init 1 none :: zBIG) B.pre
  have hts : ∀ w ∈ zBIG, w.before _ s = true := fun w h => hts0 w (List.mem_cons_of_mem _ h)
  have hown : s.vm.findClass (zCN 8) = some m.cls := findClass_of_methodNamed B.named
  have hlocks := B.notSynchronized
  have hin : meth.name = "<init>" := (name_of_methodNamed B.named B.method).1
  have C : zMc p s m _ c cX8_init 1 8 G := ⟨hx, hb, hml, hown, hts, hCn⟩
  subst hsz
  replace hP : va_P G.1 zcl12 (zL (fun _ => h0) (fun _ => .inr (8, zBk8)) 1) s.heap := hP
  have hD : va_D (va_A [(h0, .inr (8, zBk8))] s.heap.size) (zL (fun _ => h0) (fun _ => .inr (8, zBk8)) 1) := zn_D1
  generalize hAe : va_A [(h0, .inr (8, zBk8))] s.heap.size = A at hD ⊢
  have hA : ∀ q : Nat, s.heap.size ≤ q → A q := fun q h => by rw [← hAe]; exact Or.inr h
  have hS : va_S A s.heap s.heap [] := va_S.rf
  have hl := lv_entry ([.ref h0]) (n := 1) (Nat.le_of_ble_eq_true rfl)
  rw [lg_entry_eq]
  generalize (lg_sl ([.ref h0]) ++ List.replicate (1 - (lg_sl ([.ref h0])).length) Slot.unset).toArray = ls at hl ⊢
  replace hl : lv_has ls 1 [(0, .ref h0)] := hl
  refine lv_aload_n hx hb dn8_0 rfl (lv_at hl 0 rfl) ?_
  refine W.objInit hx hb hown (hts _ (zKW_in (k := 12) rfl)) (hts _ (zKW_in (k := 6) rfl)) (hts _ (zKW_in (k := 7) rfl)) rfl (by rw [hml]; exact hl.1) rfl dn8_1 (Nat.le_of_ble_eq_true rfl) (Nat.le_of_ble_eq_true rfl) ?_
  refine W.eq (g2 := F0 m 4 ls []) rfl ?_
  refine lv_aload_n hx hb dn8_4 rfl (lv_at hl 0 rfl) ?_
  refine lv_iconst (v := (-1)) hx hb dn8_5 rfl ?_
  refine zn_put (ci := 8) (k := 2) (j := 0) (fs := [.int 0, .int 0, .int 0, .null, .int 0, .int 0, .int 0, .int 0]) C hin hP hD hS (by decide) rfl rfl (by decide) (by decide) (by decide) rfl rfl rfl (Nat.le_of_ble_eq_true rfl) dn8_6 (fun H locs hP hD hS => ?_)
  refine lv_aload_n hx hb dn8_9 rfl (lv_at hl 0 rfl) ?_
  refine lv_sipush (v := 900) hx hb dn8_10 rfl ?_
  refine zn_newa (t := 2) (ty := .byte) (N := 900) (a0 := (900, .inl (fun _ => 0))) C hP hD hS hA (zKW_in (k := 13) rfl) rfl rfl (fun _ _ => Iff.rfl) (fun _ => rfl) (by decide) (by decide) (by decide) (Nat.le_of_ble_eq_true rfl) (Nat.le_of_ble_eq_true rfl) dn8_13 (fun q0 H hP hD hS => ?_)
  refine W.widen (k := 1) (n := 900) (Nat.le_of_ble_eq_true rfl) (Nat.le_of_ble_eq_true rfl) ?_
  refine zn_put (ci := 8) (k := 3) (j := 0) (fs := [.int 0, .int 0, .int (-1), .null, .int 0, .int 0, .int 0, .int 0]) C hin hP hD hS (by decide) rfl rfl (by decide) (by decide) (by decide) rfl rfl rfl (Nat.le_of_ble_eq_true rfl) dn8_15 (fun H locs hP hD hS => ?_)
  obtain ⟨u, hu0, hP9, hD9⟩ := zn_end (K := 2) (F := zF8 G.2.1) hP hD rfl (fun j hj => by
    match j, hj with
    | 0, _ => rfl
    | 1, _ => rfl
    | _ + 2, h => exact absurd h (by omega))
  refine W.widen (k := 1) (n := 900) (Nat.le_of_ble_eq_true rfl) (Nat.le_of_ble_eq_true rfl) ?_
  exact W.vret hx hb hr (fun t ht hW => ⟨⟨u, rfl, hu0, by rw [ht]; exact hP9, by rw [hAe]; exact hD9⟩, by rw [hAe]; exact hS.F ht⟩) hS.2.2 dn8_18
theorem dn7_0 : decode cX7_init 0 = .ok (.aload_n 0, 1) := by decide +kernel
theorem dn7_1 : decode cX7_init 1 = .ok (.invokespecial 3, 3) := by decide +kernel
theorem dn7_4 : decode cX7_init 4 = .ok (.aload_n 0, 1) := by decide +kernel
theorem dn7_5 : decode cX7_init 5 = .ok (.bipush 8, 2) := by decide +kernel
theorem dn7_7 : decode cX7_init 7 = .ok (.newarray .int, 2) := by decide +kernel
theorem dn7_9 : decode cX7_init 9 = .ok (.putfield 9, 3) := by decide +kernel
theorem dn7_12 : decode cX7_init 12 = .ok (.return_, 1) := by decide +kernel
def zF7 (T : Nat → ClassId) (a : Nat → Nat) : Nat → va_E
  | 0 => .inr (7, [.int 0, .int 0, .int 0, .int 0, .int 0, .int 0, .ref (a 1)])
  | 1 => .inl (T 1, 8, .inl (fun _ => 0))
  | _ => .inr (0, [])
set_option maxHeartbeats 4000000 in
set_option maxRecDepth 100000 in
theorem zk7 (l : Launch) (G : zG) (h0 sz : Nat) : Met l yX7_init (.code yX7_init cX7_init 1 none :: zBIG) { frames := 1, cells := 1, slots := 8, locals := 12 } (zPn G h0 sz (.inr (7, zBk7))) (zQn G h0 sz (.inr (7, zBk7)) 2 (zF7 G.2.1)) 1 8 (va_A [(h0, .inr (7, zBk7))] sz) := by
  refine Met.ofW (cc := cX7_init) (maxL := 1) (ret := none) (by decide) rfl ?_
  intro p e s m args below meth c s₁ B hml hv
  obtain ⟨rfl, hsz, hP, hCn⟩ := hv
  have hx := B.exec
  have hb := B.bytes
  have hr := B.returns
  have hts0 := atoms_spec (ws := .code yX7_init cX7_init 1 none :: zBIG) B.pre
  have hts : ∀ w ∈ zBIG, w.before _ s = true := fun w h => hts0 w (List.mem_cons_of_mem _ h)
  have hown : s.vm.findClass (zCN 7) = some m.cls := findClass_of_methodNamed B.named
  have hlocks := B.notSynchronized
  have hin : meth.name = "<init>" := (name_of_methodNamed B.named B.method).1
  have C : zMc p s m _ c cX7_init 1 7 G := ⟨hx, hb, hml, hown, hts, hCn⟩
  subst hsz
  replace hP : va_P G.1 zcl12 (zL (fun _ => h0) (fun _ => .inr (7, zBk7)) 1) s.heap := hP
  have hD : va_D (va_A [(h0, .inr (7, zBk7))] s.heap.size) (zL (fun _ => h0) (fun _ => .inr (7, zBk7)) 1) := zn_D1
  generalize hAe : va_A [(h0, .inr (7, zBk7))] s.heap.size = A at hD ⊢
  have hA : ∀ q : Nat, s.heap.size ≤ q → A q := fun q h => by rw [← hAe]; exact Or.inr h
  have hS : va_S A s.heap s.heap [] := va_S.rf
  have hl := lv_entry ([.ref h0]) (n := 1) (Nat.le_of_ble_eq_true rfl)
  rw [lg_entry_eq]
  generalize (lg_sl ([.ref h0]) ++ List.replicate (1 - (lg_sl ([.ref h0])).length) Slot.unset).toArray = ls at hl ⊢
  replace hl : lv_has ls 1 [(0, .ref h0)] := hl
  refine lv_aload_n hx hb dn7_0 rfl (lv_at hl 0 rfl) ?_
  refine W.objInit hx hb hown (hts _ (zKW_in (k := 42) rfl)) (hts _ (zKW_in (k := 6) rfl)) (hts _ (zKW_in (k := 7) rfl)) rfl (by rw [hml]; exact hl.1) rfl dn7_1 (Nat.le_of_ble_eq_true rfl) (Nat.le_of_ble_eq_true rfl) ?_
  refine W.eq (g2 := F0 m 4 ls []) rfl ?_
  refine lv_aload_n hx hb dn7_4 rfl (lv_at hl 0 rfl) ?_
  refine lv_bipush (v := 8) hx hb dn7_5 rfl ?_
  refine zn_newa (t := 0) (ty := .int) (N := 8) (a0 := (8, .inl (fun _ => 0))) C hP hD hS hA (zKW_in (k := 37) rfl) rfl rfl (fun _ _ => Iff.rfl) (fun _ => rfl) (by decide) (by decide) (by decide) (Nat.le_of_ble_eq_true rfl) (Nat.le_of_ble_eq_true rfl) dn7_7 (fun q0 H hP hD hS => ?_)
  refine W.widen (k := 1) (n := 8) (Nat.le_of_ble_eq_true rfl) (Nat.le_of_ble_eq_true rfl) ?_
  refine zn_put (ci := 7) (k := 6) (j := 0) (fs := [.int 0, .int 0, .int 0, .int 0, .int 0, .int 0, .null]) C hin hP hD hS (by decide) rfl rfl (by decide) (by decide) (by decide) rfl rfl rfl (Nat.le_of_ble_eq_true rfl) dn7_9 (fun H locs hP hD hS => ?_)
  obtain ⟨u, hu0, hP9, hD9⟩ := zn_end (K := 2) (F := zF7 G.2.1) hP hD rfl (fun j hj => by
    match j, hj with
    | 0, _ => rfl
    | 1, _ => rfl
    | _ + 2, h => exact absurd h (by omega))
  refine W.widen (k := 1) (n := 8) (Nat.le_of_ble_eq_true rfl) (Nat.le_of_ble_eq_true rfl) ?_
  exact W.vret hx hb hr (fun t ht hW => ⟨⟨u, rfl, hu0, by rw [ht]; exact hP9, by rw [hAe]; exact hD9⟩, by rw [hAe]; exact hS.F ht⟩) hS.2.2 dn7_12
theorem dn9_0 : decode cX9_init 0 = .ok (.aload_n 0, 1) := by decide +kernel
theorem dn9_1 : decode cX9_init 1 = .ok (.invokespecial 3, 3) := by decide +kernel
theorem dn9_4 : decode cX9_init 4 = .ok (.aload_n 0, 1) := by decide +kernel
theorem dn9_5 : decode cX9_init 5 = .ok (.bipush 6, 2) := by decide +kernel
theorem dn9_7 : decode cX9_init 7 = .ok (.newarray .int, 2) := by decide +kernel
theorem dn9_9 : decode cX9_init 9 = .ok (.putfield 9, 3) := by decide +kernel
theorem dn9_12 : decode cX9_init 12 = .ok (.aload_n 0, 1) := by decide +kernel
theorem dn9_13 : decode cX9_init 13 = .ok (.bipush 6, 2) := by decide +kernel
theorem dn9_15 : decode cX9_init 15 = .ok (.newarray .int, 2) := by decide +kernel
theorem dn9_17 : decode cX9_init 17 = .ok (.putfield 15, 3) := by decide +kernel
theorem dn9_20 : decode cX9_init 20 = .ok (.return_, 1) := by decide +kernel
def zF9 (T : Nat → ClassId) (a : Nat → Nat) : Nat → va_E
  | 0 => .inr (9, [.ref (a 1), .int 0, .ref (a 2), .int 0, .int 0])
  | 1 => .inl (T 1, 6, .inl (fun _ => 0))
  | 2 => .inl (T 1, 6, .inl (fun _ => 0))
  | _ => .inr (0, [])
set_option maxHeartbeats 4000000 in
set_option maxRecDepth 100000 in
theorem zk9 (l : Launch) (G : zG) (h0 sz : Nat) : Met l yX9_init (.code yX9_init cX9_init 1 none :: zBIG) { frames := 1, cells := 2, slots := 12, locals := 12 } (zPn G h0 sz (.inr (9, zBk9))) (zQn G h0 sz (.inr (9, zBk9)) 3 (zF9 G.2.1)) 2 12 (va_A [(h0, .inr (9, zBk9))] sz) := by
  refine Met.ofW (cc := cX9_init) (maxL := 1) (ret := none) (by decide) rfl ?_
  intro p e s m args below meth c s₁ B hml hv
  obtain ⟨rfl, hsz, hP, hCn⟩ := hv
  have hx := B.exec
  have hb := B.bytes
  have hr := B.returns
  have hts0 := atoms_spec (ws := .code yX9_init cX9_init 1 none :: zBIG) B.pre
  have hts : ∀ w ∈ zBIG, w.before _ s = true := fun w h => hts0 w (List.mem_cons_of_mem _ h)
  have hown : s.vm.findClass (zCN 9) = some m.cls := findClass_of_methodNamed B.named
  have hlocks := B.notSynchronized
  have hin : meth.name = "<init>" := (name_of_methodNamed B.named B.method).1
  have C : zMc p s m _ c cX9_init 1 9 G := ⟨hx, hb, hml, hown, hts, hCn⟩
  subst hsz
  replace hP : va_P G.1 zcl12 (zL (fun _ => h0) (fun _ => .inr (9, zBk9)) 1) s.heap := hP
  have hD : va_D (va_A [(h0, .inr (9, zBk9))] s.heap.size) (zL (fun _ => h0) (fun _ => .inr (9, zBk9)) 1) := zn_D1
  generalize hAe : va_A [(h0, .inr (9, zBk9))] s.heap.size = A at hD ⊢
  have hA : ∀ q : Nat, s.heap.size ≤ q → A q := fun q h => by rw [← hAe]; exact Or.inr h
  have hS : va_S A s.heap s.heap [] := va_S.rf
  have hl := lv_entry ([.ref h0]) (n := 1) (Nat.le_of_ble_eq_true rfl)
  rw [lg_entry_eq]
  generalize (lg_sl ([.ref h0]) ++ List.replicate (1 - (lg_sl ([.ref h0])).length) Slot.unset).toArray = ls at hl ⊢
  replace hl : lv_has ls 1 [(0, .ref h0)] := hl
  refine lv_aload_n hx hb dn9_0 rfl (lv_at hl 0 rfl) ?_
  refine W.objInit hx hb hown (hts _ (zKW_in (k := 54) rfl)) (hts _ (zKW_in (k := 6) rfl)) (hts _ (zKW_in (k := 7) rfl)) rfl (by rw [hml]; exact hl.1) rfl dn9_1 (Nat.le_of_ble_eq_true rfl) (Nat.le_of_ble_eq_true rfl) ?_
  refine W.eq (g2 := F0 m 4 ls []) rfl ?_
  refine lv_aload_n hx hb dn9_4 rfl (lv_at hl 0 rfl) ?_
  refine lv_bipush (v := 6) hx hb dn9_5 rfl ?_
  refine zn_newa (t := 0) (ty := .int) (N := 6) (a0 := (6, .inl (fun _ => 0))) C hP hD hS hA (zKW_in (k := 37) rfl) rfl rfl (fun _ _ => Iff.rfl) (fun _ => rfl) (by decide) (by decide) (by decide) (Nat.le_of_ble_eq_true rfl) (Nat.le_of_ble_eq_true rfl) dn9_7 (fun q0 H hP hD hS => ?_)
  refine W.widen (k := 1) (n := 6) (Nat.le_of_ble_eq_true rfl) (Nat.le_of_ble_eq_true rfl) ?_
  refine zn_put (ci := 9) (k := 0) (j := 0) (fs := [.null, .int 0, .null, .int 0, .int 0]) C hin hP hD hS (by decide) rfl rfl (by decide) (by decide) (by decide) rfl rfl rfl (Nat.le_of_ble_eq_true rfl) dn9_9 (fun H locs hP hD hS => ?_)
  refine lv_aload_n hx hb dn9_12 rfl (lv_at hl 0 rfl) ?_
  refine lv_bipush (v := 6) hx hb dn9_13 rfl ?_
  refine zn_newa (t := 0) (ty := .int) (N := 6) (a0 := (6, .inl (fun _ => 0))) C hP hD hS hA (zKW_in (k := 37) rfl) rfl rfl (fun _ _ => Iff.rfl) (fun _ => rfl) (by decide) (by decide) (by decide) (Nat.le_of_ble_eq_true rfl) (Nat.le_of_ble_eq_true rfl) dn9_15 (fun q1 H hP hD hS => ?_)
  refine W.widen (k := 2) (n := 12) (Nat.le_of_ble_eq_true rfl) (Nat.le_of_ble_eq_true rfl) ?_
  refine zn_put (ci := 9) (k := 2) (j := 0) (fs := [.ref q0, .int 0, .null, .int 0, .int 0]) C hin hP hD hS (by decide) rfl rfl (by decide) (by decide) (by decide) rfl rfl rfl (Nat.le_of_ble_eq_true rfl) dn9_17 (fun H locs hP hD hS => ?_)
  obtain ⟨u, hu0, hP9, hD9⟩ := zn_end (K := 3) (F := zF9 G.2.1) hP hD rfl (fun j hj => by
    match j, hj with
    | 0, _ => rfl
    | 1, _ => rfl
    | 2, _ => rfl
    | _ + 3, h => exact absurd h (by omega))
  refine W.widen (k := 2) (n := 12) (Nat.le_of_ble_eq_true rfl) (Nat.le_of_ble_eq_true rfl) ?_
  exact W.vret hx hb hr (fun t ht hW => ⟨⟨u, rfl, hu0, by rw [ht]; exact hP9, by rw [hAe]; exact hD9⟩, by rw [hAe]; exact hS.F ht⟩) hS.2.2 dn9_20
theorem dn6_0 : decode cX6_init 0 = .ok (.aload_n 0, 1) := by decide +kernel
theorem dn6_1 : decode cX6_init 1 = .ok (.invokespecial 3, 3) := by decide +kernel
theorem dn6_4 : decode cX6_init 4 = .ok (.aload_n 0, 1) := by decide +kernel
theorem dn6_5 : decode cX6_init 5 = .ok (.bipush 60, 2) := by decide +kernel
theorem dn6_7 : decode cX6_init 7 = .ok (.newarray .long, 2) := by decide +kernel
theorem dn6_9 : decode cX6_init 9 = .ok (.putfield 9, 3) := by decide +kernel
theorem dn6_12 : decode cX6_init 12 = .ok (.aload_n 0, 1) := by decide +kernel
theorem dn6_13 : decode cX6_init 13 = .ok (.iconst (-1), 1) := by decide +kernel
theorem dn6_14 : decode cX6_init 14 = .ok (.putfield 15, 3) := by decide +kernel
theorem dn6_17 : decode cX6_init 17 = .ok (.return_, 1) := by decide +kernel
def zF6 (T : Nat → ClassId) (a : Nat → Nat) : Nat → va_E
  | 0 => .inr (6, [.ref (a 1), .int (-1), .int 0])
  | 1 => .inl (T 2, 60, .inr (.inl (fun _ => 0)))
  | _ => .inr (0, [])
set_option maxHeartbeats 4000000 in
set_option maxRecDepth 100000 in
theorem zk6 (l : Launch) (G : zG) (h0 sz : Nat) : Met l yX6_init (.code yX6_init cX6_init 1 none :: zBIG) { frames := 1, cells := 1, slots := 60, locals := 12 } (zPn G h0 sz (.inr (6, zBk6))) (zQn G h0 sz (.inr (6, zBk6)) 2 (zF6 G.2.1)) 1 60 (va_A [(h0, .inr (6, zBk6))] sz) := by
  refine Met.ofW (cc := cX6_init) (maxL := 1) (ret := none) (by decide) rfl ?_
  intro p e s m args below meth c s₁ B hml hv
  obtain ⟨rfl, hsz, hP, hCn⟩ := hv
  have hx := B.exec
  have hb := B.bytes
  have hr := B.returns
  have hts0 := atoms_spec (ws := .code yX6_init cX6_init 1 none :: zBIG) B.pre
  have hts : ∀ w ∈ zBIG, w.before _ s = true := fun w h => hts0 w (List.mem_cons_of_mem _ h)
  have hown : s.vm.findClass (zCN 6) = some m.cls := findClass_of_methodNamed B.named
  have hlocks := B.notSynchronized
  have hin : meth.name = "<init>" := (name_of_methodNamed B.named B.method).1
  have C : zMc p s m _ c cX6_init 1 6 G := ⟨hx, hb, hml, hown, hts, hCn⟩
  subst hsz
  replace hP : va_P G.1 zcl12 (zL (fun _ => h0) (fun _ => .inr (6, zBk6)) 1) s.heap := hP
  have hD : va_D (va_A [(h0, .inr (6, zBk6))] s.heap.size) (zL (fun _ => h0) (fun _ => .inr (6, zBk6)) 1) := zn_D1
  generalize hAe : va_A [(h0, .inr (6, zBk6))] s.heap.size = A at hD ⊢
  have hA : ∀ q : Nat, s.heap.size ≤ q → A q := fun q h => by rw [← hAe]; exact Or.inr h
  have hS : va_S A s.heap s.heap [] := va_S.rf
  have hl := lv_entry ([.ref h0]) (n := 1) (Nat.le_of_ble_eq_true rfl)
  rw [lg_entry_eq]
  generalize (lg_sl ([.ref h0]) ++ List.replicate (1 - (lg_sl ([.ref h0])).length) Slot.unset).toArray = ls at hl ⊢
  replace hl : lv_has ls 1 [(0, .ref h0)] := hl
  refine lv_aload_n hx hb dn6_0 rfl (lv_at hl 0 rfl) ?_
  refine W.objInit hx hb hown (hts _ (zKW_in (k := 66) rfl)) (hts _ (zKW_in (k := 6) rfl)) (hts _ (zKW_in (k := 7) rfl)) rfl (by rw [hml]; exact hl.1) rfl dn6_1 (Nat.le_of_ble_eq_true rfl) (Nat.le_of_ble_eq_true rfl) ?_
  refine W.eq (g2 := F0 m 4 ls []) rfl ?_
  refine lv_aload_n hx hb dn6_4 rfl (lv_at hl 0 rfl) ?_
  refine lv_bipush (v := 60) hx hb dn6_5 rfl ?_
  refine zn_newa (t := 1) (ty := .long) (N := 60) (a0 := (60, .inr (.inl (fun _ => 0)))) C hP hD hS hA (zKW_in (k := 67) rfl) rfl rfl (fun _ _ => Iff.rfl) (fun _ => rfl) (by decide) (by decide) (by decide) (Nat.le_of_ble_eq_true rfl) (Nat.le_of_ble_eq_true rfl) dn6_7 (fun q0 H hP hD hS => ?_)
  refine W.widen (k := 1) (n := 60) (Nat.le_of_ble_eq_true rfl) (Nat.le_of_ble_eq_true rfl) ?_
  refine zn_put (ci := 6) (k := 0) (j := 0) (fs := [.null, .int 0, .int 0]) C hin hP hD hS (by decide) rfl rfl (by decide) (by decide) (by decide) rfl rfl rfl (Nat.le_of_ble_eq_true rfl) dn6_9 (fun H locs hP hD hS => ?_)
  refine lv_aload_n hx hb dn6_12 rfl (lv_at hl 0 rfl) ?_
  refine lv_iconst (v := (-1)) hx hb dn6_13 rfl ?_
  refine zn_put (ci := 6) (k := 1) (j := 0) (fs := [.ref q0, .int 0, .int 0]) C hin hP hD hS (by decide) rfl rfl (by decide) (by decide) (by decide) rfl rfl rfl (Nat.le_of_ble_eq_true rfl) dn6_14 (fun H locs hP hD hS => ?_)
  obtain ⟨u, hu0, hP9, hD9⟩ := zn_end (K := 2) (F := zF6 G.2.1) hP hD rfl (fun j hj => by
    match j, hj with
    | 0, _ => rfl
    | 1, _ => rfl
    | _ + 2, h => exact absurd h (by omega))
  refine W.widen (k := 1) (n := 60) (Nat.le_of_ble_eq_true rfl) (Nat.le_of_ble_eq_true rfl) ?_
  exact W.vret hx hb hr (fun t ht hW => ⟨⟨u, rfl, hu0, by rw [ht]; exact hP9, by rw [hAe]; exact hD9⟩, by rw [hAe]; exact hS.F ht⟩) hS.2.2 dn6_17
