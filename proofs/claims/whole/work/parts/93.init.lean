/-! ===== the constructors ===== -/
theorem dn5_0 : decode cX5_init 0 = .ok (.aload_n 0, 1) := by decide +kernel
theorem dn5_1 : decode cX5_init 1 = .ok (.invokespecial 3, 3) := by decide +kernel
theorem dn5_4 : decode cX5_init 4 = .ok (.aload_n 0, 1) := by decide +kernel
theorem dn5_5 : decode cX5_init 5 = .ok (.bipush 8, 2) := by decide +kernel
theorem dn5_7 : decode cX5_init 7 = .ok (.anewarray 9, 3) := by decide +kernel
theorem dn5_10 : decode cX5_init 10 = .ok (.putfield 11, 3) := by decide +kernel
theorem dn5_13 : decode cX5_init 13 = .ok (.aload_n 0, 1) := by decide +kernel
theorem dn5_14 : decode cX5_init 14 = .ok (.bipush 6, 2) := by decide +kernel
theorem dn5_16 : decode cX5_init 16 = .ok (.anewarray 17, 3) := by decide +kernel
theorem dn5_19 : decode cX5_init 19 = .ok (.putfield 19, 3) := by decide +kernel
theorem dn5_22 : decode cX5_init 22 = .ok (.iconst 0, 1) := by decide +kernel
theorem dn5_23 : decode cX5_init 23 = .ok (.istore_n 1, 1) := by decide +kernel
theorem dn5_24 : decode cX5_init 24 = .ok (.iload_n 1, 1) := by decide +kernel
theorem dn5_25 : decode cX5_init 25 = .ok (.bipush 8, 2) := by decide +kernel
theorem dn5_27 : decode cX5_init 27 = .ok (.if_icmp .ge 22, 3) := by decide +kernel
theorem dn5_30 : decode cX5_init 30 = .ok (.aload_n 0, 1) := by decide +kernel
theorem dn5_31 : decode cX5_init 31 = .ok (.getfield 11, 3) := by decide +kernel
theorem dn5_34 : decode cX5_init 34 = .ok (.iload_n 1, 1) := by decide +kernel
theorem dn5_35 : decode cX5_init 35 = .ok (.new 9, 3) := by decide +kernel
theorem dn5_38 : decode cX5_init 38 = .ok (.dup, 1) := by decide +kernel
theorem dn5_39 : decode cX5_init 39 = .ok (.invokespecial 23, 3) := by decide +kernel
theorem dn5_42 : decode cX5_init 42 = .ok (.aastore, 1) := by decide +kernel
theorem dn5_43 : decode cX5_init 43 = .ok (.iinc 1 1, 3) := by decide +kernel
theorem dn5_46 : decode cX5_init 46 = .ok (.goto (-22), 3) := by decide +kernel
theorem dn5_49 : decode cX5_init 49 = .ok (.iconst 0, 1) := by decide +kernel
theorem dn5_50 : decode cX5_init 50 = .ok (.istore_n 1, 1) := by decide +kernel
theorem dn5_51 : decode cX5_init 51 = .ok (.iload_n 1, 1) := by decide +kernel
theorem dn5_52 : decode cX5_init 52 = .ok (.bipush 6, 2) := by decide +kernel
theorem dn5_54 : decode cX5_init 54 = .ok (.if_icmp .ge 22, 3) := by decide +kernel
theorem dn5_57 : decode cX5_init 57 = .ok (.aload_n 0, 1) := by decide +kernel
theorem dn5_58 : decode cX5_init 58 = .ok (.getfield 19, 3) := by decide +kernel
theorem dn5_61 : decode cX5_init 61 = .ok (.iload_n 1, 1) := by decide +kernel
theorem dn5_62 : decode cX5_init 62 = .ok (.new 17, 3) := by decide +kernel
theorem dn5_65 : decode cX5_init 65 = .ok (.dup, 1) := by decide +kernel
theorem dn5_66 : decode cX5_init 66 = .ok (.invokespecial 24, 3) := by decide +kernel
theorem dn5_69 : decode cX5_init 69 = .ok (.aastore, 1) := by decide +kernel
theorem dn5_70 : decode cX5_init 70 = .ok (.iinc 1 1, 3) := by decide +kernel
theorem dn5_73 : decode cX5_init 73 = .ok (.goto (-22), 3) := by decide +kernel
theorem dn5_76 : decode cX5_init 76 = .ok (.return_, 1) := by decide +kernel
def zF5 (T : Nat → ClassId) (a : Nat → Nat) : Nat → va_E
  | 0 => .inr (5, [.int 0, .int 0, .int 0, .int 0, .int 0, .int 0, .int 0, .int 0, .int 0, .int 0, .ref (a 1), .ref (a 2)])
  | 1 => .inl (T 5, 8, .inr (.inr (.inr (.inr (zUp (fun i => a (3 + 1 * i)) 8)))))
  | 2 => .inl (T 6, 6, .inr (.inr (.inr (.inr (zUp (fun i => a (11 + 1 * i)) 6)))))
  | 3 => .inr (4, [.int 0, .int 0, .int 0, .int 0])
  | 4 => .inr (4, [.int 0, .int 0, .int 0, .int 0])
  | 5 => .inr (4, [.int 0, .int 0, .int 0, .int 0])
  | 6 => .inr (4, [.int 0, .int 0, .int 0, .int 0])
  | 7 => .inr (4, [.int 0, .int 0, .int 0, .int 0])
  | 8 => .inr (4, [.int 0, .int 0, .int 0, .int 0])
  | 9 => .inr (4, [.int 0, .int 0, .int 0, .int 0])
  | 10 => .inr (4, [.int 0, .int 0, .int 0, .int 0])
  | 11 => .inr (1, [.int 0, .int 0, .int 0, .int 0, .int 0])
  | 12 => .inr (1, [.int 0, .int 0, .int 0, .int 0, .int 0])
  | 13 => .inr (1, [.int 0, .int 0, .int 0, .int 0, .int 0])
  | 14 => .inr (1, [.int 0, .int 0, .int 0, .int 0, .int 0])
  | 15 => .inr (1, [.int 0, .int 0, .int 0, .int 0, .int 0])
  | 16 => .inr (1, [.int 0, .int 0, .int 0, .int 0, .int 0])
  | _ => .inr (0, [])
def zS5_1 (T : Nat → ClassId) (a : Nat → Nat) : Nat → va_E := zUe (zUe (zF5 T a) 1 (.inl (T 5, 8, .inr (.inr (.inr (.inr (zUp (fun i => a (3 + 1 * i)) 1))))))) 2 (.inl (T 6, 6, .inr (.inr (.inr (.inr (zUp (fun i => a (11 + 1 * i)) 0))))))
def zS5_2 (T : Nat → ClassId) (a : Nat → Nat) : Nat → va_E := zUe (zUe (zF5 T a) 1 (.inl (T 5, 8, .inr (.inr (.inr (.inr (zUp (fun i => a (3 + 1 * i)) 2))))))) 2 (.inl (T 6, 6, .inr (.inr (.inr (.inr (zUp (fun i => a (11 + 1 * i)) 0))))))
def zS5_3 (T : Nat → ClassId) (a : Nat → Nat) : Nat → va_E := zUe (zUe (zF5 T a) 1 (.inl (T 5, 8, .inr (.inr (.inr (.inr (zUp (fun i => a (3 + 1 * i)) 3))))))) 2 (.inl (T 6, 6, .inr (.inr (.inr (.inr (zUp (fun i => a (11 + 1 * i)) 0))))))
def zS5_4 (T : Nat → ClassId) (a : Nat → Nat) : Nat → va_E := zUe (zUe (zF5 T a) 1 (.inl (T 5, 8, .inr (.inr (.inr (.inr (zUp (fun i => a (3 + 1 * i)) 4))))))) 2 (.inl (T 6, 6, .inr (.inr (.inr (.inr (zUp (fun i => a (11 + 1 * i)) 0))))))
def zS5_5 (T : Nat → ClassId) (a : Nat → Nat) : Nat → va_E := zUe (zUe (zF5 T a) 1 (.inl (T 5, 8, .inr (.inr (.inr (.inr (zUp (fun i => a (3 + 1 * i)) 5))))))) 2 (.inl (T 6, 6, .inr (.inr (.inr (.inr (zUp (fun i => a (11 + 1 * i)) 0))))))
def zS5_6 (T : Nat → ClassId) (a : Nat → Nat) : Nat → va_E := zUe (zUe (zF5 T a) 1 (.inl (T 5, 8, .inr (.inr (.inr (.inr (zUp (fun i => a (3 + 1 * i)) 6))))))) 2 (.inl (T 6, 6, .inr (.inr (.inr (.inr (zUp (fun i => a (11 + 1 * i)) 0))))))
def zS5_7 (T : Nat → ClassId) (a : Nat → Nat) : Nat → va_E := zUe (zUe (zF5 T a) 1 (.inl (T 5, 8, .inr (.inr (.inr (.inr (zUp (fun i => a (3 + 1 * i)) 7))))))) 2 (.inl (T 6, 6, .inr (.inr (.inr (.inr (zUp (fun i => a (11 + 1 * i)) 0))))))
def zS5_8 (T : Nat → ClassId) (a : Nat → Nat) : Nat → va_E := zUe (zF5 T a) 2 (.inl (T 6, 6, .inr (.inr (.inr (.inr (zUp (fun i => a (11 + 1 * i)) 0))))))
def zS5_9 (T : Nat → ClassId) (a : Nat → Nat) : Nat → va_E := zUe (zF5 T a) 2 (.inl (T 6, 6, .inr (.inr (.inr (.inr (zUp (fun i => a (11 + 1 * i)) 1))))))
def zS5_10 (T : Nat → ClassId) (a : Nat → Nat) : Nat → va_E := zUe (zF5 T a) 2 (.inl (T 6, 6, .inr (.inr (.inr (.inr (zUp (fun i => a (11 + 1 * i)) 2))))))
def zS5_11 (T : Nat → ClassId) (a : Nat → Nat) : Nat → va_E := zUe (zF5 T a) 2 (.inl (T 6, 6, .inr (.inr (.inr (.inr (zUp (fun i => a (11 + 1 * i)) 3))))))
def zS5_12 (T : Nat → ClassId) (a : Nat → Nat) : Nat → va_E := zUe (zF5 T a) 2 (.inl (T 6, 6, .inr (.inr (.inr (.inr (zUp (fun i => a (11 + 1 * i)) 4))))))
def zS5_13 (T : Nat → ClassId) (a : Nat → Nat) : Nat → va_E := zUe (zF5 T a) 2 (.inl (T 6, 6, .inr (.inr (.inr (.inr (zUp (fun i => a (11 + 1 * i)) 5))))))
def zS5_14 (T : Nat → ClassId) (a : Nat → Nat) : Nat → va_E := zF5 T a
set_option maxHeartbeats 4000000 in
set_option maxRecDepth 100000 in
theorem zk5 (l : Launch) (G : zG) (h0 sz : Nat) : Met l yX5_init (.code yX5_init cX5_init 2 none :: zBIG) { frames := 2, cells := 16, slots := 76, locals := 32 } (zPn G h0 sz (.inr (5, zBk5))) (zQn G h0 sz (.inr (5, zBk5)) 17 (zF5 G.2.1)) 16 76 (va_A [(h0, .inr (5, zBk5))] sz) := by
  refine Met.ofW (cc := cX5_init) (maxL := 2) (ret := none) (by decide) rfl ?_
  intro p e s m args below meth c s₁ B hml hv
  obtain ⟨rfl, hsz, hP, hCn⟩ := hv
  have hx := B.exec
  have hb := B.bytes
  have hr := B.returns
  have hts0 := atoms_spec (ws := .code yX5_init cX5_init 2 none :: zBIG) B.pre
  have hts : ∀ w ∈ zBIG, w.before _ s = true := fun w h => hts0 w (List.mem_cons_of_mem _ h)
  have hown : s.vm.findClass (zCN 5) = some m.cls := findClass_of_methodNamed B.named
  have hlocks := B.notSynchronized
  have hin : meth.name = "<init>" := (name_of_methodNamed B.named B.method).1
  have C : zMc p s m _ c cX5_init 2 5 G := ⟨hx, hb, hml, hown, hts, hCn⟩
  subst hsz
  replace hP : va_P G.1 zcl12 (zL (fun _ => h0) (fun _ => .inr (5, zBk5)) 1) s.heap := hP
  have hD : va_D (va_A [(h0, .inr (5, zBk5))] s.heap.size) (zL (fun _ => h0) (fun _ => .inr (5, zBk5)) 1) := zn_D1
  generalize hAe : va_A [(h0, .inr (5, zBk5))] s.heap.size = A at hD ⊢
  have hA : ∀ q : Nat, s.heap.size ≤ q → A q := fun q h => by rw [← hAe]; exact Or.inr h
  have hS : va_S A s.heap s.heap [] := va_S.rf
  have hl := lv_entry ([.ref h0]) (n := 2) (Nat.le_of_ble_eq_true rfl)
  rw [lg_entry_eq]
  generalize (lg_sl ([.ref h0]) ++ List.replicate (2 - (lg_sl ([.ref h0])).length) Slot.unset).toArray = ls at hl ⊢
  replace hl : lv_has ls 2 [(0, .ref h0)] := hl
  refine lv_aload_n hx hb dn5_0 rfl (lv_at hl 0 rfl) ?_
  refine W.objInit hx hb hown (hts _ (zKW_in (k := 19) rfl)) (hts _ (zKW_in (k := 6) rfl)) (hts _ (zKW_in (k := 7) rfl)) rfl (by rw [hml]; exact hl.1) rfl dn5_1 (Nat.le_of_ble_eq_true rfl) (Nat.le_of_ble_eq_true rfl) ?_
  refine W.eq (g2 := F0 m 4 ls []) rfl ?_
  refine lv_aload_n hx hb dn5_4 rfl (lv_at hl 0 rfl) ?_
  refine lv_bipush (v := 8) hx hb dn5_5 rfl ?_
  refine zn_newq (t := 4) (N := 8) C hP hD hS hA (zKW_in (k := 20) rfl) C.2.2.2.2.2.2.1.1 rfl (by decide) (by decide) (by decide) (Nat.le_of_ble_eq_true rfl) (Nat.le_of_ble_eq_true rfl) dn5_7 (fun q0 H hP hD hS => ?_)
  refine W.widen (k := 1) (n := 8) (Nat.le_of_ble_eq_true rfl) (Nat.le_of_ble_eq_true rfl) ?_
  refine zn_put (ci := 5) (k := 10) (j := 0) (fs := [.int 0, .int 0, .int 0, .int 0, .int 0, .int 0, .int 0, .int 0, .int 0, .int 0, .null, .null]) C hin hP hD hS (by decide) rfl rfl (by decide) (by decide) (by decide) rfl rfl rfl (Nat.le_of_ble_eq_true rfl) dn5_10 (fun H locs hP hD hS => ?_)
  refine lv_aload_n hx hb dn5_13 rfl (lv_at hl 0 rfl) ?_
  refine lv_bipush (v := 6) hx hb dn5_14 rfl ?_
  refine zn_newq (t := 5) (N := 6) C hP hD hS hA (zKW_in (k := 21) rfl) C.2.2.2.2.2.2.1.2.1 rfl (by decide) (by decide) (by decide) (Nat.le_of_ble_eq_true rfl) (Nat.le_of_ble_eq_true rfl) dn5_16 (fun q1 H hP hD hS => ?_)
  refine W.widen (k := 2) (n := 14) (Nat.le_of_ble_eq_true rfl) (Nat.le_of_ble_eq_true rfl) ?_
  refine zn_put (ci := 5) (k := 11) (j := 0) (fs := [.int 0, .int 0, .int 0, .int 0, .int 0, .int 0, .int 0, .int 0, .int 0, .int 0, .ref q0, .null]) C hin hP hD hS (by decide) rfl rfl (by decide) (by decide) (by decide) rfl rfl rfl (Nat.le_of_ble_eq_true rfl) dn5_19 (fun H locs hP hD hS => ?_)
  refine lv_iconst (v := 0) hx hb dn5_22 rfl ?_
  refine lv_istore_n (lv' := [(1, .int 0), (0, .ref h0)]) hx hb dn5_23 rfl hl (by decide) rfl (fun ls hl => ?_)
  refine lv_iload_n hx hb dn5_24 rfl (lv_at hl 0 rfl) ?_
  refine lv_bipush (v := 8) hx hb dn5_25 rfl ?_
  refine lv_icmp_ge (tgt := 49) hx hb dn5_27 (by decide) (fun z => absurd z (by decide)) (fun _ => ?_)
  refine lv_aload_n hx hb dn5_30 rfl (lv_at hl 1 rfl) ?_
  refine zn_get (ci := 5) (k := 10) (j := 0) (fs := [.int 0, .int 0, .int 0, .int 0, .int 0, .int 0, .int 0, .int 0, .int 0, .int 0, .ref q0, .ref q1]) (v := .ref q0) C hP (by decide) rfl rfl (by decide) (by decide) (by decide) rfl dn5_31 ?_
  refine lv_iload_n hx hb dn5_34 rfl (lv_at hl 0 rfl) ?_
  refine zn_new (ci := 4) (fs := zBk4) C hP hD hS hA (by decide) (zKW_in (k := 20) rfl) (zKW_in (k := 22) rfl) (zINI_in (by decide)) zdf4 (Nat.le_of_ble_eq_true rfl) (Nat.le_of_ble_eq_true rfl) dn5_35 (fun q2 H hP hD hS => ?_)
  refine W.widen (k := 3) (n := 18) (Nat.le_of_ble_eq_true rfl) (Nat.le_of_ble_eq_true rfl) ?_
  refine lv_dup hx hb dn5_38 rfl ?_
  refine zn_callN (n := 3) (q := q2) (e0 := .inr (4, zBk4)) (F := zF4 G.2.1) C (zk4 l G q2) rfl rfl zcd4 zii4 zim4 rfl (C.2.2.2.2.2.2.2 1 (5, 23, yX4_init) rfl) zds4 ⟨(Nat.le_of_ble_eq_true rfl), (Nat.le_of_ble_eq_true rfl)⟩ ⟨(Nat.le_of_ble_eq_true rfl), (Nat.le_of_ble_eq_true rfl)⟩ hl.1 (lv_room (Nat.le_of_ble_eq_true rfl)) dn5_39 hP hD hS hA rfl rfl (by decide +kernel) (fun a3 H locs hw hP hD hS => ?_)
  replace hw : a3 0 = q2 := hw
  subst hw
  refine W.widen (k := 3) (n := 18) (Nat.le_of_ble_eq_true rfl) (Nat.le_of_ble_eq_true rfl) ?_
  refine zn_astq (t := 4) (j := 1) (k := 3) (ci := 4) (N := 8) C hP hD hS (by decide) rfl rfl rfl (by decide) rfl rfl rfl (zvin rfl) dn5_42 (fun H locs hP hD hS => ?_)
  obtain ⟨u1, hu1, hP, hD⟩ := zn_cmp (K := 4) (h0 := h0) (F := zS5_1 G.2.1) hP hD rfl (fun j hj => by
    match j, hj with
    | 0, _ => rfl
    | 1, _ => rfl
    | 2, _ => rfl
    | 3, _ => rfl
    | _ + 4, h => exact absurd h (by omega))
  refine lv_iinc (v := 1) (lv' := [(1, .int 1), (0, .ref h0)]) hx hb dn5_43 hl (k := 0) rfl (by decide) (by decide) rfl (fun ls hl => ?_)
  refine lv_goto (tgt := 24) hx hb dn5_46 (by decide) ?_
  refine lv_iload_n hx hb dn5_24 rfl (lv_at hl 0 rfl) ?_
  refine lv_bipush (v := 8) hx hb dn5_25 rfl ?_
  refine lv_icmp_ge (tgt := 49) hx hb dn5_27 (by decide) (fun z => absurd z (by decide)) (fun _ => ?_)
  refine lv_aload_n hx hb dn5_30 rfl (lv_at hl 1 rfl) ?_
  refine zn_get (ci := 5) (k := 10) (j := 0) (fs := [.int 0, .int 0, .int 0, .int 0, .int 0, .int 0, .int 0, .int 0, .int 0, .int 0, .ref (u1 1), .ref (u1 2)]) (v := .ref (u1 1)) C hP (by decide) rfl hu1 (by decide) (by decide) (by decide) rfl dn5_31 ?_
  refine lv_iload_n hx hb dn5_34 rfl (lv_at hl 0 rfl) ?_
  refine zn_new (ci := 4) (fs := zBk4) C hP hD hS hA (by decide) (zKW_in (k := 20) rfl) (zKW_in (k := 22) rfl) (zINI_in (by decide)) zdf4 (Nat.le_of_ble_eq_true rfl) (Nat.le_of_ble_eq_true rfl) dn5_35 (fun q4 H hP hD hS => ?_)
  refine W.widen (k := 4) (n := 22) (Nat.le_of_ble_eq_true rfl) (Nat.le_of_ble_eq_true rfl) ?_
  refine lv_dup hx hb dn5_38 rfl ?_
  refine zn_callN (n := 4) (q := q4) (e0 := .inr (4, zBk4)) (F := zF4 G.2.1) C (zk4 l G q4) rfl rfl zcd4 zii4 zim4 rfl (C.2.2.2.2.2.2.2 1 (5, 23, yX4_init) rfl) zds4 ⟨(Nat.le_of_ble_eq_true rfl), (Nat.le_of_ble_eq_true rfl)⟩ ⟨(Nat.le_of_ble_eq_true rfl), (Nat.le_of_ble_eq_true rfl)⟩ hl.1 (lv_room (Nat.le_of_ble_eq_true rfl)) dn5_39 hP hD hS hA rfl rfl (by decide +kernel) (fun a5 H locs hw hP hD hS => ?_)
  replace hw : a5 0 = q4 := hw
  subst hw
  refine W.widen (k := 4) (n := 22) (Nat.le_of_ble_eq_true rfl) (Nat.le_of_ble_eq_true rfl) ?_
  refine zn_astq (t := 4) (j := 1) (k := 4) (ci := 4) (N := 8) C hP hD hS (by decide) rfl rfl rfl (by decide) rfl rfl rfl (zvin rfl) dn5_42 (fun H locs hP hD hS => ?_)
  obtain ⟨u2, hu2, hP, hD⟩ := zn_cmp (K := 5) (h0 := h0) (F := zS5_2 G.2.1) hP hD hu1 (fun j hj => by
    match j, hj with
    | 0, _ => rfl
    | 1, _ => rfl
    | 2, _ => rfl
    | 3, _ => rfl
    | 4, _ => rfl
    | _ + 5, h => exact absurd h (by omega))
  refine lv_iinc (v := 2) (lv' := [(1, .int 2), (0, .ref h0)]) hx hb dn5_43 hl (k := 0) rfl (by decide) (by decide) rfl (fun ls hl => ?_)
  refine lv_goto (tgt := 24) hx hb dn5_46 (by decide) ?_
  refine lv_iload_n hx hb dn5_24 rfl (lv_at hl 0 rfl) ?_
  refine lv_bipush (v := 8) hx hb dn5_25 rfl ?_
  refine lv_icmp_ge (tgt := 49) hx hb dn5_27 (by decide) (fun z => absurd z (by decide)) (fun _ => ?_)
  refine lv_aload_n hx hb dn5_30 rfl (lv_at hl 1 rfl) ?_
  refine zn_get (ci := 5) (k := 10) (j := 0) (fs := [.int 0, .int 0, .int 0, .int 0, .int 0, .int 0, .int 0, .int 0, .int 0, .int 0, .ref (u2 1), .ref (u2 2)]) (v := .ref (u2 1)) C hP (by decide) rfl hu2 (by decide) (by decide) (by decide) rfl dn5_31 ?_
  refine lv_iload_n hx hb dn5_34 rfl (lv_at hl 0 rfl) ?_
  refine zn_new (ci := 4) (fs := zBk4) C hP hD hS hA (by decide) (zKW_in (k := 20) rfl) (zKW_in (k := 22) rfl) (zINI_in (by decide)) zdf4 (Nat.le_of_ble_eq_true rfl) (Nat.le_of_ble_eq_true rfl) dn5_35 (fun q6 H hP hD hS => ?_)
  refine W.widen (k := 5) (n := 26) (Nat.le_of_ble_eq_true rfl) (Nat.le_of_ble_eq_true rfl) ?_
  refine lv_dup hx hb dn5_38 rfl ?_
  refine zn_callN (n := 5) (q := q6) (e0 := .inr (4, zBk4)) (F := zF4 G.2.1) C (zk4 l G q6) rfl rfl zcd4 zii4 zim4 rfl (C.2.2.2.2.2.2.2 1 (5, 23, yX4_init) rfl) zds4 ⟨(Nat.le_of_ble_eq_true rfl), (Nat.le_of_ble_eq_true rfl)⟩ ⟨(Nat.le_of_ble_eq_true rfl), (Nat.le_of_ble_eq_true rfl)⟩ hl.1 (lv_room (Nat.le_of_ble_eq_true rfl)) dn5_39 hP hD hS hA rfl rfl (by decide +kernel) (fun a7 H locs hw hP hD hS => ?_)
  replace hw : a7 0 = q6 := hw
  subst hw
  refine W.widen (k := 5) (n := 26) (Nat.le_of_ble_eq_true rfl) (Nat.le_of_ble_eq_true rfl) ?_
  refine zn_astq (t := 4) (j := 1) (k := 5) (ci := 4) (N := 8) C hP hD hS (by decide) rfl rfl rfl (by decide) rfl rfl rfl (zvin rfl) dn5_42 (fun H locs hP hD hS => ?_)
  obtain ⟨u3, hu3, hP, hD⟩ := zn_cmp (K := 6) (h0 := h0) (F := zS5_3 G.2.1) hP hD hu2 (fun j hj => by
    match j, hj with
    | 0, _ => rfl
    | 1, _ => rfl
    | 2, _ => rfl
    | 3, _ => rfl
    | 4, _ => rfl
    | 5, _ => rfl
    | _ + 6, h => exact absurd h (by omega))
  refine lv_iinc (v := 3) (lv' := [(1, .int 3), (0, .ref h0)]) hx hb dn5_43 hl (k := 0) rfl (by decide) (by decide) rfl (fun ls hl => ?_)
  refine lv_goto (tgt := 24) hx hb dn5_46 (by decide) ?_
  refine lv_iload_n hx hb dn5_24 rfl (lv_at hl 0 rfl) ?_
  refine lv_bipush (v := 8) hx hb dn5_25 rfl ?_
  refine lv_icmp_ge (tgt := 49) hx hb dn5_27 (by decide) (fun z => absurd z (by decide)) (fun _ => ?_)
  refine lv_aload_n hx hb dn5_30 rfl (lv_at hl 1 rfl) ?_
  refine zn_get (ci := 5) (k := 10) (j := 0) (fs := [.int 0, .int 0, .int 0, .int 0, .int 0, .int 0, .int 0, .int 0, .int 0, .int 0, .ref (u3 1), .ref (u3 2)]) (v := .ref (u3 1)) C hP (by decide) rfl hu3 (by decide) (by decide) (by decide) rfl dn5_31 ?_
  refine lv_iload_n hx hb dn5_34 rfl (lv_at hl 0 rfl) ?_
  refine zn_new (ci := 4) (fs := zBk4) C hP hD hS hA (by decide) (zKW_in (k := 20) rfl) (zKW_in (k := 22) rfl) (zINI_in (by decide)) zdf4 (Nat.le_of_ble_eq_true rfl) (Nat.le_of_ble_eq_true rfl) dn5_35 (fun q8 H hP hD hS => ?_)
  refine W.widen (k := 6) (n := 30) (Nat.le_of_ble_eq_true rfl) (Nat.le_of_ble_eq_true rfl) ?_
  refine lv_dup hx hb dn5_38 rfl ?_
  refine zn_callN (n := 6) (q := q8) (e0 := .inr (4, zBk4)) (F := zF4 G.2.1) C (zk4 l G q8) rfl rfl zcd4 zii4 zim4 rfl (C.2.2.2.2.2.2.2 1 (5, 23, yX4_init) rfl) zds4 ⟨(Nat.le_of_ble_eq_true rfl), (Nat.le_of_ble_eq_true rfl)⟩ ⟨(Nat.le_of_ble_eq_true rfl), (Nat.le_of_ble_eq_true rfl)⟩ hl.1 (lv_room (Nat.le_of_ble_eq_true rfl)) dn5_39 hP hD hS hA rfl rfl (by decide +kernel) (fun a9 H locs hw hP hD hS => ?_)
  replace hw : a9 0 = q8 := hw
  subst hw
  refine W.widen (k := 6) (n := 30) (Nat.le_of_ble_eq_true rfl) (Nat.le_of_ble_eq_true rfl) ?_
  refine zn_astq (t := 4) (j := 1) (k := 6) (ci := 4) (N := 8) C hP hD hS (by decide) rfl rfl rfl (by decide) rfl rfl rfl (zvin rfl) dn5_42 (fun H locs hP hD hS => ?_)
  obtain ⟨u4, hu4, hP, hD⟩ := zn_cmp (K := 7) (h0 := h0) (F := zS5_4 G.2.1) hP hD hu3 (fun j hj => by
    match j, hj with
    | 0, _ => rfl
    | 1, _ => rfl
    | 2, _ => rfl
    | 3, _ => rfl
    | 4, _ => rfl
    | 5, _ => rfl
    | 6, _ => rfl
    | _ + 7, h => exact absurd h (by omega))
  refine lv_iinc (v := 4) (lv' := [(1, .int 4), (0, .ref h0)]) hx hb dn5_43 hl (k := 0) rfl (by decide) (by decide) rfl (fun ls hl => ?_)
  refine lv_goto (tgt := 24) hx hb dn5_46 (by decide) ?_
  refine lv_iload_n hx hb dn5_24 rfl (lv_at hl 0 rfl) ?_
  refine lv_bipush (v := 8) hx hb dn5_25 rfl ?_
  refine lv_icmp_ge (tgt := 49) hx hb dn5_27 (by decide) (fun z => absurd z (by decide)) (fun _ => ?_)
  refine lv_aload_n hx hb dn5_30 rfl (lv_at hl 1 rfl) ?_
  refine zn_get (ci := 5) (k := 10) (j := 0) (fs := [.int 0, .int 0, .int 0, .int 0, .int 0, .int 0, .int 0, .int 0, .int 0, .int 0, .ref (u4 1), .ref (u4 2)]) (v := .ref (u4 1)) C hP (by decide) rfl hu4 (by decide) (by decide) (by decide) rfl dn5_31 ?_
  refine lv_iload_n hx hb dn5_34 rfl (lv_at hl 0 rfl) ?_
  refine zn_new (ci := 4) (fs := zBk4) C hP hD hS hA (by decide) (zKW_in (k := 20) rfl) (zKW_in (k := 22) rfl) (zINI_in (by decide)) zdf4 (Nat.le_of_ble_eq_true rfl) (Nat.le_of_ble_eq_true rfl) dn5_35 (fun q10 H hP hD hS => ?_)
  refine W.widen (k := 7) (n := 34) (Nat.le_of_ble_eq_true rfl) (Nat.le_of_ble_eq_true rfl) ?_
  refine lv_dup hx hb dn5_38 rfl ?_
  refine zn_callN (n := 7) (q := q10) (e0 := .inr (4, zBk4)) (F := zF4 G.2.1) C (zk4 l G q10) rfl rfl zcd4 zii4 zim4 rfl (C.2.2.2.2.2.2.2 1 (5, 23, yX4_init) rfl) zds4 ⟨(Nat.le_of_ble_eq_true rfl), (Nat.le_of_ble_eq_true rfl)⟩ ⟨(Nat.le_of_ble_eq_true rfl), (Nat.le_of_ble_eq_true rfl)⟩ hl.1 (lv_room (Nat.le_of_ble_eq_true rfl)) dn5_39 hP hD hS hA rfl rfl (by decide +kernel) (fun a11 H locs hw hP hD hS => ?_)
  replace hw : a11 0 = q10 := hw
  subst hw
  refine W.widen (k := 7) (n := 34) (Nat.le_of_ble_eq_true rfl) (Nat.le_of_ble_eq_true rfl) ?_
  refine zn_astq (t := 4) (j := 1) (k := 7) (ci := 4) (N := 8) C hP hD hS (by decide) rfl rfl rfl (by decide) rfl rfl rfl (zvin rfl) dn5_42 (fun H locs hP hD hS => ?_)
  obtain ⟨u5, hu5, hP, hD⟩ := zn_cmp (K := 8) (h0 := h0) (F := zS5_5 G.2.1) hP hD hu4 (fun j hj => by
    match j, hj with
    | 0, _ => rfl
    | 1, _ => rfl
    | 2, _ => rfl
    | 3, _ => rfl
    | 4, _ => rfl
    | 5, _ => rfl
    | 6, _ => rfl
    | 7, _ => rfl
    | _ + 8, h => exact absurd h (by omega))
  refine lv_iinc (v := 5) (lv' := [(1, .int 5), (0, .ref h0)]) hx hb dn5_43 hl (k := 0) rfl (by decide) (by decide) rfl (fun ls hl => ?_)
  refine lv_goto (tgt := 24) hx hb dn5_46 (by decide) ?_
  refine lv_iload_n hx hb dn5_24 rfl (lv_at hl 0 rfl) ?_
  refine lv_bipush (v := 8) hx hb dn5_25 rfl ?_
  refine lv_icmp_ge (tgt := 49) hx hb dn5_27 (by decide) (fun z => absurd z (by decide)) (fun _ => ?_)
  refine lv_aload_n hx hb dn5_30 rfl (lv_at hl 1 rfl) ?_
  refine zn_get (ci := 5) (k := 10) (j := 0) (fs := [.int 0, .int 0, .int 0, .int 0, .int 0, .int 0, .int 0, .int 0, .int 0, .int 0, .ref (u5 1), .ref (u5 2)]) (v := .ref (u5 1)) C hP (by decide) rfl hu5 (by decide) (by decide) (by decide) rfl dn5_31 ?_
  refine lv_iload_n hx hb dn5_34 rfl (lv_at hl 0 rfl) ?_
  refine zn_new (ci := 4) (fs := zBk4) C hP hD hS hA (by decide) (zKW_in (k := 20) rfl) (zKW_in (k := 22) rfl) (zINI_in (by decide)) zdf4 (Nat.le_of_ble_eq_true rfl) (Nat.le_of_ble_eq_true rfl) dn5_35 (fun q12 H hP hD hS => ?_)
  refine W.widen (k := 8) (n := 38) (Nat.le_of_ble_eq_true rfl) (Nat.le_of_ble_eq_true rfl) ?_
  refine lv_dup hx hb dn5_38 rfl ?_
  refine zn_callN (n := 8) (q := q12) (e0 := .inr (4, zBk4)) (F := zF4 G.2.1) C (zk4 l G q12) rfl rfl zcd4 zii4 zim4 rfl (C.2.2.2.2.2.2.2 1 (5, 23, yX4_init) rfl) zds4 ⟨(Nat.le_of_ble_eq_true rfl), (Nat.le_of_ble_eq_true rfl)⟩ ⟨(Nat.le_of_ble_eq_true rfl), (Nat.le_of_ble_eq_true rfl)⟩ hl.1 (lv_room (Nat.le_of_ble_eq_true rfl)) dn5_39 hP hD hS hA rfl rfl (by decide +kernel) (fun a13 H locs hw hP hD hS => ?_)
  replace hw : a13 0 = q12 := hw
  subst hw
  refine W.widen (k := 8) (n := 38) (Nat.le_of_ble_eq_true rfl) (Nat.le_of_ble_eq_true rfl) ?_
  refine zn_astq (t := 4) (j := 1) (k := 8) (ci := 4) (N := 8) C hP hD hS (by decide) rfl rfl rfl (by decide) rfl rfl rfl (zvin rfl) dn5_42 (fun H locs hP hD hS => ?_)
  obtain ⟨u6, hu6, hP, hD⟩ := zn_cmp (K := 9) (h0 := h0) (F := zS5_6 G.2.1) hP hD hu5 (fun j hj => by
    match j, hj with
    | 0, _ => rfl
    | 1, _ => rfl
    | 2, _ => rfl
    | 3, _ => rfl
    | 4, _ => rfl
    | 5, _ => rfl
    | 6, _ => rfl
    | 7, _ => rfl
    | 8, _ => rfl
    | _ + 9, h => exact absurd h (by omega))
  refine lv_iinc (v := 6) (lv' := [(1, .int 6), (0, .ref h0)]) hx hb dn5_43 hl (k := 0) rfl (by decide) (by decide) rfl (fun ls hl => ?_)
  refine lv_goto (tgt := 24) hx hb dn5_46 (by decide) ?_
  refine lv_iload_n hx hb dn5_24 rfl (lv_at hl 0 rfl) ?_
  refine lv_bipush (v := 8) hx hb dn5_25 rfl ?_
  refine lv_icmp_ge (tgt := 49) hx hb dn5_27 (by decide) (fun z => absurd z (by decide)) (fun _ => ?_)
  refine lv_aload_n hx hb dn5_30 rfl (lv_at hl 1 rfl) ?_
  refine zn_get (ci := 5) (k := 10) (j := 0) (fs := [.int 0, .int 0, .int 0, .int 0, .int 0, .int 0, .int 0, .int 0, .int 0, .int 0, .ref (u6 1), .ref (u6 2)]) (v := .ref (u6 1)) C hP (by decide) rfl hu6 (by decide) (by decide) (by decide) rfl dn5_31 ?_
  refine lv_iload_n hx hb dn5_34 rfl (lv_at hl 0 rfl) ?_
  refine zn_new (ci := 4) (fs := zBk4) C hP hD hS hA (by decide) (zKW_in (k := 20) rfl) (zKW_in (k := 22) rfl) (zINI_in (by decide)) zdf4 (Nat.le_of_ble_eq_true rfl) (Nat.le_of_ble_eq_true rfl) dn5_35 (fun q14 H hP hD hS => ?_)
  refine W.widen (k := 9) (n := 42) (Nat.le_of_ble_eq_true rfl) (Nat.le_of_ble_eq_true rfl) ?_
  refine lv_dup hx hb dn5_38 rfl ?_
  refine zn_callN (n := 9) (q := q14) (e0 := .inr (4, zBk4)) (F := zF4 G.2.1) C (zk4 l G q14) rfl rfl zcd4 zii4 zim4 rfl (C.2.2.2.2.2.2.2 1 (5, 23, yX4_init) rfl) zds4 ⟨(Nat.le_of_ble_eq_true rfl), (Nat.le_of_ble_eq_true rfl)⟩ ⟨(Nat.le_of_ble_eq_true rfl), (Nat.le_of_ble_eq_true rfl)⟩ hl.1 (lv_room (Nat.le_of_ble_eq_true rfl)) dn5_39 hP hD hS hA rfl rfl (by decide +kernel) (fun a15 H locs hw hP hD hS => ?_)
  replace hw : a15 0 = q14 := hw
  subst hw
  refine W.widen (k := 9) (n := 42) (Nat.le_of_ble_eq_true rfl) (Nat.le_of_ble_eq_true rfl) ?_
  refine zn_astq (t := 4) (j := 1) (k := 9) (ci := 4) (N := 8) C hP hD hS (by decide) rfl rfl rfl (by decide) rfl rfl rfl (zvin rfl) dn5_42 (fun H locs hP hD hS => ?_)
  obtain ⟨u7, hu7, hP, hD⟩ := zn_cmp (K := 10) (h0 := h0) (F := zS5_7 G.2.1) hP hD hu6 (fun j hj => by
    match j, hj with
    | 0, _ => rfl
    | 1, _ => rfl
    | 2, _ => rfl
    | 3, _ => rfl
    | 4, _ => rfl
    | 5, _ => rfl
    | 6, _ => rfl
    | 7, _ => rfl
    | 8, _ => rfl
    | 9, _ => rfl
    | _ + 10, h => exact absurd h (by omega))
  refine lv_iinc (v := 7) (lv' := [(1, .int 7), (0, .ref h0)]) hx hb dn5_43 hl (k := 0) rfl (by decide) (by decide) rfl (fun ls hl => ?_)
  refine lv_goto (tgt := 24) hx hb dn5_46 (by decide) ?_
  refine lv_iload_n hx hb dn5_24 rfl (lv_at hl 0 rfl) ?_
  refine lv_bipush (v := 8) hx hb dn5_25 rfl ?_
  refine lv_icmp_ge (tgt := 49) hx hb dn5_27 (by decide) (fun z => absurd z (by decide)) (fun _ => ?_)
  refine lv_aload_n hx hb dn5_30 rfl (lv_at hl 1 rfl) ?_
  refine zn_get (ci := 5) (k := 10) (j := 0) (fs := [.int 0, .int 0, .int 0, .int 0, .int 0, .int 0, .int 0, .int 0, .int 0, .int 0, .ref (u7 1), .ref (u7 2)]) (v := .ref (u7 1)) C hP (by decide) rfl hu7 (by decide) (by decide) (by decide) rfl dn5_31 ?_
  refine lv_iload_n hx hb dn5_34 rfl (lv_at hl 0 rfl) ?_
  refine zn_new (ci := 4) (fs := zBk4) C hP hD hS hA (by decide) (zKW_in (k := 20) rfl) (zKW_in (k := 22) rfl) (zINI_in (by decide)) zdf4 (Nat.le_of_ble_eq_true rfl) (Nat.le_of_ble_eq_true rfl) dn5_35 (fun q16 H hP hD hS => ?_)
  refine W.widen (k := 10) (n := 46) (Nat.le_of_ble_eq_true rfl) (Nat.le_of_ble_eq_true rfl) ?_
  refine lv_dup hx hb dn5_38 rfl ?_
  refine zn_callN (n := 10) (q := q16) (e0 := .inr (4, zBk4)) (F := zF4 G.2.1) C (zk4 l G q16) rfl rfl zcd4 zii4 zim4 rfl (C.2.2.2.2.2.2.2 1 (5, 23, yX4_init) rfl) zds4 ⟨(Nat.le_of_ble_eq_true rfl), (Nat.le_of_ble_eq_true rfl)⟩ ⟨(Nat.le_of_ble_eq_true rfl), (Nat.le_of_ble_eq_true rfl)⟩ hl.1 (lv_room (Nat.le_of_ble_eq_true rfl)) dn5_39 hP hD hS hA rfl rfl (by decide +kernel) (fun a17 H locs hw hP hD hS => ?_)
  replace hw : a17 0 = q16 := hw
  subst hw
  refine W.widen (k := 10) (n := 46) (Nat.le_of_ble_eq_true rfl) (Nat.le_of_ble_eq_true rfl) ?_
  refine zn_astq (t := 4) (j := 1) (k := 10) (ci := 4) (N := 8) C hP hD hS (by decide) rfl rfl rfl (by decide) rfl rfl rfl (zvin rfl) dn5_42 (fun H locs hP hD hS => ?_)
  obtain ⟨u8, hu8, hP, hD⟩ := zn_cmp (K := 11) (h0 := h0) (F := zS5_8 G.2.1) hP hD hu7 (fun j hj => by
    match j, hj with
    | 0, _ => rfl
    | 1, _ => rfl
    | 2, _ => rfl
    | 3, _ => rfl
    | 4, _ => rfl
    | 5, _ => rfl
    | 6, _ => rfl
    | 7, _ => rfl
    | 8, _ => rfl
    | 9, _ => rfl
    | 10, _ => rfl
    | _ + 11, h => exact absurd h (by omega))
  refine lv_iinc (v := 8) (lv' := [(1, .int 8), (0, .ref h0)]) hx hb dn5_43 hl (k := 0) rfl (by decide) (by decide) rfl (fun ls hl => ?_)
  refine lv_goto (tgt := 24) hx hb dn5_46 (by decide) ?_
  refine lv_iload_n hx hb dn5_24 rfl (lv_at hl 0 rfl) ?_
  refine lv_bipush (v := 8) hx hb dn5_25 rfl ?_
  refine lv_icmp_ge (tgt := 49) hx hb dn5_27 (by decide) (fun _ => ?_) (fun z => absurd (by decide) z)
  refine lv_iconst (v := 0) hx hb dn5_49 rfl ?_
  refine lv_istore_n (lv' := [(1, .int 0), (0, .ref h0)]) hx hb dn5_50 rfl hl (by decide) rfl (fun ls hl => ?_)
  refine lv_iload_n hx hb dn5_51 rfl (lv_at hl 0 rfl) ?_
  refine lv_bipush (v := 6) hx hb dn5_52 rfl ?_
  refine lv_icmp_ge (tgt := 76) hx hb dn5_54 (by decide) (fun z => absurd z (by decide)) (fun _ => ?_)
  refine lv_aload_n hx hb dn5_57 rfl (lv_at hl 1 rfl) ?_
  refine zn_get (ci := 5) (k := 11) (j := 0) (fs := [.int 0, .int 0, .int 0, .int 0, .int 0, .int 0, .int 0, .int 0, .int 0, .int 0, .ref (u8 1), .ref (u8 2)]) (v := .ref (u8 2)) C hP (by decide) rfl hu8 (by decide) (by decide) (by decide) rfl dn5_58 ?_
  refine lv_iload_n hx hb dn5_61 rfl (lv_at hl 0 rfl) ?_
  refine zn_new (ci := 1) (fs := zBk1) C hP hD hS hA (by decide) (zKW_in (k := 21) rfl) (zKW_in (k := 26) rfl) (zINI_in (by decide)) zdf1 (Nat.le_of_ble_eq_true rfl) (Nat.le_of_ble_eq_true rfl) dn5_62 (fun q18 H hP hD hS => ?_)
  refine W.widen (k := 11) (n := 51) (Nat.le_of_ble_eq_true rfl) (Nat.le_of_ble_eq_true rfl) ?_
  refine lv_dup hx hb dn5_65 rfl ?_
  refine zn_callN (n := 11) (q := q18) (e0 := .inr (1, zBk1)) (F := zF1 G.2.1) C (zk1 l G q18) rfl rfl zcd1 zii1 zim1 rfl (C.2.2.2.2.2.2.2 2 (5, 24, yX1_init) rfl) zds1 ⟨(Nat.le_of_ble_eq_true rfl), (Nat.le_of_ble_eq_true rfl)⟩ ⟨(Nat.le_of_ble_eq_true rfl), (Nat.le_of_ble_eq_true rfl)⟩ hl.1 (lv_room (Nat.le_of_ble_eq_true rfl)) dn5_66 hP hD hS hA rfl rfl (by decide +kernel) (fun a19 H locs hw hP hD hS => ?_)
  replace hw : a19 0 = q18 := hw
  subst hw
  refine W.widen (k := 11) (n := 51) (Nat.le_of_ble_eq_true rfl) (Nat.le_of_ble_eq_true rfl) ?_
  refine zn_astq (t := 5) (j := 2) (k := 11) (ci := 1) (N := 6) C hP hD hS (by decide) rfl rfl rfl (by decide) rfl rfl rfl (zvin rfl) dn5_69 (fun H locs hP hD hS => ?_)
  obtain ⟨u9, hu9, hP, hD⟩ := zn_cmp (K := 12) (h0 := h0) (F := zS5_9 G.2.1) hP hD hu8 (fun j hj => by
    match j, hj with
    | 0, _ => rfl
    | 1, _ => rfl
    | 2, _ => rfl
    | 3, _ => rfl
    | 4, _ => rfl
    | 5, _ => rfl
    | 6, _ => rfl
    | 7, _ => rfl
    | 8, _ => rfl
    | 9, _ => rfl
    | 10, _ => rfl
    | 11, _ => rfl
    | _ + 12, h => exact absurd h (by omega))
  refine lv_iinc (v := 1) (lv' := [(1, .int 1), (0, .ref h0)]) hx hb dn5_70 hl (k := 0) rfl (by decide) (by decide) rfl (fun ls hl => ?_)
  refine lv_goto (tgt := 51) hx hb dn5_73 (by decide) ?_
  refine lv_iload_n hx hb dn5_51 rfl (lv_at hl 0 rfl) ?_
  refine lv_bipush (v := 6) hx hb dn5_52 rfl ?_
  refine lv_icmp_ge (tgt := 76) hx hb dn5_54 (by decide) (fun z => absurd z (by decide)) (fun _ => ?_)
  refine lv_aload_n hx hb dn5_57 rfl (lv_at hl 1 rfl) ?_
  refine zn_get (ci := 5) (k := 11) (j := 0) (fs := [.int 0, .int 0, .int 0, .int 0, .int 0, .int 0, .int 0, .int 0, .int 0, .int 0, .ref (u9 1), .ref (u9 2)]) (v := .ref (u9 2)) C hP (by decide) rfl hu9 (by decide) (by decide) (by decide) rfl dn5_58 ?_
  refine lv_iload_n hx hb dn5_61 rfl (lv_at hl 0 rfl) ?_
  refine zn_new (ci := 1) (fs := zBk1) C hP hD hS hA (by decide) (zKW_in (k := 21) rfl) (zKW_in (k := 26) rfl) (zINI_in (by decide)) zdf1 (Nat.le_of_ble_eq_true rfl) (Nat.le_of_ble_eq_true rfl) dn5_62 (fun q20 H hP hD hS => ?_)
  refine W.widen (k := 12) (n := 56) (Nat.le_of_ble_eq_true rfl) (Nat.le_of_ble_eq_true rfl) ?_
  refine lv_dup hx hb dn5_65 rfl ?_
  refine zn_callN (n := 12) (q := q20) (e0 := .inr (1, zBk1)) (F := zF1 G.2.1) C (zk1 l G q20) rfl rfl zcd1 zii1 zim1 rfl (C.2.2.2.2.2.2.2 2 (5, 24, yX1_init) rfl) zds1 ⟨(Nat.le_of_ble_eq_true rfl), (Nat.le_of_ble_eq_true rfl)⟩ ⟨(Nat.le_of_ble_eq_true rfl), (Nat.le_of_ble_eq_true rfl)⟩ hl.1 (lv_room (Nat.le_of_ble_eq_true rfl)) dn5_66 hP hD hS hA rfl rfl (by decide +kernel) (fun a21 H locs hw hP hD hS => ?_)
  replace hw : a21 0 = q20 := hw
  subst hw
  refine W.widen (k := 12) (n := 56) (Nat.le_of_ble_eq_true rfl) (Nat.le_of_ble_eq_true rfl) ?_
  refine zn_astq (t := 5) (j := 2) (k := 12) (ci := 1) (N := 6) C hP hD hS (by decide) rfl rfl rfl (by decide) rfl rfl rfl (zvin rfl) dn5_69 (fun H locs hP hD hS => ?_)
  obtain ⟨u10, hu10, hP, hD⟩ := zn_cmp (K := 13) (h0 := h0) (F := zS5_10 G.2.1) hP hD hu9 (fun j hj => by
    match j, hj with
    | 0, _ => rfl
    | 1, _ => rfl
    | 2, _ => rfl
    | 3, _ => rfl
    | 4, _ => rfl
    | 5, _ => rfl
    | 6, _ => rfl
    | 7, _ => rfl
    | 8, _ => rfl
    | 9, _ => rfl
    | 10, _ => rfl
    | 11, _ => rfl
    | 12, _ => rfl
    | _ + 13, h => exact absurd h (by omega))
  refine lv_iinc (v := 2) (lv' := [(1, .int 2), (0, .ref h0)]) hx hb dn5_70 hl (k := 0) rfl (by decide) (by decide) rfl (fun ls hl => ?_)
  refine lv_goto (tgt := 51) hx hb dn5_73 (by decide) ?_
  refine lv_iload_n hx hb dn5_51 rfl (lv_at hl 0 rfl) ?_
  refine lv_bipush (v := 6) hx hb dn5_52 rfl ?_
  refine lv_icmp_ge (tgt := 76) hx hb dn5_54 (by decide) (fun z => absurd z (by decide)) (fun _ => ?_)
  refine lv_aload_n hx hb dn5_57 rfl (lv_at hl 1 rfl) ?_
  refine zn_get (ci := 5) (k := 11) (j := 0) (fs := [.int 0, .int 0, .int 0, .int 0, .int 0, .int 0, .int 0, .int 0, .int 0, .int 0, .ref (u10 1), .ref (u10 2)]) (v := .ref (u10 2)) C hP (by decide) rfl hu10 (by decide) (by decide) (by decide) rfl dn5_58 ?_
  refine lv_iload_n hx hb dn5_61 rfl (lv_at hl 0 rfl) ?_
  refine zn_new (ci := 1) (fs := zBk1) C hP hD hS hA (by decide) (zKW_in (k := 21) rfl) (zKW_in (k := 26) rfl) (zINI_in (by decide)) zdf1 (Nat.le_of_ble_eq_true rfl) (Nat.le_of_ble_eq_true rfl) dn5_62 (fun q22 H hP hD hS => ?_)
  refine W.widen (k := 13) (n := 61) (Nat.le_of_ble_eq_true rfl) (Nat.le_of_ble_eq_true rfl) ?_
  refine lv_dup hx hb dn5_65 rfl ?_
  refine zn_callN (n := 13) (q := q22) (e0 := .inr (1, zBk1)) (F := zF1 G.2.1) C (zk1 l G q22) rfl rfl zcd1 zii1 zim1 rfl (C.2.2.2.2.2.2.2 2 (5, 24, yX1_init) rfl) zds1 ⟨(Nat.le_of_ble_eq_true rfl), (Nat.le_of_ble_eq_true rfl)⟩ ⟨(Nat.le_of_ble_eq_true rfl), (Nat.le_of_ble_eq_true rfl)⟩ hl.1 (lv_room (Nat.le_of_ble_eq_true rfl)) dn5_66 hP hD hS hA rfl rfl (by decide +kernel) (fun a23 H locs hw hP hD hS => ?_)
  replace hw : a23 0 = q22 := hw
  subst hw
  refine W.widen (k := 13) (n := 61) (Nat.le_of_ble_eq_true rfl) (Nat.le_of_ble_eq_true rfl) ?_
  refine zn_astq (t := 5) (j := 2) (k := 13) (ci := 1) (N := 6) C hP hD hS (by decide) rfl rfl rfl (by decide) rfl rfl rfl (zvin rfl) dn5_69 (fun H locs hP hD hS => ?_)
  obtain ⟨u11, hu11, hP, hD⟩ := zn_cmp (K := 14) (h0 := h0) (F := zS5_11 G.2.1) hP hD hu10 (fun j hj => by
    match j, hj with
    | 0, _ => rfl
    | 1, _ => rfl
    | 2, _ => rfl
    | 3, _ => rfl
    | 4, _ => rfl
    | 5, _ => rfl
    | 6, _ => rfl
    | 7, _ => rfl
    | 8, _ => rfl
    | 9, _ => rfl
    | 10, _ => rfl
    | 11, _ => rfl
    | 12, _ => rfl
    | 13, _ => rfl
    | _ + 14, h => exact absurd h (by omega))
  refine lv_iinc (v := 3) (lv' := [(1, .int 3), (0, .ref h0)]) hx hb dn5_70 hl (k := 0) rfl (by decide) (by decide) rfl (fun ls hl => ?_)
  refine lv_goto (tgt := 51) hx hb dn5_73 (by decide) ?_
  refine lv_iload_n hx hb dn5_51 rfl (lv_at hl 0 rfl) ?_
  refine lv_bipush (v := 6) hx hb dn5_52 rfl ?_
  refine lv_icmp_ge (tgt := 76) hx hb dn5_54 (by decide) (fun z => absurd z (by decide)) (fun _ => ?_)
  refine lv_aload_n hx hb dn5_57 rfl (lv_at hl 1 rfl) ?_
  refine zn_get (ci := 5) (k := 11) (j := 0) (fs := [.int 0, .int 0, .int 0, .int 0, .int 0, .int 0, .int 0, .int 0, .int 0, .int 0, .ref (u11 1), .ref (u11 2)]) (v := .ref (u11 2)) C hP (by decide) rfl hu11 (by decide) (by decide) (by decide) rfl dn5_58 ?_
  refine lv_iload_n hx hb dn5_61 rfl (lv_at hl 0 rfl) ?_
  refine zn_new (ci := 1) (fs := zBk1) C hP hD hS hA (by decide) (zKW_in (k := 21) rfl) (zKW_in (k := 26) rfl) (zINI_in (by decide)) zdf1 (Nat.le_of_ble_eq_true rfl) (Nat.le_of_ble_eq_true rfl) dn5_62 (fun q24 H hP hD hS => ?_)
  refine W.widen (k := 14) (n := 66) (Nat.le_of_ble_eq_true rfl) (Nat.le_of_ble_eq_true rfl) ?_
  refine lv_dup hx hb dn5_65 rfl ?_
  refine zn_callN (n := 14) (q := q24) (e0 := .inr (1, zBk1)) (F := zF1 G.2.1) C (zk1 l G q24) rfl rfl zcd1 zii1 zim1 rfl (C.2.2.2.2.2.2.2 2 (5, 24, yX1_init) rfl) zds1 ⟨(Nat.le_of_ble_eq_true rfl), (Nat.le_of_ble_eq_true rfl)⟩ ⟨(Nat.le_of_ble_eq_true rfl), (Nat.le_of_ble_eq_true rfl)⟩ hl.1 (lv_room (Nat.le_of_ble_eq_true rfl)) dn5_66 hP hD hS hA rfl rfl (by decide +kernel) (fun a25 H locs hw hP hD hS => ?_)
  replace hw : a25 0 = q24 := hw
  subst hw
  refine W.widen (k := 14) (n := 66) (Nat.le_of_ble_eq_true rfl) (Nat.le_of_ble_eq_true rfl) ?_
  refine zn_astq (t := 5) (j := 2) (k := 14) (ci := 1) (N := 6) C hP hD hS (by decide) rfl rfl rfl (by decide) rfl rfl rfl (zvin rfl) dn5_69 (fun H locs hP hD hS => ?_)
  obtain ⟨u12, hu12, hP, hD⟩ := zn_cmp (K := 15) (h0 := h0) (F := zS5_12 G.2.1) hP hD hu11 (fun j hj => by
    match j, hj with
    | 0, _ => rfl
    | 1, _ => rfl
    | 2, _ => rfl
    | 3, _ => rfl
    | 4, _ => rfl
    | 5, _ => rfl
    | 6, _ => rfl
    | 7, _ => rfl
    | 8, _ => rfl
    | 9, _ => rfl
    | 10, _ => rfl
    | 11, _ => rfl
    | 12, _ => rfl
    | 13, _ => rfl
    | 14, _ => rfl
    | _ + 15, h => exact absurd h (by omega))
  refine lv_iinc (v := 4) (lv' := [(1, .int 4), (0, .ref h0)]) hx hb dn5_70 hl (k := 0) rfl (by decide) (by decide) rfl (fun ls hl => ?_)
  refine lv_goto (tgt := 51) hx hb dn5_73 (by decide) ?_
  refine lv_iload_n hx hb dn5_51 rfl (lv_at hl 0 rfl) ?_
  refine lv_bipush (v := 6) hx hb dn5_52 rfl ?_
  refine lv_icmp_ge (tgt := 76) hx hb dn5_54 (by decide) (fun z => absurd z (by decide)) (fun _ => ?_)
  refine lv_aload_n hx hb dn5_57 rfl (lv_at hl 1 rfl) ?_
  refine zn_get (ci := 5) (k := 11) (j := 0) (fs := [.int 0, .int 0, .int 0, .int 0, .int 0, .int 0, .int 0, .int 0, .int 0, .int 0, .ref (u12 1), .ref (u12 2)]) (v := .ref (u12 2)) C hP (by decide) rfl hu12 (by decide) (by decide) (by decide) rfl dn5_58 ?_
  refine lv_iload_n hx hb dn5_61 rfl (lv_at hl 0 rfl) ?_
  refine zn_new (ci := 1) (fs := zBk1) C hP hD hS hA (by decide) (zKW_in (k := 21) rfl) (zKW_in (k := 26) rfl) (zINI_in (by decide)) zdf1 (Nat.le_of_ble_eq_true rfl) (Nat.le_of_ble_eq_true rfl) dn5_62 (fun q26 H hP hD hS => ?_)
  refine W.widen (k := 15) (n := 71) (Nat.le_of_ble_eq_true rfl) (Nat.le_of_ble_eq_true rfl) ?_
  refine lv_dup hx hb dn5_65 rfl ?_
  refine zn_callN (n := 15) (q := q26) (e0 := .inr (1, zBk1)) (F := zF1 G.2.1) C (zk1 l G q26) rfl rfl zcd1 zii1 zim1 rfl (C.2.2.2.2.2.2.2 2 (5, 24, yX1_init) rfl) zds1 ⟨(Nat.le_of_ble_eq_true rfl), (Nat.le_of_ble_eq_true rfl)⟩ ⟨(Nat.le_of_ble_eq_true rfl), (Nat.le_of_ble_eq_true rfl)⟩ hl.1 (lv_room (Nat.le_of_ble_eq_true rfl)) dn5_66 hP hD hS hA rfl rfl (by decide +kernel) (fun a27 H locs hw hP hD hS => ?_)
  replace hw : a27 0 = q26 := hw
  subst hw
  refine W.widen (k := 15) (n := 71) (Nat.le_of_ble_eq_true rfl) (Nat.le_of_ble_eq_true rfl) ?_
  refine zn_astq (t := 5) (j := 2) (k := 15) (ci := 1) (N := 6) C hP hD hS (by decide) rfl rfl rfl (by decide) rfl rfl rfl (zvin rfl) dn5_69 (fun H locs hP hD hS => ?_)
  obtain ⟨u13, hu13, hP, hD⟩ := zn_cmp (K := 16) (h0 := h0) (F := zS5_13 G.2.1) hP hD hu12 (fun j hj => by
    match j, hj with
    | 0, _ => rfl
    | 1, _ => rfl
    | 2, _ => rfl
    | 3, _ => rfl
    | 4, _ => rfl
    | 5, _ => rfl
    | 6, _ => rfl
    | 7, _ => rfl
    | 8, _ => rfl
    | 9, _ => rfl
    | 10, _ => rfl
    | 11, _ => rfl
    | 12, _ => rfl
    | 13, _ => rfl
    | 14, _ => rfl
    | 15, _ => rfl
    | _ + 16, h => exact absurd h (by omega))
  refine lv_iinc (v := 5) (lv' := [(1, .int 5), (0, .ref h0)]) hx hb dn5_70 hl (k := 0) rfl (by decide) (by decide) rfl (fun ls hl => ?_)
  refine lv_goto (tgt := 51) hx hb dn5_73 (by decide) ?_
  refine lv_iload_n hx hb dn5_51 rfl (lv_at hl 0 rfl) ?_
  refine lv_bipush (v := 6) hx hb dn5_52 rfl ?_
  refine lv_icmp_ge (tgt := 76) hx hb dn5_54 (by decide) (fun z => absurd z (by decide)) (fun _ => ?_)
  refine lv_aload_n hx hb dn5_57 rfl (lv_at hl 1 rfl) ?_
  refine zn_get (ci := 5) (k := 11) (j := 0) (fs := [.int 0, .int 0, .int 0, .int 0, .int 0, .int 0, .int 0, .int 0, .int 0, .int 0, .ref (u13 1), .ref (u13 2)]) (v := .ref (u13 2)) C hP (by decide) rfl hu13 (by decide) (by decide) (by decide) rfl dn5_58 ?_
  refine lv_iload_n hx hb dn5_61 rfl (lv_at hl 0 rfl) ?_
  refine zn_new (ci := 1) (fs := zBk1) C hP hD hS hA (by decide) (zKW_in (k := 21) rfl) (zKW_in (k := 26) rfl) (zINI_in (by decide)) zdf1 (Nat.le_of_ble_eq_true rfl) (Nat.le_of_ble_eq_true rfl) dn5_62 (fun q28 H hP hD hS => ?_)
  refine W.widen (k := 16) (n := 76) (Nat.le_of_ble_eq_true rfl) (Nat.le_of_ble_eq_true rfl) ?_
  refine lv_dup hx hb dn5_65 rfl ?_
  refine zn_callN (n := 16) (q := q28) (e0 := .inr (1, zBk1)) (F := zF1 G.2.1) C (zk1 l G q28) rfl rfl zcd1 zii1 zim1 rfl (C.2.2.2.2.2.2.2 2 (5, 24, yX1_init) rfl) zds1 ⟨(Nat.le_of_ble_eq_true rfl), (Nat.le_of_ble_eq_true rfl)⟩ ⟨(Nat.le_of_ble_eq_true rfl), (Nat.le_of_ble_eq_true rfl)⟩ hl.1 (lv_room (Nat.le_of_ble_eq_true rfl)) dn5_66 hP hD hS hA rfl rfl (by decide +kernel) (fun a29 H locs hw hP hD hS => ?_)
  replace hw : a29 0 = q28 := hw
  subst hw
  refine W.widen (k := 16) (n := 76) (Nat.le_of_ble_eq_true rfl) (Nat.le_of_ble_eq_true rfl) ?_
  refine zn_astq (t := 5) (j := 2) (k := 16) (ci := 1) (N := 6) C hP hD hS (by decide) rfl rfl rfl (by decide) rfl rfl rfl (zvin rfl) dn5_69 (fun H locs hP hD hS => ?_)
  obtain ⟨u14, hu14, hP, hD⟩ := zn_cmp (K := 17) (h0 := h0) (F := zS5_14 G.2.1) hP hD hu13 (fun j hj => by
    match j, hj with
    | 0, _ => rfl
    | 1, _ => rfl
    | 2, _ => rfl
    | 3, _ => rfl
    | 4, _ => rfl
    | 5, _ => rfl
    | 6, _ => rfl
    | 7, _ => rfl
    | 8, _ => rfl
    | 9, _ => rfl
    | 10, _ => rfl
    | 11, _ => rfl
    | 12, _ => rfl
    | 13, _ => rfl
    | 14, _ => rfl
    | 15, _ => rfl
    | 16, _ => rfl
    | _ + 17, h => exact absurd h (by omega))
  refine lv_iinc (v := 6) (lv' := [(1, .int 6), (0, .ref h0)]) hx hb dn5_70 hl (k := 0) rfl (by decide) (by decide) rfl (fun ls hl => ?_)
  refine lv_goto (tgt := 51) hx hb dn5_73 (by decide) ?_
  refine lv_iload_n hx hb dn5_51 rfl (lv_at hl 0 rfl) ?_
  refine lv_bipush (v := 6) hx hb dn5_52 rfl ?_
  refine lv_icmp_ge (tgt := 76) hx hb dn5_54 (by decide) (fun _ => ?_) (fun z => absurd (by decide) z)
  obtain ⟨u, hu0, hP9, hD9⟩ := zn_end (K := 17) (F := zF5 G.2.1) hP hD hu14 (fun j hj => by
    match j, hj with
    | 0, _ => rfl
    | 1, _ => rfl
    | 2, _ => rfl
    | 3, _ => rfl
    | 4, _ => rfl
    | 5, _ => rfl
    | 6, _ => rfl
    | 7, _ => rfl
    | 8, _ => rfl
    | 9, _ => rfl
    | 10, _ => rfl
    | 11, _ => rfl
    | 12, _ => rfl
    | 13, _ => rfl
    | 14, _ => rfl
    | 15, _ => rfl
    | 16, _ => rfl
    | _ + 17, h => exact absurd h (by omega))
  refine W.widen (k := 16) (n := 76) (Nat.le_of_ble_eq_true rfl) (Nat.le_of_ble_eq_true rfl) ?_
  exact W.vret hx hb hr (fun t ht hW => ⟨⟨u, rfl, hu0, by rw [ht]; exact hP9, by rw [hAe]; exact hD9⟩, by rw [hAe]; exact hS.F ht⟩) hS.2.2 dn5_76
theorem dn0_0 : decode cX0_init 0 = .ok (.aload_n 0, 1) := by decide +kernel
theorem dn0_1 : decode cX0_init 1 = .ok (.invokespecial 3, 3) := by decide +kernel
theorem dn0_4 : decode cX0_init 4 = .ok (.aload_n 0, 1) := by decide +kernel
theorem dn0_5 : decode cX0_init 5 = .ok (.new 9, 3) := by decide +kernel
theorem dn0_8 : decode cX0_init 8 = .ok (.dup, 1) := by decide +kernel
theorem dn0_9 : decode cX0_init 9 = .ok (.invokespecial 11, 3) := by decide +kernel
theorem dn0_12 : decode cX0_init 12 = .ok (.putfield 12, 3) := by decide +kernel
theorem dn0_15 : decode cX0_init 15 = .ok (.aload_n 0, 1) := by decide +kernel
theorem dn0_16 : decode cX0_init 16 = .ok (.bipush 36, 2) := by decide +kernel
theorem dn0_18 : decode cX0_init 18 = .ok (.newarray .int, 2) := by decide +kernel
theorem dn0_20 : decode cX0_init 20 = .ok (.putfield 18, 3) := by decide +kernel
theorem dn0_23 : decode cX0_init 23 = .ok (.aload_n 0, 1) := by decide +kernel
theorem dn0_24 : decode cX0_init 24 = .ok (.bipush 36, 2) := by decide +kernel
theorem dn0_26 : decode cX0_init 26 = .ok (.newarray .int, 2) := by decide +kernel
theorem dn0_28 : decode cX0_init 28 = .ok (.putfield 22, 3) := by decide +kernel
theorem dn0_31 : decode cX0_init 31 = .ok (.aload_n 0, 1) := by decide +kernel
theorem dn0_32 : decode cX0_init 32 = .ok (.sipush 256, 3) := by decide +kernel
theorem dn0_35 : decode cX0_init 35 = .ok (.newarray .int, 2) := by decide +kernel
theorem dn0_37 : decode cX0_init 37 = .ok (.putfield 25, 3) := by decide +kernel
theorem dn0_40 : decode cX0_init 40 = .ok (.aload_n 0, 1) := by decide +kernel
theorem dn0_41 : decode cX0_init 41 = .ok (.bipush 6, 2) := by decide +kernel
theorem dn0_43 : decode cX0_init 43 = .ok (.newarray .int, 2) := by decide +kernel
theorem dn0_45 : decode cX0_init 45 = .ok (.putfield 28, 3) := by decide +kernel
theorem dn0_48 : decode cX0_init 48 = .ok (.aload_n 0, 1) := by decide +kernel
theorem dn0_49 : decode cX0_init 49 = .ok (.iconst (-1), 1) := by decide +kernel
theorem dn0_50 : decode cX0_init 50 = .ok (.putfield 31, 3) := by decide +kernel
theorem dn0_53 : decode cX0_init 53 = .ok (.return_, 1) := by decide +kernel
def zF0 (T : Nat → ClassId) (a : Nat → Nat) : Nat → va_E
  | 0 => .inr (0, [.ref (a 1), .ref (a 18), .ref (a 19), .ref (a 20), .ref (a 21), .int (-1)])
  | 1 => .inr (5, [.int 0, .int 0, .int 0, .int 0, .int 0, .int 0, .int 0, .int 0, .int 0, .int 0, .ref (a 2), .ref (a 3)])
  | 2 => .inl (T 5, 8, .inr (.inr (.inr (.inr (zUp (fun i => a (4 + 1 * i)) 8)))))
  | 3 => .inl (T 6, 6, .inr (.inr (.inr (.inr (zUp (fun i => a (12 + 1 * i)) 6)))))
  | 4 => .inr (4, [.int 0, .int 0, .int 0, .int 0])
  | 5 => .inr (4, [.int 0, .int 0, .int 0, .int 0])
  | 6 => .inr (4, [.int 0, .int 0, .int 0, .int 0])
  | 7 => .inr (4, [.int 0, .int 0, .int 0, .int 0])
  | 8 => .inr (4, [.int 0, .int 0, .int 0, .int 0])
  | 9 => .inr (4, [.int 0, .int 0, .int 0, .int 0])
  | 10 => .inr (4, [.int 0, .int 0, .int 0, .int 0])
  | 11 => .inr (4, [.int 0, .int 0, .int 0, .int 0])
  | 12 => .inr (1, [.int 0, .int 0, .int 0, .int 0, .int 0])
  | 13 => .inr (1, [.int 0, .int 0, .int 0, .int 0, .int 0])
  | 14 => .inr (1, [.int 0, .int 0, .int 0, .int 0, .int 0])
  | 15 => .inr (1, [.int 0, .int 0, .int 0, .int 0, .int 0])
  | 16 => .inr (1, [.int 0, .int 0, .int 0, .int 0, .int 0])
  | 17 => .inr (1, [.int 0, .int 0, .int 0, .int 0, .int 0])
  | 18 => .inl (T 1, 36, .inl (fun _ => 0))
  | 19 => .inl (T 1, 36, .inl (fun _ => 0))
  | 20 => .inl (T 1, 256, .inl (fun _ => 0))
  | 21 => .inl (T 1, 6, .inl (fun _ => 0))
  | _ => .inr (0, [])
def zS0_1 (T : Nat → ClassId) (a : Nat → Nat) : Nat → va_E := zUe (zF0 T a) 0 (.inr (0, [.ref (a 1), .null, .null, .null, .null, .int 0]))
set_option maxHeartbeats 4000000 in
set_option maxRecDepth 100000 in
theorem zk0 (l : Launch) (G : zG) (h0 sz : Nat) : Met l yX0_init (.code yX0_init cX0_init 1 none :: zBIG) { frames := 3, cells := 21, slots := 422, locals := 53 } (zPn G h0 sz (.inr (0, zBk0))) (zQn G h0 sz (.inr (0, zBk0)) 22 (zF0 G.2.1)) 21 422 (va_A [(h0, .inr (0, zBk0))] sz) := by
  refine Met.ofW (cc := cX0_init) (maxL := 1) (ret := none) (by decide) rfl ?_
  intro p e s m args below meth c s₁ B hml hv
  obtain ⟨rfl, hsz, hP, hCn⟩ := hv
  have hx := B.exec
  have hb := B.bytes
  have hr := B.returns
  have hts0 := atoms_spec (ws := .code yX0_init cX0_init 1 none :: zBIG) B.pre
  have hts : ∀ w ∈ zBIG, w.before _ s = true := fun w h => hts0 w (List.mem_cons_of_mem _ h)
  have hown : s.vm.findClass (zCN 0) = some m.cls := findClass_of_methodNamed B.named
  have hlocks := B.notSynchronized
  have hin : meth.name = "<init>" := (name_of_methodNamed B.named B.method).1
  have C : zMc p s m _ c cX0_init 1 0 G := ⟨hx, hb, hml, hown, hts, hCn⟩
  subst hsz
  replace hP : va_P G.1 zcl12 (zL (fun _ => h0) (fun _ => .inr (0, zBk0)) 1) s.heap := hP
  have hD : va_D (va_A [(h0, .inr (0, zBk0))] s.heap.size) (zL (fun _ => h0) (fun _ => .inr (0, zBk0)) 1) := zn_D1
  generalize hAe : va_A [(h0, .inr (0, zBk0))] s.heap.size = A at hD ⊢
  have hA : ∀ q : Nat, s.heap.size ≤ q → A q := fun q h => by rw [← hAe]; exact Or.inr h
  have hS : va_S A s.heap s.heap [] := va_S.rf
  have hl := lv_entry ([.ref h0]) (n := 1) (Nat.le_of_ble_eq_true rfl)
  rw [lg_entry_eq]
  generalize (lg_sl ([.ref h0]) ++ List.replicate (1 - (lg_sl ([.ref h0])).length) Slot.unset).toArray = ls at hl ⊢
  replace hl : lv_has ls 1 [(0, .ref h0)] := hl
  refine lv_aload_n hx hb dn0_0 rfl (lv_at hl 0 rfl) ?_
  refine W.objInit hx hb hown (hts _ (zKW_in (k := 34) rfl)) (hts _ (zKW_in (k := 6) rfl)) (hts _ (zKW_in (k := 7) rfl)) rfl (by rw [hml]; exact hl.1) rfl dn0_1 (Nat.le_of_ble_eq_true rfl) (Nat.le_of_ble_eq_true rfl) ?_
  refine W.eq (g2 := F0 m 4 ls []) rfl ?_
  refine lv_aload_n hx hb dn0_4 rfl (lv_at hl 0 rfl) ?_
  refine zn_new (ci := 5) (fs := zBk5) C hP hD hS hA (by decide) (zKW_in (k := 35) rfl) (zKW_in (k := 15) rfl) (zINI_in (by decide)) zdf5 (Nat.le_of_ble_eq_true rfl) (Nat.le_of_ble_eq_true rfl) dn0_5 (fun q0 H hP hD hS => ?_)
  refine W.widen (k := 1) (n := 12) (Nat.le_of_ble_eq_true rfl) (Nat.le_of_ble_eq_true rfl) ?_
  refine lv_dup hx hb dn0_8 rfl ?_
  refine zn_callI (n := 1) (q := q0) (e0 := .inr (5, zBk5)) (F := zF5 G.2.1) C (zk5 l G q0) rfl rfl zcd5 zii5 zim5 rfl (zKW_in (k := 36) rfl) zds5 ⟨(Nat.le_of_ble_eq_true rfl), (Nat.le_of_ble_eq_true rfl)⟩ ⟨(Nat.le_of_ble_eq_true rfl), (Nat.le_of_ble_eq_true rfl)⟩ hl.1 (lv_room (Nat.le_of_ble_eq_true rfl)) dn0_9 hP hD hS hA rfl rfl (by decide +kernel) (fun a1 H locs hw hP hD hS => ?_)
  replace hw : a1 0 = q0 := hw
  subst hw
  refine W.widen (k := 17) (n := 88) (Nat.le_of_ble_eq_true rfl) (Nat.le_of_ble_eq_true rfl) ?_
  refine zn_put (ci := 0) (k := 0) (j := 0) (fs := [.null, .null, .null, .null, .null, .int 0]) C hin hP hD hS (by decide) rfl rfl (by decide) (by decide) (by decide) rfl rfl rfl (Nat.le_of_ble_eq_true rfl) dn0_12 (fun H locs hP hD hS => ?_)
  obtain ⟨u1, hu1, hP, hD⟩ := zn_cmp (K := 18) (h0 := h0) (F := zS0_1 G.2.1) hP hD rfl (fun j hj => by
    match j, hj with
    | 0, _ => rfl
    | 1, _ => rfl
    | 2, _ => rfl
    | 3, _ => rfl
    | 4, _ => rfl
    | 5, _ => rfl
    | 6, _ => rfl
    | 7, _ => rfl
    | 8, _ => rfl
    | 9, _ => rfl
    | 10, _ => rfl
    | 11, _ => rfl
    | 12, _ => rfl
    | 13, _ => rfl
    | 14, _ => rfl
    | 15, _ => rfl
    | 16, _ => rfl
    | 17, _ => rfl
    | _ + 18, h => exact absurd h (by omega))
  refine lv_aload_n hx hb dn0_15 rfl (lv_at hl 0 rfl) ?_
  refine lv_bipush (v := 36) hx hb dn0_16 rfl ?_
  refine zn_newa (t := 0) (ty := .int) (N := 36) (a0 := (36, .inl (fun _ => 0))) C hP hD hS hA (zKW_in (k := 37) rfl) rfl rfl (fun _ _ => Iff.rfl) (fun _ => rfl) (by decide) (by decide) (by decide) (Nat.le_of_ble_eq_true rfl) (Nat.le_of_ble_eq_true rfl) dn0_18 (fun q2 H hP hD hS => ?_)
  refine W.widen (k := 18) (n := 124) (Nat.le_of_ble_eq_true rfl) (Nat.le_of_ble_eq_true rfl) ?_
  refine zn_put (ci := 0) (k := 1) (j := 0) (fs := [.ref (u1 1), .null, .null, .null, .null, .int 0]) C hin hP hD hS (by decide) rfl hu1 (by decide) (by decide) (by decide) rfl rfl rfl (Nat.le_of_ble_eq_true rfl) dn0_20 (fun H locs hP hD hS => ?_)
  refine lv_aload_n hx hb dn0_23 rfl (lv_at hl 0 rfl) ?_
  refine lv_bipush (v := 36) hx hb dn0_24 rfl ?_
  refine zn_newa (t := 0) (ty := .int) (N := 36) (a0 := (36, .inl (fun _ => 0))) C hP hD hS hA (zKW_in (k := 37) rfl) rfl rfl (fun _ _ => Iff.rfl) (fun _ => rfl) (by decide) (by decide) (by decide) (Nat.le_of_ble_eq_true rfl) (Nat.le_of_ble_eq_true rfl) dn0_26 (fun q3 H hP hD hS => ?_)
  refine W.widen (k := 19) (n := 160) (Nat.le_of_ble_eq_true rfl) (Nat.le_of_ble_eq_true rfl) ?_
  refine zn_put (ci := 0) (k := 2) (j := 0) (fs := [.ref (u1 1), .ref q2, .null, .null, .null, .int 0]) C hin hP hD hS (by decide) rfl hu1 (by decide) (by decide) (by decide) rfl rfl rfl (Nat.le_of_ble_eq_true rfl) dn0_28 (fun H locs hP hD hS => ?_)
  refine lv_aload_n hx hb dn0_31 rfl (lv_at hl 0 rfl) ?_
  refine lv_sipush (v := 256) hx hb dn0_32 rfl ?_
  refine zn_newa (t := 0) (ty := .int) (N := 256) (a0 := (256, .inl (fun _ => 0))) C hP hD hS hA (zKW_in (k := 37) rfl) rfl rfl (fun _ _ => Iff.rfl) (fun _ => rfl) (by decide) (by decide) (by decide) (Nat.le_of_ble_eq_true rfl) (Nat.le_of_ble_eq_true rfl) dn0_35 (fun q4 H hP hD hS => ?_)
  refine W.widen (k := 20) (n := 416) (Nat.le_of_ble_eq_true rfl) (Nat.le_of_ble_eq_true rfl) ?_
  refine zn_put (ci := 0) (k := 3) (j := 0) (fs := [.ref (u1 1), .ref q2, .ref q3, .null, .null, .int 0]) C hin hP hD hS (by decide) rfl hu1 (by decide) (by decide) (by decide) rfl rfl rfl (Nat.le_of_ble_eq_true rfl) dn0_37 (fun H locs hP hD hS => ?_)
  refine lv_aload_n hx hb dn0_40 rfl (lv_at hl 0 rfl) ?_
  refine lv_bipush (v := 6) hx hb dn0_41 rfl ?_
  refine zn_newa (t := 0) (ty := .int) (N := 6) (a0 := (6, .inl (fun _ => 0))) C hP hD hS hA (zKW_in (k := 37) rfl) rfl rfl (fun _ _ => Iff.rfl) (fun _ => rfl) (by decide) (by decide) (by decide) (Nat.le_of_ble_eq_true rfl) (Nat.le_of_ble_eq_true rfl) dn0_43 (fun q5 H hP hD hS => ?_)
  refine W.widen (k := 21) (n := 422) (Nat.le_of_ble_eq_true rfl) (Nat.le_of_ble_eq_true rfl) ?_
  refine zn_put (ci := 0) (k := 4) (j := 0) (fs := [.ref (u1 1), .ref q2, .ref q3, .ref q4, .null, .int 0]) C hin hP hD hS (by decide) rfl hu1 (by decide) (by decide) (by decide) rfl rfl rfl (Nat.le_of_ble_eq_true rfl) dn0_45 (fun H locs hP hD hS => ?_)
  refine lv_aload_n hx hb dn0_48 rfl (lv_at hl 0 rfl) ?_
  refine lv_iconst (v := (-1)) hx hb dn0_49 rfl ?_
  refine zn_put (ci := 0) (k := 5) (j := 0) (fs := [.ref (u1 1), .ref q2, .ref q3, .ref q4, .ref q5, .int 0]) C hin hP hD hS (by decide) rfl hu1 (by decide) (by decide) (by decide) rfl rfl rfl (Nat.le_of_ble_eq_true rfl) dn0_50 (fun H locs hP hD hS => ?_)
  obtain ⟨u, hu0, hP9, hD9⟩ := zn_end (K := 22) (F := zF0 G.2.1) hP hD hu1 (fun j hj => by
    match j, hj with
    | 0, _ => rfl
    | 1, _ => rfl
    | 2, _ => rfl
    | 3, _ => rfl
    | 4, _ => rfl
    | 5, _ => rfl
    | 6, _ => rfl
    | 7, _ => rfl
    | 8, _ => rfl
    | 9, _ => rfl
    | 10, _ => rfl
    | 11, _ => rfl
    | 12, _ => rfl
    | 13, _ => rfl
    | 14, _ => rfl
    | 15, _ => rfl
    | 16, _ => rfl
    | 17, _ => rfl
    | 18, _ => rfl
    | 19, _ => rfl
    | 20, _ => rfl
    | 21, _ => rfl
    | _ + 22, h => exact absurd h (by omega))
  refine W.widen (k := 21) (n := 422) (Nat.le_of_ble_eq_true rfl) (Nat.le_of_ble_eq_true rfl) ?_
  exact W.vret hx hb hr (fun t ht hW => ⟨⟨u, rfl, hu0, by rw [ht]; exact hP9, by rw [hAe]; exact hD9⟩, by rw [hAe]; exact hS.F ht⟩) hS.2.2 dn0_53
theorem dn2_0 : decode cX2_init 0 = .ok (.aload_n 0, 1) := by decide +kernel
theorem dn2_1 : decode cX2_init 1 = .ok (.invokespecial 3, 3) := by decide +kernel
theorem dn2_4 : decode cX2_init 4 = .ok (.aload_n 0, 1) := by decide +kernel
theorem dn2_5 : decode cX2_init 5 = .ok (.new 9, 3) := by decide +kernel
theorem dn2_8 : decode cX2_init 8 = .ok (.dup, 1) := by decide +kernel
theorem dn2_9 : decode cX2_init 9 = .ok (.invokespecial 11, 3) := by decide +kernel
theorem dn2_12 : decode cX2_init 12 = .ok (.putfield 12, 3) := by decide +kernel
theorem dn2_15 : decode cX2_init 15 = .ok (.aload_n 0, 1) := by decide +kernel
theorem dn2_16 : decode cX2_init 16 = .ok (.bipush 40, 2) := by decide +kernel
theorem dn2_18 : decode cX2_init 18 = .ok (.newarray .int, 2) := by decide +kernel
theorem dn2_20 : decode cX2_init 20 = .ok (.putfield 18, 3) := by decide +kernel
theorem dn2_23 : decode cX2_init 23 = .ok (.return_, 1) := by decide +kernel
def zF2 (T : Nat → ClassId) (a : Nat → Nat) : Nat → va_E
  | 0 => .inr (2, [.ref (a 1), .ref (a 18), .int 0, .int 0])
  | 1 => .inr (5, [.int 0, .int 0, .int 0, .int 0, .int 0, .int 0, .int 0, .int 0, .int 0, .int 0, .ref (a 2), .ref (a 3)])
  | 2 => .inl (T 5, 8, .inr (.inr (.inr (.inr (zUp (fun i => a (4 + 1 * i)) 8)))))
  | 3 => .inl (T 6, 6, .inr (.inr (.inr (.inr (zUp (fun i => a (12 + 1 * i)) 6)))))
  | 4 => .inr (4, [.int 0, .int 0, .int 0, .int 0])
  | 5 => .inr (4, [.int 0, .int 0, .int 0, .int 0])
  | 6 => .inr (4, [.int 0, .int 0, .int 0, .int 0])
  | 7 => .inr (4, [.int 0, .int 0, .int 0, .int 0])
  | 8 => .inr (4, [.int 0, .int 0, .int 0, .int 0])
  | 9 => .inr (4, [.int 0, .int 0, .int 0, .int 0])
  | 10 => .inr (4, [.int 0, .int 0, .int 0, .int 0])
  | 11 => .inr (4, [.int 0, .int 0, .int 0, .int 0])
  | 12 => .inr (1, [.int 0, .int 0, .int 0, .int 0, .int 0])
  | 13 => .inr (1, [.int 0, .int 0, .int 0, .int 0, .int 0])
  | 14 => .inr (1, [.int 0, .int 0, .int 0, .int 0, .int 0])
  | 15 => .inr (1, [.int 0, .int 0, .int 0, .int 0, .int 0])
  | 16 => .inr (1, [.int 0, .int 0, .int 0, .int 0, .int 0])
  | 17 => .inr (1, [.int 0, .int 0, .int 0, .int 0, .int 0])
  | 18 => .inl (T 1, 40, .inl (fun _ => 0))
  | _ => .inr (0, [])
def zS2_1 (T : Nat → ClassId) (a : Nat → Nat) : Nat → va_E := zUe (zF2 T a) 0 (.inr (2, [.ref (a 1), .null, .int 0, .int 0]))
set_option maxHeartbeats 4000000 in
set_option maxRecDepth 100000 in
theorem zk2 (l : Launch) (G : zG) (h0 sz : Nat) : Met l yX2_init (.code yX2_init cX2_init 1 none :: zBIG) { frames := 3, cells := 18, slots := 128, locals := 53 } (zPn G h0 sz (.inr (2, zBk2))) (zQn G h0 sz (.inr (2, zBk2)) 19 (zF2 G.2.1)) 18 128 (va_A [(h0, .inr (2, zBk2))] sz) := by
  refine Met.ofW (cc := cX2_init) (maxL := 1) (ret := none) (by decide) rfl ?_
  intro p e s m args below meth c s₁ B hml hv
  obtain ⟨rfl, hsz, hP, hCn⟩ := hv
  have hx := B.exec
  have hb := B.bytes
  have hr := B.returns
  have hts0 := atoms_spec (ws := .code yX2_init cX2_init 1 none :: zBIG) B.pre
  have hts : ∀ w ∈ zBIG, w.before _ s = true := fun w h => hts0 w (List.mem_cons_of_mem _ h)
  have hown : s.vm.findClass (zCN 2) = some m.cls := findClass_of_methodNamed B.named
  have hlocks := B.notSynchronized
  have hin : meth.name = "<init>" := (name_of_methodNamed B.named B.method).1
  have C : zMc p s m _ c cX2_init 1 2 G := ⟨hx, hb, hml, hown, hts, hCn⟩
  subst hsz
  replace hP : va_P G.1 zcl12 (zL (fun _ => h0) (fun _ => .inr (2, zBk2)) 1) s.heap := hP
  have hD : va_D (va_A [(h0, .inr (2, zBk2))] s.heap.size) (zL (fun _ => h0) (fun _ => .inr (2, zBk2)) 1) := zn_D1
  generalize hAe : va_A [(h0, .inr (2, zBk2))] s.heap.size = A at hD ⊢
  have hA : ∀ q : Nat, s.heap.size ≤ q → A q := fun q h => by rw [← hAe]; exact Or.inr h
  have hS : va_S A s.heap s.heap [] := va_S.rf
  have hl := lv_entry ([.ref h0]) (n := 1) (Nat.le_of_ble_eq_true rfl)
  rw [lg_entry_eq]
  generalize (lg_sl ([.ref h0]) ++ List.replicate (1 - (lg_sl ([.ref h0])).length) Slot.unset).toArray = ls at hl ⊢
  replace hl : lv_has ls 1 [(0, .ref h0)] := hl
  refine lv_aload_n hx hb dn2_0 rfl (lv_at hl 0 rfl) ?_
  refine W.objInit hx hb hown (hts _ (zKW_in (k := 60) rfl)) (hts _ (zKW_in (k := 6) rfl)) (hts _ (zKW_in (k := 7) rfl)) rfl (by rw [hml]; exact hl.1) rfl dn2_1 (Nat.le_of_ble_eq_true rfl) (Nat.le_of_ble_eq_true rfl) ?_
  refine W.eq (g2 := F0 m 4 ls []) rfl ?_
  refine lv_aload_n hx hb dn2_4 rfl (lv_at hl 0 rfl) ?_
  refine zn_new (ci := 5) (fs := zBk5) C hP hD hS hA (by decide) (zKW_in (k := 61) rfl) (zKW_in (k := 15) rfl) (zINI_in (by decide)) zdf5 (Nat.le_of_ble_eq_true rfl) (Nat.le_of_ble_eq_true rfl) dn2_5 (fun q0 H hP hD hS => ?_)
  refine W.widen (k := 1) (n := 12) (Nat.le_of_ble_eq_true rfl) (Nat.le_of_ble_eq_true rfl) ?_
  refine lv_dup hx hb dn2_8 rfl ?_
  refine zn_callI (n := 1) (q := q0) (e0 := .inr (5, zBk5)) (F := zF5 G.2.1) C (zk5 l G q0) rfl rfl zcd5 zii5 zim5 rfl (zKW_in (k := 62) rfl) zds5 ⟨(Nat.le_of_ble_eq_true rfl), (Nat.le_of_ble_eq_true rfl)⟩ ⟨(Nat.le_of_ble_eq_true rfl), (Nat.le_of_ble_eq_true rfl)⟩ hl.1 (lv_room (Nat.le_of_ble_eq_true rfl)) dn2_9 hP hD hS hA rfl rfl (by decide +kernel) (fun a1 H locs hw hP hD hS => ?_)
  replace hw : a1 0 = q0 := hw
  subst hw
  refine W.widen (k := 17) (n := 88) (Nat.le_of_ble_eq_true rfl) (Nat.le_of_ble_eq_true rfl) ?_
  refine zn_put (ci := 2) (k := 0) (j := 0) (fs := [.null, .null, .int 0, .int 0]) C hin hP hD hS (by decide) rfl rfl (by decide) (by decide) (by decide) rfl rfl rfl (Nat.le_of_ble_eq_true rfl) dn2_12 (fun H locs hP hD hS => ?_)
  obtain ⟨u1, hu1, hP, hD⟩ := zn_cmp (K := 18) (h0 := h0) (F := zS2_1 G.2.1) hP hD rfl (fun j hj => by
    match j, hj with
    | 0, _ => rfl
    | 1, _ => rfl
    | 2, _ => rfl
    | 3, _ => rfl
    | 4, _ => rfl
    | 5, _ => rfl
    | 6, _ => rfl
    | 7, _ => rfl
    | 8, _ => rfl
    | 9, _ => rfl
    | 10, _ => rfl
    | 11, _ => rfl
    | 12, _ => rfl
    | 13, _ => rfl
    | 14, _ => rfl
    | 15, _ => rfl
    | 16, _ => rfl
    | 17, _ => rfl
    | _ + 18, h => exact absurd h (by omega))
  refine lv_aload_n hx hb dn2_15 rfl (lv_at hl 0 rfl) ?_
  refine lv_bipush (v := 40) hx hb dn2_16 rfl ?_
  refine zn_newa (t := 0) (ty := .int) (N := 40) (a0 := (40, .inl (fun _ => 0))) C hP hD hS hA (zKW_in (k := 37) rfl) rfl rfl (fun _ _ => Iff.rfl) (fun _ => rfl) (by decide) (by decide) (by decide) (Nat.le_of_ble_eq_true rfl) (Nat.le_of_ble_eq_true rfl) dn2_18 (fun q2 H hP hD hS => ?_)
  refine W.widen (k := 18) (n := 128) (Nat.le_of_ble_eq_true rfl) (Nat.le_of_ble_eq_true rfl) ?_
  refine zn_put (ci := 2) (k := 1) (j := 0) (fs := [.ref (u1 1), .null, .int 0, .int 0]) C hin hP hD hS (by decide) rfl hu1 (by decide) (by decide) (by decide) rfl rfl rfl (Nat.le_of_ble_eq_true rfl) dn2_20 (fun H locs hP hD hS => ?_)
  obtain ⟨u, hu0, hP9, hD9⟩ := zn_end (K := 19) (F := zF2 G.2.1) hP hD hu1 (fun j hj => by
    match j, hj with
    | 0, _ => rfl
    | 1, _ => rfl
    | 2, _ => rfl
    | 3, _ => rfl
    | 4, _ => rfl
    | 5, _ => rfl
    | 6, _ => rfl
    | 7, _ => rfl
    | 8, _ => rfl
    | 9, _ => rfl
    | 10, _ => rfl
    | 11, _ => rfl
    | 12, _ => rfl
    | 13, _ => rfl
    | 14, _ => rfl
    | 15, _ => rfl
    | 16, _ => rfl
    | 17, _ => rfl
    | 18, _ => rfl
    | _ + 19, h => exact absurd h (by omega))
  refine W.widen (k := 18) (n := 128) (Nat.le_of_ble_eq_true rfl) (Nat.le_of_ble_eq_true rfl) ?_
  exact W.vret hx hb hr (fun t ht hW => ⟨⟨u, rfl, hu0, by rw [ht]; exact hP9, by rw [hAe]; exact hD9⟩, by rw [hAe]; exact hS.F ht⟩) hS.2.2 dn2_23
theorem dn3_0 : decode cX3_init 0 = .ok (.aload_n 0, 1) := by decide +kernel
theorem dn3_1 : decode cX3_init 1 = .ok (.invokespecial 3, 3) := by decide +kernel
theorem dn3_4 : decode cX3_init 4 = .ok (.aload_n 0, 1) := by decide +kernel
theorem dn3_5 : decode cX3_init 5 = .ok (.iconst 4, 1) := by decide +kernel
theorem dn3_6 : decode cX3_init 6 = .ok (.newarray .int, 2) := by decide +kernel
theorem dn3_8 : decode cX3_init 8 = .ok (.putfield 9, 3) := by decide +kernel
theorem dn3_11 : decode cX3_init 11 = .ok (.aload_n 0, 1) := by decide +kernel
theorem dn3_12 : decode cX3_init 12 = .ok (.iconst 5, 1) := by decide +kernel
theorem dn3_13 : decode cX3_init 13 = .ok (.anewarray 15, 3) := by decide +kernel
theorem dn3_16 : decode cX3_init 16 = .ok (.putfield 17, 3) := by decide +kernel
theorem dn3_19 : decode cX3_init 19 = .ok (.iconst 0, 1) := by decide +kernel
theorem dn3_20 : decode cX3_init 20 = .ok (.istore_n 1, 1) := by decide +kernel
theorem dn3_21 : decode cX3_init 21 = .ok (.iload_n 1, 1) := by decide +kernel
theorem dn3_22 : decode cX3_init 22 = .ok (.iconst 4, 1) := by decide +kernel
theorem dn3_23 : decode cX3_init 23 = .ok (.if_icmp .gt 22, 3) := by decide +kernel
theorem dn3_26 : decode cX3_init 26 = .ok (.aload_n 0, 1) := by decide +kernel
theorem dn3_27 : decode cX3_init 27 = .ok (.getfield 17, 3) := by decide +kernel
theorem dn3_30 : decode cX3_init 30 = .ok (.iload_n 1, 1) := by decide +kernel
theorem dn3_31 : decode cX3_init 31 = .ok (.new 15, 3) := by decide +kernel
theorem dn3_34 : decode cX3_init 34 = .ok (.dup, 1) := by decide +kernel
theorem dn3_35 : decode cX3_init 35 = .ok (.invokespecial 21, 3) := by decide +kernel
theorem dn3_38 : decode cX3_init 38 = .ok (.aastore, 1) := by decide +kernel
theorem dn3_39 : decode cX3_init 39 = .ok (.iinc 1 1, 3) := by decide +kernel
theorem dn3_42 : decode cX3_init 42 = .ok (.goto (-21), 3) := by decide +kernel
theorem dn3_45 : decode cX3_init 45 = .ok (.return_, 1) := by decide +kernel
def zF3 (T : Nat → ClassId) (a : Nat → Nat) : Nat → va_E
  | 0 => .inr (3, [.ref (a 1), .ref (a 2), .int 0, .int 0])
  | 1 => .inl (T 1, 4, .inl (fun _ => 0))
  | 2 => .inl (T 7, 5, .inr (.inr (.inr (.inr (zUp (fun i => a (3 + 2 * i)) 5)))))
  | 3 => .inr (7, [.int 0, .int 0, .int 0, .int 0, .int 0, .int 0, .ref (a 4)])
  | 4 => .inl (T 1, 8, .inl (fun _ => 0))
  | 5 => .inr (7, [.int 0, .int 0, .int 0, .int 0, .int 0, .int 0, .ref (a 6)])
  | 6 => .inl (T 1, 8, .inl (fun _ => 0))
  | 7 => .inr (7, [.int 0, .int 0, .int 0, .int 0, .int 0, .int 0, .ref (a 8)])
  | 8 => .inl (T 1, 8, .inl (fun _ => 0))
  | 9 => .inr (7, [.int 0, .int 0, .int 0, .int 0, .int 0, .int 0, .ref (a 10)])
  | 10 => .inl (T 1, 8, .inl (fun _ => 0))
  | 11 => .inr (7, [.int 0, .int 0, .int 0, .int 0, .int 0, .int 0, .ref (a 12)])
  | 12 => .inl (T 1, 8, .inl (fun _ => 0))
  | _ => .inr (0, [])
def zS3_1 (T : Nat → ClassId) (a : Nat → Nat) : Nat → va_E := zUe (zF3 T a) 2 (.inl (T 7, 5, .inr (.inr (.inr (.inr (zUp (fun i => a (3 + 2 * i)) 1))))))
def zS3_2 (T : Nat → ClassId) (a : Nat → Nat) : Nat → va_E := zUe (zF3 T a) 2 (.inl (T 7, 5, .inr (.inr (.inr (.inr (zUp (fun i => a (3 + 2 * i)) 2))))))
def zS3_3 (T : Nat → ClassId) (a : Nat → Nat) : Nat → va_E := zUe (zF3 T a) 2 (.inl (T 7, 5, .inr (.inr (.inr (.inr (zUp (fun i => a (3 + 2 * i)) 3))))))
def zS3_4 (T : Nat → ClassId) (a : Nat → Nat) : Nat → va_E := zUe (zF3 T a) 2 (.inl (T 7, 5, .inr (.inr (.inr (.inr (zUp (fun i => a (3 + 2 * i)) 4))))))
def zS3_5 (T : Nat → ClassId) (a : Nat → Nat) : Nat → va_E := zF3 T a
set_option maxHeartbeats 4000000 in
set_option maxRecDepth 100000 in
theorem zk3 (l : Launch) (G : zG) (h0 sz : Nat) : Met l yX3_init (.code yX3_init cX3_init 2 none :: zBIG) { frames := 2, cells := 12, slots := 84, locals := 32 } (zPn G h0 sz (.inr (3, zBk3))) (zQn G h0 sz (.inr (3, zBk3)) 13 (zF3 G.2.1)) 12 84 (va_A [(h0, .inr (3, zBk3))] sz) := by
  refine Met.ofW (cc := cX3_init) (maxL := 2) (ret := none) (by decide) rfl ?_
  intro p e s m args below meth c s₁ B hml hv
  obtain ⟨rfl, hsz, hP, hCn⟩ := hv
  have hx := B.exec
  have hb := B.bytes
  have hr := B.returns
  have hts0 := atoms_spec (ws := .code yX3_init cX3_init 2 none :: zBIG) B.pre
  have hts : ∀ w ∈ zBIG, w.before _ s = true := fun w h => hts0 w (List.mem_cons_of_mem _ h)
  have hown : s.vm.findClass (zCN 3) = some m.cls := findClass_of_methodNamed B.named
  have hlocks := B.notSynchronized
  have hin : meth.name = "<init>" := (name_of_methodNamed B.named B.method).1
  have C : zMc p s m _ c cX3_init 2 3 G := ⟨hx, hb, hml, hown, hts, hCn⟩
  subst hsz
  replace hP : va_P G.1 zcl12 (zL (fun _ => h0) (fun _ => .inr (3, zBk3)) 1) s.heap := hP
  have hD : va_D (va_A [(h0, .inr (3, zBk3))] s.heap.size) (zL (fun _ => h0) (fun _ => .inr (3, zBk3)) 1) := zn_D1
  generalize hAe : va_A [(h0, .inr (3, zBk3))] s.heap.size = A at hD ⊢
  have hA : ∀ q : Nat, s.heap.size ≤ q → A q := fun q h => by rw [← hAe]; exact Or.inr h
  have hS : va_S A s.heap s.heap [] := va_S.rf
  have hl := lv_entry ([.ref h0]) (n := 2) (Nat.le_of_ble_eq_true rfl)
  rw [lg_entry_eq]
  generalize (lg_sl ([.ref h0]) ++ List.replicate (2 - (lg_sl ([.ref h0])).length) Slot.unset).toArray = ls at hl ⊢
  replace hl : lv_has ls 2 [(0, .ref h0)] := hl
  refine lv_aload_n hx hb dn3_0 rfl (lv_at hl 0 rfl) ?_
  refine W.objInit hx hb hown (hts _ (zKW_in (k := 48) rfl)) (hts _ (zKW_in (k := 6) rfl)) (hts _ (zKW_in (k := 7) rfl)) rfl (by rw [hml]; exact hl.1) rfl dn3_1 (Nat.le_of_ble_eq_true rfl) (Nat.le_of_ble_eq_true rfl) ?_
  refine W.eq (g2 := F0 m 4 ls []) rfl ?_
  refine lv_aload_n hx hb dn3_4 rfl (lv_at hl 0 rfl) ?_
  refine lv_iconst (v := 4) hx hb dn3_5 rfl ?_
  refine zn_newa (t := 0) (ty := .int) (N := 4) (a0 := (4, .inl (fun _ => 0))) C hP hD hS hA (zKW_in (k := 37) rfl) rfl rfl (fun _ _ => Iff.rfl) (fun _ => rfl) (by decide) (by decide) (by decide) (Nat.le_of_ble_eq_true rfl) (Nat.le_of_ble_eq_true rfl) dn3_6 (fun q0 H hP hD hS => ?_)
  refine W.widen (k := 1) (n := 4) (Nat.le_of_ble_eq_true rfl) (Nat.le_of_ble_eq_true rfl) ?_
  refine zn_put (ci := 3) (k := 0) (j := 0) (fs := [.null, .null, .int 0, .int 0]) C hin hP hD hS (by decide) rfl rfl (by decide) (by decide) (by decide) rfl rfl rfl (Nat.le_of_ble_eq_true rfl) dn3_8 (fun H locs hP hD hS => ?_)
  refine lv_aload_n hx hb dn3_11 rfl (lv_at hl 0 rfl) ?_
  refine lv_iconst (v := 5) hx hb dn3_12 rfl ?_
  refine zn_newq (t := 6) (N := 5) C hP hD hS hA (zKW_in (k := 49) rfl) C.2.2.2.2.2.2.1.2.2.1 rfl (by decide) (by decide) (by decide) (Nat.le_of_ble_eq_true rfl) (Nat.le_of_ble_eq_true rfl) dn3_13 (fun q1 H hP hD hS => ?_)
  refine W.widen (k := 2) (n := 9) (Nat.le_of_ble_eq_true rfl) (Nat.le_of_ble_eq_true rfl) ?_
  refine zn_put (ci := 3) (k := 1) (j := 0) (fs := [.ref q0, .null, .int 0, .int 0]) C hin hP hD hS (by decide) rfl rfl (by decide) (by decide) (by decide) rfl rfl rfl (Nat.le_of_ble_eq_true rfl) dn3_16 (fun H locs hP hD hS => ?_)
  refine lv_iconst (v := 0) hx hb dn3_19 rfl ?_
  refine lv_istore_n (lv' := [(1, .int 0), (0, .ref h0)]) hx hb dn3_20 rfl hl (by decide) rfl (fun ls hl => ?_)
  refine lv_iload_n hx hb dn3_21 rfl (lv_at hl 0 rfl) ?_
  refine lv_iconst (v := 4) hx hb dn3_22 rfl ?_
  refine lv_icmp_gt (tgt := 45) hx hb dn3_23 (by decide) (fun z => absurd z (by decide)) (fun _ => ?_)
  refine lv_aload_n hx hb dn3_26 rfl (lv_at hl 1 rfl) ?_
  refine zn_get (ci := 3) (k := 1) (j := 0) (fs := [.ref q0, .ref q1, .int 0, .int 0]) (v := .ref q1) C hP (by decide) rfl rfl (by decide) (by decide) (by decide) rfl dn3_27 ?_
  refine lv_iload_n hx hb dn3_30 rfl (lv_at hl 0 rfl) ?_
  refine zn_new (ci := 7) (fs := zBk7) C hP hD hS hA (by decide) (zKW_in (k := 49) rfl) (zKW_in (k := 39) rfl) (zINI_in (by decide)) zdf7 (Nat.le_of_ble_eq_true rfl) (Nat.le_of_ble_eq_true rfl) dn3_31 (fun q2 H hP hD hS => ?_)
  refine W.widen (k := 3) (n := 16) (Nat.le_of_ble_eq_true rfl) (Nat.le_of_ble_eq_true rfl) ?_
  refine lv_dup hx hb dn3_34 rfl ?_
  refine zn_callN (n := 3) (q := q2) (e0 := .inr (7, zBk7)) (F := zF7 G.2.1) C (zk7 l G q2) rfl rfl zcd7 zii7 zim7 rfl (C.2.2.2.2.2.2.2 5 (3, 21, yX7_init) rfl) zds7 ⟨(Nat.le_of_ble_eq_true rfl), (Nat.le_of_ble_eq_true rfl)⟩ ⟨(Nat.le_of_ble_eq_true rfl), (Nat.le_of_ble_eq_true rfl)⟩ hl.1 (lv_room (Nat.le_of_ble_eq_true rfl)) dn3_35 hP hD hS hA rfl rfl (by decide +kernel) (fun a3 H locs hw hP hD hS => ?_)
  replace hw : a3 0 = q2 := hw
  subst hw
  refine W.widen (k := 4) (n := 24) (Nat.le_of_ble_eq_true rfl) (Nat.le_of_ble_eq_true rfl) ?_
  refine zn_astq (t := 6) (j := 2) (k := 3) (ci := 7) (N := 5) C hP hD hS (by decide) rfl rfl rfl (by decide) rfl rfl rfl (zvin rfl) dn3_38 (fun H locs hP hD hS => ?_)
  obtain ⟨u1, hu1, hP, hD⟩ := zn_cmp (K := 5) (h0 := h0) (F := zS3_1 G.2.1) hP hD rfl (fun j hj => by
    match j, hj with
    | 0, _ => rfl
    | 1, _ => rfl
    | 2, _ => rfl
    | 3, _ => rfl
    | 4, _ => rfl
    | _ + 5, h => exact absurd h (by omega))
  refine lv_iinc (v := 1) (lv' := [(1, .int 1), (0, .ref h0)]) hx hb dn3_39 hl (k := 0) rfl (by decide) (by decide) rfl (fun ls hl => ?_)
  refine lv_goto (tgt := 21) hx hb dn3_42 (by decide) ?_
  refine lv_iload_n hx hb dn3_21 rfl (lv_at hl 0 rfl) ?_
  refine lv_iconst (v := 4) hx hb dn3_22 rfl ?_
  refine lv_icmp_gt (tgt := 45) hx hb dn3_23 (by decide) (fun z => absurd z (by decide)) (fun _ => ?_)
  refine lv_aload_n hx hb dn3_26 rfl (lv_at hl 1 rfl) ?_
  refine zn_get (ci := 3) (k := 1) (j := 0) (fs := [.ref (u1 1), .ref (u1 2), .int 0, .int 0]) (v := .ref (u1 2)) C hP (by decide) rfl hu1 (by decide) (by decide) (by decide) rfl dn3_27 ?_
  refine lv_iload_n hx hb dn3_30 rfl (lv_at hl 0 rfl) ?_
  refine zn_new (ci := 7) (fs := zBk7) C hP hD hS hA (by decide) (zKW_in (k := 49) rfl) (zKW_in (k := 39) rfl) (zINI_in (by decide)) zdf7 (Nat.le_of_ble_eq_true rfl) (Nat.le_of_ble_eq_true rfl) dn3_31 (fun q4 H hP hD hS => ?_)
  refine W.widen (k := 5) (n := 31) (Nat.le_of_ble_eq_true rfl) (Nat.le_of_ble_eq_true rfl) ?_
  refine lv_dup hx hb dn3_34 rfl ?_
  refine zn_callN (n := 5) (q := q4) (e0 := .inr (7, zBk7)) (F := zF7 G.2.1) C (zk7 l G q4) rfl rfl zcd7 zii7 zim7 rfl (C.2.2.2.2.2.2.2 5 (3, 21, yX7_init) rfl) zds7 ⟨(Nat.le_of_ble_eq_true rfl), (Nat.le_of_ble_eq_true rfl)⟩ ⟨(Nat.le_of_ble_eq_true rfl), (Nat.le_of_ble_eq_true rfl)⟩ hl.1 (lv_room (Nat.le_of_ble_eq_true rfl)) dn3_35 hP hD hS hA rfl rfl (by decide +kernel) (fun a5 H locs hw hP hD hS => ?_)
  replace hw : a5 0 = q4 := hw
  subst hw
  refine W.widen (k := 6) (n := 39) (Nat.le_of_ble_eq_true rfl) (Nat.le_of_ble_eq_true rfl) ?_
  refine zn_astq (t := 6) (j := 2) (k := 5) (ci := 7) (N := 5) C hP hD hS (by decide) rfl rfl rfl (by decide) rfl rfl rfl (zvin rfl) dn3_38 (fun H locs hP hD hS => ?_)
  obtain ⟨u2, hu2, hP, hD⟩ := zn_cmp (K := 7) (h0 := h0) (F := zS3_2 G.2.1) hP hD hu1 (fun j hj => by
    match j, hj with
    | 0, _ => rfl
    | 1, _ => rfl
    | 2, _ => rfl
    | 3, _ => rfl
    | 4, _ => rfl
    | 5, _ => rfl
    | 6, _ => rfl
    | _ + 7, h => exact absurd h (by omega))
  refine lv_iinc (v := 2) (lv' := [(1, .int 2), (0, .ref h0)]) hx hb dn3_39 hl (k := 0) rfl (by decide) (by decide) rfl (fun ls hl => ?_)
  refine lv_goto (tgt := 21) hx hb dn3_42 (by decide) ?_
  refine lv_iload_n hx hb dn3_21 rfl (lv_at hl 0 rfl) ?_
  refine lv_iconst (v := 4) hx hb dn3_22 rfl ?_
  refine lv_icmp_gt (tgt := 45) hx hb dn3_23 (by decide) (fun z => absurd z (by decide)) (fun _ => ?_)
  refine lv_aload_n hx hb dn3_26 rfl (lv_at hl 1 rfl) ?_
  refine zn_get (ci := 3) (k := 1) (j := 0) (fs := [.ref (u2 1), .ref (u2 2), .int 0, .int 0]) (v := .ref (u2 2)) C hP (by decide) rfl hu2 (by decide) (by decide) (by decide) rfl dn3_27 ?_
  refine lv_iload_n hx hb dn3_30 rfl (lv_at hl 0 rfl) ?_
  refine zn_new (ci := 7) (fs := zBk7) C hP hD hS hA (by decide) (zKW_in (k := 49) rfl) (zKW_in (k := 39) rfl) (zINI_in (by decide)) zdf7 (Nat.le_of_ble_eq_true rfl) (Nat.le_of_ble_eq_true rfl) dn3_31 (fun q6 H hP hD hS => ?_)
  refine W.widen (k := 7) (n := 46) (Nat.le_of_ble_eq_true rfl) (Nat.le_of_ble_eq_true rfl) ?_
  refine lv_dup hx hb dn3_34 rfl ?_
  refine zn_callN (n := 7) (q := q6) (e0 := .inr (7, zBk7)) (F := zF7 G.2.1) C (zk7 l G q6) rfl rfl zcd7 zii7 zim7 rfl (C.2.2.2.2.2.2.2 5 (3, 21, yX7_init) rfl) zds7 ⟨(Nat.le_of_ble_eq_true rfl), (Nat.le_of_ble_eq_true rfl)⟩ ⟨(Nat.le_of_ble_eq_true rfl), (Nat.le_of_ble_eq_true rfl)⟩ hl.1 (lv_room (Nat.le_of_ble_eq_true rfl)) dn3_35 hP hD hS hA rfl rfl (by decide +kernel) (fun a7 H locs hw hP hD hS => ?_)
  replace hw : a7 0 = q6 := hw
  subst hw
  refine W.widen (k := 8) (n := 54) (Nat.le_of_ble_eq_true rfl) (Nat.le_of_ble_eq_true rfl) ?_
  refine zn_astq (t := 6) (j := 2) (k := 7) (ci := 7) (N := 5) C hP hD hS (by decide) rfl rfl rfl (by decide) rfl rfl rfl (zvin rfl) dn3_38 (fun H locs hP hD hS => ?_)
  obtain ⟨u3, hu3, hP, hD⟩ := zn_cmp (K := 9) (h0 := h0) (F := zS3_3 G.2.1) hP hD hu2 (fun j hj => by
    match j, hj with
    | 0, _ => rfl
    | 1, _ => rfl
    | 2, _ => rfl
    | 3, _ => rfl
    | 4, _ => rfl
    | 5, _ => rfl
    | 6, _ => rfl
    | 7, _ => rfl
    | 8, _ => rfl
    | _ + 9, h => exact absurd h (by omega))
  refine lv_iinc (v := 3) (lv' := [(1, .int 3), (0, .ref h0)]) hx hb dn3_39 hl (k := 0) rfl (by decide) (by decide) rfl (fun ls hl => ?_)
  refine lv_goto (tgt := 21) hx hb dn3_42 (by decide) ?_
  refine lv_iload_n hx hb dn3_21 rfl (lv_at hl 0 rfl) ?_
  refine lv_iconst (v := 4) hx hb dn3_22 rfl ?_
  refine lv_icmp_gt (tgt := 45) hx hb dn3_23 (by decide) (fun z => absurd z (by decide)) (fun _ => ?_)
  refine lv_aload_n hx hb dn3_26 rfl (lv_at hl 1 rfl) ?_
  refine zn_get (ci := 3) (k := 1) (j := 0) (fs := [.ref (u3 1), .ref (u3 2), .int 0, .int 0]) (v := .ref (u3 2)) C hP (by decide) rfl hu3 (by decide) (by decide) (by decide) rfl dn3_27 ?_
  refine lv_iload_n hx hb dn3_30 rfl (lv_at hl 0 rfl) ?_
  refine zn_new (ci := 7) (fs := zBk7) C hP hD hS hA (by decide) (zKW_in (k := 49) rfl) (zKW_in (k := 39) rfl) (zINI_in (by decide)) zdf7 (Nat.le_of_ble_eq_true rfl) (Nat.le_of_ble_eq_true rfl) dn3_31 (fun q8 H hP hD hS => ?_)
  refine W.widen (k := 9) (n := 61) (Nat.le_of_ble_eq_true rfl) (Nat.le_of_ble_eq_true rfl) ?_
  refine lv_dup hx hb dn3_34 rfl ?_
  refine zn_callN (n := 9) (q := q8) (e0 := .inr (7, zBk7)) (F := zF7 G.2.1) C (zk7 l G q8) rfl rfl zcd7 zii7 zim7 rfl (C.2.2.2.2.2.2.2 5 (3, 21, yX7_init) rfl) zds7 ⟨(Nat.le_of_ble_eq_true rfl), (Nat.le_of_ble_eq_true rfl)⟩ ⟨(Nat.le_of_ble_eq_true rfl), (Nat.le_of_ble_eq_true rfl)⟩ hl.1 (lv_room (Nat.le_of_ble_eq_true rfl)) dn3_35 hP hD hS hA rfl rfl (by decide +kernel) (fun a9 H locs hw hP hD hS => ?_)
  replace hw : a9 0 = q8 := hw
  subst hw
  refine W.widen (k := 10) (n := 69) (Nat.le_of_ble_eq_true rfl) (Nat.le_of_ble_eq_true rfl) ?_
  refine zn_astq (t := 6) (j := 2) (k := 9) (ci := 7) (N := 5) C hP hD hS (by decide) rfl rfl rfl (by decide) rfl rfl rfl (zvin rfl) dn3_38 (fun H locs hP hD hS => ?_)
  obtain ⟨u4, hu4, hP, hD⟩ := zn_cmp (K := 11) (h0 := h0) (F := zS3_4 G.2.1) hP hD hu3 (fun j hj => by
    match j, hj with
    | 0, _ => rfl
    | 1, _ => rfl
    | 2, _ => rfl
    | 3, _ => rfl
    | 4, _ => rfl
    | 5, _ => rfl
    | 6, _ => rfl
    | 7, _ => rfl
    | 8, _ => rfl
    | 9, _ => rfl
    | 10, _ => rfl
    | _ + 11, h => exact absurd h (by omega))
  refine lv_iinc (v := 4) (lv' := [(1, .int 4), (0, .ref h0)]) hx hb dn3_39 hl (k := 0) rfl (by decide) (by decide) rfl (fun ls hl => ?_)
  refine lv_goto (tgt := 21) hx hb dn3_42 (by decide) ?_
  refine lv_iload_n hx hb dn3_21 rfl (lv_at hl 0 rfl) ?_
  refine lv_iconst (v := 4) hx hb dn3_22 rfl ?_
  refine lv_icmp_gt (tgt := 45) hx hb dn3_23 (by decide) (fun z => absurd z (by decide)) (fun _ => ?_)
  refine lv_aload_n hx hb dn3_26 rfl (lv_at hl 1 rfl) ?_
  refine zn_get (ci := 3) (k := 1) (j := 0) (fs := [.ref (u4 1), .ref (u4 2), .int 0, .int 0]) (v := .ref (u4 2)) C hP (by decide) rfl hu4 (by decide) (by decide) (by decide) rfl dn3_27 ?_
  refine lv_iload_n hx hb dn3_30 rfl (lv_at hl 0 rfl) ?_
  refine zn_new (ci := 7) (fs := zBk7) C hP hD hS hA (by decide) (zKW_in (k := 49) rfl) (zKW_in (k := 39) rfl) (zINI_in (by decide)) zdf7 (Nat.le_of_ble_eq_true rfl) (Nat.le_of_ble_eq_true rfl) dn3_31 (fun q10 H hP hD hS => ?_)
  refine W.widen (k := 11) (n := 76) (Nat.le_of_ble_eq_true rfl) (Nat.le_of_ble_eq_true rfl) ?_
  refine lv_dup hx hb dn3_34 rfl ?_
  refine zn_callN (n := 11) (q := q10) (e0 := .inr (7, zBk7)) (F := zF7 G.2.1) C (zk7 l G q10) rfl rfl zcd7 zii7 zim7 rfl (C.2.2.2.2.2.2.2 5 (3, 21, yX7_init) rfl) zds7 ⟨(Nat.le_of_ble_eq_true rfl), (Nat.le_of_ble_eq_true rfl)⟩ ⟨(Nat.le_of_ble_eq_true rfl), (Nat.le_of_ble_eq_true rfl)⟩ hl.1 (lv_room (Nat.le_of_ble_eq_true rfl)) dn3_35 hP hD hS hA rfl rfl (by decide +kernel) (fun a11 H locs hw hP hD hS => ?_)
  replace hw : a11 0 = q10 := hw
  subst hw
  refine W.widen (k := 12) (n := 84) (Nat.le_of_ble_eq_true rfl) (Nat.le_of_ble_eq_true rfl) ?_
  refine zn_astq (t := 6) (j := 2) (k := 11) (ci := 7) (N := 5) C hP hD hS (by decide) rfl rfl rfl (by decide) rfl rfl rfl (zvin rfl) dn3_38 (fun H locs hP hD hS => ?_)
  obtain ⟨u5, hu5, hP, hD⟩ := zn_cmp (K := 13) (h0 := h0) (F := zS3_5 G.2.1) hP hD hu4 (fun j hj => by
    match j, hj with
    | 0, _ => rfl
    | 1, _ => rfl
    | 2, _ => rfl
    | 3, _ => rfl
    | 4, _ => rfl
    | 5, _ => rfl
    | 6, _ => rfl
    | 7, _ => rfl
    | 8, _ => rfl
    | 9, _ => rfl
    | 10, _ => rfl
    | 11, _ => rfl
    | 12, _ => rfl
    | _ + 13, h => exact absurd h (by omega))
  refine lv_iinc (v := 5) (lv' := [(1, .int 5), (0, .ref h0)]) hx hb dn3_39 hl (k := 0) rfl (by decide) (by decide) rfl (fun ls hl => ?_)
  refine lv_goto (tgt := 21) hx hb dn3_42 (by decide) ?_
  refine lv_iload_n hx hb dn3_21 rfl (lv_at hl 0 rfl) ?_
  refine lv_iconst (v := 4) hx hb dn3_22 rfl ?_
  refine lv_icmp_gt (tgt := 45) hx hb dn3_23 (by decide) (fun _ => ?_) (fun z => absurd (by decide) z)
  obtain ⟨u, hu0, hP9, hD9⟩ := zn_end (K := 13) (F := zF3 G.2.1) hP hD hu5 (fun j hj => by
    match j, hj with
    | 0, _ => rfl
    | 1, _ => rfl
    | 2, _ => rfl
    | 3, _ => rfl
    | 4, _ => rfl
    | 5, _ => rfl
    | 6, _ => rfl
    | 7, _ => rfl
    | 8, _ => rfl
    | 9, _ => rfl
    | 10, _ => rfl
    | 11, _ => rfl
    | 12, _ => rfl
    | _ + 13, h => exact absurd h (by omega))
  refine W.widen (k := 12) (n := 84) (Nat.le_of_ble_eq_true rfl) (Nat.le_of_ble_eq_true rfl) ?_
  exact W.vret hx hb hr (fun t ht hW => ⟨⟨u, rfl, hu0, by rw [ht]; exact hP9, by rw [hAe]; exact hD9⟩, by rw [hAe]; exact hS.F ht⟩) hS.2.2 dn3_45
