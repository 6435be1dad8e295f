/-! ===== the constructors ===== -/
theorem dn11_0 : decode cX11_init 0 = .ok (.aload_n 0, 1) := by decide +kernel
theorem dn11_1 : decode cX11_init 1 = .ok (.invokespecial 1, 3) := by decide +kernel
theorem dn11_4 : decode cX11_init 4 = .ok (.aload_n 0, 1) := by decide +kernel
theorem dn11_5 : decode cX11_init 5 = .ok (.iconst 4, 1) := by decide +kernel
theorem dn11_6 : decode cX11_init 6 = .ok (.newarray .int, 2) := by decide +kernel
theorem dn11_8 : decode cX11_init 8 = .ok (.putfield 7, 3) := by decide +kernel
theorem dn11_11 : decode cX11_init 11 = .ok (.aload_n 0, 1) := by decide +kernel
theorem dn11_12 : decode cX11_init 12 = .ok (.iconst 4, 1) := by decide +kernel
theorem dn11_13 : decode cX11_init 13 = .ok (.newarray .int, 2) := by decide +kernel
theorem dn11_15 : decode cX11_init 15 = .ok (.putfield 13, 3) := by decide +kernel
theorem dn11_18 : decode cX11_init 18 = .ok (.aload_n 0, 1) := by decide +kernel
theorem dn11_19 : decode cX11_init 19 = .ok (.sipush 240, 3) := by decide +kernel
theorem dn11_22 : decode cX11_init 22 = .ok (.newarray .long, 2) := by decide +kernel
theorem dn11_24 : decode cX11_init 24 = .ok (.putfield 16, 3) := by decide +kernel
theorem dn11_27 : decode cX11_init 27 = .ok (.aload_n 0, 1) := by decide +kernel
theorem dn11_28 : decode cX11_init 28 = .ok (.bipush 60, 2) := by decide +kernel
theorem dn11_30 : decode cX11_init 30 = .ok (.newarray .long, 2) := by decide +kernel
theorem dn11_32 : decode cX11_init 32 = .ok (.putfield 20, 3) := by decide +kernel
theorem dn11_35 : decode cX11_init 35 = .ok (.aload_n 0, 1) := by decide +kernel
theorem dn11_36 : decode cX11_init 36 = .ok (.sipush 900, 3) := by decide +kernel
theorem dn11_39 : decode cX11_init 39 = .ok (.newarray .byte, 2) := by decide +kernel
theorem dn11_41 : decode cX11_init 41 = .ok (.putfield 23, 3) := by decide +kernel
theorem dn11_44 : decode cX11_init 44 = .ok (.aload_n 0, 1) := by decide +kernel
theorem dn11_45 : decode cX11_init 45 = .ok (.iconst (-1), 1) := by decide +kernel
theorem dn11_46 : decode cX11_init 46 = .ok (.putfield 27, 3) := by decide +kernel
theorem dn11_49 : decode cX11_init 49 = .ok (.aload_n 0, 1) := by decide +kernel
theorem dn11_50 : decode cX11_init 50 = .ok (.iconst 5, 1) := by decide +kernel
theorem dn11_51 : decode cX11_init 51 = .ok (.newarray .int, 2) := by decide +kernel
theorem dn11_53 : decode cX11_init 53 = .ok (.putfield 31, 3) := by decide +kernel
theorem dn11_56 : decode cX11_init 56 = .ok (.aload_n 0, 1) := by decide +kernel
theorem dn11_57 : decode cX11_init 57 = .ok (.bipush 50, 2) := by decide +kernel
theorem dn11_59 : decode cX11_init 59 = .ok (.newarray .int, 2) := by decide +kernel
theorem dn11_61 : decode cX11_init 61 = .ok (.putfield 34, 3) := by decide +kernel
theorem dn11_64 : decode cX11_init 64 = .ok (.aload_n 0, 1) := by decide +kernel
theorem dn11_65 : decode cX11_init 65 = .ok (.sipush 160, 3) := by decide +kernel
theorem dn11_68 : decode cX11_init 68 = .ok (.newarray .int, 2) := by decide +kernel
theorem dn11_70 : decode cX11_init 70 = .ok (.putfield 37, 3) := by decide +kernel
theorem dn11_73 : decode cX11_init 73 = .ok (.aload_n 0, 1) := by decide +kernel
theorem dn11_74 : decode cX11_init 74 = .ok (.sipush 150, 3) := by decide +kernel
theorem dn11_77 : decode cX11_init 77 = .ok (.newarray .int, 2) := by decide +kernel
theorem dn11_79 : decode cX11_init 79 = .ok (.putfield 40, 3) := by decide +kernel
theorem dn11_82 : decode cX11_init 82 = .ok (.aload_n 0, 1) := by decide +kernel
theorem dn11_83 : decode cX11_init 83 = .ok (.sipush 200, 3) := by decide +kernel
theorem dn11_86 : decode cX11_init 86 = .ok (.newarray .int, 2) := by decide +kernel
theorem dn11_88 : decode cX11_init 88 = .ok (.putfield 43, 3) := by decide +kernel
theorem dn11_91 : decode cX11_init 91 = .ok (.aload_n 0, 1) := by decide +kernel
theorem dn11_92 : decode cX11_init 92 = .ok (.iconst 3, 1) := by decide +kernel
theorem dn11_93 : decode cX11_init 93 = .ok (.newarray .boolean, 2) := by decide +kernel
theorem dn11_95 : decode cX11_init 95 = .ok (.putfield 46, 3) := by decide +kernel
theorem dn11_98 : decode cX11_init 98 = .ok (.aload_n 0, 1) := by decide +kernel
theorem dn11_99 : decode cX11_init 99 = .ok (.bipush 8, 2) := by decide +kernel
theorem dn11_101 : decode cX11_init 101 = .ok (.newarray .int, 2) := by decide +kernel
theorem dn11_103 : decode cX11_init 103 = .ok (.putfield 50, 3) := by decide +kernel
theorem dn11_106 : decode cX11_init 106 = .ok (.aload_n 0, 1) := by decide +kernel
theorem dn11_107 : decode cX11_init 107 = .ok (.bipush 8, 2) := by decide +kernel
theorem dn11_109 : decode cX11_init 109 = .ok (.newarray .int, 2) := by decide +kernel
theorem dn11_111 : decode cX11_init 111 = .ok (.putfield 53, 3) := by decide +kernel
theorem dn11_114 : decode cX11_init 114 = .ok (.aload_n 0, 1) := by decide +kernel
theorem dn11_115 : decode cX11_init 115 = .ok (.bipush 36, 2) := by decide +kernel
theorem dn11_117 : decode cX11_init 117 = .ok (.newarray .int, 2) := by decide +kernel
theorem dn11_119 : decode cX11_init 119 = .ok (.putfield 56, 3) := by decide +kernel
theorem dn11_122 : decode cX11_init 122 = .ok (.aload_n 0, 1) := by decide +kernel
theorem dn11_123 : decode cX11_init 123 = .ok (.bipush 8, 2) := by decide +kernel
theorem dn11_125 : decode cX11_init 125 = .ok (.newarray .int, 2) := by decide +kernel
theorem dn11_127 : decode cX11_init 127 = .ok (.putfield 59, 3) := by decide +kernel
theorem dn11_130 : decode cX11_init 130 = .ok (.aload_n 0, 1) := by decide +kernel
theorem dn11_131 : decode cX11_init 131 = .ok (.bipush 36, 2) := by decide +kernel
theorem dn11_133 : decode cX11_init 133 = .ok (.newarray .int, 2) := by decide +kernel
theorem dn11_135 : decode cX11_init 135 = .ok (.putfield 62, 3) := by decide +kernel
theorem dn11_138 : decode cX11_init 138 = .ok (.aload_n 0, 1) := by decide +kernel
theorem dn11_139 : decode cX11_init 139 = .ok (.sipush 384, 3) := by decide +kernel
theorem dn11_142 : decode cX11_init 142 = .ok (.newarray .int, 2) := by decide +kernel
theorem dn11_144 : decode cX11_init 144 = .ok (.putfield 65, 3) := by decide +kernel
theorem dn11_147 : decode cX11_init 147 = .ok (.aload_n 0, 1) := by decide +kernel
theorem dn11_148 : decode cX11_init 148 = .ok (.bipush 8, 2) := by decide +kernel
theorem dn11_150 : decode cX11_init 150 = .ok (.newarray .int, 2) := by decide +kernel
theorem dn11_152 : decode cX11_init 152 = .ok (.putfield 68, 3) := by decide +kernel
theorem dn11_155 : decode cX11_init 155 = .ok (.aload_n 0, 1) := by decide +kernel
theorem dn11_156 : decode cX11_init 156 = .ok (.iconst 4, 1) := by decide +kernel
theorem dn11_157 : decode cX11_init 157 = .ok (.newarray .int, 2) := by decide +kernel
theorem dn11_159 : decode cX11_init 159 = .ok (.putfield 71, 3) := by decide +kernel
theorem dn11_162 : decode cX11_init 162 = .ok (.iconst 0, 1) := by decide +kernel
theorem dn11_163 : decode cX11_init 163 = .ok (.istore_n 1, 1) := by decide +kernel
theorem dn11_164 : decode cX11_init 164 = .ok (.iload_n 1, 1) := by decide +kernel
theorem dn11_165 : decode cX11_init 165 = .ok (.iconst 4, 1) := by decide +kernel
theorem dn11_166 : decode cX11_init 166 = .ok (.if_icmp .ge 16, 3) := by decide +kernel
theorem dn11_169 : decode cX11_init 169 = .ok (.aload_n 0, 1) := by decide +kernel
theorem dn11_170 : decode cX11_init 170 = .ok (.getfield 7, 3) := by decide +kernel
theorem dn11_173 : decode cX11_init 173 = .ok (.iload_n 1, 1) := by decide +kernel
theorem dn11_174 : decode cX11_init 174 = .ok (.iconst (-1), 1) := by decide +kernel
theorem dn11_175 : decode cX11_init 175 = .ok (.iastore, 1) := by decide +kernel
theorem dn11_176 : decode cX11_init 176 = .ok (.iinc 1 1, 3) := by decide +kernel
theorem dn11_179 : decode cX11_init 179 = .ok (.goto (-15), 3) := by decide +kernel
theorem dn11_182 : decode cX11_init 182 = .ok (.return_, 1) := by decide +kernel
def zF11 (T : Nat → ClassId) (a : Nat → Nat) : Nat → va_E
  | 0 => .inr (11, [.int 0, .ref (a 1), .ref (a 2), .ref (a 3), .ref (a 4), .ref (a 5), .int 0, .int 0, .int 0, .int 0, .int 0, .long 0, .int 0, .int 0, .int 0, .int (-1), .ref (a 6), .ref (a 7), .ref (a 8), .ref (a 9), .ref (a 10), .ref (a 11), .ref (a 12), .ref (a 13), .int 0, .int 0, .int 0, .ref (a 14), .int 0, .int 0, .int 0, .int 0, .int 0, .int 0, .ref (a 15), .int 0, .int 0, .ref (a 16), .ref (a 17), .ref (a 18), .ref (a 19), .int 0, .int 0, .int 0])
  | 1 => .inl (T 1, 4, .inl (zUi 4))
  | 2 => .inl (T 1, 4, .inl (fun _ => 0))
  | 3 => .inl (T 2, 240, .inr (.inl (fun _ => 0)))
  | 4 => .inl (T 2, 60, .inr (.inl (fun _ => 0)))
  | 5 => .inl (T 3, 900, .inl (fun _ => 0))
  | 6 => .inl (T 1, 5, .inl (fun _ => 0))
  | 7 => .inl (T 1, 50, .inl (fun _ => 0))
  | 8 => .inl (T 1, 160, .inl (fun _ => 0))
  | 9 => .inl (T 1, 150, .inl (fun _ => 0))
  | 10 => .inl (T 1, 200, .inl (fun _ => 0))
  | 11 => .inl (T 4, 3, .inl (fun _ => 0))
  | 12 => .inl (T 1, 8, .inl (fun _ => 0))
  | 13 => .inl (T 1, 8, .inl (fun _ => 0))
  | 14 => .inl (T 1, 36, .inl (fun _ => 0))
  | 15 => .inl (T 1, 8, .inl (fun _ => 0))
  | 16 => .inl (T 1, 36, .inl (fun _ => 0))
  | 17 => .inl (T 1, 384, .inl (fun _ => 0))
  | 18 => .inl (T 1, 8, .inl (fun _ => 0))
  | 19 => .inl (T 1, 4, .inl (fun _ => 0))
  | _ => .inr (0, [])
set_option maxHeartbeats 4000000 in
set_option maxRecDepth 100000 in
theorem zk11 (l : Launch) (G : zG) (h0 sz : Nat) : Met l yX11_init (.code yX11_init cX11_init 2 none :: zBIG) { frames := 1, cells := 19, slots := 2268, locals := 12 } (zPn G h0 sz (.inr (11, zBk11))) (zQn G h0 sz (.inr (11, zBk11)) 20 (zF11 G.2.1)) 19 2268 (va_A [(h0, .inr (11, zBk11))] sz) := by
  refine Met.ofW (cc := cX11_init) (maxL := 2) (ret := none) (by decide) rfl ?_
  intro p e s m args below meth c s₁ B hml hv
  obtain ⟨rfl, hsz, hP, hCn⟩ := hv
  have hx := B.exec
  have hb := B.bytes
  have hr := B.returns
  have hts0 := atoms_spec (ws := .code yX11_init cX11_init 2 none :: zBIG) B.pre
  have hts : ∀ w ∈ zBIG, w.before _ s = true := fun w h => hts0 w (List.mem_cons_of_mem _ h)
  have hown : s.vm.findClass (zCN 11) = some m.cls := findClass_of_methodNamed B.named
  have hlocks := B.notSynchronized
  have hin : meth.name = "<init>" := (name_of_methodNamed B.named B.method).1
  have C : zMc p s m _ c cX11_init 2 11 G := ⟨hx, hb, hml, hown, hts, hCn⟩
  subst hsz
  replace hP : va_P G.1 zcl12 (zL (fun _ => h0) (fun _ => .inr (11, zBk11)) 1) s.heap := hP
  have hD : va_D (va_A [(h0, .inr (11, zBk11))] s.heap.size) (zL (fun _ => h0) (fun _ => .inr (11, zBk11)) 1) := zn_D1
  generalize hAe : va_A [(h0, .inr (11, zBk11))] s.heap.size = A at hD ⊢
  have hA : ∀ q : Nat, s.heap.size ≤ q → A q := fun q h => by rw [← hAe]; exact Or.inr h
  have hS : va_S A s.heap s.heap [] := va_S.rf
  have hl := lv_entry ([.ref h0]) (n := 2) (Nat.le_of_ble_eq_true rfl)
  rw [lg_entry_eq]
  generalize (lg_sl ([.ref h0]) ++ List.replicate (2 - (lg_sl ([.ref h0])).length) Slot.unset).toArray = ls at hl ⊢
  replace hl : lv_has ls 2 [(0, .ref h0)] := hl
  refine lv_aload_n hx hb dn11_0 rfl (lv_at hl 0 rfl) ?_
  refine W.objInit hx hb hown (hts _ (zKW_in (k := 73) rfl)) (hts _ (zKW_in (k := 6) rfl)) (hts _ (zKW_in (k := 7) rfl)) rfl (by rw [hml]; exact hl.1) rfl dn11_1 (Nat.le_of_ble_eq_true rfl) (Nat.le_of_ble_eq_true rfl) ?_
  refine W.eq (g2 := F0 m 4 ls []) rfl ?_
  refine lv_aload_n hx hb dn11_4 rfl (lv_at hl 0 rfl) ?_
  refine lv_iconst (v := 4) hx hb dn11_5 rfl ?_
  refine zn_newa (t := 0) (ty := .int) (N := 4) (a0 := (4, .inl (fun _ => 0))) C hP hD hS hA (zKW_in (k := 37) rfl) rfl rfl (fun _ _ => Iff.rfl) (fun _ => rfl) (by decide) (by decide) (by decide) (Nat.le_of_ble_eq_true rfl) (Nat.le_of_ble_eq_true rfl) dn11_6 (fun q0 H hP hD hS => ?_)
  refine W.widen (k := 1) (n := 4) (Nat.le_of_ble_eq_true rfl) (Nat.le_of_ble_eq_true rfl) ?_
  refine zn_put (ci := 11) (k := 1) (j := 0) (fs := [.int 0, .null, .null, .null, .null, .null, .int 0, .int 0, .int 0, .int 0, .int 0, .long 0, .int 0, .int 0, .int 0, .int 0, .null, .null, .null, .null, .null, .null, .null, .null, .int 0, .int 0, .int 0, .null, .int 0, .int 0, .int 0, .int 0, .int 0, .int 0, .null, .int 0, .int 0, .null, .null, .null, .null, .int 0, .int 0, .int 0]) C hin hP hD hS (by decide) rfl rfl (by decide) (by decide) (by decide) rfl rfl rfl (Nat.le_of_ble_eq_true rfl) dn11_8 (fun H locs hP hD hS => ?_)
  refine lv_aload_n hx hb dn11_11 rfl (lv_at hl 0 rfl) ?_
  refine lv_iconst (v := 4) hx hb dn11_12 rfl ?_
  refine zn_newa (t := 0) (ty := .int) (N := 4) (a0 := (4, .inl (fun _ => 0))) C hP hD hS hA (zKW_in (k := 37) rfl) rfl rfl (fun _ _ => Iff.rfl) (fun _ => rfl) (by decide) (by decide) (by decide) (Nat.le_of_ble_eq_true rfl) (Nat.le_of_ble_eq_true rfl) dn11_13 (fun q1 H hP hD hS => ?_)
  refine W.widen (k := 2) (n := 8) (Nat.le_of_ble_eq_true rfl) (Nat.le_of_ble_eq_true rfl) ?_
  refine zn_put (ci := 11) (k := 2) (j := 0) (fs := [.int 0, .ref q0, .null, .null, .null, .null, .int 0, .int 0, .int 0, .int 0, .int 0, .long 0, .int 0, .int 0, .int 0, .int 0, .null, .null, .null, .null, .null, .null, .null, .null, .int 0, .int 0, .int 0, .null, .int 0, .int 0, .int 0, .int 0, .int 0, .int 0, .null, .int 0, .int 0, .null, .null, .null, .null, .int 0, .int 0, .int 0]) C hin hP hD hS (by decide) rfl rfl (by decide) (by decide) (by decide) rfl rfl rfl (Nat.le_of_ble_eq_true rfl) dn11_15 (fun H locs hP hD hS => ?_)
  refine lv_aload_n hx hb dn11_18 rfl (lv_at hl 0 rfl) ?_
  refine lv_sipush (v := 240) hx hb dn11_19 rfl ?_
  refine zn_newa (t := 1) (ty := .long) (N := 240) (a0 := (240, .inr (.inl (fun _ => 0)))) C hP hD hS hA (zKW_in (k := 67) rfl) rfl rfl (fun _ _ => Iff.rfl) (fun _ => rfl) (by decide) (by decide) (by decide) (Nat.le_of_ble_eq_true rfl) (Nat.le_of_ble_eq_true rfl) dn11_22 (fun q2 H hP hD hS => ?_)
  refine W.widen (k := 3) (n := 248) (Nat.le_of_ble_eq_true rfl) (Nat.le_of_ble_eq_true rfl) ?_
  refine zn_put (ci := 11) (k := 3) (j := 0) (fs := [.int 0, .ref q0, .ref q1, .null, .null, .null, .int 0, .int 0, .int 0, .int 0, .int 0, .long 0, .int 0, .int 0, .int 0, .int 0, .null, .null, .null, .null, .null, .null, .null, .null, .int 0, .int 0, .int 0, .null, .int 0, .int 0, .int 0, .int 0, .int 0, .int 0, .null, .int 0, .int 0, .null, .null, .null, .null, .int 0, .int 0, .int 0]) C hin hP hD hS (by decide) rfl rfl (by decide) (by decide) (by decide) rfl rfl rfl (Nat.le_of_ble_eq_true rfl) dn11_24 (fun H locs hP hD hS => ?_)
  refine lv_aload_n hx hb dn11_27 rfl (lv_at hl 0 rfl) ?_
  refine lv_bipush (v := 60) hx hb dn11_28 rfl ?_
  refine zn_newa (t := 1) (ty := .long) (N := 60) (a0 := (60, .inr (.inl (fun _ => 0)))) C hP hD hS hA (zKW_in (k := 67) rfl) rfl rfl (fun _ _ => Iff.rfl) (fun _ => rfl) (by decide) (by decide) (by decide) (Nat.le_of_ble_eq_true rfl) (Nat.le_of_ble_eq_true rfl) dn11_30 (fun q3 H hP hD hS => ?_)
  refine W.widen (k := 4) (n := 308) (Nat.le_of_ble_eq_true rfl) (Nat.le_of_ble_eq_true rfl) ?_
  refine zn_put (ci := 11) (k := 4) (j := 0) (fs := [.int 0, .ref q0, .ref q1, .ref q2, .null, .null, .int 0, .int 0, .int 0, .int 0, .int 0, .long 0, .int 0, .int 0, .int 0, .int 0, .null, .null, .null, .null, .null, .null, .null, .null, .int 0, .int 0, .int 0, .null, .int 0, .int 0, .int 0, .int 0, .int 0, .int 0, .null, .int 0, .int 0, .null, .null, .null, .null, .int 0, .int 0, .int 0]) C hin hP hD hS (by decide) rfl rfl (by decide) (by decide) (by decide) rfl rfl rfl (Nat.le_of_ble_eq_true rfl) dn11_32 (fun H locs hP hD hS => ?_)
  refine lv_aload_n hx hb dn11_35 rfl (lv_at hl 0 rfl) ?_
  refine lv_sipush (v := 900) hx hb dn11_36 rfl ?_
  refine zn_newa (t := 2) (ty := .byte) (N := 900) (a0 := (900, .inl (fun _ => 0))) C hP hD hS hA (zKW_in (k := 13) rfl) rfl rfl (fun _ _ => Iff.rfl) (fun _ => rfl) (by decide) (by decide) (by decide) (Nat.le_of_ble_eq_true rfl) (Nat.le_of_ble_eq_true rfl) dn11_39 (fun q4 H hP hD hS => ?_)
  refine W.widen (k := 5) (n := 1208) (Nat.le_of_ble_eq_true rfl) (Nat.le_of_ble_eq_true rfl) ?_
  refine zn_put (ci := 11) (k := 5) (j := 0) (fs := [.int 0, .ref q0, .ref q1, .ref q2, .ref q3, .null, .int 0, .int 0, .int 0, .int 0, .int 0, .long 0, .int 0, .int 0, .int 0, .int 0, .null, .null, .null, .null, .null, .null, .null, .null, .int 0, .int 0, .int 0, .null, .int 0, .int 0, .int 0, .int 0, .int 0, .int 0, .null, .int 0, .int 0, .null, .null, .null, .null, .int 0, .int 0, .int 0]) C hin hP hD hS (by decide) rfl rfl (by decide) (by decide) (by decide) rfl rfl rfl (Nat.le_of_ble_eq_true rfl) dn11_41 (fun H locs hP hD hS => ?_)
  refine lv_aload_n hx hb dn11_44 rfl (lv_at hl 0 rfl) ?_
  refine lv_iconst (v := (-1)) hx hb dn11_45 rfl ?_
  refine zn_put (ci := 11) (k := 15) (j := 0) (fs := [.int 0, .ref q0, .ref q1, .ref q2, .ref q3, .ref q4, .int 0, .int 0, .int 0, .int 0, .int 0, .long 0, .int 0, .int 0, .int 0, .int 0, .null, .null, .null, .null, .null, .null, .null, .null, .int 0, .int 0, .int 0, .null, .int 0, .int 0, .int 0, .int 0, .int 0, .int 0, .null, .int 0, .int 0, .null, .null, .null, .null, .int 0, .int 0, .int 0]) C hin hP hD hS (by decide) rfl rfl (by decide) (by decide) (by decide) rfl rfl rfl (Nat.le_of_ble_eq_true rfl) dn11_46 (fun H locs hP hD hS => ?_)
  refine lv_aload_n hx hb dn11_49 rfl (lv_at hl 0 rfl) ?_
  refine lv_iconst (v := 5) hx hb dn11_50 rfl ?_
  refine zn_newa (t := 0) (ty := .int) (N := 5) (a0 := (5, .inl (fun _ => 0))) C hP hD hS hA (zKW_in (k := 37) rfl) rfl rfl (fun _ _ => Iff.rfl) (fun _ => rfl) (by decide) (by decide) (by decide) (Nat.le_of_ble_eq_true rfl) (Nat.le_of_ble_eq_true rfl) dn11_51 (fun q5 H hP hD hS => ?_)
  refine W.widen (k := 6) (n := 1213) (Nat.le_of_ble_eq_true rfl) (Nat.le_of_ble_eq_true rfl) ?_
  refine zn_put (ci := 11) (k := 16) (j := 0) (fs := [.int 0, .ref q0, .ref q1, .ref q2, .ref q3, .ref q4, .int 0, .int 0, .int 0, .int 0, .int 0, .long 0, .int 0, .int 0, .int 0, .int (-1), .null, .null, .null, .null, .null, .null, .null, .null, .int 0, .int 0, .int 0, .null, .int 0, .int 0, .int 0, .int 0, .int 0, .int 0, .null, .int 0, .int 0, .null, .null, .null, .null, .int 0, .int 0, .int 0]) C hin hP hD hS (by decide) rfl rfl (by decide) (by decide) (by decide) rfl rfl rfl (Nat.le_of_ble_eq_true rfl) dn11_53 (fun H locs hP hD hS => ?_)
  refine lv_aload_n hx hb dn11_56 rfl (lv_at hl 0 rfl) ?_
  refine lv_bipush (v := 50) hx hb dn11_57 rfl ?_
  refine zn_newa (t := 0) (ty := .int) (N := 50) (a0 := (50, .inl (fun _ => 0))) C hP hD hS hA (zKW_in (k := 37) rfl) rfl rfl (fun _ _ => Iff.rfl) (fun _ => rfl) (by decide) (by decide) (by decide) (Nat.le_of_ble_eq_true rfl) (Nat.le_of_ble_eq_true rfl) dn11_59 (fun q6 H hP hD hS => ?_)
  refine W.widen (k := 7) (n := 1263) (Nat.le_of_ble_eq_true rfl) (Nat.le_of_ble_eq_true rfl) ?_
  refine zn_put (ci := 11) (k := 17) (j := 0) (fs := [.int 0, .ref q0, .ref q1, .ref q2, .ref q3, .ref q4, .int 0, .int 0, .int 0, .int 0, .int 0, .long 0, .int 0, .int 0, .int 0, .int (-1), .ref q5, .null, .null, .null, .null, .null, .null, .null, .int 0, .int 0, .int 0, .null, .int 0, .int 0, .int 0, .int 0, .int 0, .int 0, .null, .int 0, .int 0, .null, .null, .null, .null, .int 0, .int 0, .int 0]) C hin hP hD hS (by decide) rfl rfl (by decide) (by decide) (by decide) rfl rfl rfl (Nat.le_of_ble_eq_true rfl) dn11_61 (fun H locs hP hD hS => ?_)
  refine lv_aload_n hx hb dn11_64 rfl (lv_at hl 0 rfl) ?_
  refine lv_sipush (v := 160) hx hb dn11_65 rfl ?_
  refine zn_newa (t := 0) (ty := .int) (N := 160) (a0 := (160, .inl (fun _ => 0))) C hP hD hS hA (zKW_in (k := 37) rfl) rfl rfl (fun _ _ => Iff.rfl) (fun _ => rfl) (by decide) (by decide) (by decide) (Nat.le_of_ble_eq_true rfl) (Nat.le_of_ble_eq_true rfl) dn11_68 (fun q7 H hP hD hS => ?_)
  refine W.widen (k := 8) (n := 1423) (Nat.le_of_ble_eq_true rfl) (Nat.le_of_ble_eq_true rfl) ?_
  refine zn_put (ci := 11) (k := 18) (j := 0) (fs := [.int 0, .ref q0, .ref q1, .ref q2, .ref q3, .ref q4, .int 0, .int 0, .int 0, .int 0, .int 0, .long 0, .int 0, .int 0, .int 0, .int (-1), .ref q5, .ref q6, .null, .null, .null, .null, .null, .null, .int 0, .int 0, .int 0, .null, .int 0, .int 0, .int 0, .int 0, .int 0, .int 0, .null, .int 0, .int 0, .null, .null, .null, .null, .int 0, .int 0, .int 0]) C hin hP hD hS (by decide) rfl rfl (by decide) (by decide) (by decide) rfl rfl rfl (Nat.le_of_ble_eq_true rfl) dn11_70 (fun H locs hP hD hS => ?_)
  refine lv_aload_n hx hb dn11_73 rfl (lv_at hl 0 rfl) ?_
  refine lv_sipush (v := 150) hx hb dn11_74 rfl ?_
  refine zn_newa (t := 0) (ty := .int) (N := 150) (a0 := (150, .inl (fun _ => 0))) C hP hD hS hA (zKW_in (k := 37) rfl) rfl rfl (fun _ _ => Iff.rfl) (fun _ => rfl) (by decide) (by decide) (by decide) (Nat.le_of_ble_eq_true rfl) (Nat.le_of_ble_eq_true rfl) dn11_77 (fun q8 H hP hD hS => ?_)
  refine W.widen (k := 9) (n := 1573) (Nat.le_of_ble_eq_true rfl) (Nat.le_of_ble_eq_true rfl) ?_
  refine zn_put (ci := 11) (k := 19) (j := 0) (fs := [.int 0, .ref q0, .ref q1, .ref q2, .ref q3, .ref q4, .int 0, .int 0, .int 0, .int 0, .int 0, .long 0, .int 0, .int 0, .int 0, .int (-1), .ref q5, .ref q6, .ref q7, .null, .null, .null, .null, .null, .int 0, .int 0, .int 0, .null, .int 0, .int 0, .int 0, .int 0, .int 0, .int 0, .null, .int 0, .int 0, .null, .null, .null, .null, .int 0, .int 0, .int 0]) C hin hP hD hS (by decide) rfl rfl (by decide) (by decide) (by decide) rfl rfl rfl (Nat.le_of_ble_eq_true rfl) dn11_79 (fun H locs hP hD hS => ?_)
  refine lv_aload_n hx hb dn11_82 rfl (lv_at hl 0 rfl) ?_
  refine lv_sipush (v := 200) hx hb dn11_83 rfl ?_
  refine zn_newa (t := 0) (ty := .int) (N := 200) (a0 := (200, .inl (fun _ => 0))) C hP hD hS hA (zKW_in (k := 37) rfl) rfl rfl (fun _ _ => Iff.rfl) (fun _ => rfl) (by decide) (by decide) (by decide) (Nat.le_of_ble_eq_true rfl) (Nat.le_of_ble_eq_true rfl) dn11_86 (fun q9 H hP hD hS => ?_)
  refine W.widen (k := 10) (n := 1773) (Nat.le_of_ble_eq_true rfl) (Nat.le_of_ble_eq_true rfl) ?_
  refine zn_put (ci := 11) (k := 20) (j := 0) (fs := [.int 0, .ref q0, .ref q1, .ref q2, .ref q3, .ref q4, .int 0, .int 0, .int 0, .int 0, .int 0, .long 0, .int 0, .int 0, .int 0, .int (-1), .ref q5, .ref q6, .ref q7, .ref q8, .null, .null, .null, .null, .int 0, .int 0, .int 0, .null, .int 0, .int 0, .int 0, .int 0, .int 0, .int 0, .null, .int 0, .int 0, .null, .null, .null, .null, .int 0, .int 0, .int 0]) C hin hP hD hS (by decide) rfl rfl (by decide) (by decide) (by decide) rfl rfl rfl (Nat.le_of_ble_eq_true rfl) dn11_88 (fun H locs hP hD hS => ?_)
  refine lv_aload_n hx hb dn11_91 rfl (lv_at hl 0 rfl) ?_
  refine lv_iconst (v := 3) hx hb dn11_92 rfl ?_
  refine zn_newa (t := 3) (ty := .boolean) (N := 3) (a0 := (3, .inl (fun _ => 0))) C hP hD hS hA (zKW_in (k := 74) rfl) rfl rfl (fun _ _ => Iff.rfl) (fun _ => rfl) (by decide) (by decide) (by decide) (Nat.le_of_ble_eq_true rfl) (Nat.le_of_ble_eq_true rfl) dn11_93 (fun q10 H hP hD hS => ?_)
  refine W.widen (k := 11) (n := 1776) (Nat.le_of_ble_eq_true rfl) (Nat.le_of_ble_eq_true rfl) ?_
  refine zn_put (ci := 11) (k := 21) (j := 0) (fs := [.int 0, .ref q0, .ref q1, .ref q2, .ref q3, .ref q4, .int 0, .int 0, .int 0, .int 0, .int 0, .long 0, .int 0, .int 0, .int 0, .int (-1), .ref q5, .ref q6, .ref q7, .ref q8, .ref q9, .null, .null, .null, .int 0, .int 0, .int 0, .null, .int 0, .int 0, .int 0, .int 0, .int 0, .int 0, .null, .int 0, .int 0, .null, .null, .null, .null, .int 0, .int 0, .int 0]) C hin hP hD hS (by decide) rfl rfl (by decide) (by decide) (by decide) rfl rfl rfl (Nat.le_of_ble_eq_true rfl) dn11_95 (fun H locs hP hD hS => ?_)
  refine lv_aload_n hx hb dn11_98 rfl (lv_at hl 0 rfl) ?_
  refine lv_bipush (v := 8) hx hb dn11_99 rfl ?_
  refine zn_newa (t := 0) (ty := .int) (N := 8) (a0 := (8, .inl (fun _ => 0))) C hP hD hS hA (zKW_in (k := 37) rfl) rfl rfl (fun _ _ => Iff.rfl) (fun _ => rfl) (by decide) (by decide) (by decide) (Nat.le_of_ble_eq_true rfl) (Nat.le_of_ble_eq_true rfl) dn11_101 (fun q11 H hP hD hS => ?_)
  refine W.widen (k := 12) (n := 1784) (Nat.le_of_ble_eq_true rfl) (Nat.le_of_ble_eq_true rfl) ?_
  refine zn_put (ci := 11) (k := 22) (j := 0) (fs := [.int 0, .ref q0, .ref q1, .ref q2, .ref q3, .ref q4, .int 0, .int 0, .int 0, .int 0, .int 0, .long 0, .int 0, .int 0, .int 0, .int (-1), .ref q5, .ref q6, .ref q7, .ref q8, .ref q9, .ref q10, .null, .null, .int 0, .int 0, .int 0, .null, .int 0, .int 0, .int 0, .int 0, .int 0, .int 0, .null, .int 0, .int 0, .null, .null, .null, .null, .int 0, .int 0, .int 0]) C hin hP hD hS (by decide) rfl rfl (by decide) (by decide) (by decide) rfl rfl rfl (Nat.le_of_ble_eq_true rfl) dn11_103 (fun H locs hP hD hS => ?_)
  refine lv_aload_n hx hb dn11_106 rfl (lv_at hl 0 rfl) ?_
  refine lv_bipush (v := 8) hx hb dn11_107 rfl ?_
  refine zn_newa (t := 0) (ty := .int) (N := 8) (a0 := (8, .inl (fun _ => 0))) C hP hD hS hA (zKW_in (k := 37) rfl) rfl rfl (fun _ _ => Iff.rfl) (fun _ => rfl) (by decide) (by decide) (by decide) (Nat.le_of_ble_eq_true rfl) (Nat.le_of_ble_eq_true rfl) dn11_109 (fun q12 H hP hD hS => ?_)
  refine W.widen (k := 13) (n := 1792) (Nat.le_of_ble_eq_true rfl) (Nat.le_of_ble_eq_true rfl) ?_
  refine zn_put (ci := 11) (k := 23) (j := 0) (fs := [.int 0, .ref q0, .ref q1, .ref q2, .ref q3, .ref q4, .int 0, .int 0, .int 0, .int 0, .int 0, .long 0, .int 0, .int 0, .int 0, .int (-1), .ref q5, .ref q6, .ref q7, .ref q8, .ref q9, .ref q10, .ref q11, .null, .int 0, .int 0, .int 0, .null, .int 0, .int 0, .int 0, .int 0, .int 0, .int 0, .null, .int 0, .int 0, .null, .null, .null, .null, .int 0, .int 0, .int 0]) C hin hP hD hS (by decide) rfl rfl (by decide) (by decide) (by decide) rfl rfl rfl (Nat.le_of_ble_eq_true rfl) dn11_111 (fun H locs hP hD hS => ?_)
  refine lv_aload_n hx hb dn11_114 rfl (lv_at hl 0 rfl) ?_
  refine lv_bipush (v := 36) hx hb dn11_115 rfl ?_
  refine zn_newa (t := 0) (ty := .int) (N := 36) (a0 := (36, .inl (fun _ => 0))) C hP hD hS hA (zKW_in (k := 37) rfl) rfl rfl (fun _ _ => Iff.rfl) (fun _ => rfl) (by decide) (by decide) (by decide) (Nat.le_of_ble_eq_true rfl) (Nat.le_of_ble_eq_true rfl) dn11_117 (fun q13 H hP hD hS => ?_)
  refine W.widen (k := 14) (n := 1828) (Nat.le_of_ble_eq_true rfl) (Nat.le_of_ble_eq_true rfl) ?_
  refine zn_put (ci := 11) (k := 27) (j := 0) (fs := [.int 0, .ref q0, .ref q1, .ref q2, .ref q3, .ref q4, .int 0, .int 0, .int 0, .int 0, .int 0, .long 0, .int 0, .int 0, .int 0, .int (-1), .ref q5, .ref q6, .ref q7, .ref q8, .ref q9, .ref q10, .ref q11, .ref q12, .int 0, .int 0, .int 0, .null, .int 0, .int 0, .int 0, .int 0, .int 0, .int 0, .null, .int 0, .int 0, .null, .null, .null, .null, .int 0, .int 0, .int 0]) C hin hP hD hS (by decide) rfl rfl (by decide) (by decide) (by decide) rfl rfl rfl (Nat.le_of_ble_eq_true rfl) dn11_119 (fun H locs hP hD hS => ?_)
  refine lv_aload_n hx hb dn11_122 rfl (lv_at hl 0 rfl) ?_
  refine lv_bipush (v := 8) hx hb dn11_123 rfl ?_
  refine zn_newa (t := 0) (ty := .int) (N := 8) (a0 := (8, .inl (fun _ => 0))) C hP hD hS hA (zKW_in (k := 37) rfl) rfl rfl (fun _ _ => Iff.rfl) (fun _ => rfl) (by decide) (by decide) (by decide) (Nat.le_of_ble_eq_true rfl) (Nat.le_of_ble_eq_true rfl) dn11_125 (fun q14 H hP hD hS => ?_)
  refine W.widen (k := 15) (n := 1836) (Nat.le_of_ble_eq_true rfl) (Nat.le_of_ble_eq_true rfl) ?_
  refine zn_put (ci := 11) (k := 34) (j := 0) (fs := [.int 0, .ref q0, .ref q1, .ref q2, .ref q3, .ref q4, .int 0, .int 0, .int 0, .int 0, .int 0, .long 0, .int 0, .int 0, .int 0, .int (-1), .ref q5, .ref q6, .ref q7, .ref q8, .ref q9, .ref q10, .ref q11, .ref q12, .int 0, .int 0, .int 0, .ref q13, .int 0, .int 0, .int 0, .int 0, .int 0, .int 0, .null, .int 0, .int 0, .null, .null, .null, .null, .int 0, .int 0, .int 0]) C hin hP hD hS (by decide) rfl rfl (by decide) (by decide) (by decide) rfl rfl rfl (Nat.le_of_ble_eq_true rfl) dn11_127 (fun H locs hP hD hS => ?_)
  refine lv_aload_n hx hb dn11_130 rfl (lv_at hl 0 rfl) ?_
  refine lv_bipush (v := 36) hx hb dn11_131 rfl ?_
  refine zn_newa (t := 0) (ty := .int) (N := 36) (a0 := (36, .inl (fun _ => 0))) C hP hD hS hA (zKW_in (k := 37) rfl) rfl rfl (fun _ _ => Iff.rfl) (fun _ => rfl) (by decide) (by decide) (by decide) (Nat.le_of_ble_eq_true rfl) (Nat.le_of_ble_eq_true rfl) dn11_133 (fun q15 H hP hD hS => ?_)
  refine W.widen (k := 16) (n := 1872) (Nat.le_of_ble_eq_true rfl) (Nat.le_of_ble_eq_true rfl) ?_
  refine zn_put (ci := 11) (k := 37) (j := 0) (fs := [.int 0, .ref q0, .ref q1, .ref q2, .ref q3, .ref q4, .int 0, .int 0, .int 0, .int 0, .int 0, .long 0, .int 0, .int 0, .int 0, .int (-1), .ref q5, .ref q6, .ref q7, .ref q8, .ref q9, .ref q10, .ref q11, .ref q12, .int 0, .int 0, .int 0, .ref q13, .int 0, .int 0, .int 0, .int 0, .int 0, .int 0, .ref q14, .int 0, .int 0, .null, .null, .null, .null, .int 0, .int 0, .int 0]) C hin hP hD hS (by decide) rfl rfl (by decide) (by decide) (by decide) rfl rfl rfl (Nat.le_of_ble_eq_true rfl) dn11_135 (fun H locs hP hD hS => ?_)
  refine lv_aload_n hx hb dn11_138 rfl (lv_at hl 0 rfl) ?_
  refine lv_sipush (v := 384) hx hb dn11_139 rfl ?_
  refine zn_newa (t := 0) (ty := .int) (N := 384) (a0 := (384, .inl (fun _ => 0))) C hP hD hS hA (zKW_in (k := 37) rfl) rfl rfl (fun _ _ => Iff.rfl) (fun _ => rfl) (by decide) (by decide) (by decide) (Nat.le_of_ble_eq_true rfl) (Nat.le_of_ble_eq_true rfl) dn11_142 (fun q16 H hP hD hS => ?_)
  refine W.widen (k := 17) (n := 2256) (Nat.le_of_ble_eq_true rfl) (Nat.le_of_ble_eq_true rfl) ?_
  refine zn_put (ci := 11) (k := 38) (j := 0) (fs := [.int 0, .ref q0, .ref q1, .ref q2, .ref q3, .ref q4, .int 0, .int 0, .int 0, .int 0, .int 0, .long 0, .int 0, .int 0, .int 0, .int (-1), .ref q5, .ref q6, .ref q7, .ref q8, .ref q9, .ref q10, .ref q11, .ref q12, .int 0, .int 0, .int 0, .ref q13, .int 0, .int 0, .int 0, .int 0, .int 0, .int 0, .ref q14, .int 0, .int 0, .ref q15, .null, .null, .null, .int 0, .int 0, .int 0]) C hin hP hD hS (by decide) rfl rfl (by decide) (by decide) (by decide) rfl rfl rfl (Nat.le_of_ble_eq_true rfl) dn11_144 (fun H locs hP hD hS => ?_)
  refine lv_aload_n hx hb dn11_147 rfl (lv_at hl 0 rfl) ?_
  refine lv_bipush (v := 8) hx hb dn11_148 rfl ?_
  refine zn_newa (t := 0) (ty := .int) (N := 8) (a0 := (8, .inl (fun _ => 0))) C hP hD hS hA (zKW_in (k := 37) rfl) rfl rfl (fun _ _ => Iff.rfl) (fun _ => rfl) (by decide) (by decide) (by decide) (Nat.le_of_ble_eq_true rfl) (Nat.le_of_ble_eq_true rfl) dn11_150 (fun q17 H hP hD hS => ?_)
  refine W.widen (k := 18) (n := 2264) (Nat.le_of_ble_eq_true rfl) (Nat.le_of_ble_eq_true rfl) ?_
  refine zn_put (ci := 11) (k := 39) (j := 0) (fs := [.int 0, .ref q0, .ref q1, .ref q2, .ref q3, .ref q4, .int 0, .int 0, .int 0, .int 0, .int 0, .long 0, .int 0, .int 0, .int 0, .int (-1), .ref q5, .ref q6, .ref q7, .ref q8, .ref q9, .ref q10, .ref q11, .ref q12, .int 0, .int 0, .int 0, .ref q13, .int 0, .int 0, .int 0, .int 0, .int 0, .int 0, .ref q14, .int 0, .int 0, .ref q15, .ref q16, .null, .null, .int 0, .int 0, .int 0]) C hin hP hD hS (by decide) rfl rfl (by decide) (by decide) (by decide) rfl rfl rfl (Nat.le_of_ble_eq_true rfl) dn11_152 (fun H locs hP hD hS => ?_)
  refine lv_aload_n hx hb dn11_155 rfl (lv_at hl 0 rfl) ?_
  refine lv_iconst (v := 4) hx hb dn11_156 rfl ?_
  refine zn_newa (t := 0) (ty := .int) (N := 4) (a0 := (4, .inl (fun _ => 0))) C hP hD hS hA (zKW_in (k := 37) rfl) rfl rfl (fun _ _ => Iff.rfl) (fun _ => rfl) (by decide) (by decide) (by decide) (Nat.le_of_ble_eq_true rfl) (Nat.le_of_ble_eq_true rfl) dn11_157 (fun q18 H hP hD hS => ?_)
  refine W.widen (k := 19) (n := 2268) (Nat.le_of_ble_eq_true rfl) (Nat.le_of_ble_eq_true rfl) ?_
  refine zn_put (ci := 11) (k := 40) (j := 0) (fs := [.int 0, .ref q0, .ref q1, .ref q2, .ref q3, .ref q4, .int 0, .int 0, .int 0, .int 0, .int 0, .long 0, .int 0, .int 0, .int 0, .int (-1), .ref q5, .ref q6, .ref q7, .ref q8, .ref q9, .ref q10, .ref q11, .ref q12, .int 0, .int 0, .int 0, .ref q13, .int 0, .int 0, .int 0, .int 0, .int 0, .int 0, .ref q14, .int 0, .int 0, .ref q15, .ref q16, .ref q17, .null, .int 0, .int 0, .int 0]) C hin hP hD hS (by decide) rfl rfl (by decide) (by decide) (by decide) rfl rfl rfl (Nat.le_of_ble_eq_true rfl) dn11_159 (fun H locs hP hD hS => ?_)
  refine lv_iconst (v := 0) hx hb dn11_162 rfl ?_
  refine lv_istore_n (lv' := [(1, .int 0), (0, .ref h0)]) hx hb dn11_163 rfl hl (by decide) rfl (fun ls hl => ?_)
  refine lv_iload_n hx hb dn11_164 rfl (lv_at hl 0 rfl) ?_
  refine lv_iconst (v := 4) hx hb dn11_165 rfl ?_
  refine lv_icmp_ge (tgt := 182) hx hb dn11_166 (by decide) (fun z => absurd z (by decide)) (fun _ => ?_)
  refine lv_aload_n hx hb dn11_169 rfl (lv_at hl 1 rfl) ?_
  refine zn_get (ci := 11) (k := 1) (j := 0) (fs := [.int 0, .ref q0, .ref q1, .ref q2, .ref q3, .ref q4, .int 0, .int 0, .int 0, .int 0, .int 0, .long 0, .int 0, .int 0, .int 0, .int (-1), .ref q5, .ref q6, .ref q7, .ref q8, .ref q9, .ref q10, .ref q11, .ref q12, .int 0, .int 0, .int 0, .ref q13, .int 0, .int 0, .int 0, .int 0, .int 0, .int 0, .ref q14, .int 0, .int 0, .ref q15, .ref q16, .ref q17, .ref q18, .int 0, .int 0, .int 0]) (v := .ref q0) C hP (by decide) rfl rfl (by decide) (by decide) (by decide) rfl dn11_170 ?_
  refine lv_iload_n hx hb dn11_173 rfl (lv_at hl 0 rfl) ?_
  refine lv_iconst (v := (-1)) hx hb dn11_174 rfl ?_
  refine zn_iast (j := 1) (N := 4) C hP hD hS (by decide) rfl rfl (zvin rfl) dn11_175 (fun H locs hP hD hS => ?_)
  refine lv_iinc (v := 1) (lv' := [(1, .int 1), (0, .ref h0)]) hx hb dn11_176 hl (k := 0) rfl (by decide) (by decide) rfl (fun ls hl => ?_)
  refine lv_goto (tgt := 164) hx hb dn11_179 (by decide) ?_
  refine lv_iload_n hx hb dn11_164 rfl (lv_at hl 0 rfl) ?_
  refine lv_iconst (v := 4) hx hb dn11_165 rfl ?_
  refine lv_icmp_ge (tgt := 182) hx hb dn11_166 (by decide) (fun z => absurd z (by decide)) (fun _ => ?_)
  refine lv_aload_n hx hb dn11_169 rfl (lv_at hl 1 rfl) ?_
  refine zn_get (ci := 11) (k := 1) (j := 0) (fs := [.int 0, .ref q0, .ref q1, .ref q2, .ref q3, .ref q4, .int 0, .int 0, .int 0, .int 0, .int 0, .long 0, .int 0, .int 0, .int 0, .int (-1), .ref q5, .ref q6, .ref q7, .ref q8, .ref q9, .ref q10, .ref q11, .ref q12, .int 0, .int 0, .int 0, .ref q13, .int 0, .int 0, .int 0, .int 0, .int 0, .int 0, .ref q14, .int 0, .int 0, .ref q15, .ref q16, .ref q17, .ref q18, .int 0, .int 0, .int 0]) (v := .ref q0) C hP (by decide) rfl rfl (by decide) (by decide) (by decide) rfl dn11_170 ?_
  refine lv_iload_n hx hb dn11_173 rfl (lv_at hl 0 rfl) ?_
  refine lv_iconst (v := (-1)) hx hb dn11_174 rfl ?_
  refine zn_iast (j := 1) (N := 4) C hP hD hS (by decide) rfl rfl (zvin rfl) dn11_175 (fun H locs hP hD hS => ?_)
  refine lv_iinc (v := 2) (lv' := [(1, .int 2), (0, .ref h0)]) hx hb dn11_176 hl (k := 0) rfl (by decide) (by decide) rfl (fun ls hl => ?_)
  refine lv_goto (tgt := 164) hx hb dn11_179 (by decide) ?_
  refine lv_iload_n hx hb dn11_164 rfl (lv_at hl 0 rfl) ?_
  refine lv_iconst (v := 4) hx hb dn11_165 rfl ?_
  refine lv_icmp_ge (tgt := 182) hx hb dn11_166 (by decide) (fun z => absurd z (by decide)) (fun _ => ?_)
  refine lv_aload_n hx hb dn11_169 rfl (lv_at hl 1 rfl) ?_
  refine zn_get (ci := 11) (k := 1) (j := 0) (fs := [.int 0, .ref q0, .ref q1, .ref q2, .ref q3, .ref q4, .int 0, .int 0, .int 0, .int 0, .int 0, .long 0, .int 0, .int 0, .int 0, .int (-1), .ref q5, .ref q6, .ref q7, .ref q8, .ref q9, .ref q10, .ref q11, .ref q12, .int 0, .int 0, .int 0, .ref q13, .int 0, .int 0, .int 0, .int 0, .int 0, .int 0, .ref q14, .int 0, .int 0, .ref q15, .ref q16, .ref q17, .ref q18, .int 0, .int 0, .int 0]) (v := .ref q0) C hP (by decide) rfl rfl (by decide) (by decide) (by decide) rfl dn11_170 ?_
  refine lv_iload_n hx hb dn11_173 rfl (lv_at hl 0 rfl) ?_
  refine lv_iconst (v := (-1)) hx hb dn11_174 rfl ?_
  refine zn_iast (j := 1) (N := 4) C hP hD hS (by decide) rfl rfl (zvin rfl) dn11_175 (fun H locs hP hD hS => ?_)
  refine lv_iinc (v := 3) (lv' := [(1, .int 3), (0, .ref h0)]) hx hb dn11_176 hl (k := 0) rfl (by decide) (by decide) rfl (fun ls hl => ?_)
  refine lv_goto (tgt := 164) hx hb dn11_179 (by decide) ?_
  refine lv_iload_n hx hb dn11_164 rfl (lv_at hl 0 rfl) ?_
  refine lv_iconst (v := 4) hx hb dn11_165 rfl ?_
  refine lv_icmp_ge (tgt := 182) hx hb dn11_166 (by decide) (fun z => absurd z (by decide)) (fun _ => ?_)
  refine lv_aload_n hx hb dn11_169 rfl (lv_at hl 1 rfl) ?_
  refine zn_get (ci := 11) (k := 1) (j := 0) (fs := [.int 0, .ref q0, .ref q1, .ref q2, .ref q3, .ref q4, .int 0, .int 0, .int 0, .int 0, .int 0, .long 0, .int 0, .int 0, .int 0, .int (-1), .ref q5, .ref q6, .ref q7, .ref q8, .ref q9, .ref q10, .ref q11, .ref q12, .int 0, .int 0, .int 0, .ref q13, .int 0, .int 0, .int 0, .int 0, .int 0, .int 0, .ref q14, .int 0, .int 0, .ref q15, .ref q16, .ref q17, .ref q18, .int 0, .int 0, .int 0]) (v := .ref q0) C hP (by decide) rfl rfl (by decide) (by decide) (by decide) rfl dn11_170 ?_
  refine lv_iload_n hx hb dn11_173 rfl (lv_at hl 0 rfl) ?_
  refine lv_iconst (v := (-1)) hx hb dn11_174 rfl ?_
  refine zn_iast (j := 1) (N := 4) C hP hD hS (by decide) rfl rfl (zvin rfl) dn11_175 (fun H locs hP hD hS => ?_)
  refine lv_iinc (v := 4) (lv' := [(1, .int 4), (0, .ref h0)]) hx hb dn11_176 hl (k := 0) rfl (by decide) (by decide) rfl (fun ls hl => ?_)
  refine lv_goto (tgt := 164) hx hb dn11_179 (by decide) ?_
  refine lv_iload_n hx hb dn11_164 rfl (lv_at hl 0 rfl) ?_
  refine lv_iconst (v := 4) hx hb dn11_165 rfl ?_
  refine lv_icmp_ge (tgt := 182) hx hb dn11_166 (by decide) (fun _ => ?_) (fun z => absurd (by decide) z)
  obtain ⟨u, hu0, hP9, hD9⟩ := zn_end (K := 20) (F := zF11 G.2.1) hP hD rfl (fun j hj => by
    match j, hj with
    | 0, _ => rfl
    | 1, _ => rfl
    | 2, _ => rfl
    | 3, _ => rfl
    | 4, _ => rfl
    | 5, _ => rfl
    | 6, _ => rfl
    | 7, _ => rfl
    | 8, _ => rfl
    | 9, _ => rfl
    | 10, _ => rfl
    | 11, _ => rfl
    | 12, _ => rfl
    | 13, _ => rfl
    | 14, _ => rfl
    | 15, _ => rfl
    | 16, _ => rfl
    | 17, _ => rfl
    | 18, _ => rfl
    | 19, _ => rfl
    | _ + 20, h => exact absurd h (by omega))
  refine W.widen (k := 19) (n := 2268) (Nat.le_of_ble_eq_true rfl) (Nat.le_of_ble_eq_true rfl) ?_
  exact W.vret hx hb hr (fun t ht hW => ⟨⟨u, rfl, hu0, by rw [ht]; exact hP9, by rw [hAe]; exact hD9⟩, by rw [hAe]; exact hS.F ht⟩) hS.2.2 dn11_182
