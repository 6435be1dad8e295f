set_option maxRecDepth 100000 in
theorem zj_c_coder : (Cond.code yJ0_coder_7d493 cJ0_coder_7d493 1 (some FieldType.byte)) ∈ zBIG := List.mem_filter.mpr ⟨zt1_in (Or.inr (Or.inl (List.mem_of_getElem? (i := 239) rfl))), rfl⟩
set_option maxRecDepth 100000 in
theorem zj_c_lat : (Cond.code yJ0_isLatin1_aae02 cJ0_isLatin1_aae02 1 (some FieldType.boolean)) ∈ zBIG := List.mem_filter.mpr ⟨zt1_in (Or.inr (Or.inr (Or.inl (List.mem_of_getElem? (i := 9) rfl)))), rfl⟩
set_option maxRecDepth 100000 in
theorem zj_c_len : (Cond.code yJ0_length_8abf5 cJ0_length_8abf5 1 (some FieldType.int)) ∈ zBIG := List.mem_filter.mpr ⟨zt1_in (Or.inr (Or.inl (List.mem_of_getElem? (i := 235) rfl))), rfl⟩
set_option maxRecDepth 100000 in
theorem zj_c_chr : (Cond.code yJ0_charAt_5068e cJ0_charAt_5068e 2 (some FieldType.char)) ∈ zBIG := List.mem_filter.mpr ⟨zt1_in (Or.inr (Or.inr (Or.inl (List.mem_of_getElem? (i := 5) rfl)))), rfl⟩
set_option maxRecDepth 100000 in
theorem zj_c_l1c : (Cond.code yJ1_charAt_3b067 cJ1_charAt_3b067 2 (some FieldType.char)) ∈ zBIG := List.mem_filter.mpr ⟨zt1_in (Or.inr (Or.inr (Or.inl (List.mem_of_getElem? (i := 12) rfl)))), rfl⟩
set_option maxRecDepth 100000 in
theorem zj_c_chk : (Cond.code yJ0_checkIndex_df160 cJ0_checkIndex_df160 2 none) ∈ zBIG := List.mem_filter.mpr ⟨zt1_in (Or.inr (Or.inr (Or.inl (List.mem_of_getElem? (i := 15) rfl)))), rfl⟩
set_option maxRecDepth 100000 in
theorem zj_c_pre : (Cond.code yJ3_checkIndex_8e157 cJ3_checkIndex_8e157 3 (some FieldType.int)) ∈ zBIG := List.mem_filter.mpr ⟨zt1_in (Or.inr (Or.inr (Or.inl (List.mem_of_getElem? (i := 20) rfl)))), rfl⟩
set_option maxRecDepth 100000 in
theorem zj_i_coder : (Cond.instanceMethod yJ0_coder_7d493) ∈ zBIG := List.mem_filter.mpr ⟨zt1_in (Or.inr (Or.inl (List.mem_of_getElem? (i := 237) rfl))), rfl⟩
set_option maxRecDepth 100000 in
theorem zj_s_coder : (Cond.selects "java/lang/String" yJ0_coder_7d493 yJ0_coder_7d493) ∈ zBIG := List.mem_filter.mpr ⟨zt1_in (Or.inr (Or.inl (List.mem_of_getElem? (i := 238) rfl))), rfl⟩
set_option maxRecDepth 100000 in
theorem zj_i_lat : (Cond.instanceMethod yJ0_isLatin1_aae02) ∈ zBIG := List.mem_filter.mpr ⟨zt1_in (Or.inr (Or.inr (Or.inl (List.mem_of_getElem? (i := 7) rfl)))), rfl⟩
set_option maxRecDepth 100000 in
theorem zj_s_lat : (Cond.selects "java/lang/String" yJ0_isLatin1_aae02 yJ0_isLatin1_aae02) ∈ zBIG := List.mem_filter.mpr ⟨zt1_in (Or.inr (Or.inr (Or.inl (List.mem_of_getElem? (i := 8) rfl)))), rfl⟩
set_option maxRecDepth 100000 in
theorem zj_t_l1c : (Cond.static yJ1_charAt_3b067) ∈ zBIG := List.mem_filter.mpr ⟨zt1_in (Or.inr (Or.inr (Or.inl (List.mem_of_getElem? (i := 11) rfl)))), rfl⟩
set_option maxRecDepth 100000 in
theorem zj_t_chk : (Cond.static yJ0_checkIndex_df160) ∈ zBIG := List.mem_filter.mpr ⟨zt1_in (Or.inr (Or.inr (Or.inl (List.mem_of_getElem? (i := 14) rfl)))), rfl⟩
set_option maxRecDepth 100000 in
theorem zj_t_pre : (Cond.static yJ3_checkIndex_8e157) ∈ zBIG := List.mem_filter.mpr ⟨zt1_in (Or.inr (Or.inr (Or.inl (List.mem_of_getElem? (i := 19) rfl)))), rfl⟩
set_option maxRecDepth 100000 in
theorem zj_n_S : (Cond.initialized "java/lang/String") ∈ zBIG := List.mem_filter.mpr ⟨zt1_in (Or.inl (List.mem_of_getElem? (i := 14) rfl)), rfl⟩
set_option maxRecDepth 100000 in
theorem zj_n_S1 : (Cond.initialized "java/lang/StringLatin1") ∈ zBIG := List.mem_filter.mpr ⟨zt1_in (Or.inl (List.mem_of_getElem? (i := 15) rfl)), rfl⟩
set_option maxRecDepth 100000 in
theorem zj_n_P : (Cond.initialized "jdk/internal/util/Preconditions") ∈ zBIG := List.mem_filter.mpr ⟨zt1_in (Or.inl (List.mem_of_getElem? (i := 16) rfl)), rfl⟩
set_option maxRecDepth 100000 in
theorem zj_f_9 : (Cond.fieldLink "java/lang/String" 9 "java/lang/String" "value" "[B") ∈ zBIG := List.mem_filter.mpr ⟨zt1_in (Or.inr (Or.inr (Or.inr (Or.inr (Or.inr (Or.inr (Or.inr (Or.inr (List.mem_of_getElem? (i := 4) rfl))))))))), rfl⟩
set_option maxRecDepth 100000 in
theorem zj_f_15 : (Cond.fieldLink "java/lang/String" 15 "java/lang/String" "coder" "B") ∈ zBIG := List.mem_filter.mpr ⟨zt1_in (Or.inr (Or.inr (Or.inr (Or.inr (Or.inr (Or.inr (Or.inr (Or.inr (List.mem_of_getElem? (i := 5) rfl))))))))), rfl⟩
set_option maxRecDepth 100000 in
theorem zj_f_38 : (Cond.fieldLink "java/lang/String" 38 "java/lang/String" "COMPACT_STRINGS" "Z") ∈ zBIG := List.mem_filter.mpr ⟨zt1_in (Or.inr (Or.inr (Or.inl (List.mem_of_getElem? (i := 0) rfl)))), rfl⟩
set_option maxRecDepth 100000 in
theorem zj_f_1053 : (Cond.fieldLink "java/lang/String" 1053 "jdk/internal/util/Preconditions" "SIOOBE_FORMATTER" "Ljava/util/function/BiFunction;") ∈ zBIG := List.mem_filter.mpr ⟨zt1_in (Or.inr (Or.inr (Or.inl (List.mem_of_getElem? (i := 16) rfl)))), rfl⟩
set_option maxRecDepth 100000 in
theorem zj_m_coder : (Cond.methodLink "java/lang/String" 335 yJ0_coder_7d493) ∈ zBIG := List.mem_filter.mpr ⟨zt1_in (Or.inr (Or.inl (List.mem_of_getElem? (i := 236) rfl))), rfl⟩
set_option maxRecDepth 100000 in
theorem zj_m_lat : (Cond.methodLink "java/lang/String" 492 yJ0_isLatin1_aae02) ∈ zBIG := List.mem_filter.mpr ⟨zt1_in (Or.inr (Or.inr (Or.inl (List.mem_of_getElem? (i := 6) rfl)))), rfl⟩
set_option maxRecDepth 100000 in
theorem zj_m_l1c : (Cond.methodLink "java/lang/String" 495 yJ1_charAt_3b067) ∈ zBIG := List.mem_filter.mpr ⟨zt1_in (Or.inr (Or.inr (Or.inl (List.mem_of_getElem? (i := 10) rfl)))), rfl⟩
set_option maxRecDepth 100000 in
theorem zj_m_chk : (Cond.methodLink "java/lang/StringLatin1" 9 yJ0_checkIndex_df160) ∈ zBIG := List.mem_filter.mpr ⟨zt1_in (Or.inr (Or.inr (Or.inl (List.mem_of_getElem? (i := 13) rfl)))), rfl⟩
set_option maxRecDepth 100000 in
theorem zj_m_pre : (Cond.methodLink "java/lang/String" 1059 yJ3_checkIndex_8e157) ∈ zBIG := List.mem_filter.mpr ⟨zt1_in (Or.inr (Or.inr (Or.inl (List.mem_of_getElem? (i := 18) rfl)))), rfl⟩
theorem zjd_coder_0 : decode cJ0_coder_7d493 0 = .ok (.getstatic 38, 3) := by decide +kernel
theorem zjd_coder_3 : decode cJ0_coder_7d493 3 = .ok (.ifCond .eq 10, 3) := by decide +kernel
theorem zjd_coder_6 : decode cJ0_coder_7d493 6 = .ok (.aload_n 0, 1) := by decide +kernel
theorem zjd_coder_7 : decode cJ0_coder_7d493 7 = .ok (.getfield 15, 3) := by decide +kernel
theorem zjd_coder_10 : decode cJ0_coder_7d493 10 = .ok (.goto 4, 3) := by decide +kernel
theorem zjd_coder_13 : decode cJ0_coder_7d493 13 = .ok (.iconst 1, 1) := by decide +kernel
theorem zjd_coder_14 : decode cJ0_coder_7d493 14 = .ok (.ireturn, 1) := by decide +kernel
theorem zjd_lat_0 : decode cJ0_isLatin1_aae02 0 = .ok (.getstatic 38, 3) := by decide +kernel
theorem zjd_lat_3 : decode cJ0_isLatin1_aae02 3 = .ok (.ifCond .eq 14, 3) := by decide +kernel
theorem zjd_lat_6 : decode cJ0_isLatin1_aae02 6 = .ok (.aload_n 0, 1) := by decide +kernel
theorem zjd_lat_7 : decode cJ0_isLatin1_aae02 7 = .ok (.getfield 15, 3) := by decide +kernel
theorem zjd_lat_10 : decode cJ0_isLatin1_aae02 10 = .ok (.ifCond .ne 7, 3) := by decide +kernel
theorem zjd_lat_13 : decode cJ0_isLatin1_aae02 13 = .ok (.iconst 1, 1) := by decide +kernel
theorem zjd_lat_14 : decode cJ0_isLatin1_aae02 14 = .ok (.goto 4, 3) := by decide +kernel
theorem zjd_lat_17 : decode cJ0_isLatin1_aae02 17 = .ok (.iconst 0, 1) := by decide +kernel
theorem zjd_lat_18 : decode cJ0_isLatin1_aae02 18 = .ok (.ireturn, 1) := by decide +kernel
theorem zjd_len_0 : decode cJ0_length_8abf5 0 = .ok (.aload_n 0, 1) := by decide +kernel
theorem zjd_len_1 : decode cJ0_length_8abf5 1 = .ok (.getfield 9, 3) := by decide +kernel
theorem zjd_len_4 : decode cJ0_length_8abf5 4 = .ok (.arraylength, 1) := by decide +kernel
theorem zjd_len_5 : decode cJ0_length_8abf5 5 = .ok (.aload_n 0, 1) := by decide +kernel
theorem zjd_len_6 : decode cJ0_length_8abf5 6 = .ok (.invokevirtual 335, 3) := by decide +kernel
theorem zjd_len_9 : decode cJ0_length_8abf5 9 = .ok (.ishr, 1) := by decide +kernel
theorem zjd_len_10 : decode cJ0_length_8abf5 10 = .ok (.ireturn, 1) := by decide +kernel
theorem zjd_chr_0 : decode cJ0_charAt_5068e 0 = .ok (.aload_n 0, 1) := by decide +kernel
theorem zjd_chr_1 : decode cJ0_charAt_5068e 1 = .ok (.invokevirtual 492, 3) := by decide +kernel
theorem zjd_chr_4 : decode cJ0_charAt_5068e 4 = .ok (.ifCond .eq 12, 3) := by decide +kernel
theorem zjd_chr_7 : decode cJ0_charAt_5068e 7 = .ok (.aload_n 0, 1) := by decide +kernel
theorem zjd_chr_8 : decode cJ0_charAt_5068e 8 = .ok (.getfield 9, 3) := by decide +kernel
theorem zjd_chr_11 : decode cJ0_charAt_5068e 11 = .ok (.iload_n 1, 1) := by decide +kernel
theorem zjd_chr_12 : decode cJ0_charAt_5068e 12 = .ok (.invokestatic 495, 3) := by decide +kernel
theorem zjd_chr_15 : decode cJ0_charAt_5068e 15 = .ok (.ireturn, 1) := by decide +kernel
theorem zjd_chr_16 : decode cJ0_charAt_5068e 16 = .ok (.aload_n 0, 1) := by decide +kernel
theorem zjd_chr_17 : decode cJ0_charAt_5068e 17 = .ok (.getfield 9, 3) := by decide +kernel
theorem zjd_chr_20 : decode cJ0_charAt_5068e 20 = .ok (.iload_n 1, 1) := by decide +kernel
theorem zjd_chr_21 : decode cJ0_charAt_5068e 21 = .ok (.invokestatic 498, 3) := by decide +kernel
theorem zjd_chr_24 : decode cJ0_charAt_5068e 24 = .ok (.ireturn, 1) := by decide +kernel
theorem zjd_l1c_0 : decode cJ1_charAt_3b067 0 = .ok (.iload_n 1, 1) := by decide +kernel
theorem zjd_l1c_1 : decode cJ1_charAt_3b067 1 = .ok (.aload_n 0, 1) := by decide +kernel
theorem zjd_l1c_2 : decode cJ1_charAt_3b067 2 = .ok (.arraylength, 1) := by decide +kernel
theorem zjd_l1c_3 : decode cJ1_charAt_3b067 3 = .ok (.invokestatic 9, 3) := by decide +kernel
theorem zjd_l1c_6 : decode cJ1_charAt_3b067 6 = .ok (.aload_n 0, 1) := by decide +kernel
theorem zjd_l1c_7 : decode cJ1_charAt_3b067 7 = .ok (.iload_n 1, 1) := by decide +kernel
theorem zjd_l1c_8 : decode cJ1_charAt_3b067 8 = .ok (.baload, 1) := by decide +kernel
theorem zjd_l1c_9 : decode cJ1_charAt_3b067 9 = .ok (.sipush 255, 3) := by decide +kernel
theorem zjd_l1c_12 : decode cJ1_charAt_3b067 12 = .ok (.iand, 1) := by decide +kernel
theorem zjd_l1c_13 : decode cJ1_charAt_3b067 13 = .ok (.i2c, 1) := by decide +kernel
theorem zjd_l1c_14 : decode cJ1_charAt_3b067 14 = .ok (.ireturn, 1) := by decide +kernel
theorem zjd_chk_0 : decode cJ0_checkIndex_df160 0 = .ok (.iload_n 0, 1) := by decide +kernel
theorem zjd_chk_1 : decode cJ0_checkIndex_df160 1 = .ok (.iload_n 1, 1) := by decide +kernel
theorem zjd_chk_2 : decode cJ0_checkIndex_df160 2 = .ok (.getstatic 1053, 3) := by decide +kernel
theorem zjd_chk_5 : decode cJ0_checkIndex_df160 5 = .ok (.invokestatic 1059, 3) := by decide +kernel
theorem zjd_chk_8 : decode cJ0_checkIndex_df160 8 = .ok (.pop, 1) := by decide +kernel
theorem zjd_chk_9 : decode cJ0_checkIndex_df160 9 = .ok (.return_, 1) := by decide +kernel
theorem zjd_pre_0 : decode cJ3_checkIndex_8e157 0 = .ok (.iload_n 0, 1) := by decide +kernel
theorem zjd_pre_1 : decode cJ3_checkIndex_8e157 1 = .ok (.ifCond .lt 8, 3) := by decide +kernel
theorem zjd_pre_4 : decode cJ3_checkIndex_8e157 4 = .ok (.iload_n 0, 1) := by decide +kernel
theorem zjd_pre_5 : decode cJ3_checkIndex_8e157 5 = .ok (.iload_n 1, 1) := by decide +kernel
theorem zjd_pre_6 : decode cJ3_checkIndex_8e157 6 = .ok (.if_icmp .lt 10, 3) := by decide +kernel
theorem zjd_pre_9 : decode cJ3_checkIndex_8e157 9 = .ok (.aload_n 2, 1) := by decide +kernel
theorem zjd_pre_10 : decode cJ3_checkIndex_8e157 10 = .ok (.iload_n 0, 1) := by decide +kernel
theorem zjd_pre_11 : decode cJ3_checkIndex_8e157 11 = .ok (.iload_n 1, 1) := by decide +kernel
theorem zjd_pre_12 : decode cJ3_checkIndex_8e157 12 = .ok (.invokestatic 95, 3) := by decide +kernel
theorem zjd_pre_15 : decode cJ3_checkIndex_8e157 15 = .ok (.athrow, 1) := by decide +kernel
theorem zjd_pre_16 : decode cJ3_checkIndex_8e157 16 = .ok (.iload_n 0, 1) := by decide +kernel
theorem zjd_pre_17 : decode cJ3_checkIndex_8e157 17 = .ok (.ireturn, 1) := by decide +kernel
def zPv (G : zG) (A : Nat → Prop) (vs : List Value) (mem : zMm) : Array Value → State → Prop := va_Pc vs (fun U => va_P G.1 zcl12 (zWl G mem) U.heap ∧ zCx G A U)
def zQv (G : zG) (A : Nat → Prop) (r : Option Value) (mem : zMm) : Array Value → State → Outcome → State → Prop := fun _ st oc t => oc = .returned r ∧ va_P G.1 zcl12 (zWl G mem) t.heap ∧ va_F A st t
theorem zPv_blind {G : zG} {A : Nat → Prop} {vs : List Value} {mem : zMm} : FrameBlind (zPv G A vs mem) := fun a U g mk q => ⟨q.1, q.2.1, q.2.2.calling g mk a⟩
theorem zcallV {p : Program} {l : Launch} {e : Env} {R : Room} {s : State} {m : MethodId} {args : Array Value} {below : List Frame} {meth : Method} {c : Code} {Qf : State → Prop} {G : zG} {A : Nat → Prop} {pc : Nat} {r : Option Value} {mem : zMm} {ls : Array Slot} {st0 rest : List Value} {H : Heap} {locs : List Loc} {ar : Array Value} (hr : va_Run p l e R s m args below meth c H locs 0 0 0 0 (F0 m pc ls st0) rest (zQv G A r mem ar) A) (hS : va_S A s.heap H locs)
    (kk : ∀ (H1 : Heap) (locs1 : List Loc), va_P G.1 zcl12 (zWl G mem) H1 → va_S A s.heap H1 locs1 → W p l e R s m args below meth c H1 locs1 0 0 Qf (F0 m (pc + 3) ls (r.toList ++ rest))) : W p l e R s m args below meth c H locs 0 0 Qf (F0 m pc ls st0) := by
  intro T hT X
  obtain ⟨v, st₀, t, T', L, h0, X', hL, e1, e2, ⟨hv, hP, hz, hk⟩, st⟩ := hr T hT X
  cases hv
  rw [h0] at hz hk
  obtain ⟨t2, a1, b1⟩ := kk T'.heap (locs ++ L) (by rw [e1]; exact hP) ⟨Nat.le_trans hS.1 (by rw [e1]; exact hz), fun q h1 h2 => by rw [e1, hk q (Nat.lt_of_lt_of_le h1 hS.1) h2]; exact hS.2.1 q h1 h2, fun q hq => (List.mem_append.mp hq).elim (hS.2.2 q) (fun h => hL q h)⟩ T' rfl X'
  exact ⟨t2, st t2 a1, b1⟩
def zqr (j : Nat) : Room := { frames := j, cells := 0, slots := 0, locals := 40 * j }
theorem zgi {ws : List Cond} (h : ∀ w ∈ ws, w ∈ zBIG) : GoodIn zBIG ws := fun w hw => ⟨h w hw, zgood (h w hw)⟩
theorem zbig_c {c : Cond} (h : c ∈ zBIG) : ∀ w ∈ c :: zBIG, w ∈ zBIG := fun w hw => (List.mem_cons.mp hw).elim (fun e => e ▸ h) (fun q => q)
set_option maxRecDepth 100000 in
theorem zm_coder (l : Launch) (G : zG) (A : Nat → Prop) (mem : zMm) (rm : Room) (k : Nat) (hk : k < 17) : Met l yJ0_coder_7d493 (Cond.code yJ0_coder_7d493 cJ0_coder_7d493 1 (some FieldType.byte) :: zBIG) rm (zPv G A [.ref (G.2.2.2.1 k)] mem) (zQv G A (some (.int 0)) mem) 0 0 A := by
  refine va_MetF (cc := cJ0_coder_7d493) (maxL := 1) (ret := (some FieldType.byte)) (by decide +kernel) rfl ?_
  intro p e s m args below meth c s₁ B hml hv
  obtain ⟨rfl, hP, hC⟩ := hv
  have hx := B.exec
  have hb := B.bytes
  have hr := B.returns
  have hts := fun w h => atoms_spec (ws := Cond.code yJ0_coder_7d493 cJ0_coder_7d493 1 (some FieldType.byte) :: zBIG) B.pre w (List.mem_cons_of_mem _ h)
  have hown : s.vm.findClass "java/lang/String" = some m.cls := findClass_of_methodNamed B.named
  have hlocks := B.notSynchronized
  have hS : va_S A s.heap s.heap [] := va_S.rf
  have hl := lv_entry ([.ref (G.2.2.2.1 k)]) (n := 1) (Nat.le_of_ble_eq_true rfl)
  rw [lg_entry_eq]
  generalize (lg_sl ([.ref (G.2.2.2.1 k)]) ++ List.replicate (1 - (lg_sl ([.ref (G.2.2.2.1 k)])).length) Slot.unset).toArray = ls at hl ⊢
  obtain ⟨t1, t2, t3, t4⟩ := hC.2.2.1.1 k hk
  refine va_gets hx hb hC.2.2.2.2.1 hS hown (hts _ zj_f_38) (fun _ q => q) zjd_coder_0 ?_
  refine lv_if_eq (tgt := 13) hx hb zjd_coder_3 (by decide) (fun q => absurd q (by decide)) (fun _ => ?_)
  refine lv_aload_n hx hb zjd_coder_6 rfl (lv_at hl 0 rfl) ?_
  refine vk_getf hx hb t2 hS hown (hts _ zj_f_15) (fun _ q => q) zjd_coder_7 ?_
  refine lv_goto (tgt := 14) hx hb zjd_coder_10 (by decide) ?_
  exact W.zret hx hb hr rfl (fun t ht _ => ⟨rfl, by rw [ht]; exact hP, hS.F ht⟩) hS.2.2 zjd_coder_14 hlocks
set_option maxRecDepth 100000 in
theorem zm_lat (l : Launch) (G : zG) (A : Nat → Prop) (mem : zMm) (rm : Room) (k : Nat) (hk : k < 17) : Met l yJ0_isLatin1_aae02 (Cond.code yJ0_isLatin1_aae02 cJ0_isLatin1_aae02 1 (some FieldType.boolean) :: zBIG) rm (zPv G A [.ref (G.2.2.2.1 k)] mem) (zQv G A (some (.int 1)) mem) 0 0 A := by
  refine va_MetF (cc := cJ0_isLatin1_aae02) (maxL := 1) (ret := (some FieldType.boolean)) (by decide +kernel) rfl ?_
  intro p e s m args below meth c s₁ B hml hv
  obtain ⟨rfl, hP, hC⟩ := hv
  have hx := B.exec
  have hb := B.bytes
  have hr := B.returns
  have hts := fun w h => atoms_spec (ws := Cond.code yJ0_isLatin1_aae02 cJ0_isLatin1_aae02 1 (some FieldType.boolean) :: zBIG) B.pre w (List.mem_cons_of_mem _ h)
  have hown : s.vm.findClass "java/lang/String" = some m.cls := findClass_of_methodNamed B.named
  have hlocks := B.notSynchronized
  have hS : va_S A s.heap s.heap [] := va_S.rf
  have hl := lv_entry ([.ref (G.2.2.2.1 k)]) (n := 1) (Nat.le_of_ble_eq_true rfl)
  rw [lg_entry_eq]
  generalize (lg_sl ([.ref (G.2.2.2.1 k)]) ++ List.replicate (1 - (lg_sl ([.ref (G.2.2.2.1 k)])).length) Slot.unset).toArray = ls at hl ⊢
  obtain ⟨t1, t2, t3, t4⟩ := hC.2.2.1.1 k hk
  refine va_gets hx hb hC.2.2.2.2.1 hS hown (hts _ zj_f_38) (fun _ q => q) zjd_lat_0 ?_
  refine lv_if_eq (tgt := 17) hx hb zjd_lat_3 (by decide) (fun q => absurd q (by decide)) (fun _ => ?_)
  refine lv_aload_n hx hb zjd_lat_6 rfl (lv_at hl 0 rfl) ?_
  refine vk_getf hx hb t2 hS hown (hts _ zj_f_15) (fun _ q => q) zjd_lat_7 ?_
  refine lv_if_ne (tgt := 17) hx hb zjd_lat_10 (by decide) (fun q => absurd rfl q) (fun _ => ?_)
  refine lv_iconst (v := 1) hx hb zjd_lat_13 (by decide) ?_
  refine lv_goto (tgt := 18) hx hb zjd_lat_14 (by decide) ?_
  exact W.zret hx hb hr rfl (fun t ht _ => ⟨rfl, by rw [ht]; exact hP, hS.F ht⟩) hS.2.2 zjd_lat_18 hlocks
set_option maxRecDepth 100000 in
theorem zm_pre (l : Launch) (G : zG) (A : Nat → Prop) (mem : zMm) (rm : Room) (X Y : Int32) (h0 : 0 ≤ X.toInt) (h1 : X.toInt < Y.toInt) : Met l yJ3_checkIndex_8e157 (Cond.code yJ3_checkIndex_8e157 cJ3_checkIndex_8e157 3 (some FieldType.int) :: zBIG) rm (zPv G A [.int X, .int Y, .null] mem) (zQv G A (some (.int X)) mem) 0 0 A := by
  refine va_MetF (cc := cJ3_checkIndex_8e157) (maxL := 3) (ret := (some FieldType.int)) (by decide +kernel) rfl ?_
  intro p e s m args below meth c s₁ B hml hv
  obtain ⟨rfl, hP, hC⟩ := hv
  have hx := B.exec
  have hb := B.bytes
  have hr := B.returns
  have hts := fun w h => atoms_spec (ws := Cond.code yJ3_checkIndex_8e157 cJ3_checkIndex_8e157 3 (some FieldType.int) :: zBIG) B.pre w (List.mem_cons_of_mem _ h)
  have hown : s.vm.findClass "jdk/internal/util/Preconditions" = some m.cls := findClass_of_methodNamed B.named
  have hlocks := B.notSynchronized
  have hS : va_S A s.heap s.heap [] := va_S.rf
  have hl := lv_entry ([.int X, .int Y, .null]) (n := 3) (Nat.le_of_ble_eq_true rfl)
  rw [lg_entry_eq]
  generalize (lg_sl ([.int X, .int Y, .null]) ++ List.replicate (3 - (lg_sl ([.int X, .int Y, .null])).length) Slot.unset).toArray = ls at hl ⊢
  refine lv_iload_n hx hb zjd_pre_0 rfl (lv_at hl 0 rfl) ?_
  refine lv_if_lt (tgt := 9) hx hb zjd_pre_1 (by decide) (fun q => ?_) (fun _ => ?_)
  · exfalso
    have := Int32.lt_iff_toInt_lt.mp q
    rw [show (0 : Int32).toInt = 0 from rfl] at this
    omega
  refine lv_iload_n hx hb zjd_pre_4 rfl (lv_at hl 0 rfl) ?_
  refine lv_iload_n hx hb zjd_pre_5 rfl (lv_at hl 1 rfl) ?_
  refine lv_icmp_lt (tgt := 16) hx hb zjd_pre_6 (by decide) (fun _ => ?_) (fun q => absurd (Int32.lt_iff_toInt_lt.mpr h1) q)
  refine lv_iload_n hx hb zjd_pre_16 rfl (lv_at hl 0 rfl) ?_
  exact W.iret hx hb hr (fun t ht _ => ⟨rfl, by rw [ht]; exact hP, hS.F ht⟩) hS.2.2 zjd_pre_17 hlocks
set_option maxRecDepth 100000 in
theorem zm_prf (l : Launch) (G : zG) (A : Nat → Prop) (mem : zMm) (rm : Room) (X Y : Int32) (t0 : Nat) (h0 : 0 ≤ X.toInt) (h1 : X.toInt < Y.toInt) : Met l yJ3_checkIndex_8e157 (Cond.code yJ3_checkIndex_8e157 cJ3_checkIndex_8e157 3 (some FieldType.int) :: zBIG) rm (zPv G A [.int X, .int Y, .ref t0] mem) (zQv G A (some (.int X)) mem) 0 0 A := by
  refine va_MetF (cc := cJ3_checkIndex_8e157) (maxL := 3) (ret := (some FieldType.int)) (by decide +kernel) rfl ?_
  intro p e s m args below meth c s₁ B hml hv
  obtain ⟨rfl, hP, hC⟩ := hv
  have hx := B.exec
  have hb := B.bytes
  have hr := B.returns
  have hts := fun w h => atoms_spec (ws := Cond.code yJ3_checkIndex_8e157 cJ3_checkIndex_8e157 3 (some FieldType.int) :: zBIG) B.pre w (List.mem_cons_of_mem _ h)
  have hown : s.vm.findClass "jdk/internal/util/Preconditions" = some m.cls := findClass_of_methodNamed B.named
  have hlocks := B.notSynchronized
  have hS : va_S A s.heap s.heap [] := va_S.rf
  have hl := lv_entry ([.int X, .int Y, .ref t0]) (n := 3) (Nat.le_of_ble_eq_true rfl)
  rw [lg_entry_eq]
  generalize (lg_sl ([.int X, .int Y, .ref t0]) ++ List.replicate (3 - (lg_sl ([.int X, .int Y, .ref t0])).length) Slot.unset).toArray = ls at hl ⊢
  refine lv_iload_n hx hb zjd_pre_0 rfl (lv_at hl 0 rfl) ?_
  refine lv_if_lt (tgt := 9) hx hb zjd_pre_1 (by decide) (fun q => ?_) (fun _ => ?_)
  · exfalso
    have := Int32.lt_iff_toInt_lt.mp q
    rw [show (0 : Int32).toInt = 0 from rfl] at this
    omega
  refine lv_iload_n hx hb zjd_pre_4 rfl (lv_at hl 0 rfl) ?_
  refine lv_iload_n hx hb zjd_pre_5 rfl (lv_at hl 1 rfl) ?_
  refine lv_icmp_lt (tgt := 16) hx hb zjd_pre_6 (by decide) (fun _ => ?_) (fun q => absurd (Int32.lt_iff_toInt_lt.mpr h1) q)
  refine lv_iload_n hx hb zjd_pre_16 rfl (lv_at hl 0 rfl) ?_
  exact W.iret hx hb hr (fun t ht _ => ⟨rfl, by rw [ht]; exact hP, hS.F ht⟩) hS.2.2 zjd_pre_17 hlocks
set_option maxRecDepth 100000 in
theorem zm_chk (l : Launch) (G : zG) (A : Nat → Prop) (mem : zMm) (X Y : Int32) (h0 : 0 ≤ X.toInt) (h1 : X.toInt < Y.toInt) : Met l yJ0_checkIndex_df160 (Cond.code yJ0_checkIndex_df160 cJ0_checkIndex_df160 2 none :: zBIG) (zqr 2) (zPv G A [.int X, .int Y] mem) (zQv G A (none) mem) 0 0 A := by
  refine va_MetF (cc := cJ0_checkIndex_df160) (maxL := 2) (ret := none) (by decide +kernel) rfl ?_
  intro p e s m args below meth c s₁ B hml hv
  obtain ⟨rfl, hP, hC⟩ := hv
  have hx := B.exec
  have hb := B.bytes
  have hr := B.returns
  have hts := fun w h => atoms_spec (ws := Cond.code yJ0_checkIndex_df160 cJ0_checkIndex_df160 2 none :: zBIG) B.pre w (List.mem_cons_of_mem _ h)
  have hown : s.vm.findClass "java/lang/String" = some m.cls := findClass_of_methodNamed B.named
  have hlocks := B.notSynchronized
  have hS : va_S A s.heap s.heap [] := va_S.rf
  have hl := lv_entry ([.int X, .int Y]) (n := 2) (Nat.le_of_ble_eq_true rfl)
  rw [lg_entry_eq]
  generalize (lg_sl ([.int X, .int Y]) ++ List.replicate (2 - (lg_sl ([.int X, .int Y])).length) Slot.unset).toArray = ls at hl ⊢
  have hsz : ls.size = 2 := hl.1
  have cb : CallB (zqr 2) s _ "java/lang/String" 1059 yJ3_checkIndex_8e157 cJ3_checkIndex_8e157 3 (some .int) (Cond.code yJ3_checkIndex_8e157 cJ3_checkIndex_8e157 3 (some FieldType.int) :: zBIG) (zqr 1) 0 0 3 := callB_of 3 hts (zgi (zbig_c zj_c_pre)) rfl rfl rfl (hts _ zj_n_P) (hts _ zj_m_pre) (by decide +kernel) (by decide)
  refine lv_iload_n hx hb zjd_chk_0 rfl (lv_at hl 0 rfl) ?_
  refine lv_iload_n hx hb zjd_chk_1 rfl (lv_at hl 1 rfl) ?_
  rcases hC.2.2.2.2.2.2 with hz | ⟨t0, hz⟩
  · refine va_gets hx hb hz hS hown (hts _ zj_f_1053) (fun _ q => q) zjd_chk_2 ?_
    refine zcallV (va_runS (As := [.int X, .int Y, .null]) (rest := []) ⟨hx, hb, hml, hown, hts⟩ (zm_pre l G A mem (zqr 1) X Y h0 h1) ⟨cb, hts _ zj_t_pre⟩ ⟨zPv_blind, fun U hU hWm => ⟨rfl, by rw [hU]; exact hP, hC.warm hS hU hWm⟩⟩ rfl rfl hsz rfl (lv_room (Nat.le_of_ble_eq_true rfl)) zjd_chk_5 ⟨Nat.zero_le _, Nat.zero_le _⟩) hS (fun H1 locs1 hP1 hS1 => ?_)
    refine lv_pop hx hb zjd_chk_8 rfl ?_
    exact W.vret hx hb hr (fun t ht _ => ⟨rfl, by rw [ht]; exact hP1, hS1.F ht⟩) hS1.2.2 zjd_chk_9 hlocks
  · refine va_gets hx hb hz hS hown (hts _ zj_f_1053) (fun _ q => q) zjd_chk_2 ?_
    refine zcallV (va_runS (As := [.int X, .int Y, .ref t0]) (rest := []) ⟨hx, hb, hml, hown, hts⟩ (zm_prf l G A mem (zqr 1) X Y t0 h0 h1) ⟨cb, hts _ zj_t_pre⟩ ⟨zPv_blind, fun U hU hWm => ⟨rfl, by rw [hU]; exact hP, hC.warm hS hU hWm⟩⟩ rfl rfl hsz rfl (lv_room (Nat.le_of_ble_eq_true rfl)) zjd_chk_5 ⟨Nat.zero_le _, Nat.zero_le _⟩) hS (fun H1 locs1 hP1 hS1 => ?_)
    refine lv_pop hx hb zjd_chk_8 rfl ?_
    exact W.vret hx hb hr (fun t ht _ => ⟨rfl, by rw [ht]; exact hP1, hS1.F ht⟩) hS1.2.2 zjd_chk_9 hlocks
theorem zS_len : ∀ k, k < 17 → zlenS.getD k 0 = (zstr.getD k []).length ∧ (zstr.getD k []).length < 100 := by decide +kernel
theorem zS_chr : ∀ k, k < 17 → ∀ j, j < 10 → j < (zstr.getD k []).length → ((((zbytS.getD k []).getD j 0) &&& 255).toUInt32 % 65536).toInt32 = Int32.ofInt ((zstr.getD k []).getD j 0) ∧ narrow .char (.int (Int32.ofInt ((zstr.getD k []).getD j 0))) = .int (Int32.ofInt ((zstr.getD k []).getD j 0)) ∧ (Int32.ofInt ((zstr.getD k []).getD j 0)).toInt = (zstr.getD k []).getD j 0 := by decide +kernel
theorem zS_ten : ∀ k, k < 17 → (zstr.getD k []).length ≤ 10 := by decide +kernel
set_option maxRecDepth 100000 in
theorem zm_l1c (l : Launch) (G : zG) (A : Nat → Prop) (mem : zMm) (k : Nat) (hk : k < 17) (X : Int32) (h0 : 0 ≤ X.toInt) (h1 : X.toInt < ((zstr.getD k []).length : Int)) : Met l yJ1_charAt_3b067 (Cond.code yJ1_charAt_3b067 cJ1_charAt_3b067 2 (some FieldType.char) :: zBIG) (zqr 3) (zPv G A [.ref (G.2.2.2.2.1 k), .int X] mem) (zQv G A (some (.int (Int32.ofInt ((zstr.getD k []).getD X.toInt.toNat 0)))) mem) 0 0 A := by
  refine va_MetF (cc := cJ1_charAt_3b067) (maxL := 2) (ret := (some FieldType.char)) (by decide +kernel) rfl ?_
  intro p e s m args below meth c s₁ B hml hv
  obtain ⟨rfl, hP, hC⟩ := hv
  have hx := B.exec
  have hb := B.bytes
  have hr := B.returns
  have hts := fun w h => atoms_spec (ws := Cond.code yJ1_charAt_3b067 cJ1_charAt_3b067 2 (some FieldType.char) :: zBIG) B.pre w (List.mem_cons_of_mem _ h)
  have hown : s.vm.findClass "java/lang/StringLatin1" = some m.cls := findClass_of_methodNamed B.named
  have hlocks := B.notSynchronized
  have hS : va_S A s.heap s.heap [] := va_S.rf
  have hl := lv_entry ([.ref (G.2.2.2.2.1 k), .int X]) (n := 2) (Nat.le_of_ble_eq_true rfl)
  rw [lg_entry_eq]
  generalize (lg_sl ([.ref (G.2.2.2.2.1 k), .int X]) ++ List.replicate (2 - (lg_sl ([.ref (G.2.2.2.2.1 k), .int X])).length) Slot.unset).toArray = ls at hl ⊢
  have hsz : ls.size = 2 := hl.1
  obtain ⟨t1, t2, t3, t4⟩ := hC.2.2.1.1 k hk
  obtain ⟨z1, z2⟩ := zS_len k hk
  have z0 := zclamp h0
  have z3 := zS_ten k hk
  rw [z1] at t4
  have cb : CallB (zqr 3) s _ "java/lang/StringLatin1" 9 yJ0_checkIndex_df160 cJ0_checkIndex_df160 2 none (Cond.code yJ0_checkIndex_df160 cJ0_checkIndex_df160 2 none :: zBIG) (zqr 2) 0 0 2 := callB_of 2 hts (zgi (zbig_c zj_c_chk)) rfl rfl rfl (hts _ zj_n_S) (hts _ zj_m_chk) (by decide +kernel) (by decide)
  have hY : X.toInt < (Int32.ofNat (zstr.getD k []).length).toInt := by rw [Int32.toInt_ofNat_of_lt (by omega)]; exact h1
  refine lv_iload_n hx hb zjd_l1c_0 rfl (lv_at hl 1 rfl) ?_
  refine lv_aload_n hx hb zjd_l1c_1 rfl (lv_at hl 0 rfl) ?_
  refine va_tlen hx hb t4 hS rfl zjd_l1c_2 ?_
  refine zcallV (va_runS (As := [.int X, .int (Int32.ofNat (zstr.getD k []).length)]) (rest := []) ⟨hx, hb, hml, hown, hts⟩ (zm_chk l G A mem X _ h0 hY) ⟨cb, hts _ zj_t_chk⟩ ⟨zPv_blind, fun U hU hWm => ⟨rfl, by rw [hU]; exact hP, hC.warm hS hU hWm⟩⟩ rfl rfl hsz rfl (lv_room (Nat.le_of_ble_eq_true rfl)) zjd_l1c_3 ⟨Nat.zero_le _, Nat.zero_le _⟩) hS (fun H1 locs1 hP1 hS1 => ?_)
  refine lv_aload_n hx hb zjd_l1c_6 rfl (lv_at hl 0 rfl) ?_
  refine lv_iload_n hx hb zjd_l1c_7 rfl (lv_at hl 1 rfl) ?_
  refine va_tb hx hb t4 hS1 (zvi ⟨h0, h1⟩) rfl zjd_l1c_8 ?_
  refine lv_sipush (v := 255) hx hb zjd_l1c_9 (by decide) ?_
  refine lv_iand hx hb zjd_l1c_12 ?_
  obtain ⟨y1, y2, y3⟩ := zS_chr k hk X.toNatClampNeg (by omega) (by omega)
  have y4 : X.toNatClampNeg = X.toInt.toNat := rfl
  refine lv_i2c hx hb zjd_l1c_13 y1 ?_
  rw [y4] at y2 ⊢
  exact W.zret hx hb hr y2 (fun t ht _ => ⟨rfl, by rw [ht]; exact hP1, hS1.F ht⟩) hS1.2.2 zjd_l1c_14 hlocks
set_option maxRecDepth 100000 in
theorem zm_chr (l : Launch) (G : zG) (A : Nat → Prop) (mem : zMm) (rm : Room) (hrm : 4 ≤ rm.frames ∧ 160 ≤ rm.locals) (k : Nat) (hk : k < 17) (X : Int32) (h0 : 0 ≤ X.toInt) (h1 : X.toInt < ((zstr.getD k []).length : Int)) : Met l yJ0_charAt_5068e (Cond.code yJ0_charAt_5068e cJ0_charAt_5068e 2 (some FieldType.char) :: zBIG) rm (zPv G A [.ref (G.2.2.2.1 k), .int X] mem) (zQv G A (some (.int (Int32.ofInt ((zstr.getD k []).getD X.toInt.toNat 0)))) mem) 0 0 A := by
  refine va_MetF (cc := cJ0_charAt_5068e) (maxL := 2) (ret := (some FieldType.char)) (by decide +kernel) rfl ?_
  intro p e s m args below meth c s₁ B hml hv
  obtain ⟨rfl, hP, hC⟩ := hv
  have hx := B.exec
  have hb := B.bytes
  have hr := B.returns
  have hts := fun w h => atoms_spec (ws := Cond.code yJ0_charAt_5068e cJ0_charAt_5068e 2 (some FieldType.char) :: zBIG) B.pre w (List.mem_cons_of_mem _ h)
  have hown : s.vm.findClass "java/lang/String" = some m.cls := findClass_of_methodNamed B.named
  have hlocks := B.notSynchronized
  have hS : va_S A s.heap s.heap [] := va_S.rf
  have hl := lv_entry ([.ref (G.2.2.2.1 k), .int X]) (n := 2) (Nat.le_of_ble_eq_true rfl)
  rw [lg_entry_eq]
  generalize (lg_sl ([.ref (G.2.2.2.1 k), .int X]) ++ List.replicate (2 - (lg_sl ([.ref (G.2.2.2.1 k), .int X])).length) Slot.unset).toArray = ls at hl ⊢
  have hsz : ls.size = 2 := hl.1
  obtain ⟨t1, t2, t3, t4⟩ := hC.2.2.1.1 k hk
  obtain ⟨z1, z2⟩ := zS_len k hk
  have z0 := zclamp h0
  have z3 := zS_ten k hk
  obtain ⟨y1, y2, y3⟩ := zS_chr k hk X.toNatClampNeg (by omega) (by omega)
  have y4 : X.toNatClampNeg = X.toInt.toNat := rfl
  rw [y4] at y2
  have f1 : (zqr 1).frames + 1 ≤ rm.frames := by show 1 + 1 ≤ _; omega
  have f2 : 8 + (1 + 11) + (zqr 1).locals ≤ rm.locals := by show 8 + (1 + 11) + 40 * 1 ≤ _; omega
  have f3 : (zqr 3).frames + 1 ≤ rm.frames := by show 3 + 1 ≤ _; omega
  have f4 : 8 + (2 + 11) + (zqr 3).locals ≤ rm.locals := by show 8 + (2 + 11) + 40 * 3 ≤ _; omega
  have cv : CallW rm s _ "java/lang/String" "java/lang/String" 492 yJ0_isLatin1_aae02 cJ0_isLatin1_aae02 1 (some .boolean) (Cond.code yJ0_isLatin1_aae02 cJ0_isLatin1_aae02 1 (some FieldType.boolean) :: zBIG) (zqr 1) 0 0 0 := ⟨callB_of 0 hts (zgi (zbig_c zj_c_lat)) rfl rfl rfl (hts _ zj_n_S) (hts _ zj_m_lat) (by decide +kernel) ⟨f1, f2⟩, hts _ zj_i_lat, hts _ zj_s_lat⟩
  have cb : CallB rm s _ "java/lang/String" 495 yJ1_charAt_3b067 cJ1_charAt_3b067 2 (some .char) (Cond.code yJ1_charAt_3b067 cJ1_charAt_3b067 2 (some FieldType.char) :: zBIG) (zqr 3) 0 0 2 := callB_of 2 hts (zgi (zbig_c zj_c_l1c)) rfl rfl rfl (hts _ zj_n_S1) (hts _ zj_m_l1c) (by decide +kernel) ⟨f3, f4⟩
  refine lv_aload_n hx hb zjd_chr_0 rfl (lv_at hl 0 rfl) ?_
  refine zcallV (va_runV (C := "java/lang/String") (As := []) (rest := []) ⟨hx, hb, hml, hown, hts⟩ (zm_lat l G A mem (zqr 1) k hk) cv ⟨zPv_blind, vk_recv hC.2.2.1 hk hS, fun U hU hWm => ⟨rfl, by rw [hU]; exact hP, hC.warm hS hU hWm⟩⟩ rfl rfl hsz rfl (lv_room (Nat.le_of_ble_eq_true rfl)) zjd_chr_1 ⟨Nat.zero_le _, Nat.zero_le _⟩) hS (fun H1 locs1 hP1 hS1 => ?_)
  refine lv_if_eq (tgt := 16) hx hb zjd_chr_4 (by decide) (fun q => absurd q (by decide)) (fun _ => ?_)
  refine lv_aload_n hx hb zjd_chr_7 rfl (lv_at hl 0 rfl) ?_
  refine vk_getf hx hb t3 hS1 hown (hts _ zj_f_9) (fun _ q => q) zjd_chr_8 ?_
  refine lv_iload_n hx hb zjd_chr_11 rfl (lv_at hl 1 rfl) ?_
  refine zcallV (va_runS (As := [.ref (G.2.2.2.2.1 k), .int X]) (rest := []) ⟨hx, hb, hml, hown, hts⟩ (zm_l1c l G A mem k hk X h0 h1) ⟨cb, hts _ zj_t_l1c⟩ ⟨zPv_blind, fun U hU hWm => ⟨rfl, by rw [hU]; exact hP1, hC.warm hS1 hU hWm⟩⟩ rfl rfl hsz rfl (lv_room (Nat.le_of_ble_eq_true rfl)) zjd_chr_12 ⟨Nat.zero_le _, Nat.zero_le _⟩) hS1 (fun H2 locs2 hP2 hS2 => ?_)
  exact W.zret hx hb hr y2 (fun t ht _ => ⟨rfl, by rw [ht]; exact hP2, hS2.F ht⟩) hS2.2.2 zjd_chr_15 hlocks
set_option maxRecDepth 100000 in
theorem zm_len (l : Launch) (G : zG) (A : Nat → Prop) (mem : zMm) (rm : Room) (hrm : 4 ≤ rm.frames ∧ 160 ≤ rm.locals) (k : Nat) (hk : k < 17) : Met l yJ0_length_8abf5 (Cond.code yJ0_length_8abf5 cJ0_length_8abf5 1 (some FieldType.int) :: zBIG) rm (zPv G A [.ref (G.2.2.2.1 k)] mem) (zQv G A (some (.int (Int32.ofNat (zstr.getD k []).length))) mem) 0 0 A := by
  refine va_MetF (cc := cJ0_length_8abf5) (maxL := 1) (ret := (some FieldType.int)) (by decide +kernel) rfl ?_
  intro p e s m args below meth c s₁ B hml hv
  obtain ⟨rfl, hP, hC⟩ := hv
  have hx := B.exec
  have hb := B.bytes
  have hr := B.returns
  have hts := fun w h => atoms_spec (ws := Cond.code yJ0_length_8abf5 cJ0_length_8abf5 1 (some FieldType.int) :: zBIG) B.pre w (List.mem_cons_of_mem _ h)
  have hown : s.vm.findClass "java/lang/String" = some m.cls := findClass_of_methodNamed B.named
  have hlocks := B.notSynchronized
  have hS : va_S A s.heap s.heap [] := va_S.rf
  have hl := lv_entry ([.ref (G.2.2.2.1 k)]) (n := 1) (Nat.le_of_ble_eq_true rfl)
  rw [lg_entry_eq]
  generalize (lg_sl ([.ref (G.2.2.2.1 k)]) ++ List.replicate (1 - (lg_sl ([.ref (G.2.2.2.1 k)])).length) Slot.unset).toArray = ls at hl ⊢
  have hsz : ls.size = 1 := hl.1
  obtain ⟨t1, t2, t3, t4⟩ := hC.2.2.1.1 k hk
  obtain ⟨z1, z2⟩ := zS_len k hk
  rw [z1] at t4
  have f1 : (zqr 1).frames + 1 ≤ rm.frames := by show 1 + 1 ≤ _; omega
  have f2 : 8 + (1 + 11) + (zqr 1).locals ≤ rm.locals := by show 8 + (1 + 11) + 40 * 1 ≤ _; omega
  have cv : CallW rm s _ "java/lang/String" "java/lang/String" 335 yJ0_coder_7d493 cJ0_coder_7d493 1 (some .byte) (Cond.code yJ0_coder_7d493 cJ0_coder_7d493 1 (some FieldType.byte) :: zBIG) (zqr 1) 0 0 0 := ⟨callB_of 0 hts (zgi (zbig_c zj_c_coder)) rfl rfl rfl (hts _ zj_n_S) (hts _ zj_m_coder) (by decide +kernel) ⟨f1, f2⟩, hts _ zj_i_coder, hts _ zj_s_coder⟩
  refine lv_aload_n hx hb zjd_len_0 rfl (lv_at hl 0 rfl) ?_
  refine vk_getf hx hb t3 hS hown (hts _ zj_f_9) (fun _ q => q) zjd_len_1 ?_
  refine va_tlen hx hb t4 hS rfl zjd_len_4 ?_
  refine lv_aload_n hx hb zjd_len_5 rfl (lv_at hl 0 rfl) ?_
  refine zcallV (va_runV (C := "java/lang/String") (As := []) (rest := [.int (Int32.ofNat (zstr.getD k []).length)]) ⟨hx, hb, hml, hown, hts⟩ (zm_coder l G A mem (zqr 1) k hk) cv ⟨zPv_blind, vk_recv hC.2.2.1 hk hS, fun U hU hWm => ⟨rfl, by rw [hU]; exact hP, hC.warm hS hU hWm⟩⟩ rfl rfl hsz rfl (lv_room (Nat.le_of_ble_eq_true rfl)) zjd_len_6 ⟨Nat.zero_le _, Nat.zero_le _⟩) hS (fun H1 locs1 hP1 hS1 => ?_)
  refine lv_ishr hx hb zjd_len_9 ?_
  have e9 : Int32.ofNat (zstr.getD k []).length >>> ((0 : Int32) &&& 31) = Int32.ofNat (zstr.getD k []).length := (show ∀ n, n < 100 → Int32.ofNat n >>> ((0 : Int32) &&& 31) = Int32.ofNat n by decide +kernel) _ z2
  rw [e9]
  exact W.iret hx hb hr (fun t ht _ => ⟨rfl, by rw [ht]; exact hP1, hS1.F ht⟩) hS1.2.2 zjd_len_10 hlocks
