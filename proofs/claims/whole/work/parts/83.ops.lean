theorem zcE_i (G : zG) (m : zMm) {c : Int} (h : zkd c = 1) : zcE G m c = .inl (G.2.1 1, (zln c).toNat, .inl (fun i => Int32.ofInt (m c i))) := by
  unfold zcE
  rw [if_neg (by omega), if_pos (by omega), h]; rfl
theorem zcE_l (G : zG) (m : zMm) {c : Int} (h : zkd c = 2) : zcE G m c = .inl (G.2.1 2, (zln c).toNat, .inr (.inl (fun i => Int64.ofInt (m c i)))) := by
  unfold zcE
  rw [if_pos h]
theorem zcE_b (G : zG) (m : zMm) {c : Int} (h : zkd c = 3) : zcE G m c = .inl (G.2.1 3, (zln c).toNat, .inl (fun i => Int32.ofInt (m c i))) := by
  unfold zcE
  rw [if_neg (by omega), if_pos (by omega), h]; rfl
theorem zcE_z (G : zG) (m : zMm) {c : Int} (h : zkd c = 4) : zcE G m c = .inl (G.2.1 4, (zln c).toNat, .inl (fun i => Int32.ofInt (m c i))) := by
  unfold zcE
  rw [if_neg (by omega), if_pos (by omega), h]; rfl
theorem zcE_q (G : zG) (m : zMm) {c : Int} (h : 5 ≤ zkd c ∧ zkd c ≤ 9) : zcE G m c = .inl (G.2.1 (zkd c).toNat, (zln c).toNat, .inr (.inr (.inr (.inr (fun i => some (zra G (zrf c i))))))) := by
  unfold zcE
  rw [if_neg (by omega), if_neg (by omega), if_pos (by omega)]
theorem zln_nn {c : Int} (h : ¬ zkd c = 0) : 0 ≤ zln c ∧ zln c ≤ 1000 := by
  obtain ⟨h1, h2⟩ := zsh_in h
  have := zln_all c.toNat (by omega)
  rw [show ((c.toNat : Nat) : Int) = c by omega] at this
  exact ⟨this.1, this.2.1⟩
theorem zlo_no {c i : Int} (h : zkd c < 100) (h2 : ¬ zkd c = 2) : ¬ zlo c i := by
  unfold zlo
  rintro (q | q)
  · exact h2 q
  · omega
theorem zupd (m : zMm) (c : Int) (X : Int32) (Y : Int32) (h : 0 ≤ X.toInt) : upd (fun (i : Nat) => Int32.ofInt (m c i)) X.toNatClampNeg Y = fun (i : Nat) => Int32.ofInt (zmu m c X.toInt Y.toInt c i) := by
  funext j
  have e := zclamp h
  unfold upd zmu
  by_cases hj : j = X.toNatClampNeg
  · rw [if_pos hj, if_pos ⟨rfl, by rw [hj, e]⟩, Int32.ofInt_toInt]
  · rw [if_neg hj, if_neg (fun q => hj (by omega))]
theorem zupdL (m : zMm) (c : Int) (X : Int32) (Y : Int64) (h : 0 ≤ X.toInt) : vp_updL (fun (i : Nat) => Int64.ofInt (m c i)) X.toNatClampNeg Y = fun (i : Nat) => Int64.ofInt (zmu m c X.toInt Y.toInt c i) := by
  funext j
  have e := zclamp h
  unfold vp_updL zmu
  by_cases hj : j = X.toNatClampNeg
  · rw [if_pos hj, if_pos ⟨rfl, by rw [hj, e]⟩, Int64.ofInt_toInt]
  · rw [if_neg hj, if_neg (fun q => hj (by omega))]
theorem zw8_of (X : Int32) : zw8 X.toInt = (vp_nar .byte X).toInt := by
  rw [vp_nar_byte, Int8.toInt_toInt32, Int32.toInt_toInt8]; rfl
section ZS
variable {p : Program} {l : Launch} {e : Env} {R : Room} {s : State} {m : MethodId} {args : Array Value} {below : List Frame} {meth : Method} {c : Code} {Qf : State → Prop} {G : zG} {A : Nat → Prop} {y : Nat}
variable {E : Nat → List zV → zMm → Option zV → zMm → Prop} {a b : Nat} {v : Int} {pc : Nat} {i : Instr} {len : Nat} {lc : zLc} {st : List zV} {mem : zMm} {K : Nat → zLc → List zV → zMm → Prop} {Q : Option zV → zMm → Prop} {k : zLc → List zV → zMm → Prop}
theorem zs_16 (C : zAt p s m args c y G A) (hd : decode (zmt y).2.1 pc = .ok (i, len)) (hi : zIn_16 y a b v pc i len = true) (h : zst E (16, a, b, v) lc st mem K Q k) (hk : ∀ lc st mem, k lc st mem → zGo p l e R s m args below meth c Qf G A y (pc + len) lc st mem) : zGo p l e R s m args below meth c Qf G A y pc lc st mem := by
  obtain ⟨hx, hb, hml, hown, hts, hC⟩ := C
  intro H locs ls hI
  rw [zst_16] at h
  split at h
  case h_2 => exact h.elim
  rename_i x cc st
  obtain ⟨hkd, hin, h⟩ := h
  obtain ⟨hv, hI1⟩ := hI.pop
  obtain ⟨-, hI2⟩ := hI1.pop
  obtain ⟨X, rfl⟩ := hv
  unfold zIn_16 at hi
  split at hi
  case h_2 => cases hi
  simp only [beq_iff_eq] at hi
  subst hi
  have hne : ¬ zkd cc = 0 := by omega
  have hL := zln_nn hne
  have hw := zWl_at G mem hne
  have e0 := zclamp hin.1
  have hvi : vp_in X (zln cc).toNat := zvi (by omega)
  obtain ⟨Y, hY⟩ := (hI2.2.2.2.1 cc X.toInt).2 (zlo_no (by omega) (by omega))
  rw [hY] at h
  have g := hk _ _ _ h H locs ls (hI2.push ⟨Y, rfl⟩)
  rw [zmp_i] at g
  rw [zmp_i, zmp_r]
  rw [zcE_i G mem hkd] at hw
  refine va_iald (D := G.1) (cl := zcl12) (tys := ztys G) hx hb hC.1 hI2.2.2.2.2.1 cc.toNat 0 hw rfl hvi hd ?_
  show W _ _ _ _ _ _ _ _ _ _ _ _ _ _ _ (F0 _ _ _ (.int (Int32.ofInt (mem cc ((X.toNatClampNeg : Nat) : Int))) :: _))
  rw [e0, hY, Int32.ofInt_toInt]
  exact g
theorem zs_17 (C : zAt p s m args c y G A) (hd : decode (zmt y).2.1 pc = .ok (i, len)) (hi : zIn_17 y a b v pc i len = true) (h : zst E (17, a, b, v) lc st mem K Q k) (hk : ∀ lc st mem, k lc st mem → zGo p l e R s m args below meth c Qf G A y (pc + len) lc st mem) : zGo p l e R s m args below meth c Qf G A y pc lc st mem := by
  obtain ⟨hx, hb, hml, hown, hts, hC⟩ := C
  intro H locs ls hI
  rw [zst_17] at h
  split at h
  case h_2 => exact h.elim
  rename_i x cc st
  obtain ⟨hkd, hin, h⟩ := h
  obtain ⟨hv, hI1⟩ := hI.pop
  obtain ⟨-, hI2⟩ := hI1.pop
  obtain ⟨X, rfl⟩ := hv
  unfold zIn_17 at hi
  split at hi
  case h_2 => cases hi
  simp only [beq_iff_eq] at hi
  subst hi
  have hne : ¬ zkd cc = 0 := by omega
  have hL := zln_nn hne
  have hw := zWl_at G mem hne
  have e0 := zclamp hin.1
  have hvi : vp_in X (zln cc).toNat := zvi (by omega)
  obtain ⟨Y, hY⟩ := (hI2.2.2.2.1 cc X.toInt).2 (zlo_no (by omega) (by omega))
  rw [hY] at h
  have g := hk _ _ _ h H locs ls (hI2.push ⟨Y, rfl⟩)
  rw [zmp_i] at g
  rw [zmp_i, zmp_r]
  rcases hkd with hq | hq
  · rw [zcE_b G mem hq] at hw
    refine va_bald (D := G.1) (cl := zcl12) (tys := ztys G) hx hb hC.1 hI2.2.2.2.2.1 cc.toNat 2 hw rfl hvi hd ?_
    show W _ _ _ _ _ _ _ _ _ _ _ _ _ _ _ (F0 _ _ _ (.int (Int32.ofInt (mem cc ((X.toNatClampNeg : Nat) : Int))) :: _))
    rw [e0, hY, Int32.ofInt_toInt]
    exact g
  · rw [zcE_z G mem hq] at hw
    refine va_zald (D := G.1) (cl := zcl12) (tys := ztys G) hx hb hC.1 hI2.2.2.2.2.1 cc.toNat 3 hw rfl hvi hd ?_
    show W _ _ _ _ _ _ _ _ _ _ _ _ _ _ _ (F0 _ _ _ (.int (Int32.ofInt (mem cc ((X.toNatClampNeg : Nat) : Int))) :: _))
    rw [e0, hY, Int32.ofInt_toInt]
    exact g
theorem zs_19 (C : zAt p s m args c y G A) (hd : decode (zmt y).2.1 pc = .ok (i, len)) (hi : zIn_19 y a b v pc i len = true) (h : zst E (19, a, b, v) lc st mem K Q k) (hk : ∀ lc st mem, k lc st mem → zGo p l e R s m args below meth c Qf G A y (pc + len) lc st mem) : zGo p l e R s m args below meth c Qf G A y pc lc st mem := by
  obtain ⟨hx, hb, hml, hown, hts, hC⟩ := C
  intro H locs ls hI
  rw [zst_19] at h
  split at h
  case h_2 => exact h.elim
  rename_i x cc st
  obtain ⟨hkd, hin, h⟩ := h
  obtain ⟨hv, hI1⟩ := hI.pop
  obtain ⟨-, hI2⟩ := hI1.pop
  obtain ⟨X, rfl⟩ := hv
  unfold zIn_19 at hi
  split at hi
  case h_2 => cases hi
  simp only [beq_iff_eq] at hi
  subst hi
  have hne : ¬ zkd cc = 0 := by omega
  have hL := zln_nn hne
  have hw := zWl_at G mem hne
  have e0 := zclamp hin.1
  have hvi : vp_in X (zln cc).toNat := zvi (by omega)
  obtain ⟨Y, hY⟩ := (hI2.2.2.2.1 cc X.toInt).1 (Or.inl hkd)
  rw [hY] at h
  have g := hk _ _ _ h H locs ls (hI2.push ⟨Y, rfl⟩)
  rw [zmp_l] at g
  rw [zmp_i, zmp_r]
  rw [zcE_l G mem hkd] at hw
  refine va_lald (D := G.1) (cl := zcl12) (tys := ztys G) hx hb hC.1 hI2.2.2.2.2.1 cc.toNat 1 hw rfl hvi hd ?_
  show W _ _ _ _ _ _ _ _ _ _ _ _ _ _ _ (F0 _ _ _ (.long (Int64.ofInt (mem cc ((X.toNatClampNeg : Nat) : Int))) :: _))
  rw [e0, hY, Int64.ofInt_toInt]
  exact g
theorem zs_20 (C : zAt p s m args c y G A) (hd : decode (zmt y).2.1 pc = .ok (i, len)) (hi : zIn_20 y a b v pc i len = true) (h : zst E (20, a, b, v) lc st mem K Q k) (hk : ∀ lc st mem, k lc st mem → zGo p l e R s m args below meth c Qf G A y (pc + len) lc st mem) : zGo p l e R s m args below meth c Qf G A y pc lc st mem := by
  obtain ⟨hx, hb, hml, hown, hts, hC⟩ := C
  intro H locs ls hI
  rw [zst_20] at h
  split at h
  case h_2 => exact h.elim
  rename_i x cc st
  obtain ⟨hkd, hin, h⟩ := h
  obtain ⟨hv, hI1⟩ := hI.pop
  obtain ⟨-, hI2⟩ := hI1.pop
  obtain ⟨X, rfl⟩ := hv
  unfold zIn_20 at hi
  split at hi
  case h_2 => cases hi
  simp only [beq_iff_eq] at hi
  subst hi
  have hne : ¬ zkd cc = 0 := by omega
  have hL := zln_nn hne
  have hw := zWl_at G mem hne
  have e0 := zclamp hin.1
  have hvi : vp_in X (zln cc).toNat := zvi (by omega)
  have g := hk _ _ _ h H locs ls (hI2.push trivial)
  rw [zmp_r] at g
  rw [zmp_i, zmp_r]
  rw [zcE_q G mem hkd] at hw
  have ht : ∃ (t0 : Nat) (C0 : String), (ztys G)[t0]? = some (G.2.1 (zkd cc).toNat, FieldType.object C0) := by
    rcases (show zkd cc = 5 ∨ zkd cc = 6 ∨ zkd cc = 7 ∨ zkd cc = 8 ∨ zkd cc = 9 by omega) with q | q | q | q | q <;> rw [q]
    · exact ⟨4, _, rfl⟩
    · exact ⟨5, _, rfl⟩
    · exact ⟨6, _, rfl⟩
    · exact ⟨7, _, rfl⟩
    · exact ⟨8, _, rfl⟩
  obtain ⟨t0, C0, ht⟩ := ht
  refine va_aldq (D := G.1) (cl := zcl12) (tys := ztys G) hx hb hC.1 hI2.2.2.2.2.1 cc.toNat t0 hw ht hvi hd ?_
  show W _ _ _ _ _ _ _ _ _ _ _ _ _ _ _ (F0 _ _ _ (.ref (zra G (zrf cc ((X.toNatClampNeg : Nat) : Int))) :: _))
  rw [e0]
  exact g
theorem zs_21 (C : zAt p s m args c y G A) (hd : decode (zmt y).2.1 pc = .ok (i, len)) (hi : zIn_21 y a b v pc i len = true) (h : zst E (21, a, b, v) lc st mem K Q k) (hk : ∀ lc st mem, k lc st mem → zGo p l e R s m args below meth c Qf G A y (pc + len) lc st mem) : zGo p l e R s m args below meth c Qf G A y pc lc st mem := by
  obtain ⟨hx, hb, hml, hown, hts, hC⟩ := C
  intro H locs ls hI
  rw [zst_21] at h
  split at h
  case h_2 => exact h.elim
  rename_i w x cc st
  obtain ⟨hkd, hin, h⟩ := h
  obtain ⟨hw0, hI1⟩ := hI.pop
  obtain ⟨hv, hI2⟩ := hI1.pop
  obtain ⟨-, hI3⟩ := hI2.pop
  obtain ⟨X, rfl⟩ := hv
  obtain ⟨Y, rfl⟩ := hw0
  unfold zIn_21 at hi
  split at hi
  case h_2 => cases hi
  simp only [beq_iff_eq] at hi
  subst hi
  have hne : ¬ zkd cc = 0 := by omega
  have hL := zln_nn hne
  have hw := zWl_at G mem hne
  have hvi : vp_in X (zln cc).toNat := zvi (by omega)
  have hset := zWl_set G mem (zmu mem cc X.toInt Y.toInt) hne (zmu_ne mem cc X.toInt Y.toInt)
  rw [zcE_i G _ hkd, ← zupd mem cc X Y hin.1] at hset
  rw [zcE_i G mem hkd] at hw
  have hcm : zCm (zmu mem cc X.toInt Y.toInt) := hI3.2.2.2.1.put (fun q => absurd q (zlo_no (by omega) (by omega))) (fun _ => ⟨Y, rfl⟩)
  rw [zmp_i, zmp_i, zmp_r]
  refine va_iast (D := G.1) (cl := zcl12) (tys := ztys G) hx hb hC.1 hI3.2.2.2.2.1 (hC.D mem) hI3.2.2.2.2.2 cc.toNat 0 hw rfl hvi hd (fun H1 locs1 hP1 _ hS1 => ?_)
  rw [hset] at hP1
  exact hk _ _ _ h H1 locs1 ls (hI3.mem hcm hP1 hS1)
theorem zs_24 (C : zAt p s m args c y G A) (hd : decode (zmt y).2.1 pc = .ok (i, len)) (hi : zIn_24 y a b v pc i len = true) (h : zst E (24, a, b, v) lc st mem K Q k) (hk : ∀ lc st mem, k lc st mem → zGo p l e R s m args below meth c Qf G A y (pc + len) lc st mem) : zGo p l e R s m args below meth c Qf G A y pc lc st mem := by
  obtain ⟨hx, hb, hml, hown, hts, hC⟩ := C
  intro H locs ls hI
  rw [zst_24] at h
  split at h
  case h_2 => exact h.elim
  rename_i w x cc st
  obtain ⟨hkd, hin, h⟩ := h
  obtain ⟨hw0, hI1⟩ := hI.pop
  obtain ⟨hv, hI2⟩ := hI1.pop
  obtain ⟨-, hI3⟩ := hI2.pop
  obtain ⟨X, rfl⟩ := hv
  obtain ⟨Y, rfl⟩ := hw0
  unfold zIn_24 at hi
  split at hi
  case h_2 => cases hi
  simp only [beq_iff_eq] at hi
  subst hi
  have hne : ¬ zkd cc = 0 := by omega
  have hL := zln_nn hne
  have hw := zWl_at G mem hne
  have hvi : vp_in X (zln cc).toNat := zvi (by omega)
  have hset := zWl_set G mem (zmu mem cc X.toInt Y.toInt) hne (zmu_ne mem cc X.toInt Y.toInt)
  rw [zcE_l G _ hkd, ← zupdL mem cc X Y hin.1] at hset
  rw [zcE_l G mem hkd] at hw
  have hcm : zCm (zmu mem cc X.toInt Y.toInt) := hI3.2.2.2.1.put (fun _ => ⟨Y, rfl⟩) (fun q => absurd (Or.inl hkd) q)
  rw [zmp_l, zmp_i, zmp_r]
  refine va_last (D := G.1) (cl := zcl12) (tys := ztys G) hx hb hC.1 hI3.2.2.2.2.1 (hC.D mem) hI3.2.2.2.2.2 cc.toNat 1 hw rfl hvi hd (fun H1 locs1 hP1 _ hS1 => ?_)
  rw [hset] at hP1
  exact hk _ _ _ h H1 locs1 ls (hI3.mem hcm hP1 hS1)
theorem zs_22 (C : zAt p s m args c y G A) (hd : decode (zmt y).2.1 pc = .ok (i, len)) (hi : zIn_22 y a b v pc i len = true) (h : zst E (22, a, b, v) lc st mem K Q k) (hk : ∀ lc st mem, k lc st mem → zGo p l e R s m args below meth c Qf G A y (pc + len) lc st mem) : zGo p l e R s m args below meth c Qf G A y pc lc st mem := by
  obtain ⟨hx, hb, hml, hown, hts, hC⟩ := C
  intro H locs ls hI
  rw [zst_22] at h
  split at h
  case h_2 => exact h.elim
  rename_i w x cc st
  obtain ⟨hin, h⟩ := h
  obtain ⟨hw0, hI1⟩ := hI.pop
  obtain ⟨hv, hI2⟩ := hI1.pop
  obtain ⟨-, hI3⟩ := hI2.pop
  obtain ⟨X, rfl⟩ := hv
  obtain ⟨Y, rfl⟩ := hw0
  unfold zIn_22 at hi
  split at hi
  case h_2 => cases hi
  simp only [beq_iff_eq] at hi
  subst hi
  rw [zmp_i, zmp_i, zmp_r]
  have hne : ¬ zkd cc = 0 := by rcases h with q | q <;> omega
  have hL := zln_nn hne
  have hw := zWl_at G mem hne
  have hvi : vp_in X (zln cc).toNat := zvi (by omega)
  rcases h with ⟨hkd, h⟩ | ⟨hkd, h01, h⟩
  · rw [zw8_of] at h
    have hset := zWl_set G mem (zmu mem cc X.toInt (vp_nar .byte Y).toInt) hne (zmu_ne mem cc X.toInt (vp_nar .byte Y).toInt)
    rw [zcE_b G _ hkd, ← zupd mem cc X (vp_nar .byte Y) hin.1] at hset
    rw [zcE_b G mem hkd] at hw
    have hcm : zCm (zmu mem cc X.toInt (vp_nar .byte Y).toInt) := hI3.2.2.2.1.put (fun q => absurd q (zlo_no (by omega) (by omega))) (fun _ => ⟨_, rfl⟩)
    refine va_bast (D := G.1) (cl := zcl12) (tys := ztys G) hx hb hC.1 hI3.2.2.2.2.1 (hC.D mem) hI3.2.2.2.2.2 cc.toNat 2 hw rfl hvi hd (fun H1 locs1 hP1 _ hS1 => ?_)
    rw [hset] at hP1
    exact hk _ _ _ h H1 locs1 ls (hI3.mem hcm hP1 hS1)
  · have hY : vp_nar .boolean Y = Y := by
      rcases h01 with q | q
      · rw [show Y = 0 from Int32.toInt_inj.mp q]; rfl
      · rw [show Y = 1 from Int32.toInt_inj.mp q]; rfl
    have hset := zWl_set G mem (zmu mem cc X.toInt Y.toInt) hne (zmu_ne mem cc X.toInt Y.toInt)
    rw [zcE_z G _ hkd, ← zupd mem cc X Y hin.1] at hset
    rw [zcE_z G mem hkd] at hw
    have hcm : zCm (zmu mem cc X.toInt Y.toInt) := hI3.2.2.2.1.put (fun q => absurd q (zlo_no (by omega) (by omega))) (fun _ => ⟨_, rfl⟩)
    refine va_zast (D := G.1) (cl := zcl12) (tys := ztys G) hx hb hC.1 hI3.2.2.2.2.1 (hC.D mem) hI3.2.2.2.2.2 cc.toNat 3 hw rfl hvi hd (fun H1 locs1 hP1 _ hS1 => ?_)
    rw [hY, hset] at hP1
    exact hk _ _ _ h H1 locs1 ls (hI3.mem hcm hP1 hS1)
theorem zs_25 (C : zAt p s m args c y G A) (hd : decode (zmt y).2.1 pc = .ok (i, len)) (hi : zIn_25 y a b v pc i len = true) (h : zst E (25, a, b, v) lc st mem K Q k) (hk : ∀ lc st mem, k lc st mem → zGo p l e R s m args below meth c Qf G A y (pc + len) lc st mem) : zGo p l e R s m args below meth c Qf G A y pc lc st mem := by
  obtain ⟨hx, hb, hml, hown, hts, hC⟩ := C
  intro H locs ls hI
  rw [zst_25] at h
  split at h
  case h_2 => exact h.elim
  rename_i cc st
  obtain ⟨hkd, h⟩ := h
  obtain ⟨-, hI1⟩ := hI.pop
  unfold zIn_25 at hi
  split at hi
  case h_2 => cases hi
  simp only [beq_iff_eq] at hi
  subst hi
  have hne : ¬ zkd cc = 0 := by omega
  have hL := zln_nn hne
  have hw := zWl_at G mem hne
  have e1 : zln cc = (Int32.ofNat (zln cc).toNat).toInt := by
    rw [Int32.toInt_ofNat_of_lt (by omega)]; omega
  rw [e1] at h
  have g := hk _ _ _ h H locs ls (hI1.push ⟨_, rfl⟩)
  rw [zmp_i] at g
  rw [zmp_r]
  rcases (show zkd cc = 1 ∨ zkd cc = 2 ∨ zkd cc = 3 ∨ zkd cc = 4 by omega) with q | q | q | q
  · rw [zcE_i G mem q] at hw
    exact va_alen (D := G.1) (cl := zcl12) (tys := ztys G) hx hb hC.1 hI1.2.2.2.2.1 cc.toNat 0 hw rfl rfl hd g
  · rw [zcE_l G mem q] at hw
    exact va_alen (D := G.1) (cl := zcl12) (tys := ztys G) hx hb hC.1 hI1.2.2.2.2.1 cc.toNat 1 hw rfl rfl hd g
  · rw [zcE_b G mem q] at hw
    exact va_alen (D := G.1) (cl := zcl12) (tys := ztys G) hx hb hC.1 hI1.2.2.2.2.1 cc.toNat 2 hw rfl rfl hd g
  · rw [zcE_z G mem q] at hw
    exact va_alen (D := G.1) (cl := zcl12) (tys := ztys G) hx hb hC.1 hI1.2.2.2.2.1 cc.toNat 3 hw rfl rfl hd g
theorem zs_26 (C : zAt p s m args c y G A) (hd : decode (zmt y).2.1 pc = .ok (i, len)) (hi : zIn_26 y a b v pc i len = true) (h : zst E (26, a, b, v) lc st mem K Q k) (hk : ∀ lc st mem, k lc st mem → zGo p l e R s m args below meth c Qf G A y (pc + len) lc st mem) : zGo p l e R s m args below meth c Qf G A y pc lc st mem := by
  obtain ⟨hx, hb, hml, hown, hts, hC⟩ := C
  intro H locs ls hI
  rw [zst_26] at h
  split at h
  case h_2 => exact h.elim
  rename_i yy xx st
  obtain ⟨hv, hI1⟩ := hI.pop
  obtain ⟨hw, hI2⟩ := hI1.pop
  obtain ⟨Y, rfl⟩ := hv
  obtain ⟨X, rfl⟩ := hw
  unfold zIn_26 at hi
  split at hi
  case h_2 => cases hi
  simp only [beq_iff_eq] at hi
  subst hi
  rw [zw_add] at h
  have g := hk _ _ _ h H locs ls (hI2.push ⟨_, rfl⟩)
  rw [zmp_i] at g
  rw [zmp_i, zmp_i]
  exact lv_iadd hx hb hd g
theorem zs_27 (C : zAt p s m args c y G A) (hd : decode (zmt y).2.1 pc = .ok (i, len)) (hi : zIn_27 y a b v pc i len = true) (h : zst E (27, a, b, v) lc st mem K Q k) (hk : ∀ lc st mem, k lc st mem → zGo p l e R s m args below meth c Qf G A y (pc + len) lc st mem) : zGo p l e R s m args below meth c Qf G A y pc lc st mem := by
  obtain ⟨hx, hb, hml, hown, hts, hC⟩ := C
  intro H locs ls hI
  rw [zst_27] at h
  split at h
  case h_2 => exact h.elim
  rename_i yy xx st
  obtain ⟨hv, hI1⟩ := hI.pop
  obtain ⟨hw, hI2⟩ := hI1.pop
  obtain ⟨Y, rfl⟩ := hv
  obtain ⟨X, rfl⟩ := hw
  unfold zIn_27 at hi
  split at hi
  case h_2 => cases hi
  simp only [beq_iff_eq] at hi
  subst hi
  rw [zw_sub] at h
  have g := hk _ _ _ h H locs ls (hI2.push ⟨_, rfl⟩)
  rw [zmp_i] at g
  rw [zmp_i, zmp_i]
  exact lv_isub hx hb hd g
theorem zs_28 (C : zAt p s m args c y G A) (hd : decode (zmt y).2.1 pc = .ok (i, len)) (hi : zIn_28 y a b v pc i len = true) (h : zst E (28, a, b, v) lc st mem K Q k) (hk : ∀ lc st mem, k lc st mem → zGo p l e R s m args below meth c Qf G A y (pc + len) lc st mem) : zGo p l e R s m args below meth c Qf G A y pc lc st mem := by
  obtain ⟨hx, hb, hml, hown, hts, hC⟩ := C
  intro H locs ls hI
  rw [zst_28] at h
  split at h
  case h_2 => exact h.elim
  rename_i yy xx st
  obtain ⟨hv, hI1⟩ := hI.pop
  obtain ⟨hw, hI2⟩ := hI1.pop
  obtain ⟨Y, rfl⟩ := hv
  obtain ⟨X, rfl⟩ := hw
  unfold zIn_28 at hi
  split at hi
  case h_2 => cases hi
  simp only [beq_iff_eq] at hi
  subst hi
  rw [zw_mul] at h
  have g := hk _ _ _ h H locs ls (hI2.push ⟨_, rfl⟩)
  rw [zmp_i] at g
  rw [zmp_i, zmp_i]
  exact lv_imul hx hb hd g
theorem zs_29 (C : zAt p s m args c y G A) (hd : decode (zmt y).2.1 pc = .ok (i, len)) (hi : zIn_29 y a b v pc i len = true) (h : zst E (29, a, b, v) lc st mem K Q k) (hk : ∀ lc st mem, k lc st mem → zGo p l e R s m args below meth c Qf G A y (pc + len) lc st mem) : zGo p l e R s m args below meth c Qf G A y pc lc st mem := by
  obtain ⟨hx, hb, hml, hown, hts, hC⟩ := C
  intro H locs ls hI
  rw [zst_29] at h
  split at h
  case h_2 => exact h.elim
  rename_i yy xx st
  obtain ⟨hv, hI1⟩ := hI.pop
  obtain ⟨hw, hI2⟩ := hI1.pop
  obtain ⟨Y, rfl⟩ := hv
  obtain ⟨X, rfl⟩ := hw
  obtain ⟨hn, h⟩ := h
  unfold zIn_29 at hi
  split at hi
  case h_2 => cases hi
  simp only [beq_iff_eq] at hi
  subst hi
  rw [zw_div] at h
  have g := hk _ _ _ h H locs ls (hI2.push ⟨_, rfl⟩)
  rw [zmp_i] at g
  rw [zmp_i, zmp_i]
  exact lv_idiv hx hb hd (zn0 hn) g
theorem zs_30 (C : zAt p s m args c y G A) (hd : decode (zmt y).2.1 pc = .ok (i, len)) (hi : zIn_30 y a b v pc i len = true) (h : zst E (30, a, b, v) lc st mem K Q k) (hk : ∀ lc st mem, k lc st mem → zGo p l e R s m args below meth c Qf G A y (pc + len) lc st mem) : zGo p l e R s m args below meth c Qf G A y pc lc st mem := by
  obtain ⟨hx, hb, hml, hown, hts, hC⟩ := C
  intro H locs ls hI
  rw [zst_30] at h
  split at h
  case h_2 => exact h.elim
  rename_i yy xx st
  obtain ⟨hv, hI1⟩ := hI.pop
  obtain ⟨hw, hI2⟩ := hI1.pop
  obtain ⟨Y, rfl⟩ := hv
  obtain ⟨X, rfl⟩ := hw
  obtain ⟨hn, h⟩ := h
  unfold zIn_30 at hi
  split at hi
  case h_2 => cases hi
  simp only [beq_iff_eq] at hi
  subst hi
  rw [zw_rem] at h
  have g := hk _ _ _ h H locs ls (hI2.push ⟨_, rfl⟩)
  rw [zmp_i] at g
  rw [zmp_i, zmp_i]
  exact lv_irem hx hb hd (zn0 hn) g
theorem zs_31 (C : zAt p s m args c y G A) (hd : decode (zmt y).2.1 pc = .ok (i, len)) (hi : zIn_31 y a b v pc i len = true) (h : zst E (31, a, b, v) lc st mem K Q k) (hk : ∀ lc st mem, k lc st mem → zGo p l e R s m args below meth c Qf G A y (pc + len) lc st mem) : zGo p l e R s m args below meth c Qf G A y pc lc st mem := by
  obtain ⟨hx, hb, hml, hown, hts, hC⟩ := C
  intro H locs ls hI
  rw [zst_31] at h
  split at h
  case h_2 => exact h.elim
  rename_i yy xx st
  obtain ⟨hv, hI1⟩ := hI.pop
  obtain ⟨hw, hI2⟩ := hI1.pop
  obtain ⟨Y, rfl⟩ := hv
  obtain ⟨X, rfl⟩ := hw
  unfold zIn_31 at hi
  split at hi
  case h_2 => cases hi
  simp only [beq_iff_eq] at hi
  subst hi
  rw [zw_and] at h
  have g := hk _ _ _ h H locs ls (hI2.push ⟨_, rfl⟩)
  rw [zmp_i] at g
  rw [zmp_i, zmp_i]
  exact lv_iand hx hb hd g
theorem zs_32 (C : zAt p s m args c y G A) (hd : decode (zmt y).2.1 pc = .ok (i, len)) (hi : zIn_32 y a b v pc i len = true) (h : zst E (32, a, b, v) lc st mem K Q k) (hk : ∀ lc st mem, k lc st mem → zGo p l e R s m args below meth c Qf G A y (pc + len) lc st mem) : zGo p l e R s m args below meth c Qf G A y pc lc st mem := by
  obtain ⟨hx, hb, hml, hown, hts, hC⟩ := C
  intro H locs ls hI
  rw [zst_32] at h
  split at h
  case h_2 => exact h.elim
  rename_i yy xx st
  obtain ⟨hv, hI1⟩ := hI.pop
  obtain ⟨hw, hI2⟩ := hI1.pop
  obtain ⟨Y, rfl⟩ := hv
  obtain ⟨X, rfl⟩ := hw
  unfold zIn_32 at hi
  split at hi
  case h_2 => cases hi
  simp only [beq_iff_eq] at hi
  subst hi
  rw [zw_or] at h
  have g := hk _ _ _ h H locs ls (hI2.push ⟨_, rfl⟩)
  rw [zmp_i] at g
  rw [zmp_i, zmp_i]
  exact lv_ior hx hb hd g
theorem zs_33 (C : zAt p s m args c y G A) (hd : decode (zmt y).2.1 pc = .ok (i, len)) (hi : zIn_33 y a b v pc i len = true) (h : zst E (33, a, b, v) lc st mem K Q k) (hk : ∀ lc st mem, k lc st mem → zGo p l e R s m args below meth c Qf G A y (pc + len) lc st mem) : zGo p l e R s m args below meth c Qf G A y pc lc st mem := by
  obtain ⟨hx, hb, hml, hown, hts, hC⟩ := C
  intro H locs ls hI
  rw [zst_33] at h
  split at h
  case h_2 => exact h.elim
  rename_i yy xx st
  obtain ⟨hv, hI1⟩ := hI.pop
  obtain ⟨hw, hI2⟩ := hI1.pop
  obtain ⟨Y, rfl⟩ := hv
  obtain ⟨X, rfl⟩ := hw
  unfold zIn_33 at hi
  split at hi
  case h_2 => cases hi
  simp only [beq_iff_eq] at hi
  subst hi
  rw [zw_xor] at h
  have g := hk _ _ _ h H locs ls (hI2.push ⟨_, rfl⟩)
  rw [zmp_i] at g
  rw [zmp_i, zmp_i]
  exact lv_ixor hx hb hd g
theorem zs_34 (C : zAt p s m args c y G A) (hd : decode (zmt y).2.1 pc = .ok (i, len)) (hi : zIn_34 y a b v pc i len = true) (h : zst E (34, a, b, v) lc st mem K Q k) (hk : ∀ lc st mem, k lc st mem → zGo p l e R s m args below meth c Qf G A y (pc + len) lc st mem) : zGo p l e R s m args below meth c Qf G A y pc lc st mem := by
  obtain ⟨hx, hb, hml, hown, hts, hC⟩ := C
  intro H locs ls hI
  rw [zst_34] at h
  split at h
  case h_2 => exact h.elim
  rename_i yy xx st
  obtain ⟨hv, hI1⟩ := hI.pop
  obtain ⟨hw, hI2⟩ := hI1.pop
  obtain ⟨Y, rfl⟩ := hv
  obtain ⟨X, rfl⟩ := hw
  unfold zIn_34 at hi
  split at hi
  case h_2 => cases hi
  simp only [beq_iff_eq] at hi
  subst hi
  rw [zw_shl] at h
  have g := hk _ _ _ h H locs ls (hI2.push ⟨_, rfl⟩)
  rw [zmp_i] at g
  rw [zmp_i, zmp_i]
  exact lv_ishl hx hb hd g
theorem zs_35 (C : zAt p s m args c y G A) (hd : decode (zmt y).2.1 pc = .ok (i, len)) (hi : zIn_35 y a b v pc i len = true) (h : zst E (35, a, b, v) lc st mem K Q k) (hk : ∀ lc st mem, k lc st mem → zGo p l e R s m args below meth c Qf G A y (pc + len) lc st mem) : zGo p l e R s m args below meth c Qf G A y pc lc st mem := by
  obtain ⟨hx, hb, hml, hown, hts, hC⟩ := C
  intro H locs ls hI
  rw [zst_35] at h
  split at h
  case h_2 => exact h.elim
  rename_i yy xx st
  obtain ⟨hv, hI1⟩ := hI.pop
  obtain ⟨hw, hI2⟩ := hI1.pop
  obtain ⟨Y, rfl⟩ := hv
  obtain ⟨X, rfl⟩ := hw
  unfold zIn_35 at hi
  split at hi
  case h_2 => cases hi
  simp only [beq_iff_eq] at hi
  subst hi
  rw [zw_shr] at h
  have g := hk _ _ _ h H locs ls (hI2.push ⟨_, rfl⟩)
  rw [zmp_i] at g
  rw [zmp_i, zmp_i]
  exact lv_ishr hx hb hd g
theorem zs_36 (C : zAt p s m args c y G A) (hd : decode (zmt y).2.1 pc = .ok (i, len)) (hi : zIn_36 y a b v pc i len = true) (h : zst E (36, a, b, v) lc st mem K Q k) (hk : ∀ lc st mem, k lc st mem → zGo p l e R s m args below meth c Qf G A y (pc + len) lc st mem) : zGo p l e R s m args below meth c Qf G A y pc lc st mem := by
  obtain ⟨hx, hb, hml, hown, hts, hC⟩ := C
  intro H locs ls hI
  rw [zst_36] at h
  split at h
  case h_2 => exact h.elim
  rename_i yy xx st
  obtain ⟨hv, hI1⟩ := hI.pop
  obtain ⟨hw, hI2⟩ := hI1.pop
  obtain ⟨Y, rfl⟩ := hv
  obtain ⟨X, rfl⟩ := hw
  unfold zIn_36 at hi
  split at hi
  case h_2 => cases hi
  simp only [beq_iff_eq] at hi
  subst hi
  rw [zw_ushr] at h
  have g := hk _ _ _ h H locs ls (hI2.push ⟨_, rfl⟩)
  rw [zmp_i] at g
  rw [zmp_i, zmp_i]
  exact lv_iushr hx hb hd rfl g
theorem zs_37 (C : zAt p s m args c y G A) (hd : decode (zmt y).2.1 pc = .ok (i, len)) (hi : zIn_37 y a b v pc i len = true) (h : zst E (37, a, b, v) lc st mem K Q k) (hk : ∀ lc st mem, k lc st mem → zGo p l e R s m args below meth c Qf G A y (pc + len) lc st mem) : zGo p l e R s m args below meth c Qf G A y pc lc st mem := by
  obtain ⟨hx, hb, hml, hown, hts, hC⟩ := C
  intro H locs ls hI
  rw [zst_37] at h
  split at h
  case h_2 => exact h.elim
  rename_i yy xx st
  obtain ⟨hv, hI1⟩ := hI.pop
  obtain ⟨hw, hI2⟩ := hI1.pop
  obtain ⟨Y, rfl⟩ := hv
  obtain ⟨X, rfl⟩ := hw
  unfold zIn_37 at hi
  split at hi
  case h_2 => cases hi
  simp only [beq_iff_eq] at hi
  subst hi
  rw [zl_add] at h
  have g := hk _ _ _ h H locs ls (hI2.push ⟨_, rfl⟩)
  rw [zmp_l] at g
  rw [zmp_l, zmp_l]
  exact lv_ladd hx hb hd g
theorem zs_38 (C : zAt p s m args c y G A) (hd : decode (zmt y).2.1 pc = .ok (i, len)) (hi : zIn_38 y a b v pc i len = true) (h : zst E (38, a, b, v) lc st mem K Q k) (hk : ∀ lc st mem, k lc st mem → zGo p l e R s m args below meth c Qf G A y (pc + len) lc st mem) : zGo p l e R s m args below meth c Qf G A y pc lc st mem := by
  obtain ⟨hx, hb, hml, hown, hts, hC⟩ := C
  intro H locs ls hI
  rw [zst_38] at h
  split at h
  case h_2 => exact h.elim
  rename_i yy xx st
  obtain ⟨hv, hI1⟩ := hI.pop
  obtain ⟨hw, hI2⟩ := hI1.pop
  obtain ⟨Y, rfl⟩ := hv
  obtain ⟨X, rfl⟩ := hw
  unfold zIn_38 at hi
  split at hi
  case h_2 => cases hi
  simp only [beq_iff_eq] at hi
  subst hi
  rw [zl_sub] at h
  have g := hk _ _ _ h H locs ls (hI2.push ⟨_, rfl⟩)
  rw [zmp_l] at g
  rw [zmp_l, zmp_l]
  exact lv_lsub hx hb hd g
theorem zs_39 (C : zAt p s m args c y G A) (hd : decode (zmt y).2.1 pc = .ok (i, len)) (hi : zIn_39 y a b v pc i len = true) (h : zst E (39, a, b, v) lc st mem K Q k) (hk : ∀ lc st mem, k lc st mem → zGo p l e R s m args below meth c Qf G A y (pc + len) lc st mem) : zGo p l e R s m args below meth c Qf G A y pc lc st mem := by
  obtain ⟨hx, hb, hml, hown, hts, hC⟩ := C
  intro H locs ls hI
  rw [zst_39] at h
  split at h
  case h_2 => exact h.elim
  rename_i yy xx st
  obtain ⟨hv, hI1⟩ := hI.pop
  obtain ⟨hw, hI2⟩ := hI1.pop
  obtain ⟨Y, rfl⟩ := hv
  obtain ⟨X, rfl⟩ := hw
  unfold zIn_39 at hi
  split at hi
  case h_2 => cases hi
  simp only [beq_iff_eq] at hi
  subst hi
  rw [zl_mul] at h
  have g := hk _ _ _ h H locs ls (hI2.push ⟨_, rfl⟩)
  rw [zmp_l] at g
  rw [zmp_l, zmp_l]
  exact lv_lmul hx hb hd g
theorem zs_40 (C : zAt p s m args c y G A) (hd : decode (zmt y).2.1 pc = .ok (i, len)) (hi : zIn_40 y a b v pc i len = true) (h : zst E (40, a, b, v) lc st mem K Q k) (hk : ∀ lc st mem, k lc st mem → zGo p l e R s m args below meth c Qf G A y (pc + len) lc st mem) : zGo p l e R s m args below meth c Qf G A y pc lc st mem := by
  obtain ⟨hx, hb, hml, hown, hts, hC⟩ := C
  intro H locs ls hI
  rw [zst_40] at h
  split at h
  case h_2 => exact h.elim
  rename_i yy xx st
  obtain ⟨hv, hI1⟩ := hI.pop
  obtain ⟨hw, hI2⟩ := hI1.pop
  obtain ⟨Y, rfl⟩ := hv
  obtain ⟨X, rfl⟩ := hw
  obtain ⟨hn, h⟩ := h
  unfold zIn_40 at hi
  split at hi
  case h_2 => cases hi
  simp only [beq_iff_eq] at hi
  subst hi
  rw [zl_div] at h
  have g := hk _ _ _ h H locs ls (hI2.push ⟨_, rfl⟩)
  rw [zmp_l] at g
  rw [zmp_l, zmp_l]
  exact lv_ldiv hx hb hd (zl0 hn) g
theorem zs_41 (C : zAt p s m args c y G A) (hd : decode (zmt y).2.1 pc = .ok (i, len)) (hi : zIn_41 y a b v pc i len = true) (h : zst E (41, a, b, v) lc st mem K Q k) (hk : ∀ lc st mem, k lc st mem → zGo p l e R s m args below meth c Qf G A y (pc + len) lc st mem) : zGo p l e R s m args below meth c Qf G A y pc lc st mem := by
  obtain ⟨hx, hb, hml, hown, hts, hC⟩ := C
  intro H locs ls hI
  rw [zst_41] at h
  split at h
  case h_2 => exact h.elim
  rename_i yy xx st
  obtain ⟨hv, hI1⟩ := hI.pop
  obtain ⟨hw, hI2⟩ := hI1.pop
  obtain ⟨Y, rfl⟩ := hv
  obtain ⟨X, rfl⟩ := hw
  obtain ⟨hn, h⟩ := h
  unfold zIn_41 at hi
  split at hi
  case h_2 => cases hi
  simp only [beq_iff_eq] at hi
  subst hi
  rw [zl_rem] at h
  have g := hk _ _ _ h H locs ls (hI2.push ⟨_, rfl⟩)
  rw [zmp_l] at g
  rw [zmp_l, zmp_l]
  exact lv_lrem hx hb hd (zl0 hn) g
theorem zs_42 (C : zAt p s m args c y G A) (hd : decode (zmt y).2.1 pc = .ok (i, len)) (hi : zIn_42 y a b v pc i len = true) (h : zst E (42, a, b, v) lc st mem K Q k) (hk : ∀ lc st mem, k lc st mem → zGo p l e R s m args below meth c Qf G A y (pc + len) lc st mem) : zGo p l e R s m args below meth c Qf G A y pc lc st mem := by
  obtain ⟨hx, hb, hml, hown, hts, hC⟩ := C
  intro H locs ls hI
  rw [zst_42] at h
  split at h
  case h_2 => exact h.elim
  rename_i yy xx st
  obtain ⟨hv, hI1⟩ := hI.pop
  obtain ⟨hw, hI2⟩ := hI1.pop
  obtain ⟨Y, rfl⟩ := hv
  obtain ⟨X, rfl⟩ := hw
  unfold zIn_42 at hi
  split at hi
  case h_2 => cases hi
  simp only [beq_iff_eq] at hi
  subst hi
  rw [zl_and] at h
  have g := hk _ _ _ h H locs ls (hI2.push ⟨_, rfl⟩)
  rw [zmp_l] at g
  rw [zmp_l, zmp_l]
  exact lv_land hx hb hd g
theorem zs_43 (C : zAt p s m args c y G A) (hd : decode (zmt y).2.1 pc = .ok (i, len)) (hi : zIn_43 y a b v pc i len = true) (h : zst E (43, a, b, v) lc st mem K Q k) (hk : ∀ lc st mem, k lc st mem → zGo p l e R s m args below meth c Qf G A y (pc + len) lc st mem) : zGo p l e R s m args below meth c Qf G A y pc lc st mem := by
  obtain ⟨hx, hb, hml, hown, hts, hC⟩ := C
  intro H locs ls hI
  rw [zst_43] at h
  split at h
  case h_2 => exact h.elim
  rename_i yy xx st
  obtain ⟨hv, hI1⟩ := hI.pop
  obtain ⟨hw, hI2⟩ := hI1.pop
  obtain ⟨Y, rfl⟩ := hv
  obtain ⟨X, rfl⟩ := hw
  unfold zIn_43 at hi
  split at hi
  case h_2 => cases hi
  simp only [beq_iff_eq] at hi
  subst hi
  rw [zl_or] at h
  have g := hk _ _ _ h H locs ls (hI2.push ⟨_, rfl⟩)
  rw [zmp_l] at g
  rw [zmp_l, zmp_l]
  exact lv_lor hx hb hd g
theorem zs_44 (C : zAt p s m args c y G A) (hd : decode (zmt y).2.1 pc = .ok (i, len)) (hi : zIn_44 y a b v pc i len = true) (h : zst E (44, a, b, v) lc st mem K Q k) (hk : ∀ lc st mem, k lc st mem → zGo p l e R s m args below meth c Qf G A y (pc + len) lc st mem) : zGo p l e R s m args below meth c Qf G A y pc lc st mem := by
  obtain ⟨hx, hb, hml, hown, hts, hC⟩ := C
  intro H locs ls hI
  rw [zst_44] at h
  split at h
  case h_2 => exact h.elim
  rename_i yy xx st
  obtain ⟨hv, hI1⟩ := hI.pop
  obtain ⟨hw, hI2⟩ := hI1.pop
  obtain ⟨Y, rfl⟩ := hv
  obtain ⟨X, rfl⟩ := hw
  unfold zIn_44 at hi
  split at hi
  case h_2 => cases hi
  simp only [beq_iff_eq] at hi
  subst hi
  rw [zl_shl] at h
  have g := hk _ _ _ h H locs ls (hI2.push ⟨_, rfl⟩)
  rw [zmp_l] at g
  rw [zmp_i, zmp_l]
  exact lv_lshl hx hb hd rfl g
theorem zs_45 (C : zAt p s m args c y G A) (hd : decode (zmt y).2.1 pc = .ok (i, len)) (hi : zIn_45 y a b v pc i len = true) (h : zst E (45, a, b, v) lc st mem K Q k) (hk : ∀ lc st mem, k lc st mem → zGo p l e R s m args below meth c Qf G A y (pc + len) lc st mem) : zGo p l e R s m args below meth c Qf G A y pc lc st mem := by
  obtain ⟨hx, hb, hml, hown, hts, hC⟩ := C
  intro H locs ls hI
  rw [zst_45] at h
  split at h
  case h_2 => exact h.elim
  rename_i yy xx st
  obtain ⟨hv, hI1⟩ := hI.pop
  obtain ⟨hw, hI2⟩ := hI1.pop
  obtain ⟨Y, rfl⟩ := hv
  obtain ⟨X, rfl⟩ := hw
  unfold zIn_45 at hi
  split at hi
  case h_2 => cases hi
  simp only [beq_iff_eq] at hi
  subst hi
  rw [zl_cmp] at h
  have g := hk _ _ _ h H locs ls (hI2.push ⟨_, rfl⟩)
  rw [zmp_i] at g
  rw [zmp_l, zmp_l]
  exact W.lcmp hx hb hd g
theorem zs_46 (C : zAt p s m args c y G A) (hd : decode (zmt y).2.1 pc = .ok (i, len)) (hi : zIn_46 y a b v pc i len = true) (h : zst E (46, a, b, v) lc st mem K Q k) (hk : ∀ lc st mem, k lc st mem → zGo p l e R s m args below meth c Qf G A y (pc + len) lc st mem) : zGo p l e R s m args below meth c Qf G A y pc lc st mem := by
  obtain ⟨hx, hb, hml, hown, hts, hC⟩ := C
  intro H locs ls hI
  rw [zst_46] at h
  split at h
  case h_2 => exact h.elim
  rename_i xx st
  obtain ⟨hv, hI1⟩ := hI.pop
  obtain ⟨X, rfl⟩ := hv
  unfold zIn_46 at hi
  split at hi
  case h_2 => cases hi
  simp only [beq_iff_eq] at hi
  subst hi
  rw [zmp_i]
  rw [(show X.toInt = X.toInt64.toInt from (Int32.toInt_toInt64 X).symm)] at h
  have g := hk _ _ _ h H locs ls (hI1.push ⟨_, rfl⟩)
  rw [zmp_l] at g
  exact lv_i2l hx hb hd rfl g
theorem zs_47 (C : zAt p s m args c y G A) (hd : decode (zmt y).2.1 pc = .ok (i, len)) (hi : zIn_47 y a b v pc i len = true) (h : zst E (47, a, b, v) lc st mem K Q k) (hk : ∀ lc st mem, k lc st mem → zGo p l e R s m args below meth c Qf G A y (pc + len) lc st mem) : zGo p l e R s m args below meth c Qf G A y pc lc st mem := by
  obtain ⟨hx, hb, hml, hown, hts, hC⟩ := C
  intro H locs ls hI
  rw [zst_47] at h
  split at h
  case h_2 => exact h.elim
  rename_i xx st
  obtain ⟨hv, hI1⟩ := hI.pop
  obtain ⟨X, rfl⟩ := hv
  unfold zIn_47 at hi
  split at hi
  case h_2 => cases hi
  simp only [beq_iff_eq] at hi
  subst hi
  rw [zmp_l]
  rw [(show zw X.toInt = X.toInt32.toInt from (Int64.toInt_toInt32 X).symm)] at h
  have g := hk _ _ _ h H locs ls (hI1.push ⟨_, rfl⟩)
  rw [zmp_i] at g
  exact lv_l2i hx hb hd rfl g
theorem zs_48 (C : zAt p s m args c y G A) (hd : decode (zmt y).2.1 pc = .ok (i, len)) (hi : zIn_48 y a b v pc i len = true) (h : zst E (48, a, b, v) lc st mem K Q k) (hk : ∀ lc st mem, k lc st mem → zGo p l e R s m args below meth c Qf G A y (pc + len) lc st mem) : zGo p l e R s m args below meth c Qf G A y pc lc st mem := by
  obtain ⟨hx, hb, hml, hown, hts, hC⟩ := C
  intro H locs ls hI
  rw [zst_48] at h
  split at h
  case h_2 => exact h.elim
  rename_i xx st
  obtain ⟨hv, hI1⟩ := hI.pop
  obtain ⟨X, rfl⟩ := hv
  unfold zIn_48 at hi
  split at hi
  case h_2 => cases hi
  simp only [beq_iff_eq] at hi
  subst hi
  rw [zmp_i]
  rw [(show zw8 X.toInt = X.toInt8.toInt32.toInt by rw [Int8.toInt_toInt32, Int32.toInt_toInt8]; rfl)] at h
  have g := hk _ _ _ h H locs ls (hI1.push ⟨_, rfl⟩)
  rw [zmp_i] at g
  exact lv_i2b hx hb hd rfl g
theorem zs_49 (C : zAt p s m args c y G A) (hd : decode (zmt y).2.1 pc = .ok (i, len)) (hi : zIn_49 y a b v pc i len = true) (h : zst E (49, a, b, v) lc st mem K Q k) (hk : ∀ lc st mem, k lc st mem → zGo p l e R s m args below meth c Qf G A y (pc + len) lc st mem) : zGo p l e R s m args below meth c Qf G A y pc lc st mem := by
  obtain ⟨hx, hb, hml, hown, hts, hC⟩ := C
  intro H locs ls hI
  rw [zst_49] at h
  split at h
  case h_2 => exact h.elim
  rename_i xx st
  obtain ⟨hv, hI1⟩ := hI.pop
  obtain ⟨X, rfl⟩ := hv
  unfold zIn_49 at hi
  split at hi
  case h_2 => cases hi
  simp only [beq_iff_eq] at hi
  subst hi
  rw [zmp_i]
  rw [(show zw16 X.toInt = X.toInt16.toInt32.toInt by rw [Int16.toInt_toInt32, Int32.toInt_toInt16]; rfl)] at h
  have g := hk _ _ _ h H locs ls (hI1.push ⟨_, rfl⟩)
  rw [zmp_i] at g
  exact lv_i2s hx hb hd rfl g
theorem zs_50 (C : zAt p s m args c y G A) (hd : decode (zmt y).2.1 pc = .ok (i, len)) (hi : zIn_50 y a b v pc i len = true) (h : zst E (50, a, b, v) lc st mem K Q k) (hk : ∀ lc st mem, k lc st mem → zGo p l e R s m args below meth c Qf G A y (pc + len) lc st mem) : zGo p l e R s m args below meth c Qf G A y pc lc st mem := by
  obtain ⟨hx, hb, hml, hown, hts, hC⟩ := C
  intro H locs ls hI
  rw [zst_50] at h
  unfold zIn_50 at hi
  split at hi
  case h_2 => cases hi
  simp only [beq_iff_eq] at hi
  subst hi
  split at h
  · rename_i x st
    obtain ⟨hv, hI1⟩ := hI.pop
    exact lv_dup hx hb hd rfl (hk _ _ _ h H locs ls ((hI1.push hv).push hv))
  · rename_i x st
    obtain ⟨hv, hI1⟩ := hI.pop
    exact lv_dup hx hb hd rfl (hk _ _ _ h H locs ls ((hI1.push hv).push hv))
  · exact h.elim
theorem zs_51 (C : zAt p s m args c y G A) (hd : decode (zmt y).2.1 pc = .ok (i, len)) (hi : zIn_51 y a b v pc i len = true) (h : zst E (51, a, b, v) lc st mem K Q k) (hk : ∀ lc st mem, k lc st mem → zGo p l e R s m args below meth c Qf G A y (pc + len) lc st mem) : zGo p l e R s m args below meth c Qf G A y pc lc st mem := by
  obtain ⟨hx, hb, hml, hown, hts, hC⟩ := C
  intro H locs ls hI
  rw [zst_51] at h
  unfold zIn_51 at hi
  split at hi
  case h_2 => cases hi
  simp only [beq_iff_eq] at hi
  subst hi
  split at h
  · rename_i x xx st
    obtain ⟨hv, hI1⟩ := hI.pop
    obtain ⟨hw, hI2⟩ := hI1.pop
    exact lv_dup2_11 hx hb hd rfl rfl (hk _ _ _ h H locs ls ((((hI2.push hw).push hv).push hw).push hv))
  · exact h.elim
theorem zs_52 (C : zAt p s m args c y G A) (hd : decode (zmt y).2.1 pc = .ok (i, len)) (hi : zIn_52 y a b v pc i len = true) (h : zst E (52, a, b, v) lc st mem K Q k) (hk : ∀ lc st mem, k lc st mem → zGo p l e R s m args below meth c Qf G A y (pc + len) lc st mem) : zGo p l e R s m args below meth c Qf G A y pc lc st mem := by
  obtain ⟨hx, hb, hml, hown, hts, hC⟩ := C
  intro H locs ls hI
  rw [zst_52] at h
  unfold zIn_52 at hi
  split at hi
  case h_2 => cases hi
  simp only [beq_iff_eq] at hi
  subst hi
  split at h
  · rename_i x st
    obtain ⟨hv, hI1⟩ := hI.pop
    exact lv_pop hx hb hd rfl (hk _ _ _ h H locs ls hI1)
  · exact h.elim
theorem zs_53 (C : zAt p s m args c y G A) (hd : decode (zmt y).2.1 pc = .ok (i, len)) (hi : zIn_53 y a b v pc i len = true) (h : zst E (53, a, b, v) lc st mem K Q k) (hk : ∀ lc st mem, k lc st mem → zGo p l e R s m args below meth c Qf G A y (pc + len) lc st mem) : zGo p l e R s m args below meth c Qf G A y pc lc st mem := by
  obtain ⟨hx, hb, hml, hown, hts, hC⟩ := C
  intro H locs ls hI
  rw [zst_53] at h
  split at h
  case h_2 => exact h.elim
  rename_i x hx0
  unfold zIn_53 at hi
  split at hi
  case h_2 => cases hi
  simp only [Bool.and_eq_true, beq_iff_eq, decide_eq_true_eq] at hi
  obtain ⟨rfl, rfl, rfl, hv, hn⟩ := hi
  obtain ⟨X, rfl⟩ := hI.2.1 _ _ hx0
  rename_i k0 n0
  obtain ⟨⟨lv, hlv, hl⟩, hL, hR⟩ := hI
  have hmem := hl _ _ hx0
  rw [zph_i] at hmem
  obtain ⟨j, hj⟩ := List.getElem?_of_mem hmem
  have e1 : zw (X.toInt + n0) = (X + Int32.ofInt n0).toInt := by
    rw [← zw_add, ← hv]
  rw [e1] at h
  have hst := zLR.st1 (G := G) (a := k0) (v := .inl (X + Int32.ofInt n0).toInt) hl
  rw [zph_i] at hst
  have hL' : ∀ i v, zlg (zls lc k0 (some (.inl (X + Int32.ofInt n0).toInt))) i = some v → zCv v := by
    intro i v hv
    rcases zls_get _ _ _ _ _ hv with ⟨-, e⟩ | ⟨-, e2, -⟩
    · cases e; exact ⟨_, rfl⟩
    · exact hL _ _ e2
  exact lv_iinc hx hb hd hlv hj rfl hn rfl (fun ls' hq => hk _ _ _ h H locs ls' ⟨⟨_, hq, hst⟩, hL', hR⟩)
theorem zs_54 (C : zAt p s m args c y G A) (hd : decode (zmt y).2.1 pc = .ok (i, len)) (hi : zIn_54 y a b v pc i len = true) (h : zst E (54, a, b, v) lc st mem K Q k) (hK : ∀ b lc st mem, K b lc st mem → zGo p l e R s m args below meth c Qf G A y (zbp y b) lc st mem) : zGo p l e R s m args below meth c Qf G A y pc lc st mem := by
  obtain ⟨hx, hb, hml, hown, hts, hC⟩ := C
  intro H locs ls hI
  have h : K a lc st mem := h
  unfold zIn_54 at hi
  split at hi
  case h_2 => cases hi
  simp only [Bool.and_eq_true, beq_iff_eq] at hi
  obtain ⟨rfl, e1⟩ := hi
  exact lv_goto hx hb hd e1 (hK _ _ _ _ h H locs ls hI)
theorem zs_55 (C : zAt p s m args c y G A) (hd : decode (zmt y).2.1 pc = .ok (i, len)) (hi : zIn_55 y a b v pc i len = true) (h : zst E (55, a, b, v) lc st mem K Q k) (hK : ∀ b lc st mem, K b lc st mem → zGo p l e R s m args below meth c Qf G A y (zbp y b) lc st mem) : zGo p l e R s m args below meth c Qf G A y pc lc st mem := by
  obtain ⟨hx, hb, hml, hown, hts, hC⟩ := C
  intro H locs ls hI
  rw [zst_55] at h
  split at h
  case h_2 => exact h.elim
  rename_i yy xx st
  obtain ⟨hv, hI1⟩ := hI.pop
  obtain ⟨hw, hI2⟩ := hI1.pop
  obtain ⟨Y, rfl⟩ := hv
  obtain ⟨X, rfl⟩ := hw
  unfold zIn_55 at hi
  split at hi
  case h_2 => cases hi
  simp only [Bool.and_eq_true, beq_iff_eq] at hi
  obtain ⟨rfl, e1, e2⟩ := hi
  rw [zmp_i, zmp_i]
  refine lv_icmp_eq hx hb hd e1 (fun q => ?_) (fun q => ?_)
  · exact hK _ _ _ _ (h.1 (Int32.toInt_inj.mpr q)) H locs ls hI2
  · rw [e2]; exact hK _ _ _ _ (h.2 (fun z => q (Int32.toInt_inj.mp z))) H locs ls hI2
theorem zs_61 (C : zAt p s m args c y G A) (hd : decode (zmt y).2.1 pc = .ok (i, len)) (hi : zIn_61 y a b v pc i len = true) (h : zst E (61, a, b, v) lc st mem K Q k) (hK : ∀ b lc st mem, K b lc st mem → zGo p l e R s m args below meth c Qf G A y (zbp y b) lc st mem) : zGo p l e R s m args below meth c Qf G A y pc lc st mem := by
  obtain ⟨hx, hb, hml, hown, hts, hC⟩ := C
  intro H locs ls hI
  rw [zst_61] at h
  split at h
  case h_2 => exact h.elim
  rename_i xx st
  obtain ⟨hw, hI2⟩ := hI.pop
  obtain ⟨X, rfl⟩ := hw
  unfold zIn_61 at hi
  split at hi
  case h_2 => cases hi
  simp only [Bool.and_eq_true, beq_iff_eq] at hi
  obtain ⟨rfl, e1, e2⟩ := hi
  rw [zmp_i]
  refine lv_if_eq hx hb hd e1 (fun q => ?_) (fun q => ?_)
  · exact hK _ _ _ _ (h.1 ((Int32.toInt_inj (y := 0)).mpr q)) H locs ls hI2
  · rw [e2]; exact hK _ _ _ _ (h.2 (fun z => q ((Int32.toInt_inj (y := 0)).mp z))) H locs ls hI2
theorem zs_56 (C : zAt p s m args c y G A) (hd : decode (zmt y).2.1 pc = .ok (i, len)) (hi : zIn_56 y a b v pc i len = true) (h : zst E (56, a, b, v) lc st mem K Q k) (hK : ∀ b lc st mem, K b lc st mem → zGo p l e R s m args below meth c Qf G A y (zbp y b) lc st mem) : zGo p l e R s m args below meth c Qf G A y pc lc st mem := by
  obtain ⟨hx, hb, hml, hown, hts, hC⟩ := C
  intro H locs ls hI
  rw [zst_56] at h
  split at h
  case h_2 => exact h.elim
  rename_i yy xx st
  obtain ⟨hv, hI1⟩ := hI.pop
  obtain ⟨hw, hI2⟩ := hI1.pop
  obtain ⟨Y, rfl⟩ := hv
  obtain ⟨X, rfl⟩ := hw
  unfold zIn_56 at hi
  split at hi
  case h_2 => cases hi
  simp only [Bool.and_eq_true, beq_iff_eq] at hi
  obtain ⟨rfl, e1, e2⟩ := hi
  rw [zmp_i, zmp_i]
  refine lv_icmp_ne hx hb hd e1 (fun q => ?_) (fun q => ?_)
  · exact hK _ _ _ _ (h.1 ((not_congr Int32.toInt_inj).mpr q)) H locs ls hI2
  · rw [e2]; exact hK _ _ _ _ (h.2 (fun z => z (by rw [q]))) H locs ls hI2
theorem zs_62 (C : zAt p s m args c y G A) (hd : decode (zmt y).2.1 pc = .ok (i, len)) (hi : zIn_62 y a b v pc i len = true) (h : zst E (62, a, b, v) lc st mem K Q k) (hK : ∀ b lc st mem, K b lc st mem → zGo p l e R s m args below meth c Qf G A y (zbp y b) lc st mem) : zGo p l e R s m args below meth c Qf G A y pc lc st mem := by
  obtain ⟨hx, hb, hml, hown, hts, hC⟩ := C
  intro H locs ls hI
  rw [zst_62] at h
  split at h
  case h_2 => exact h.elim
  rename_i xx st
  obtain ⟨hw, hI2⟩ := hI.pop
  obtain ⟨X, rfl⟩ := hw
  unfold zIn_62 at hi
  split at hi
  case h_2 => cases hi
  simp only [Bool.and_eq_true, beq_iff_eq] at hi
  obtain ⟨rfl, e1, e2⟩ := hi
  rw [zmp_i]
  refine lv_if_ne hx hb hd e1 (fun q => ?_) (fun q => ?_)
  · exact hK _ _ _ _ (h.1 ((not_congr (Int32.toInt_inj (y := 0))).mpr q)) H locs ls hI2
  · rw [e2]; exact hK _ _ _ _ (h.2 (fun z => z (by rw [q]; rfl))) H locs ls hI2
theorem zs_57 (C : zAt p s m args c y G A) (hd : decode (zmt y).2.1 pc = .ok (i, len)) (hi : zIn_57 y a b v pc i len = true) (h : zst E (57, a, b, v) lc st mem K Q k) (hK : ∀ b lc st mem, K b lc st mem → zGo p l e R s m args below meth c Qf G A y (zbp y b) lc st mem) : zGo p l e R s m args below meth c Qf G A y pc lc st mem := by
  obtain ⟨hx, hb, hml, hown, hts, hC⟩ := C
  intro H locs ls hI
  rw [zst_57] at h
  split at h
  case h_2 => exact h.elim
  rename_i yy xx st
  obtain ⟨hv, hI1⟩ := hI.pop
  obtain ⟨hw, hI2⟩ := hI1.pop
  obtain ⟨Y, rfl⟩ := hv
  obtain ⟨X, rfl⟩ := hw
  unfold zIn_57 at hi
  split at hi
  case h_2 => cases hi
  simp only [Bool.and_eq_true, beq_iff_eq] at hi
  obtain ⟨rfl, e1, e2⟩ := hi
  rw [zmp_i, zmp_i]
  refine lv_icmp_lt hx hb hd e1 (fun q => ?_) (fun q => ?_)
  · exact hK _ _ _ _ (h.1 (Int32.lt_iff_toInt_lt.symm.mpr q)) H locs ls hI2
  · rw [e2]; exact hK _ _ _ _ (h.2 (fun z => q (Int32.lt_iff_toInt_lt.symm.mp z))) H locs ls hI2
theorem zs_63 (C : zAt p s m args c y G A) (hd : decode (zmt y).2.1 pc = .ok (i, len)) (hi : zIn_63 y a b v pc i len = true) (h : zst E (63, a, b, v) lc st mem K Q k) (hK : ∀ b lc st mem, K b lc st mem → zGo p l e R s m args below meth c Qf G A y (zbp y b) lc st mem) : zGo p l e R s m args below meth c Qf G A y pc lc st mem := by
  obtain ⟨hx, hb, hml, hown, hts, hC⟩ := C
  intro H locs ls hI
  rw [zst_63] at h
  split at h
  case h_2 => exact h.elim
  rename_i xx st
  obtain ⟨hw, hI2⟩ := hI.pop
  obtain ⟨X, rfl⟩ := hw
  unfold zIn_63 at hi
  split at hi
  case h_2 => cases hi
  simp only [Bool.and_eq_true, beq_iff_eq] at hi
  obtain ⟨rfl, e1, e2⟩ := hi
  rw [zmp_i]
  refine lv_if_lt hx hb hd e1 (fun q => ?_) (fun q => ?_)
  · exact hK _ _ _ _ (h.1 ((Int32.lt_iff_toInt_lt (y := 0)).symm.mpr q)) H locs ls hI2
  · rw [e2]; exact hK _ _ _ _ (h.2 (fun z => q ((Int32.lt_iff_toInt_lt (y := 0)).symm.mp z))) H locs ls hI2
theorem zs_58 (C : zAt p s m args c y G A) (hd : decode (zmt y).2.1 pc = .ok (i, len)) (hi : zIn_58 y a b v pc i len = true) (h : zst E (58, a, b, v) lc st mem K Q k) (hK : ∀ b lc st mem, K b lc st mem → zGo p l e R s m args below meth c Qf G A y (zbp y b) lc st mem) : zGo p l e R s m args below meth c Qf G A y pc lc st mem := by
  obtain ⟨hx, hb, hml, hown, hts, hC⟩ := C
  intro H locs ls hI
  rw [zst_58] at h
  split at h
  case h_2 => exact h.elim
  rename_i yy xx st
  obtain ⟨hv, hI1⟩ := hI.pop
  obtain ⟨hw, hI2⟩ := hI1.pop
  obtain ⟨Y, rfl⟩ := hv
  obtain ⟨X, rfl⟩ := hw
  unfold zIn_58 at hi
  split at hi
  case h_2 => cases hi
  simp only [Bool.and_eq_true, beq_iff_eq] at hi
  obtain ⟨rfl, e1, e2⟩ := hi
  rw [zmp_i, zmp_i]
  refine lv_icmp_ge hx hb hd e1 (fun q => ?_) (fun q => ?_)
  · exact hK _ _ _ _ (h.1 (Int32.le_iff_toInt_le.symm.mpr q)) H locs ls hI2
  · rw [e2]; exact hK _ _ _ _ (h.2 (fun z => q (Int32.le_iff_toInt_le.symm.mp z))) H locs ls hI2
theorem zs_64 (C : zAt p s m args c y G A) (hd : decode (zmt y).2.1 pc = .ok (i, len)) (hi : zIn_64 y a b v pc i len = true) (h : zst E (64, a, b, v) lc st mem K Q k) (hK : ∀ b lc st mem, K b lc st mem → zGo p l e R s m args below meth c Qf G A y (zbp y b) lc st mem) : zGo p l e R s m args below meth c Qf G A y pc lc st mem := by
  obtain ⟨hx, hb, hml, hown, hts, hC⟩ := C
  intro H locs ls hI
  rw [zst_64] at h
  split at h
  case h_2 => exact h.elim
  rename_i xx st
  obtain ⟨hw, hI2⟩ := hI.pop
  obtain ⟨X, rfl⟩ := hw
  unfold zIn_64 at hi
  split at hi
  case h_2 => cases hi
  simp only [Bool.and_eq_true, beq_iff_eq] at hi
  obtain ⟨rfl, e1, e2⟩ := hi
  rw [zmp_i]
  refine lv_if_ge hx hb hd e1 (fun q => ?_) (fun q => ?_)
  · exact hK _ _ _ _ (h.1 ((Int32.le_iff_toInt_le (x := 0)).symm.mpr q)) H locs ls hI2
  · rw [e2]; exact hK _ _ _ _ (h.2 (fun z => q ((Int32.le_iff_toInt_le (x := 0)).symm.mp z))) H locs ls hI2
theorem zs_59 (C : zAt p s m args c y G A) (hd : decode (zmt y).2.1 pc = .ok (i, len)) (hi : zIn_59 y a b v pc i len = true) (h : zst E (59, a, b, v) lc st mem K Q k) (hK : ∀ b lc st mem, K b lc st mem → zGo p l e R s m args below meth c Qf G A y (zbp y b) lc st mem) : zGo p l e R s m args below meth c Qf G A y pc lc st mem := by
  obtain ⟨hx, hb, hml, hown, hts, hC⟩ := C
  intro H locs ls hI
  rw [zst_59] at h
  split at h
  case h_2 => exact h.elim
  rename_i yy xx st
  obtain ⟨hv, hI1⟩ := hI.pop
  obtain ⟨hw, hI2⟩ := hI1.pop
  obtain ⟨Y, rfl⟩ := hv
  obtain ⟨X, rfl⟩ := hw
  unfold zIn_59 at hi
  split at hi
  case h_2 => cases hi
  simp only [Bool.and_eq_true, beq_iff_eq] at hi
  obtain ⟨rfl, e1, e2⟩ := hi
  rw [zmp_i, zmp_i]
  refine lv_icmp_gt hx hb hd e1 (fun q => ?_) (fun q => ?_)
  · exact hK _ _ _ _ (h.1 (Int32.lt_iff_toInt_lt.symm.mpr q)) H locs ls hI2
  · rw [e2]; exact hK _ _ _ _ (h.2 (fun z => q (Int32.lt_iff_toInt_lt.symm.mp z))) H locs ls hI2
theorem zs_65 (C : zAt p s m args c y G A) (hd : decode (zmt y).2.1 pc = .ok (i, len)) (hi : zIn_65 y a b v pc i len = true) (h : zst E (65, a, b, v) lc st mem K Q k) (hK : ∀ b lc st mem, K b lc st mem → zGo p l e R s m args below meth c Qf G A y (zbp y b) lc st mem) : zGo p l e R s m args below meth c Qf G A y pc lc st mem := by
  obtain ⟨hx, hb, hml, hown, hts, hC⟩ := C
  intro H locs ls hI
  rw [zst_65] at h
  split at h
  case h_2 => exact h.elim
  rename_i xx st
  obtain ⟨hw, hI2⟩ := hI.pop
  obtain ⟨X, rfl⟩ := hw
  unfold zIn_65 at hi
  split at hi
  case h_2 => cases hi
  simp only [Bool.and_eq_true, beq_iff_eq] at hi
  obtain ⟨rfl, e1, e2⟩ := hi
  rw [zmp_i]
  refine lv_if_gt hx hb hd e1 (fun q => ?_) (fun q => ?_)
  · exact hK _ _ _ _ (h.1 ((Int32.lt_iff_toInt_lt (x := 0)).symm.mpr q)) H locs ls hI2
  · rw [e2]; exact hK _ _ _ _ (h.2 (fun z => q ((Int32.lt_iff_toInt_lt (x := 0)).symm.mp z))) H locs ls hI2
theorem zs_60 (C : zAt p s m args c y G A) (hd : decode (zmt y).2.1 pc = .ok (i, len)) (hi : zIn_60 y a b v pc i len = true) (h : zst E (60, a, b, v) lc st mem K Q k) (hK : ∀ b lc st mem, K b lc st mem → zGo p l e R s m args below meth c Qf G A y (zbp y b) lc st mem) : zGo p l e R s m args below meth c Qf G A y pc lc st mem := by
  obtain ⟨hx, hb, hml, hown, hts, hC⟩ := C
  intro H locs ls hI
  rw [zst_60] at h
  split at h
  case h_2 => exact h.elim
  rename_i yy xx st
  obtain ⟨hv, hI1⟩ := hI.pop
  obtain ⟨hw, hI2⟩ := hI1.pop
  obtain ⟨Y, rfl⟩ := hv
  obtain ⟨X, rfl⟩ := hw
  unfold zIn_60 at hi
  split at hi
  case h_2 => cases hi
  simp only [Bool.and_eq_true, beq_iff_eq] at hi
  obtain ⟨rfl, e1, e2⟩ := hi
  rw [zmp_i, zmp_i]
  refine lv_icmp_le hx hb hd e1 (fun q => ?_) (fun q => ?_)
  · exact hK _ _ _ _ (h.1 (Int32.le_iff_toInt_le.symm.mpr q)) H locs ls hI2
  · rw [e2]; exact hK _ _ _ _ (h.2 (fun z => q (Int32.le_iff_toInt_le.symm.mp z))) H locs ls hI2
theorem zs_66 (C : zAt p s m args c y G A) (hd : decode (zmt y).2.1 pc = .ok (i, len)) (hi : zIn_66 y a b v pc i len = true) (h : zst E (66, a, b, v) lc st mem K Q k) (hK : ∀ b lc st mem, K b lc st mem → zGo p l e R s m args below meth c Qf G A y (zbp y b) lc st mem) : zGo p l e R s m args below meth c Qf G A y pc lc st mem := by
  obtain ⟨hx, hb, hml, hown, hts, hC⟩ := C
  intro H locs ls hI
  rw [zst_66] at h
  split at h
  case h_2 => exact h.elim
  rename_i xx st
  obtain ⟨hw, hI2⟩ := hI.pop
  obtain ⟨X, rfl⟩ := hw
  unfold zIn_66 at hi
  split at hi
  case h_2 => cases hi
  simp only [Bool.and_eq_true, beq_iff_eq] at hi
  obtain ⟨rfl, e1, e2⟩ := hi
  rw [zmp_i]
  refine lv_if_le hx hb hd e1 (fun q => ?_) (fun q => ?_)
  · exact hK _ _ _ _ (h.1 ((Int32.le_iff_toInt_le (y := 0)).symm.mpr q)) H locs ls hI2
  · rw [e2]; exact hK _ _ _ _ (h.2 (fun z => q ((Int32.le_iff_toInt_le (y := 0)).symm.mp z))) H locs ls hI2
theorem zs_67 (C : zAt p s m args c y G A) (hd : decode (zmt y).2.1 pc = .ok (i, len)) (hi : zIn_67 y a b v pc i len = true) (h : zst E (67, a, b, v) lc st mem K Q k) (hK : ∀ b lc st mem, K b lc st mem → zGo p l e R s m args below meth c Qf G A y (zbp y b) lc st mem) : zGo p l e R s m args below meth c Qf G A y pc lc st mem := by
  obtain ⟨hx, hb, hml, hown, hts, hC⟩ := C
  intro H locs ls hI
  rw [zst_67] at h
  split at h
  case h_2 => exact h.elim
  rename_i xx st
  obtain ⟨hw, hI2⟩ := hI.pop
  obtain ⟨X, rfl⟩ := hw
  unfold zIn_67 at hi
  split at hi
  case h_2 => cases hi
  rename_i d0 lo hi0 offs
  rw [Bool.and_eq_true] at hi
  have hi := hi.2
  have hz : zswt a X.toInt = (if X.toInt < (zSW.getD a (0, [], 0)).1 then (zSW.getD a (0, [], 0)).2.2 else (zSW.getD a (0, [], 0)).2.1.getD (X.toInt - (zSW.getD a (0, [], 0)).1).toNat (zSW.getD a (0, [], 0)).2.2) := rfl
  rw [hz] at h
  generalize zSW.getD a (0, [], 0) = w at h hi
  obtain ⟨lo', ts, df⟩ := w
  unfold zswok at hi
  simp only [Bool.and_eq_true, beq_iff_eq, List.all_eq_true, List.mem_range] at hi
  obtain ⟨rfl, e2, e3, e4⟩ := hi
  simp only at h
  rw [zmp_i]
  by_cases h1 : X.toInt < lo
  · rw [if_pos h1] at h
    exact lv_tableOut hx hb hd (Or.inl h1) e3 (hK _ _ _ _ h H locs ls hI2)
  · rw [if_neg h1] at h
    by_cases h2 : hi0 < X.toInt
    · rw [List.getD_eq_getElem?_getD, List.getElem?_eq_none (by omega)] at h
      exact lv_tableOut hx hb hd (Or.inr h2) e3 (hK _ _ _ _ h H locs ls hI2)
    · have hj : (X.toInt - lo).toNat < ts.length := by omega
      have e5 := e4 _ hj
      rw [List.getElem?_eq_getElem hj] at e5
      simp only [Option.map_some] at e5
      cases ho : offs[(X.toInt - lo).toNat]? with
      | none => rw [ho] at e5; cases e5
      | some o =>
        rw [ho] at e5
        simp only [Option.map_some, Option.some.injEq] at e5
        rw [List.getD_eq_getElem?_getD, List.getElem?_eq_getElem hj] at h
        exact lv_tableIn hx hb hd h1 h2 ho e5 (hK _ _ _ _ h H locs ls hI2)
end ZS
