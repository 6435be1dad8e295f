/-! ===== the cells behind the two constructors ===== -/
theorem arrV_c {cA : ClassId} {n : Nat} {f g : Nat → Value} (h : ∀ i, i < n → f i = g i) : arrV cA n f = arrV cA n g := by
  have e : (fun j : Fin n => f j) = fun j : Fin n => g j := funext (fun j => h j j.2)
  unfold arrV
  rw [e]
theorem zat_q {H : Heap} {x : Nat} {cA : ClassId} {n : Nat} {f g : Nat → Option Nat} (h : H[x]? = some (vp_cell cA (n, .inr (.inr (.inr (.inr f)))))) (hf : ∀ i, i < n → f i = g i) : H[x]? = some (vp_cell cA (n, .inr (.inr (.inr (.inr g))))) := by
  rw [h, vp_cell_q, vp_cell_q, arrV_c (fun i hi => by rw [hf i hi])]
theorem zat_i {H : Heap} {x : Nat} {cA : ClassId} {n : Nat} {f g : Nat → Int32} (h : H[x]? = some (vp_cell cA (n, .inl f))) (hf : ∀ i, i < n → f i = g i) : H[x]? = some (vp_cell cA (n, .inl g)) := by
  rw [h, vp_cell_i, vp_cell_i, arrV_c (fun i hi => by rw [hf i hi])]
def zFL (T : Nat → ClassId) (a : Nat → Nat) : Nat → va_E := fun j => if j < 131 then zF10 T a j else zF11 T (fun i => a (131 + i)) (j - 131)
theorem zw_0 {D : va_G} {T : Nat → ClassId} {a : Nat → Nat} {r : (Nat → Nat) × (Nat → Nat) × Nat} {H : Heap} {L : Nat} {xs : Nat → Int32} (h : va_at D zcl12 (a 0, zFL T a 0) H) : va_at D zcl12 (zra (D, T, a, r) ((0 : Nat) : Int), zcE (D, T, a, r) (zMf L xs) ((0 : Nat) : Int)) H := h
theorem zw_1 {D : va_G} {T : Nat → ClassId} {a : Nat → Nat} {r : (Nat → Nat) × (Nat → Nat) × Nat} {H : Heap} {L : Nat} {xs : Nat → Int32} (h : va_at D zcl12 (a 1, zFL T a 1) H) : va_at D zcl12 (zra (D, T, a, r) ((1 : Nat) : Int), zcE (D, T, a, r) (zMf L xs) ((1 : Nat) : Int)) H := h
theorem zw_2 {D : va_G} {T : Nat → ClassId} {a : Nat → Nat} {r : (Nat → Nat) × (Nat → Nat) × Nat} {H : Heap} {L : Nat} {xs : Nat → Int32} (h : va_at D zcl12 (a 2, zFL T a 2) H) : va_at D zcl12 (zra (D, T, a, r) ((2 : Nat) : Int), zcE (D, T, a, r) (zMf L xs) ((2 : Nat) : Int)) H := h
theorem zw_3 {D : va_G} {T : Nat → ClassId} {a : Nat → Nat} {r : (Nat → Nat) × (Nat → Nat) × Nat} {H : Heap} {L : Nat} {xs : Nat → Int32} (h : va_at D zcl12 (a 3, zFL T a 3) H) : va_at D zcl12 (zra (D, T, a, r) ((3 : Nat) : Int), zcE (D, T, a, r) (zMf L xs) ((3 : Nat) : Int)) H := h
theorem zw_4 {D : va_G} {T : Nat → ClassId} {a : Nat → Nat} {r : (Nat → Nat) × (Nat → Nat) × Nat} {H : Heap} {L : Nat} {xs : Nat → Int32} (h : va_at D zcl12 (a 4, zFL T a 4) H) : va_at D zcl12 (zra (D, T, a, r) ((4 : Nat) : Int), zcE (D, T, a, r) (zMf L xs) ((4 : Nat) : Int)) H := zat_q (n := 8) h (fun i hi => by
  match i, hi with
  | 0, _ => rfl
  | 1, _ => rfl
  | 2, _ => rfl
  | 3, _ => rfl
  | 4, _ => rfl
  | 5, _ => rfl
  | 6, _ => rfl
  | 7, _ => rfl
  | _ + 8, h => exact absurd h (by omega))
theorem zw_5 {D : va_G} {T : Nat → ClassId} {a : Nat → Nat} {r : (Nat → Nat) × (Nat → Nat) × Nat} {H : Heap} {L : Nat} {xs : Nat → Int32} (h : va_at D zcl12 (a 5, zFL T a 5) H) : va_at D zcl12 (zra (D, T, a, r) ((5 : Nat) : Int), zcE (D, T, a, r) (zMf L xs) ((5 : Nat) : Int)) H := zat_q (n := 6) h (fun i hi => by
  match i, hi with
  | 0, _ => rfl
  | 1, _ => rfl
  | 2, _ => rfl
  | 3, _ => rfl
  | 4, _ => rfl
  | 5, _ => rfl
  | _ + 6, h => exact absurd h (by omega))
theorem zw_6 {D : va_G} {T : Nat → ClassId} {a : Nat → Nat} {r : (Nat → Nat) × (Nat → Nat) × Nat} {H : Heap} {L : Nat} {xs : Nat → Int32} (h : va_at D zcl12 (a 6, zFL T a 6) H) : va_at D zcl12 (zra (D, T, a, r) ((6 : Nat) : Int), zcE (D, T, a, r) (zMf L xs) ((6 : Nat) : Int)) H := h
theorem zw_7 {D : va_G} {T : Nat → ClassId} {a : Nat → Nat} {r : (Nat → Nat) × (Nat → Nat) × Nat} {H : Heap} {L : Nat} {xs : Nat → Int32} (h : va_at D zcl12 (a 7, zFL T a 7) H) : va_at D zcl12 (zra (D, T, a, r) ((7 : Nat) : Int), zcE (D, T, a, r) (zMf L xs) ((7 : Nat) : Int)) H := h
theorem zw_8 {D : va_G} {T : Nat → ClassId} {a : Nat → Nat} {r : (Nat → Nat) × (Nat → Nat) × Nat} {H : Heap} {L : Nat} {xs : Nat → Int32} (h : va_at D zcl12 (a 8, zFL T a 8) H) : va_at D zcl12 (zra (D, T, a, r) ((8 : Nat) : Int), zcE (D, T, a, r) (zMf L xs) ((8 : Nat) : Int)) H := h
theorem zw_9 {D : va_G} {T : Nat → ClassId} {a : Nat → Nat} {r : (Nat → Nat) × (Nat → Nat) × Nat} {H : Heap} {L : Nat} {xs : Nat → Int32} (h : va_at D zcl12 (a 9, zFL T a 9) H) : va_at D zcl12 (zra (D, T, a, r) ((9 : Nat) : Int), zcE (D, T, a, r) (zMf L xs) ((9 : Nat) : Int)) H := h
theorem zw_10 {D : va_G} {T : Nat → ClassId} {a : Nat → Nat} {r : (Nat → Nat) × (Nat → Nat) × Nat} {H : Heap} {L : Nat} {xs : Nat → Int32} (h : va_at D zcl12 (a 10, zFL T a 10) H) : va_at D zcl12 (zra (D, T, a, r) ((10 : Nat) : Int), zcE (D, T, a, r) (zMf L xs) ((10 : Nat) : Int)) H := h
theorem zw_11 {D : va_G} {T : Nat → ClassId} {a : Nat → Nat} {r : (Nat → Nat) × (Nat → Nat) × Nat} {H : Heap} {L : Nat} {xs : Nat → Int32} (h : va_at D zcl12 (a 11, zFL T a 11) H) : va_at D zcl12 (zra (D, T, a, r) ((11 : Nat) : Int), zcE (D, T, a, r) (zMf L xs) ((11 : Nat) : Int)) H := h
theorem zw_12 {D : va_G} {T : Nat → ClassId} {a : Nat → Nat} {r : (Nat → Nat) × (Nat → Nat) × Nat} {H : Heap} {L : Nat} {xs : Nat → Int32} (h : va_at D zcl12 (a 12, zFL T a 12) H) : va_at D zcl12 (zra (D, T, a, r) ((12 : Nat) : Int), zcE (D, T, a, r) (zMf L xs) ((12 : Nat) : Int)) H := h
theorem zw_13 {D : va_G} {T : Nat → ClassId} {a : Nat → Nat} {r : (Nat → Nat) × (Nat → Nat) × Nat} {H : Heap} {L : Nat} {xs : Nat → Int32} (h : va_at D zcl12 (a 13, zFL T a 13) H) : va_at D zcl12 (zra (D, T, a, r) ((13 : Nat) : Int), zcE (D, T, a, r) (zMf L xs) ((13 : Nat) : Int)) H := h
theorem zw_14 {D : va_G} {T : Nat → ClassId} {a : Nat → Nat} {r : (Nat → Nat) × (Nat → Nat) × Nat} {H : Heap} {L : Nat} {xs : Nat → Int32} (h : va_at D zcl12 (a 14, zFL T a 14) H) : va_at D zcl12 (zra (D, T, a, r) ((14 : Nat) : Int), zcE (D, T, a, r) (zMf L xs) ((14 : Nat) : Int)) H := h
theorem zw_15 {D : va_G} {T : Nat → ClassId} {a : Nat → Nat} {r : (Nat → Nat) × (Nat → Nat) × Nat} {H : Heap} {L : Nat} {xs : Nat → Int32} (h : va_at D zcl12 (a 15, zFL T a 15) H) : va_at D zcl12 (zra (D, T, a, r) ((15 : Nat) : Int), zcE (D, T, a, r) (zMf L xs) ((15 : Nat) : Int)) H := h
theorem zw_16 {D : va_G} {T : Nat → ClassId} {a : Nat → Nat} {r : (Nat → Nat) × (Nat → Nat) × Nat} {H : Heap} {L : Nat} {xs : Nat → Int32} (h : va_at D zcl12 (a 16, zFL T a 16) H) : va_at D zcl12 (zra (D, T, a, r) ((16 : Nat) : Int), zcE (D, T, a, r) (zMf L xs) ((16 : Nat) : Int)) H := h
theorem zw_17 {D : va_G} {T : Nat → ClassId} {a : Nat → Nat} {r : (Nat → Nat) × (Nat → Nat) × Nat} {H : Heap} {L : Nat} {xs : Nat → Int32} (h : va_at D zcl12 (a 17, zFL T a 17) H) : va_at D zcl12 (zra (D, T, a, r) ((17 : Nat) : Int), zcE (D, T, a, r) (zMf L xs) ((17 : Nat) : Int)) H := h
theorem zw_18 {D : va_G} {T : Nat → ClassId} {a : Nat → Nat} {r : (Nat → Nat) × (Nat → Nat) × Nat} {H : Heap} {L : Nat} {xs : Nat → Int32} (h : va_at D zcl12 (a 18, zFL T a 18) H) : va_at D zcl12 (zra (D, T, a, r) ((18 : Nat) : Int), zcE (D, T, a, r) (zMf L xs) ((18 : Nat) : Int)) H := h
theorem zw_19 {D : va_G} {T : Nat → ClassId} {a : Nat → Nat} {r : (Nat → Nat) × (Nat → Nat) × Nat} {H : Heap} {L : Nat} {xs : Nat → Int32} (h : va_at D zcl12 (a 19, zFL T a 19) H) : va_at D zcl12 (zra (D, T, a, r) ((19 : Nat) : Int), zcE (D, T, a, r) (zMf L xs) ((19 : Nat) : Int)) H := h
theorem zw_20 {D : va_G} {T : Nat → ClassId} {a : Nat → Nat} {r : (Nat → Nat) × (Nat → Nat) × Nat} {H : Heap} {L : Nat} {xs : Nat → Int32} (h : va_at D zcl12 (a 20, zFL T a 20) H) : va_at D zcl12 (zra (D, T, a, r) ((20 : Nat) : Int), zcE (D, T, a, r) (zMf L xs) ((20 : Nat) : Int)) H := h
theorem zw_21 {D : va_G} {T : Nat → ClassId} {a : Nat → Nat} {r : (Nat → Nat) × (Nat → Nat) × Nat} {H : Heap} {L : Nat} {xs : Nat → Int32} (h : va_at D zcl12 (a 21, zFL T a 21) H) : va_at D zcl12 (zra (D, T, a, r) ((21 : Nat) : Int), zcE (D, T, a, r) (zMf L xs) ((21 : Nat) : Int)) H := h
theorem zw_22 {D : va_G} {T : Nat → ClassId} {a : Nat → Nat} {r : (Nat → Nat) × (Nat → Nat) × Nat} {H : Heap} {L : Nat} {xs : Nat → Int32} (h : va_at D zcl12 (a 22, zFL T a 22) H) : va_at D zcl12 (zra (D, T, a, r) ((22 : Nat) : Int), zcE (D, T, a, r) (zMf L xs) ((22 : Nat) : Int)) H := zat_q (n := 8) h (fun i hi => by
  match i, hi with
  | 0, _ => rfl
  | 1, _ => rfl
  | 2, _ => rfl
  | 3, _ => rfl
  | 4, _ => rfl
  | 5, _ => rfl
  | 6, _ => rfl
  | 7, _ => rfl
  | _ + 8, h => exact absurd h (by omega))
theorem zw_23 {D : va_G} {T : Nat → ClassId} {a : Nat → Nat} {r : (Nat → Nat) × (Nat → Nat) × Nat} {H : Heap} {L : Nat} {xs : Nat → Int32} (h : va_at D zcl12 (a 23, zFL T a 23) H) : va_at D zcl12 (zra (D, T, a, r) ((23 : Nat) : Int), zcE (D, T, a, r) (zMf L xs) ((23 : Nat) : Int)) H := zat_q (n := 6) h (fun i hi => by
  match i, hi with
  | 0, _ => rfl
  | 1, _ => rfl
  | 2, _ => rfl
  | 3, _ => rfl
  | 4, _ => rfl
  | 5, _ => rfl
  | _ + 6, h => exact absurd h (by omega))
theorem zw_24 {D : va_G} {T : Nat → ClassId} {a : Nat → Nat} {r : (Nat → Nat) × (Nat → Nat) × Nat} {H : Heap} {L : Nat} {xs : Nat → Int32} (h : va_at D zcl12 (a 24, zFL T a 24) H) : va_at D zcl12 (zra (D, T, a, r) ((24 : Nat) : Int), zcE (D, T, a, r) (zMf L xs) ((24 : Nat) : Int)) H := h
theorem zw_25 {D : va_G} {T : Nat → ClassId} {a : Nat → Nat} {r : (Nat → Nat) × (Nat → Nat) × Nat} {H : Heap} {L : Nat} {xs : Nat → Int32} (h : va_at D zcl12 (a 25, zFL T a 25) H) : va_at D zcl12 (zra (D, T, a, r) ((25 : Nat) : Int), zcE (D, T, a, r) (zMf L xs) ((25 : Nat) : Int)) H := h
theorem zw_26 {D : va_G} {T : Nat → ClassId} {a : Nat → Nat} {r : (Nat → Nat) × (Nat → Nat) × Nat} {H : Heap} {L : Nat} {xs : Nat → Int32} (h : va_at D zcl12 (a 26, zFL T a 26) H) : va_at D zcl12 (zra (D, T, a, r) ((26 : Nat) : Int), zcE (D, T, a, r) (zMf L xs) ((26 : Nat) : Int)) H := h
theorem zw_27 {D : va_G} {T : Nat → ClassId} {a : Nat → Nat} {r : (Nat → Nat) × (Nat → Nat) × Nat} {H : Heap} {L : Nat} {xs : Nat → Int32} (h : va_at D zcl12 (a 27, zFL T a 27) H) : va_at D zcl12 (zra (D, T, a, r) ((27 : Nat) : Int), zcE (D, T, a, r) (zMf L xs) ((27 : Nat) : Int)) H := h
theorem zw_28 {D : va_G} {T : Nat → ClassId} {a : Nat → Nat} {r : (Nat → Nat) × (Nat → Nat) × Nat} {H : Heap} {L : Nat} {xs : Nat → Int32} (h : va_at D zcl12 (a 28, zFL T a 28) H) : va_at D zcl12 (zra (D, T, a, r) ((28 : Nat) : Int), zcE (D, T, a, r) (zMf L xs) ((28 : Nat) : Int)) H := h
theorem zw_29 {D : va_G} {T : Nat → ClassId} {a : Nat → Nat} {r : (Nat → Nat) × (Nat → Nat) × Nat} {H : Heap} {L : Nat} {xs : Nat → Int32} (h : va_at D zcl12 (a 29, zFL T a 29) H) : va_at D zcl12 (zra (D, T, a, r) ((29 : Nat) : Int), zcE (D, T, a, r) (zMf L xs) ((29 : Nat) : Int)) H := h
theorem zw_30 {D : va_G} {T : Nat → ClassId} {a : Nat → Nat} {r : (Nat → Nat) × (Nat → Nat) × Nat} {H : Heap} {L : Nat} {xs : Nat → Int32} (h : va_at D zcl12 (a 30, zFL T a 30) H) : va_at D zcl12 (zra (D, T, a, r) ((30 : Nat) : Int), zcE (D, T, a, r) (zMf L xs) ((30 : Nat) : Int)) H := h
theorem zw_31 {D : va_G} {T : Nat → ClassId} {a : Nat → Nat} {r : (Nat → Nat) × (Nat → Nat) × Nat} {H : Heap} {L : Nat} {xs : Nat → Int32} (h : va_at D zcl12 (a 31, zFL T a 31) H) : va_at D zcl12 (zra (D, T, a, r) ((31 : Nat) : Int), zcE (D, T, a, r) (zMf L xs) ((31 : Nat) : Int)) H := h
theorem zw_32 {D : va_G} {T : Nat → ClassId} {a : Nat → Nat} {r : (Nat → Nat) × (Nat → Nat) × Nat} {H : Heap} {L : Nat} {xs : Nat → Int32} (h : va_at D zcl12 (a 32, zFL T a 32) H) : va_at D zcl12 (zra (D, T, a, r) ((32 : Nat) : Int), zcE (D, T, a, r) (zMf L xs) ((32 : Nat) : Int)) H := h
theorem zw_33 {D : va_G} {T : Nat → ClassId} {a : Nat → Nat} {r : (Nat → Nat) × (Nat → Nat) × Nat} {H : Heap} {L : Nat} {xs : Nat → Int32} (h : va_at D zcl12 (a 33, zFL T a 33) H) : va_at D zcl12 (zra (D, T, a, r) ((33 : Nat) : Int), zcE (D, T, a, r) (zMf L xs) ((33 : Nat) : Int)) H := h
theorem zw_34 {D : va_G} {T : Nat → ClassId} {a : Nat → Nat} {r : (Nat → Nat) × (Nat → Nat) × Nat} {H : Heap} {L : Nat} {xs : Nat → Int32} (h : va_at D zcl12 (a 34, zFL T a 34) H) : va_at D zcl12 (zra (D, T, a, r) ((34 : Nat) : Int), zcE (D, T, a, r) (zMf L xs) ((34 : Nat) : Int)) H := h
theorem zw_35 {D : va_G} {T : Nat → ClassId} {a : Nat → Nat} {r : (Nat → Nat) × (Nat → Nat) × Nat} {H : Heap} {L : Nat} {xs : Nat → Int32} (h : va_at D zcl12 (a 35, zFL T a 35) H) : va_at D zcl12 (zra (D, T, a, r) ((35 : Nat) : Int), zcE (D, T, a, r) (zMf L xs) ((35 : Nat) : Int)) H := h
theorem zw_36 {D : va_G} {T : Nat → ClassId} {a : Nat → Nat} {r : (Nat → Nat) × (Nat → Nat) × Nat} {H : Heap} {L : Nat} {xs : Nat → Int32} (h : va_at D zcl12 (a 36, zFL T a 36) H) : va_at D zcl12 (zra (D, T, a, r) ((36 : Nat) : Int), zcE (D, T, a, r) (zMf L xs) ((36 : Nat) : Int)) H := h
theorem zw_37 {D : va_G} {T : Nat → ClassId} {a : Nat → Nat} {r : (Nat → Nat) × (Nat → Nat) × Nat} {H : Heap} {L : Nat} {xs : Nat → Int32} (h : va_at D zcl12 (a 37, zFL T a 37) H) : va_at D zcl12 (zra (D, T, a, r) ((37 : Nat) : Int), zcE (D, T, a, r) (zMf L xs) ((37 : Nat) : Int)) H := h
theorem zw_38 {D : va_G} {T : Nat → ClassId} {a : Nat → Nat} {r : (Nat → Nat) × (Nat → Nat) × Nat} {H : Heap} {L : Nat} {xs : Nat → Int32} (h : va_at D zcl12 (a 38, zFL T a 38) H) : va_at D zcl12 (zra (D, T, a, r) ((38 : Nat) : Int), zcE (D, T, a, r) (zMf L xs) ((38 : Nat) : Int)) H := h
theorem zw_39 {D : va_G} {T : Nat → ClassId} {a : Nat → Nat} {r : (Nat → Nat) × (Nat → Nat) × Nat} {H : Heap} {L : Nat} {xs : Nat → Int32} (h : va_at D zcl12 (a 39, zFL T a 39) H) : va_at D zcl12 (zra (D, T, a, r) ((39 : Nat) : Int), zcE (D, T, a, r) (zMf L xs) ((39 : Nat) : Int)) H := h
theorem zw_40 {D : va_G} {T : Nat → ClassId} {a : Nat → Nat} {r : (Nat → Nat) × (Nat → Nat) × Nat} {H : Heap} {L : Nat} {xs : Nat → Int32} (h : va_at D zcl12 (a 40, zFL T a 40) H) : va_at D zcl12 (zra (D, T, a, r) ((40 : Nat) : Int), zcE (D, T, a, r) (zMf L xs) ((40 : Nat) : Int)) H := h
theorem zw_41 {D : va_G} {T : Nat → ClassId} {a : Nat → Nat} {r : (Nat → Nat) × (Nat → Nat) × Nat} {H : Heap} {L : Nat} {xs : Nat → Int32} (h : va_at D zcl12 (a 41, zFL T a 41) H) : va_at D zcl12 (zra (D, T, a, r) ((41 : Nat) : Int), zcE (D, T, a, r) (zMf L xs) ((41 : Nat) : Int)) H := h
theorem zw_42 {D : va_G} {T : Nat → ClassId} {a : Nat → Nat} {r : (Nat → Nat) × (Nat → Nat) × Nat} {H : Heap} {L : Nat} {xs : Nat → Int32} (h : va_at D zcl12 (a 42, zFL T a 42) H) : va_at D zcl12 (zra (D, T, a, r) ((42 : Nat) : Int), zcE (D, T, a, r) (zMf L xs) ((42 : Nat) : Int)) H := h
theorem zw_43 {D : va_G} {T : Nat → ClassId} {a : Nat → Nat} {r : (Nat → Nat) × (Nat → Nat) × Nat} {H : Heap} {L : Nat} {xs : Nat → Int32} (h : va_at D zcl12 (a 43, zFL T a 43) H) : va_at D zcl12 (zra (D, T, a, r) ((43 : Nat) : Int), zcE (D, T, a, r) (zMf L xs) ((43 : Nat) : Int)) H := h
theorem zw_44 {D : va_G} {T : Nat → ClassId} {a : Nat → Nat} {r : (Nat → Nat) × (Nat → Nat) × Nat} {H : Heap} {L : Nat} {xs : Nat → Int32} (h : va_at D zcl12 (a 44, zFL T a 44) H) : va_at D zcl12 (zra (D, T, a, r) ((44 : Nat) : Int), zcE (D, T, a, r) (zMf L xs) ((44 : Nat) : Int)) H := h
theorem zw_45 {D : va_G} {T : Nat → ClassId} {a : Nat → Nat} {r : (Nat → Nat) × (Nat → Nat) × Nat} {H : Heap} {L : Nat} {xs : Nat → Int32} (h : va_at D zcl12 (a 45, zFL T a 45) H) : va_at D zcl12 (zra (D, T, a, r) ((45 : Nat) : Int), zcE (D, T, a, r) (zMf L xs) ((45 : Nat) : Int)) H := h
theorem zw_46 {D : va_G} {T : Nat → ClassId} {a : Nat → Nat} {r : (Nat → Nat) × (Nat → Nat) × Nat} {H : Heap} {L : Nat} {xs : Nat → Int32} (h : va_at D zcl12 (a 46, zFL T a 46) H) : va_at D zcl12 (zra (D, T, a, r) ((46 : Nat) : Int), zcE (D, T, a, r) (zMf L xs) ((46 : Nat) : Int)) H := h
theorem zw_47 {D : va_G} {T : Nat → ClassId} {a : Nat → Nat} {r : (Nat → Nat) × (Nat → Nat) × Nat} {H : Heap} {L : Nat} {xs : Nat → Int32} (h : va_at D zcl12 (a 47, zFL T a 47) H) : va_at D zcl12 (zra (D, T, a, r) ((47 : Nat) : Int), zcE (D, T, a, r) (zMf L xs) ((47 : Nat) : Int)) H := h
theorem zw_48 {D : va_G} {T : Nat → ClassId} {a : Nat → Nat} {r : (Nat → Nat) × (Nat → Nat) × Nat} {H : Heap} {L : Nat} {xs : Nat → Int32} (h : va_at D zcl12 (a 48, zFL T a 48) H) : va_at D zcl12 (zra (D, T, a, r) ((48 : Nat) : Int), zcE (D, T, a, r) (zMf L xs) ((48 : Nat) : Int)) H := h
theorem zw_49 {D : va_G} {T : Nat → ClassId} {a : Nat → Nat} {r : (Nat → Nat) × (Nat → Nat) × Nat} {H : Heap} {L : Nat} {xs : Nat → Int32} (h : va_at D zcl12 (a 49, zFL T a 49) H) : va_at D zcl12 (zra (D, T, a, r) ((49 : Nat) : Int), zcE (D, T, a, r) (zMf L xs) ((49 : Nat) : Int)) H := h
theorem zw_50 {D : va_G} {T : Nat → ClassId} {a : Nat → Nat} {r : (Nat → Nat) × (Nat → Nat) × Nat} {H : Heap} {L : Nat} {xs : Nat → Int32} (h : va_at D zcl12 (a 50, zFL T a 50) H) : va_at D zcl12 (zra (D, T, a, r) ((50 : Nat) : Int), zcE (D, T, a, r) (zMf L xs) ((50 : Nat) : Int)) H := zat_q (n := 5) h (fun i hi => by
  match i, hi with
  | 0, _ => rfl
  | 1, _ => rfl
  | 2, _ => rfl
  | 3, _ => rfl
  | 4, _ => rfl
  | _ + 5, h => exact absurd h (by omega))
theorem zw_51 {D : va_G} {T : Nat → ClassId} {a : Nat → Nat} {r : (Nat → Nat) × (Nat → Nat) × Nat} {H : Heap} {L : Nat} {xs : Nat → Int32} (h : va_at D zcl12 (a 51, zFL T a 51) H) : va_at D zcl12 (zra (D, T, a, r) ((51 : Nat) : Int), zcE (D, T, a, r) (zMf L xs) ((51 : Nat) : Int)) H := h
theorem zw_52 {D : va_G} {T : Nat → ClassId} {a : Nat → Nat} {r : (Nat → Nat) × (Nat → Nat) × Nat} {H : Heap} {L : Nat} {xs : Nat → Int32} (h : va_at D zcl12 (a 52, zFL T a 52) H) : va_at D zcl12 (zra (D, T, a, r) ((52 : Nat) : Int), zcE (D, T, a, r) (zMf L xs) ((52 : Nat) : Int)) H := h
theorem zw_53 {D : va_G} {T : Nat → ClassId} {a : Nat → Nat} {r : (Nat → Nat) × (Nat → Nat) × Nat} {H : Heap} {L : Nat} {xs : Nat → Int32} (h : va_at D zcl12 (a 53, zFL T a 53) H) : va_at D zcl12 (zra (D, T, a, r) ((53 : Nat) : Int), zcE (D, T, a, r) (zMf L xs) ((53 : Nat) : Int)) H := h
theorem zw_54 {D : va_G} {T : Nat → ClassId} {a : Nat → Nat} {r : (Nat → Nat) × (Nat → Nat) × Nat} {H : Heap} {L : Nat} {xs : Nat → Int32} (h : va_at D zcl12 (a 54, zFL T a 54) H) : va_at D zcl12 (zra (D, T, a, r) ((54 : Nat) : Int), zcE (D, T, a, r) (zMf L xs) ((54 : Nat) : Int)) H := h
theorem zw_55 {D : va_G} {T : Nat → ClassId} {a : Nat → Nat} {r : (Nat → Nat) × (Nat → Nat) × Nat} {H : Heap} {L : Nat} {xs : Nat → Int32} (h : va_at D zcl12 (a 55, zFL T a 55) H) : va_at D zcl12 (zra (D, T, a, r) ((55 : Nat) : Int), zcE (D, T, a, r) (zMf L xs) ((55 : Nat) : Int)) H := h
theorem zw_56 {D : va_G} {T : Nat → ClassId} {a : Nat → Nat} {r : (Nat → Nat) × (Nat → Nat) × Nat} {H : Heap} {L : Nat} {xs : Nat → Int32} (h : va_at D zcl12 (a 56, zFL T a 56) H) : va_at D zcl12 (zra (D, T, a, r) ((56 : Nat) : Int), zcE (D, T, a, r) (zMf L xs) ((56 : Nat) : Int)) H := h
theorem zw_57 {D : va_G} {T : Nat → ClassId} {a : Nat → Nat} {r : (Nat → Nat) × (Nat → Nat) × Nat} {H : Heap} {L : Nat} {xs : Nat → Int32} (h : va_at D zcl12 (a 57, zFL T a 57) H) : va_at D zcl12 (zra (D, T, a, r) ((57 : Nat) : Int), zcE (D, T, a, r) (zMf L xs) ((57 : Nat) : Int)) H := h
theorem zw_58 {D : va_G} {T : Nat → ClassId} {a : Nat → Nat} {r : (Nat → Nat) × (Nat → Nat) × Nat} {H : Heap} {L : Nat} {xs : Nat → Int32} (h : va_at D zcl12 (a 58, zFL T a 58) H) : va_at D zcl12 (zra (D, T, a, r) ((58 : Nat) : Int), zcE (D, T, a, r) (zMf L xs) ((58 : Nat) : Int)) H := h
theorem zw_59 {D : va_G} {T : Nat → ClassId} {a : Nat → Nat} {r : (Nat → Nat) × (Nat → Nat) × Nat} {H : Heap} {L : Nat} {xs : Nat → Int32} (h : va_at D zcl12 (a 59, zFL T a 59) H) : va_at D zcl12 (zra (D, T, a, r) ((59 : Nat) : Int), zcE (D, T, a, r) (zMf L xs) ((59 : Nat) : Int)) H := h
theorem zw_60 {D : va_G} {T : Nat → ClassId} {a : Nat → Nat} {r : (Nat → Nat) × (Nat → Nat) × Nat} {H : Heap} {L : Nat} {xs : Nat → Int32} (h : va_at D zcl12 (a 60, zFL T a 60) H) : va_at D zcl12 (zra (D, T, a, r) ((60 : Nat) : Int), zcE (D, T, a, r) (zMf L xs) ((60 : Nat) : Int)) H := h
theorem zw_61 {D : va_G} {T : Nat → ClassId} {a : Nat → Nat} {r : (Nat → Nat) × (Nat → Nat) × Nat} {H : Heap} {L : Nat} {xs : Nat → Int32} (h : va_at D zcl12 (a 61, zFL T a 61) H) : va_at D zcl12 (zra (D, T, a, r) ((61 : Nat) : Int), zcE (D, T, a, r) (zMf L xs) ((61 : Nat) : Int)) H := h
theorem zw_62 {D : va_G} {T : Nat → ClassId} {a : Nat → Nat} {r : (Nat → Nat) × (Nat → Nat) × Nat} {H : Heap} {L : Nat} {xs : Nat → Int32} (h : va_at D zcl12 (a 62, zFL T a 62) H) : va_at D zcl12 (zra (D, T, a, r) ((62 : Nat) : Int), zcE (D, T, a, r) (zMf L xs) ((62 : Nat) : Int)) H := h
theorem zw_63 {D : va_G} {T : Nat → ClassId} {a : Nat → Nat} {r : (Nat → Nat) × (Nat → Nat) × Nat} {H : Heap} {L : Nat} {xs : Nat → Int32} (h : va_at D zcl12 (a 63, zFL T a 63) H) : va_at D zcl12 (zra (D, T, a, r) ((63 : Nat) : Int), zcE (D, T, a, r) (zMf L xs) ((63 : Nat) : Int)) H := h
theorem zw_64 {D : va_G} {T : Nat → ClassId} {a : Nat → Nat} {r : (Nat → Nat) × (Nat → Nat) × Nat} {H : Heap} {L : Nat} {xs : Nat → Int32} (h : va_at D zcl12 (a 64, zFL T a 64) H) : va_at D zcl12 (zra (D, T, a, r) ((64 : Nat) : Int), zcE (D, T, a, r) (zMf L xs) ((64 : Nat) : Int)) H := zat_q (n := 3) h (fun i hi => by
  match i, hi with
  | 0, _ => rfl
  | 1, _ => rfl
  | 2, _ => rfl
  | _ + 3, h => exact absurd h (by omega))
theorem zw_65 {D : va_G} {T : Nat → ClassId} {a : Nat → Nat} {r : (Nat → Nat) × (Nat → Nat) × Nat} {H : Heap} {L : Nat} {xs : Nat → Int32} (h : va_at D zcl12 (a 65, zFL T a 65) H) : va_at D zcl12 (zra (D, T, a, r) ((65 : Nat) : Int), zcE (D, T, a, r) (zMf L xs) ((65 : Nat) : Int)) H := zat_q (n := 4) h (fun i hi => by
  match i, hi with
  | 0, _ => rfl
  | 1, _ => rfl
  | 2, _ => rfl
  | 3, _ => rfl
  | _ + 4, h => exact absurd h (by omega))
theorem zw_66 {D : va_G} {T : Nat → ClassId} {a : Nat → Nat} {r : (Nat → Nat) × (Nat → Nat) × Nat} {H : Heap} {L : Nat} {xs : Nat → Int32} (h : va_at D zcl12 (a 66, zFL T a 66) H) : va_at D zcl12 (zra (D, T, a, r) ((66 : Nat) : Int), zcE (D, T, a, r) (zMf L xs) ((66 : Nat) : Int)) H := h
theorem zw_67 {D : va_G} {T : Nat → ClassId} {a : Nat → Nat} {r : (Nat → Nat) × (Nat → Nat) × Nat} {H : Heap} {L : Nat} {xs : Nat → Int32} (h : va_at D zcl12 (a 67, zFL T a 67) H) : va_at D zcl12 (zra (D, T, a, r) ((67 : Nat) : Int), zcE (D, T, a, r) (zMf L xs) ((67 : Nat) : Int)) H := h
theorem zw_68 {D : va_G} {T : Nat → ClassId} {a : Nat → Nat} {r : (Nat → Nat) × (Nat → Nat) × Nat} {H : Heap} {L : Nat} {xs : Nat → Int32} (h : va_at D zcl12 (a 68, zFL T a 68) H) : va_at D zcl12 (zra (D, T, a, r) ((68 : Nat) : Int), zcE (D, T, a, r) (zMf L xs) ((68 : Nat) : Int)) H := zat_q (n := 8) h (fun i hi => by
  match i, hi with
  | 0, _ => rfl
  | 1, _ => rfl
  | 2, _ => rfl
  | 3, _ => rfl
  | 4, _ => rfl
  | 5, _ => rfl
  | 6, _ => rfl
  | 7, _ => rfl
  | _ + 8, h => exact absurd h (by omega))
theorem zw_69 {D : va_G} {T : Nat → ClassId} {a : Nat → Nat} {r : (Nat → Nat) × (Nat → Nat) × Nat} {H : Heap} {L : Nat} {xs : Nat → Int32} (h : va_at D zcl12 (a 69, zFL T a 69) H) : va_at D zcl12 (zra (D, T, a, r) ((69 : Nat) : Int), zcE (D, T, a, r) (zMf L xs) ((69 : Nat) : Int)) H := zat_q (n := 6) h (fun i hi => by
  match i, hi with
  | 0, _ => rfl
  | 1, _ => rfl
  | 2, _ => rfl
  | 3, _ => rfl
  | 4, _ => rfl
  | 5, _ => rfl
  | _ + 6, h => exact absurd h (by omega))
theorem zw_70 {D : va_G} {T : Nat → ClassId} {a : Nat → Nat} {r : (Nat → Nat) × (Nat → Nat) × Nat} {H : Heap} {L : Nat} {xs : Nat → Int32} (h : va_at D zcl12 (a 70, zFL T a 70) H) : va_at D zcl12 (zra (D, T, a, r) ((70 : Nat) : Int), zcE (D, T, a, r) (zMf L xs) ((70 : Nat) : Int)) H := h
theorem zw_71 {D : va_G} {T : Nat → ClassId} {a : Nat → Nat} {r : (Nat → Nat) × (Nat → Nat) × Nat} {H : Heap} {L : Nat} {xs : Nat → Int32} (h : va_at D zcl12 (a 71, zFL T a 71) H) : va_at D zcl12 (zra (D, T, a, r) ((71 : Nat) : Int), zcE (D, T, a, r) (zMf L xs) ((71 : Nat) : Int)) H := h
theorem zw_72 {D : va_G} {T : Nat → ClassId} {a : Nat → Nat} {r : (Nat → Nat) × (Nat → Nat) × Nat} {H : Heap} {L : Nat} {xs : Nat → Int32} (h : va_at D zcl12 (a 72, zFL T a 72) H) : va_at D zcl12 (zra (D, T, a, r) ((72 : Nat) : Int), zcE (D, T, a, r) (zMf L xs) ((72 : Nat) : Int)) H := h
theorem zw_73 {D : va_G} {T : Nat → ClassId} {a : Nat → Nat} {r : (Nat → Nat) × (Nat → Nat) × Nat} {H : Heap} {L : Nat} {xs : Nat → Int32} (h : va_at D zcl12 (a 73, zFL T a 73) H) : va_at D zcl12 (zra (D, T, a, r) ((73 : Nat) : Int), zcE (D, T, a, r) (zMf L xs) ((73 : Nat) : Int)) H := h
theorem zw_74 {D : va_G} {T : Nat → ClassId} {a : Nat → Nat} {r : (Nat → Nat) × (Nat → Nat) × Nat} {H : Heap} {L : Nat} {xs : Nat → Int32} (h : va_at D zcl12 (a 74, zFL T a 74) H) : va_at D zcl12 (zra (D, T, a, r) ((74 : Nat) : Int), zcE (D, T, a, r) (zMf L xs) ((74 : Nat) : Int)) H := h
theorem zw_75 {D : va_G} {T : Nat → ClassId} {a : Nat → Nat} {r : (Nat → Nat) × (Nat → Nat) × Nat} {H : Heap} {L : Nat} {xs : Nat → Int32} (h : va_at D zcl12 (a 75, zFL T a 75) H) : va_at D zcl12 (zra (D, T, a, r) ((75 : Nat) : Int), zcE (D, T, a, r) (zMf L xs) ((75 : Nat) : Int)) H := h
theorem zw_76 {D : va_G} {T : Nat → ClassId} {a : Nat → Nat} {r : (Nat → Nat) × (Nat → Nat) × Nat} {H : Heap} {L : Nat} {xs : Nat → Int32} (h : va_at D zcl12 (a 76, zFL T a 76) H) : va_at D zcl12 (zra (D, T, a, r) ((76 : Nat) : Int), zcE (D, T, a, r) (zMf L xs) ((76 : Nat) : Int)) H := h
theorem zw_77 {D : va_G} {T : Nat → ClassId} {a : Nat → Nat} {r : (Nat → Nat) × (Nat → Nat) × Nat} {H : Heap} {L : Nat} {xs : Nat → Int32} (h : va_at D zcl12 (a 77, zFL T a 77) H) : va_at D zcl12 (zra (D, T, a, r) ((77 : Nat) : Int), zcE (D, T, a, r) (zMf L xs) ((77 : Nat) : Int)) H := h
theorem zw_78 {D : va_G} {T : Nat → ClassId} {a : Nat → Nat} {r : (Nat → Nat) × (Nat → Nat) × Nat} {H : Heap} {L : Nat} {xs : Nat → Int32} (h : va_at D zcl12 (a 78, zFL T a 78) H) : va_at D zcl12 (zra (D, T, a, r) ((78 : Nat) : Int), zcE (D, T, a, r) (zMf L xs) ((78 : Nat) : Int)) H := h
theorem zw_79 {D : va_G} {T : Nat → ClassId} {a : Nat → Nat} {r : (Nat → Nat) × (Nat → Nat) × Nat} {H : Heap} {L : Nat} {xs : Nat → Int32} (h : va_at D zcl12 (a 79, zFL T a 79) H) : va_at D zcl12 (zra (D, T, a, r) ((79 : Nat) : Int), zcE (D, T, a, r) (zMf L xs) ((79 : Nat) : Int)) H := h
theorem zw_80 {D : va_G} {T : Nat → ClassId} {a : Nat → Nat} {r : (Nat → Nat) × (Nat → Nat) × Nat} {H : Heap} {L : Nat} {xs : Nat → Int32} (h : va_at D zcl12 (a 80, zFL T a 80) H) : va_at D zcl12 (zra (D, T, a, r) ((80 : Nat) : Int), zcE (D, T, a, r) (zMf L xs) ((80 : Nat) : Int)) H := h
theorem zw_81 {D : va_G} {T : Nat → ClassId} {a : Nat → Nat} {r : (Nat → Nat) × (Nat → Nat) × Nat} {H : Heap} {L : Nat} {xs : Nat → Int32} (h : va_at D zcl12 (a 81, zFL T a 81) H) : va_at D zcl12 (zra (D, T, a, r) ((81 : Nat) : Int), zcE (D, T, a, r) (zMf L xs) ((81 : Nat) : Int)) H := h
theorem zw_82 {D : va_G} {T : Nat → ClassId} {a : Nat → Nat} {r : (Nat → Nat) × (Nat → Nat) × Nat} {H : Heap} {L : Nat} {xs : Nat → Int32} (h : va_at D zcl12 (a 82, zFL T a 82) H) : va_at D zcl12 (zra (D, T, a, r) ((82 : Nat) : Int), zcE (D, T, a, r) (zMf L xs) ((82 : Nat) : Int)) H := h
theorem zw_83 {D : va_G} {T : Nat → ClassId} {a : Nat → Nat} {r : (Nat → Nat) × (Nat → Nat) × Nat} {H : Heap} {L : Nat} {xs : Nat → Int32} (h : va_at D zcl12 (a 83, zFL T a 83) H) : va_at D zcl12 (zra (D, T, a, r) ((83 : Nat) : Int), zcE (D, T, a, r) (zMf L xs) ((83 : Nat) : Int)) H := h
theorem zw_84 {D : va_G} {T : Nat → ClassId} {a : Nat → Nat} {r : (Nat → Nat) × (Nat → Nat) × Nat} {H : Heap} {L : Nat} {xs : Nat → Int32} (h : va_at D zcl12 (a 84, zFL T a 84) H) : va_at D zcl12 (zra (D, T, a, r) ((84 : Nat) : Int), zcE (D, T, a, r) (zMf L xs) ((84 : Nat) : Int)) H := h
theorem zw_85 {D : va_G} {T : Nat → ClassId} {a : Nat → Nat} {r : (Nat → Nat) × (Nat → Nat) × Nat} {H : Heap} {L : Nat} {xs : Nat → Int32} (h : va_at D zcl12 (a 85, zFL T a 85) H) : va_at D zcl12 (zra (D, T, a, r) ((85 : Nat) : Int), zcE (D, T, a, r) (zMf L xs) ((85 : Nat) : Int)) H := h
theorem zw_86 {D : va_G} {T : Nat → ClassId} {a : Nat → Nat} {r : (Nat → Nat) × (Nat → Nat) × Nat} {H : Heap} {L : Nat} {xs : Nat → Int32} (h : va_at D zcl12 (a 86, zFL T a 86) H) : va_at D zcl12 (zra (D, T, a, r) ((86 : Nat) : Int), zcE (D, T, a, r) (zMf L xs) ((86 : Nat) : Int)) H := h
theorem zw_87 {D : va_G} {T : Nat → ClassId} {a : Nat → Nat} {r : (Nat → Nat) × (Nat → Nat) × Nat} {H : Heap} {L : Nat} {xs : Nat → Int32} (h : va_at D zcl12 (a 87, zFL T a 87) H) : va_at D zcl12 (zra (D, T, a, r) ((87 : Nat) : Int), zcE (D, T, a, r) (zMf L xs) ((87 : Nat) : Int)) H := zat_q (n := 8) h (fun i hi => by
  match i, hi with
  | 0, _ => rfl
  | 1, _ => rfl
  | 2, _ => rfl
  | 3, _ => rfl
  | 4, _ => rfl
  | 5, _ => rfl
  | 6, _ => rfl
  | 7, _ => rfl
  | _ + 8, h => exact absurd h (by omega))
theorem zw_88 {D : va_G} {T : Nat → ClassId} {a : Nat → Nat} {r : (Nat → Nat) × (Nat → Nat) × Nat} {H : Heap} {L : Nat} {xs : Nat → Int32} (h : va_at D zcl12 (a 88, zFL T a 88) H) : va_at D zcl12 (zra (D, T, a, r) ((88 : Nat) : Int), zcE (D, T, a, r) (zMf L xs) ((88 : Nat) : Int)) H := zat_q (n := 6) h (fun i hi => by
  match i, hi with
  | 0, _ => rfl
  | 1, _ => rfl
  | 2, _ => rfl
  | 3, _ => rfl
  | 4, _ => rfl
  | 5, _ => rfl
  | _ + 6, h => exact absurd h (by omega))
theorem zw_89 {D : va_G} {T : Nat → ClassId} {a : Nat → Nat} {r : (Nat → Nat) × (Nat → Nat) × Nat} {H : Heap} {L : Nat} {xs : Nat → Int32} (h : va_at D zcl12 (a 89, zFL T a 89) H) : va_at D zcl12 (zra (D, T, a, r) ((89 : Nat) : Int), zcE (D, T, a, r) (zMf L xs) ((89 : Nat) : Int)) H := h
theorem zw_90 {D : va_G} {T : Nat → ClassId} {a : Nat → Nat} {r : (Nat → Nat) × (Nat → Nat) × Nat} {H : Heap} {L : Nat} {xs : Nat → Int32} (h : va_at D zcl12 (a 90, zFL T a 90) H) : va_at D zcl12 (zra (D, T, a, r) ((90 : Nat) : Int), zcE (D, T, a, r) (zMf L xs) ((90 : Nat) : Int)) H := h
theorem zw_91 {D : va_G} {T : Nat → ClassId} {a : Nat → Nat} {r : (Nat → Nat) × (Nat → Nat) × Nat} {H : Heap} {L : Nat} {xs : Nat → Int32} (h : va_at D zcl12 (a 91, zFL T a 91) H) : va_at D zcl12 (zra (D, T, a, r) ((91 : Nat) : Int), zcE (D, T, a, r) (zMf L xs) ((91 : Nat) : Int)) H := h
theorem zw_92 {D : va_G} {T : Nat → ClassId} {a : Nat → Nat} {r : (Nat → Nat) × (Nat → Nat) × Nat} {H : Heap} {L : Nat} {xs : Nat → Int32} (h : va_at D zcl12 (a 92, zFL T a 92) H) : va_at D zcl12 (zra (D, T, a, r) ((92 : Nat) : Int), zcE (D, T, a, r) (zMf L xs) ((92 : Nat) : Int)) H := h
theorem zw_93 {D : va_G} {T : Nat → ClassId} {a : Nat → Nat} {r : (Nat → Nat) × (Nat → Nat) × Nat} {H : Heap} {L : Nat} {xs : Nat → Int32} (h : va_at D zcl12 (a 93, zFL T a 93) H) : va_at D zcl12 (zra (D, T, a, r) ((93 : Nat) : Int), zcE (D, T, a, r) (zMf L xs) ((93 : Nat) : Int)) H := h
theorem zw_94 {D : va_G} {T : Nat → ClassId} {a : Nat → Nat} {r : (Nat → Nat) × (Nat → Nat) × Nat} {H : Heap} {L : Nat} {xs : Nat → Int32} (h : va_at D zcl12 (a 94, zFL T a 94) H) : va_at D zcl12 (zra (D, T, a, r) ((94 : Nat) : Int), zcE (D, T, a, r) (zMf L xs) ((94 : Nat) : Int)) H := h
theorem zw_95 {D : va_G} {T : Nat → ClassId} {a : Nat → Nat} {r : (Nat → Nat) × (Nat → Nat) × Nat} {H : Heap} {L : Nat} {xs : Nat → Int32} (h : va_at D zcl12 (a 95, zFL T a 95) H) : va_at D zcl12 (zra (D, T, a, r) ((95 : Nat) : Int), zcE (D, T, a, r) (zMf L xs) ((95 : Nat) : Int)) H := h
theorem zw_96 {D : va_G} {T : Nat → ClassId} {a : Nat → Nat} {r : (Nat → Nat) × (Nat → Nat) × Nat} {H : Heap} {L : Nat} {xs : Nat → Int32} (h : va_at D zcl12 (a 96, zFL T a 96) H) : va_at D zcl12 (zra (D, T, a, r) ((96 : Nat) : Int), zcE (D, T, a, r) (zMf L xs) ((96 : Nat) : Int)) H := h
theorem zw_97 {D : va_G} {T : Nat → ClassId} {a : Nat → Nat} {r : (Nat → Nat) × (Nat → Nat) × Nat} {H : Heap} {L : Nat} {xs : Nat → Int32} (h : va_at D zcl12 (a 97, zFL T a 97) H) : va_at D zcl12 (zra (D, T, a, r) ((97 : Nat) : Int), zcE (D, T, a, r) (zMf L xs) ((97 : Nat) : Int)) H := h
theorem zw_98 {D : va_G} {T : Nat → ClassId} {a : Nat → Nat} {r : (Nat → Nat) × (Nat → Nat) × Nat} {H : Heap} {L : Nat} {xs : Nat → Int32} (h : va_at D zcl12 (a 98, zFL T a 98) H) : va_at D zcl12 (zra (D, T, a, r) ((98 : Nat) : Int), zcE (D, T, a, r) (zMf L xs) ((98 : Nat) : Int)) H := h
theorem zw_99 {D : va_G} {T : Nat → ClassId} {a : Nat → Nat} {r : (Nat → Nat) × (Nat → Nat) × Nat} {H : Heap} {L : Nat} {xs : Nat → Int32} (h : va_at D zcl12 (a 99, zFL T a 99) H) : va_at D zcl12 (zra (D, T, a, r) ((99 : Nat) : Int), zcE (D, T, a, r) (zMf L xs) ((99 : Nat) : Int)) H := h
theorem zw_100 {D : va_G} {T : Nat → ClassId} {a : Nat → Nat} {r : (Nat → Nat) × (Nat → Nat) × Nat} {H : Heap} {L : Nat} {xs : Nat → Int32} (h : va_at D zcl12 (a 100, zFL T a 100) H) : va_at D zcl12 (zra (D, T, a, r) ((100 : Nat) : Int), zcE (D, T, a, r) (zMf L xs) ((100 : Nat) : Int)) H := h
theorem zw_101 {D : va_G} {T : Nat → ClassId} {a : Nat → Nat} {r : (Nat → Nat) × (Nat → Nat) × Nat} {H : Heap} {L : Nat} {xs : Nat → Int32} (h : va_at D zcl12 (a 101, zFL T a 101) H) : va_at D zcl12 (zra (D, T, a, r) ((101 : Nat) : Int), zcE (D, T, a, r) (zMf L xs) ((101 : Nat) : Int)) H := h
theorem zw_102 {D : va_G} {T : Nat → ClassId} {a : Nat → Nat} {r : (Nat → Nat) × (Nat → Nat) × Nat} {H : Heap} {L : Nat} {xs : Nat → Int32} (h : va_at D zcl12 (a 102, zFL T a 102) H) : va_at D zcl12 (zra (D, T, a, r) ((102 : Nat) : Int), zcE (D, T, a, r) (zMf L xs) ((102 : Nat) : Int)) H := h
theorem zw_103 {D : va_G} {T : Nat → ClassId} {a : Nat → Nat} {r : (Nat → Nat) × (Nat → Nat) × Nat} {H : Heap} {L : Nat} {xs : Nat → Int32} (h : va_at D zcl12 (a 103, zFL T a 103) H) : va_at D zcl12 (zra (D, T, a, r) ((103 : Nat) : Int), zcE (D, T, a, r) (zMf L xs) ((103 : Nat) : Int)) H := h
theorem zw_104 {D : va_G} {T : Nat → ClassId} {a : Nat → Nat} {r : (Nat → Nat) × (Nat → Nat) × Nat} {H : Heap} {L : Nat} {xs : Nat → Int32} (h : va_at D zcl12 (a 104, zFL T a 104) H) : va_at D zcl12 (zra (D, T, a, r) ((104 : Nat) : Int), zcE (D, T, a, r) (zMf L xs) ((104 : Nat) : Int)) H := h
theorem zw_105 {D : va_G} {T : Nat → ClassId} {a : Nat → Nat} {r : (Nat → Nat) × (Nat → Nat) × Nat} {H : Heap} {L : Nat} {xs : Nat → Int32} (h : va_at D zcl12 (a 105, zFL T a 105) H) : va_at D zcl12 (zra (D, T, a, r) ((105 : Nat) : Int), zcE (D, T, a, r) (zMf L xs) ((105 : Nat) : Int)) H := h
theorem zw_106 {D : va_G} {T : Nat → ClassId} {a : Nat → Nat} {r : (Nat → Nat) × (Nat → Nat) × Nat} {H : Heap} {L : Nat} {xs : Nat → Int32} (h : va_at D zcl12 (a 106, zFL T a 106) H) : va_at D zcl12 (zra (D, T, a, r) ((106 : Nat) : Int), zcE (D, T, a, r) (zMf L xs) ((106 : Nat) : Int)) H := zat_q (n := 8) h (fun i hi => by
  match i, hi with
  | 0, _ => rfl
  | 1, _ => rfl
  | 2, _ => rfl
  | 3, _ => rfl
  | 4, _ => rfl
  | 5, _ => rfl
  | 6, _ => rfl
  | 7, _ => rfl
  | _ + 8, h => exact absurd h (by omega))
theorem zw_107 {D : va_G} {T : Nat → ClassId} {a : Nat → Nat} {r : (Nat → Nat) × (Nat → Nat) × Nat} {H : Heap} {L : Nat} {xs : Nat → Int32} (h : va_at D zcl12 (a 107, zFL T a 107) H) : va_at D zcl12 (zra (D, T, a, r) ((107 : Nat) : Int), zcE (D, T, a, r) (zMf L xs) ((107 : Nat) : Int)) H := zat_q (n := 6) h (fun i hi => by
  match i, hi with
  | 0, _ => rfl
  | 1, _ => rfl
  | 2, _ => rfl
  | 3, _ => rfl
  | 4, _ => rfl
  | 5, _ => rfl
  | _ + 6, h => exact absurd h (by omega))
theorem zw_108 {D : va_G} {T : Nat → ClassId} {a : Nat → Nat} {r : (Nat → Nat) × (Nat → Nat) × Nat} {H : Heap} {L : Nat} {xs : Nat → Int32} (h : va_at D zcl12 (a 108, zFL T a 108) H) : va_at D zcl12 (zra (D, T, a, r) ((108 : Nat) : Int), zcE (D, T, a, r) (zMf L xs) ((108 : Nat) : Int)) H := h
theorem zw_109 {D : va_G} {T : Nat → ClassId} {a : Nat → Nat} {r : (Nat → Nat) × (Nat → Nat) × Nat} {H : Heap} {L : Nat} {xs : Nat → Int32} (h : va_at D zcl12 (a 109, zFL T a 109) H) : va_at D zcl12 (zra (D, T, a, r) ((109 : Nat) : Int), zcE (D, T, a, r) (zMf L xs) ((109 : Nat) : Int)) H := h
theorem zw_110 {D : va_G} {T : Nat → ClassId} {a : Nat → Nat} {r : (Nat → Nat) × (Nat → Nat) × Nat} {H : Heap} {L : Nat} {xs : Nat → Int32} (h : va_at D zcl12 (a 110, zFL T a 110) H) : va_at D zcl12 (zra (D, T, a, r) ((110 : Nat) : Int), zcE (D, T, a, r) (zMf L xs) ((110 : Nat) : Int)) H := h
theorem zw_111 {D : va_G} {T : Nat → ClassId} {a : Nat → Nat} {r : (Nat → Nat) × (Nat → Nat) × Nat} {H : Heap} {L : Nat} {xs : Nat → Int32} (h : va_at D zcl12 (a 111, zFL T a 111) H) : va_at D zcl12 (zra (D, T, a, r) ((111 : Nat) : Int), zcE (D, T, a, r) (zMf L xs) ((111 : Nat) : Int)) H := h
theorem zw_112 {D : va_G} {T : Nat → ClassId} {a : Nat → Nat} {r : (Nat → Nat) × (Nat → Nat) × Nat} {H : Heap} {L : Nat} {xs : Nat → Int32} (h : va_at D zcl12 (a 112, zFL T a 112) H) : va_at D zcl12 (zra (D, T, a, r) ((112 : Nat) : Int), zcE (D, T, a, r) (zMf L xs) ((112 : Nat) : Int)) H := h
theorem zw_113 {D : va_G} {T : Nat → ClassId} {a : Nat → Nat} {r : (Nat → Nat) × (Nat → Nat) × Nat} {H : Heap} {L : Nat} {xs : Nat → Int32} (h : va_at D zcl12 (a 113, zFL T a 113) H) : va_at D zcl12 (zra (D, T, a, r) ((113 : Nat) : Int), zcE (D, T, a, r) (zMf L xs) ((113 : Nat) : Int)) H := h
theorem zw_114 {D : va_G} {T : Nat → ClassId} {a : Nat → Nat} {r : (Nat → Nat) × (Nat → Nat) × Nat} {H : Heap} {L : Nat} {xs : Nat → Int32} (h : va_at D zcl12 (a 114, zFL T a 114) H) : va_at D zcl12 (zra (D, T, a, r) ((114 : Nat) : Int), zcE (D, T, a, r) (zMf L xs) ((114 : Nat) : Int)) H := h
theorem zw_115 {D : va_G} {T : Nat → ClassId} {a : Nat → Nat} {r : (Nat → Nat) × (Nat → Nat) × Nat} {H : Heap} {L : Nat} {xs : Nat → Int32} (h : va_at D zcl12 (a 115, zFL T a 115) H) : va_at D zcl12 (zra (D, T, a, r) ((115 : Nat) : Int), zcE (D, T, a, r) (zMf L xs) ((115 : Nat) : Int)) H := h
theorem zw_116 {D : va_G} {T : Nat → ClassId} {a : Nat → Nat} {r : (Nat → Nat) × (Nat → Nat) × Nat} {H : Heap} {L : Nat} {xs : Nat → Int32} (h : va_at D zcl12 (a 116, zFL T a 116) H) : va_at D zcl12 (zra (D, T, a, r) ((116 : Nat) : Int), zcE (D, T, a, r) (zMf L xs) ((116 : Nat) : Int)) H := h
theorem zw_117 {D : va_G} {T : Nat → ClassId} {a : Nat → Nat} {r : (Nat → Nat) × (Nat → Nat) × Nat} {H : Heap} {L : Nat} {xs : Nat → Int32} (h : va_at D zcl12 (a 117, zFL T a 117) H) : va_at D zcl12 (zra (D, T, a, r) ((117 : Nat) : Int), zcE (D, T, a, r) (zMf L xs) ((117 : Nat) : Int)) H := h
theorem zw_118 {D : va_G} {T : Nat → ClassId} {a : Nat → Nat} {r : (Nat → Nat) × (Nat → Nat) × Nat} {H : Heap} {L : Nat} {xs : Nat → Int32} (h : va_at D zcl12 (a 118, zFL T a 118) H) : va_at D zcl12 (zra (D, T, a, r) ((118 : Nat) : Int), zcE (D, T, a, r) (zMf L xs) ((118 : Nat) : Int)) H := h
theorem zw_119 {D : va_G} {T : Nat → ClassId} {a : Nat → Nat} {r : (Nat → Nat) × (Nat → Nat) × Nat} {H : Heap} {L : Nat} {xs : Nat → Int32} (h : va_at D zcl12 (a 119, zFL T a 119) H) : va_at D zcl12 (zra (D, T, a, r) ((119 : Nat) : Int), zcE (D, T, a, r) (zMf L xs) ((119 : Nat) : Int)) H := h
theorem zw_120 {D : va_G} {T : Nat → ClassId} {a : Nat → Nat} {r : (Nat → Nat) × (Nat → Nat) × Nat} {H : Heap} {L : Nat} {xs : Nat → Int32} (h : va_at D zcl12 (a 120, zFL T a 120) H) : va_at D zcl12 (zra (D, T, a, r) ((120 : Nat) : Int), zcE (D, T, a, r) (zMf L xs) ((120 : Nat) : Int)) H := h
theorem zw_121 {D : va_G} {T : Nat → ClassId} {a : Nat → Nat} {r : (Nat → Nat) × (Nat → Nat) × Nat} {H : Heap} {L : Nat} {xs : Nat → Int32} (h : va_at D zcl12 (a 121, zFL T a 121) H) : va_at D zcl12 (zra (D, T, a, r) ((121 : Nat) : Int), zcE (D, T, a, r) (zMf L xs) ((121 : Nat) : Int)) H := h
theorem zw_122 {D : va_G} {T : Nat → ClassId} {a : Nat → Nat} {r : (Nat → Nat) × (Nat → Nat) × Nat} {H : Heap} {L : Nat} {xs : Nat → Int32} (h : va_at D zcl12 (a 122, zFL T a 122) H) : va_at D zcl12 (zra (D, T, a, r) ((122 : Nat) : Int), zcE (D, T, a, r) (zMf L xs) ((122 : Nat) : Int)) H := h
theorem zw_123 {D : va_G} {T : Nat → ClassId} {a : Nat → Nat} {r : (Nat → Nat) × (Nat → Nat) × Nat} {H : Heap} {L : Nat} {xs : Nat → Int32} (h : va_at D zcl12 (a 123, zFL T a 123) H) : va_at D zcl12 (zra (D, T, a, r) ((123 : Nat) : Int), zcE (D, T, a, r) (zMf L xs) ((123 : Nat) : Int)) H := h
theorem zw_124 {D : va_G} {T : Nat → ClassId} {a : Nat → Nat} {r : (Nat → Nat) × (Nat → Nat) × Nat} {H : Heap} {L : Nat} {xs : Nat → Int32} (h : va_at D zcl12 (a 124, zFL T a 124) H) : va_at D zcl12 (zra (D, T, a, r) ((124 : Nat) : Int), zcE (D, T, a, r) (zMf L xs) ((124 : Nat) : Int)) H := h
theorem zw_125 {D : va_G} {T : Nat → ClassId} {a : Nat → Nat} {r : (Nat → Nat) × (Nat → Nat) × Nat} {H : Heap} {L : Nat} {xs : Nat → Int32} (h : va_at D zcl12 (a 125, zFL T a 125) H) : va_at D zcl12 (zra (D, T, a, r) ((125 : Nat) : Int), zcE (D, T, a, r) (zMf L xs) ((125 : Nat) : Int)) H := h
theorem zw_126 {D : va_G} {T : Nat → ClassId} {a : Nat → Nat} {r : (Nat → Nat) × (Nat → Nat) × Nat} {H : Heap} {L : Nat} {xs : Nat → Int32} (h : va_at D zcl12 (a 126, zFL T a 126) H) : va_at D zcl12 (zra (D, T, a, r) ((126 : Nat) : Int), zcE (D, T, a, r) (zMf L xs) ((126 : Nat) : Int)) H := h
theorem zw_127 {D : va_G} {T : Nat → ClassId} {a : Nat → Nat} {r : (Nat → Nat) × (Nat → Nat) × Nat} {H : Heap} {L : Nat} {xs : Nat → Int32} (h : va_at D zcl12 (a 127, zFL T a 127) H) : va_at D zcl12 (zra (D, T, a, r) ((127 : Nat) : Int), zcE (D, T, a, r) (zMf L xs) ((127 : Nat) : Int)) H := h
theorem zw_128 {D : va_G} {T : Nat → ClassId} {a : Nat → Nat} {r : (Nat → Nat) × (Nat → Nat) × Nat} {H : Heap} {L : Nat} {xs : Nat → Int32} (h : va_at D zcl12 (a 128, zFL T a 128) H) : va_at D zcl12 (zra (D, T, a, r) ((128 : Nat) : Int), zcE (D, T, a, r) (zMf L xs) ((128 : Nat) : Int)) H := h
theorem zw_129 {D : va_G} {T : Nat → ClassId} {a : Nat → Nat} {r : (Nat → Nat) × (Nat → Nat) × Nat} {H : Heap} {L : Nat} {xs : Nat → Int32} (h : va_at D zcl12 (a 129, zFL T a 129) H) : va_at D zcl12 (zra (D, T, a, r) ((129 : Nat) : Int), zcE (D, T, a, r) (zMf L xs) ((129 : Nat) : Int)) H := h
theorem zw_130 {D : va_G} {T : Nat → ClassId} {a : Nat → Nat} {r : (Nat → Nat) × (Nat → Nat) × Nat} {H : Heap} {L : Nat} {xs : Nat → Int32} (h : va_at D zcl12 (a 130, zFL T a 130) H) : va_at D zcl12 (zra (D, T, a, r) ((130 : Nat) : Int), zcE (D, T, a, r) (zMf L xs) ((130 : Nat) : Int)) H := h
theorem zw_131 {D : va_G} {T : Nat → ClassId} {a : Nat → Nat} {r : (Nat → Nat) × (Nat → Nat) × Nat} {H : Heap} {L : Nat} {xs : Nat → Int32} (h : va_at D zcl12 (a 131, zFL T a 131) H) : va_at D zcl12 (zra (D, T, a, r) ((131 : Nat) : Int), zcE (D, T, a, r) (zMf L xs) ((131 : Nat) : Int)) H := h
theorem zw_132 {D : va_G} {T : Nat → ClassId} {a : Nat → Nat} {r : (Nat → Nat) × (Nat → Nat) × Nat} {H : Heap} {L : Nat} {xs : Nat → Int32} (h : va_at D zcl12 (a 132, zFL T a 132) H) : va_at D zcl12 (zra (D, T, a, r) ((132 : Nat) : Int), zcE (D, T, a, r) (zMf L xs) ((132 : Nat) : Int)) H := zat_i (n := 4) h (fun i hi => by
  match i, hi with
  | 0, _ => rfl
  | 1, _ => rfl
  | 2, _ => rfl
  | 3, _ => rfl
  | _ + 4, h => exact absurd h (by omega))
theorem zw_133 {D : va_G} {T : Nat → ClassId} {a : Nat → Nat} {r : (Nat → Nat) × (Nat → Nat) × Nat} {H : Heap} {L : Nat} {xs : Nat → Int32} (h : va_at D zcl12 (a 133, zFL T a 133) H) : va_at D zcl12 (zra (D, T, a, r) ((133 : Nat) : Int), zcE (D, T, a, r) (zMf L xs) ((133 : Nat) : Int)) H := h
theorem zw_134 {D : va_G} {T : Nat → ClassId} {a : Nat → Nat} {r : (Nat → Nat) × (Nat → Nat) × Nat} {H : Heap} {L : Nat} {xs : Nat → Int32} (h : va_at D zcl12 (a 134, zFL T a 134) H) : va_at D zcl12 (zra (D, T, a, r) ((134 : Nat) : Int), zcE (D, T, a, r) (zMf L xs) ((134 : Nat) : Int)) H := h
theorem zw_135 {D : va_G} {T : Nat → ClassId} {a : Nat → Nat} {r : (Nat → Nat) × (Nat → Nat) × Nat} {H : Heap} {L : Nat} {xs : Nat → Int32} (h : va_at D zcl12 (a 135, zFL T a 135) H) : va_at D zcl12 (zra (D, T, a, r) ((135 : Nat) : Int), zcE (D, T, a, r) (zMf L xs) ((135 : Nat) : Int)) H := h
theorem zw_136 {D : va_G} {T : Nat → ClassId} {a : Nat → Nat} {r : (Nat → Nat) × (Nat → Nat) × Nat} {H : Heap} {L : Nat} {xs : Nat → Int32} (h : va_at D zcl12 (a 136, zFL T a 136) H) : va_at D zcl12 (zra (D, T, a, r) ((136 : Nat) : Int), zcE (D, T, a, r) (zMf L xs) ((136 : Nat) : Int)) H := h
theorem zw_137 {D : va_G} {T : Nat → ClassId} {a : Nat → Nat} {r : (Nat → Nat) × (Nat → Nat) × Nat} {H : Heap} {L : Nat} {xs : Nat → Int32} (h : va_at D zcl12 (a 137, zFL T a 137) H) : va_at D zcl12 (zra (D, T, a, r) ((137 : Nat) : Int), zcE (D, T, a, r) (zMf L xs) ((137 : Nat) : Int)) H := h
theorem zw_138 {D : va_G} {T : Nat → ClassId} {a : Nat → Nat} {r : (Nat → Nat) × (Nat → Nat) × Nat} {H : Heap} {L : Nat} {xs : Nat → Int32} (h : va_at D zcl12 (a 138, zFL T a 138) H) : va_at D zcl12 (zra (D, T, a, r) ((138 : Nat) : Int), zcE (D, T, a, r) (zMf L xs) ((138 : Nat) : Int)) H := h
theorem zw_139 {D : va_G} {T : Nat → ClassId} {a : Nat → Nat} {r : (Nat → Nat) × (Nat → Nat) × Nat} {H : Heap} {L : Nat} {xs : Nat → Int32} (h : va_at D zcl12 (a 139, zFL T a 139) H) : va_at D zcl12 (zra (D, T, a, r) ((139 : Nat) : Int), zcE (D, T, a, r) (zMf L xs) ((139 : Nat) : Int)) H := h
theorem zw_140 {D : va_G} {T : Nat → ClassId} {a : Nat → Nat} {r : (Nat → Nat) × (Nat → Nat) × Nat} {H : Heap} {L : Nat} {xs : Nat → Int32} (h : va_at D zcl12 (a 140, zFL T a 140) H) : va_at D zcl12 (zra (D, T, a, r) ((140 : Nat) : Int), zcE (D, T, a, r) (zMf L xs) ((140 : Nat) : Int)) H := h
theorem zw_141 {D : va_G} {T : Nat → ClassId} {a : Nat → Nat} {r : (Nat → Nat) × (Nat → Nat) × Nat} {H : Heap} {L : Nat} {xs : Nat → Int32} (h : va_at D zcl12 (a 141, zFL T a 141) H) : va_at D zcl12 (zra (D, T, a, r) ((141 : Nat) : Int), zcE (D, T, a, r) (zMf L xs) ((141 : Nat) : Int)) H := h
theorem zw_142 {D : va_G} {T : Nat → ClassId} {a : Nat → Nat} {r : (Nat → Nat) × (Nat → Nat) × Nat} {H : Heap} {L : Nat} {xs : Nat → Int32} (h : va_at D zcl12 (a 142, zFL T a 142) H) : va_at D zcl12 (zra (D, T, a, r) ((142 : Nat) : Int), zcE (D, T, a, r) (zMf L xs) ((142 : Nat) : Int)) H := h
theorem zw_143 {D : va_G} {T : Nat → ClassId} {a : Nat → Nat} {r : (Nat → Nat) × (Nat → Nat) × Nat} {H : Heap} {L : Nat} {xs : Nat → Int32} (h : va_at D zcl12 (a 143, zFL T a 143) H) : va_at D zcl12 (zra (D, T, a, r) ((143 : Nat) : Int), zcE (D, T, a, r) (zMf L xs) ((143 : Nat) : Int)) H := h
theorem zw_144 {D : va_G} {T : Nat → ClassId} {a : Nat → Nat} {r : (Nat → Nat) × (Nat → Nat) × Nat} {H : Heap} {L : Nat} {xs : Nat → Int32} (h : va_at D zcl12 (a 144, zFL T a 144) H) : va_at D zcl12 (zra (D, T, a, r) ((144 : Nat) : Int), zcE (D, T, a, r) (zMf L xs) ((144 : Nat) : Int)) H := h
theorem zw_145 {D : va_G} {T : Nat → ClassId} {a : Nat → Nat} {r : (Nat → Nat) × (Nat → Nat) × Nat} {H : Heap} {L : Nat} {xs : Nat → Int32} (h : va_at D zcl12 (a 145, zFL T a 145) H) : va_at D zcl12 (zra (D, T, a, r) ((145 : Nat) : Int), zcE (D, T, a, r) (zMf L xs) ((145 : Nat) : Int)) H := h
theorem zw_146 {D : va_G} {T : Nat → ClassId} {a : Nat → Nat} {r : (Nat → Nat) × (Nat → Nat) × Nat} {H : Heap} {L : Nat} {xs : Nat → Int32} (h : va_at D zcl12 (a 146, zFL T a 146) H) : va_at D zcl12 (zra (D, T, a, r) ((146 : Nat) : Int), zcE (D, T, a, r) (zMf L xs) ((146 : Nat) : Int)) H := h
theorem zw_147 {D : va_G} {T : Nat → ClassId} {a : Nat → Nat} {r : (Nat → Nat) × (Nat → Nat) × Nat} {H : Heap} {L : Nat} {xs : Nat → Int32} (h : va_at D zcl12 (a 147, zFL T a 147) H) : va_at D zcl12 (zra (D, T, a, r) ((147 : Nat) : Int), zcE (D, T, a, r) (zMf L xs) ((147 : Nat) : Int)) H := h
theorem zw_148 {D : va_G} {T : Nat → ClassId} {a : Nat → Nat} {r : (Nat → Nat) × (Nat → Nat) × Nat} {H : Heap} {L : Nat} {xs : Nat → Int32} (h : va_at D zcl12 (a 148, zFL T a 148) H) : va_at D zcl12 (zra (D, T, a, r) ((148 : Nat) : Int), zcE (D, T, a, r) (zMf L xs) ((148 : Nat) : Int)) H := h
theorem zw_149 {D : va_G} {T : Nat → ClassId} {a : Nat → Nat} {r : (Nat → Nat) × (Nat → Nat) × Nat} {H : Heap} {L : Nat} {xs : Nat → Int32} (h : va_at D zcl12 (a 149, zFL T a 149) H) : va_at D zcl12 (zra (D, T, a, r) ((149 : Nat) : Int), zcE (D, T, a, r) (zMf L xs) ((149 : Nat) : Int)) H := h
theorem zw_150 {D : va_G} {T : Nat → ClassId} {a : Nat → Nat} {r : (Nat → Nat) × (Nat → Nat) × Nat} {H : Heap} {L : Nat} {xs : Nat → Int32} (h : va_at D zcl12 (a 150, zFL T a 150) H) : va_at D zcl12 (zra (D, T, a, r) ((150 : Nat) : Int), zcE (D, T, a, r) (zMf L xs) ((150 : Nat) : Int)) H := h
set_option maxRecDepth 100000 in
theorem zW_of {D : va_G} {T : Nat → ClassId} {a : Nat → Nat} {r : (Nat → Nat) × (Nat → Nat) × Nat} {H : Heap} {L : Nat} {xs : Nat → Int32} (h : va_P D zcl12 (zL a (zFL T a) 151) H) : va_P D zcl12 (zWl (D, T, a, r) (zMf L xs)) H := by
  intro k q hq
  have hk : k < 151 := by
    have := (List.getElem?_eq_some_iff.mp hq).1
    unfold zWl at this
    rwa [List.length_map, List.length_range] at this
  have e : q = (zra (D, T, a, r) ((k : Nat) : Int), zcE (D, T, a, r) (zMf L xs) ((k : Nat) : Int)) := by
    unfold zWl at hq
    rw [List.getElem?_map, List.getElem?_range hk] at hq
    exact (Option.some.inj hq).symm
  rw [e]
  have hc := h k _ (zL_at hk)
  clear e hq
  match k, hk, hc with
  | 0, _, hc => exact zw_0 hc
  | 1, _, hc => exact zw_1 hc
  | 2, _, hc => exact zw_2 hc
  | 3, _, hc => exact zw_3 hc
  | 4, _, hc => exact zw_4 hc
  | 5, _, hc => exact zw_5 hc
  | 6, _, hc => exact zw_6 hc
  | 7, _, hc => exact zw_7 hc
  | 8, _, hc => exact zw_8 hc
  | 9, _, hc => exact zw_9 hc
  | 10, _, hc => exact zw_10 hc
  | 11, _, hc => exact zw_11 hc
  | 12, _, hc => exact zw_12 hc
  | 13, _, hc => exact zw_13 hc
  | 14, _, hc => exact zw_14 hc
  | 15, _, hc => exact zw_15 hc
  | 16, _, hc => exact zw_16 hc
  | 17, _, hc => exact zw_17 hc
  | 18, _, hc => exact zw_18 hc
  | 19, _, hc => exact zw_19 hc
  | 20, _, hc => exact zw_20 hc
  | 21, _, hc => exact zw_21 hc
  | 22, _, hc => exact zw_22 hc
  | 23, _, hc => exact zw_23 hc
  | 24, _, hc => exact zw_24 hc
  | 25, _, hc => exact zw_25 hc
  | 26, _, hc => exact zw_26 hc
  | 27, _, hc => exact zw_27 hc
  | 28, _, hc => exact zw_28 hc
  | 29, _, hc => exact zw_29 hc
  | 30, _, hc => exact zw_30 hc
  | 31, _, hc => exact zw_31 hc
  | 32, _, hc => exact zw_32 hc
  | 33, _, hc => exact zw_33 hc
  | 34, _, hc => exact zw_34 hc
  | 35, _, hc => exact zw_35 hc
  | 36, _, hc => exact zw_36 hc
  | 37, _, hc => exact zw_37 hc
  | 38, _, hc => exact zw_38 hc
  | 39, _, hc => exact zw_39 hc
  | 40, _, hc => exact zw_40 hc
  | 41, _, hc => exact zw_41 hc
  | 42, _, hc => exact zw_42 hc
  | 43, _, hc => exact zw_43 hc
  | 44, _, hc => exact zw_44 hc
  | 45, _, hc => exact zw_45 hc
  | 46, _, hc => exact zw_46 hc
  | 47, _, hc => exact zw_47 hc
  | 48, _, hc => exact zw_48 hc
  | 49, _, hc => exact zw_49 hc
  | 50, _, hc => exact zw_50 hc
  | 51, _, hc => exact zw_51 hc
  | 52, _, hc => exact zw_52 hc
  | 53, _, hc => exact zw_53 hc
  | 54, _, hc => exact zw_54 hc
  | 55, _, hc => exact zw_55 hc
  | 56, _, hc => exact zw_56 hc
  | 57, _, hc => exact zw_57 hc
  | 58, _, hc => exact zw_58 hc
  | 59, _, hc => exact zw_59 hc
  | 60, _, hc => exact zw_60 hc
  | 61, _, hc => exact zw_61 hc
  | 62, _, hc => exact zw_62 hc
  | 63, _, hc => exact zw_63 hc
  | 64, _, hc => exact zw_64 hc
  | 65, _, hc => exact zw_65 hc
  | 66, _, hc => exact zw_66 hc
  | 67, _, hc => exact zw_67 hc
  | 68, _, hc => exact zw_68 hc
  | 69, _, hc => exact zw_69 hc
  | 70, _, hc => exact zw_70 hc
  | 71, _, hc => exact zw_71 hc
  | 72, _, hc => exact zw_72 hc
  | 73, _, hc => exact zw_73 hc
  | 74, _, hc => exact zw_74 hc
  | 75, _, hc => exact zw_75 hc
  | 76, _, hc => exact zw_76 hc
  | 77, _, hc => exact zw_77 hc
  | 78, _, hc => exact zw_78 hc
  | 79, _, hc => exact zw_79 hc
  | 80, _, hc => exact zw_80 hc
  | 81, _, hc => exact zw_81 hc
  | 82, _, hc => exact zw_82 hc
  | 83, _, hc => exact zw_83 hc
  | 84, _, hc => exact zw_84 hc
  | 85, _, hc => exact zw_85 hc
  | 86, _, hc => exact zw_86 hc
  | 87, _, hc => exact zw_87 hc
  | 88, _, hc => exact zw_88 hc
  | 89, _, hc => exact zw_89 hc
  | 90, _, hc => exact zw_90 hc
  | 91, _, hc => exact zw_91 hc
  | 92, _, hc => exact zw_92 hc
  | 93, _, hc => exact zw_93 hc
  | 94, _, hc => exact zw_94 hc
  | 95, _, hc => exact zw_95 hc
  | 96, _, hc => exact zw_96 hc
  | 97, _, hc => exact zw_97 hc
  | 98, _, hc => exact zw_98 hc
  | 99, _, hc => exact zw_99 hc
  | 100, _, hc => exact zw_100 hc
  | 101, _, hc => exact zw_101 hc
  | 102, _, hc => exact zw_102 hc
  | 103, _, hc => exact zw_103 hc
  | 104, _, hc => exact zw_104 hc
  | 105, _, hc => exact zw_105 hc
  | 106, _, hc => exact zw_106 hc
  | 107, _, hc => exact zw_107 hc
  | 108, _, hc => exact zw_108 hc
  | 109, _, hc => exact zw_109 hc
  | 110, _, hc => exact zw_110 hc
  | 111, _, hc => exact zw_111 hc
  | 112, _, hc => exact zw_112 hc
  | 113, _, hc => exact zw_113 hc
  | 114, _, hc => exact zw_114 hc
  | 115, _, hc => exact zw_115 hc
  | 116, _, hc => exact zw_116 hc
  | 117, _, hc => exact zw_117 hc
  | 118, _, hc => exact zw_118 hc
  | 119, _, hc => exact zw_119 hc
  | 120, _, hc => exact zw_120 hc
  | 121, _, hc => exact zw_121 hc
  | 122, _, hc => exact zw_122 hc
  | 123, _, hc => exact zw_123 hc
  | 124, _, hc => exact zw_124 hc
  | 125, _, hc => exact zw_125 hc
  | 126, _, hc => exact zw_126 hc
  | 127, _, hc => exact zw_127 hc
  | 128, _, hc => exact zw_128 hc
  | 129, _, hc => exact zw_129 hc
  | 130, _, hc => exact zw_130 hc
  | 131, _, hc => exact zw_131 hc
  | 132, _, hc => exact zw_132 hc
  | 133, _, hc => exact zw_133 hc
  | 134, _, hc => exact zw_134 hc
  | 135, _, hc => exact zw_135 hc
  | 136, _, hc => exact zw_136 hc
  | 137, _, hc => exact zw_137 hc
  | 138, _, hc => exact zw_138 hc
  | 139, _, hc => exact zw_139 hc
  | 140, _, hc => exact zw_140 hc
  | 141, _, hc => exact zw_141 hc
  | 142, _, hc => exact zw_142 hc
  | 143, _, hc => exact zw_143 hc
  | 144, _, hc => exact zw_144 hc
  | 145, _, hc => exact zw_145 hc
  | 146, _, hc => exact zw_146 hc
  | 147, _, hc => exact zw_147 hc
  | 148, _, hc => exact zw_148 hc
  | 149, _, hc => exact zw_149 hc
  | 150, _, hc => exact zw_150 hc
  | _ + 151, h, _ => exact absurd h (by omega)
