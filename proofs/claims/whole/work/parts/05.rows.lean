theorem zst_1 {E : Nat → List zV → zMm → Option zV → zMm → Prop} {a b : Nat} {v : Int} {l : zLc} {s : List zV} {m : zMm} {K : Nat → zLc → List zV → zMm → Prop} {Q : Option zV → zMm → Prop} {k : zLc → List zV → zMm → Prop} : zst E (1, a, b, v) l s m K Q k = ((match zlg l a with | some (.inl x) => k l (.inl x :: s) m | _ => False)) := rfl
theorem zst_2 {E : Nat → List zV → zMm → Option zV → zMm → Prop} {a b : Nat} {v : Int} {l : zLc} {s : List zV} {m : zMm} {K : Nat → zLc → List zV → zMm → Prop} {Q : Option zV → zMm → Prop} {k : zLc → List zV → zMm → Prop} : zst E (2, a, b, v) l s m K Q k = ((match zlg l a with | some (.inr (.inl x)) => k l (.inr (.inl x) :: s) m | _ => False)) := rfl
theorem zst_3 {E : Nat → List zV → zMm → Option zV → zMm → Prop} {a b : Nat} {v : Int} {l : zLc} {s : List zV} {m : zMm} {K : Nat → zLc → List zV → zMm → Prop} {Q : Option zV → zMm → Prop} {k : zLc → List zV → zMm → Prop} : zst E (3, a, b, v) l s m K Q k = ((match zlg l a with | some (.inr (.inr x)) => k l (.inr (.inr x) :: s) m | _ => False)) := rfl
theorem zst_4 {E : Nat → List zV → zMm → Option zV → zMm → Prop} {a b : Nat} {v : Int} {l : zLc} {s : List zV} {m : zMm} {K : Nat → zLc → List zV → zMm → Prop} {Q : Option zV → zMm → Prop} {k : zLc → List zV → zMm → Prop} : zst E (4, a, b, v) l s m K Q k = ((match s with | .inl x :: s => k (zls l a (some (.inl x))) s m | _ => False)) := rfl
theorem zst_5 {E : Nat → List zV → zMm → Option zV → zMm → Prop} {a b : Nat} {v : Int} {l : zLc} {s : List zV} {m : zMm} {K : Nat → zLc → List zV → zMm → Prop} {Q : Option zV → zMm → Prop} {k : zLc → List zV → zMm → Prop} : zst E (5, a, b, v) l s m K Q k = ((match s with | .inr (.inl x) :: s => k (zlL l a (some (.inr (.inl x)))) s m | _ => False)) := rfl
theorem zst_6 {E : Nat → List zV → zMm → Option zV → zMm → Prop} {a b : Nat} {v : Int} {l : zLc} {s : List zV} {m : zMm} {K : Nat → zLc → List zV → zMm → Prop} {Q : Option zV → zMm → Prop} {k : zLc → List zV → zMm → Prop} : zst E (6, a, b, v) l s m K Q k = ((match s with | .inr (.inr x) :: s => k (zls l a (some (.inr (.inr x)))) s m | _ => False)) := rfl
theorem zst_7 {E : Nat → List zV → zMm → Option zV → zMm → Prop} {a b : Nat} {v : Int} {l : zLc} {s : List zV} {m : zMm} {K : Nat → zLc → List zV → zMm → Prop} {Q : Option zV → zMm → Prop} {k : zLc → List zV → zMm → Prop} : zst E (7, a, b, v) l s m K Q k = (k l (.inl v :: s) m) := rfl
theorem zst_8 {E : Nat → List zV → zMm → Option zV → zMm → Prop} {a b : Nat} {v : Int} {l : zLc} {s : List zV} {m : zMm} {K : Nat → zLc → List zV → zMm → Prop} {Q : Option zV → zMm → Prop} {k : zLc → List zV → zMm → Prop} : zst E (8, a, b, v) l s m K Q k = (k l (.inr (.inl v) :: s) m) := rfl
theorem zst_9 {E : Nat → List zV → zMm → Option zV → zMm → Prop} {a b : Nat} {v : Int} {l : zLc} {s : List zV} {m : zMm} {K : Nat → zLc → List zV → zMm → Prop} {Q : Option zV → zMm → Prop} {k : zLc → List zV → zMm → Prop} : zst E (9, a, b, v) l s m K Q k = (k l (.inr (.inr (-10 - a)) :: s) m) := rfl
theorem zst_10 {E : Nat → List zV → zMm → Option zV → zMm → Prop} {a b : Nat} {v : Int} {l : zLc} {s : List zV} {m : zMm} {K : Nat → zLc → List zV → zMm → Prop} {Q : Option zV → zMm → Prop} {k : zLc → List zV → zMm → Prop} : zst E (10, a, b, v) l s m K Q k = ((match s with | .inr (.inr c) :: s => zkd c = 100 + a ∧ k l (.inl (m c b) :: s) m | _ => False)) := rfl
theorem zst_11 {E : Nat → List zV → zMm → Option zV → zMm → Prop} {a b : Nat} {v : Int} {l : zLc} {s : List zV} {m : zMm} {K : Nat → zLc → List zV → zMm → Prop} {Q : Option zV → zMm → Prop} {k : zLc → List zV → zMm → Prop} : zst E (11, a, b, v) l s m K Q k = ((match s with | .inr (.inr c) :: s => zkd c = 100 + a ∧ k l (.inr (.inl (m c b)) :: s) m | _ => False)) := rfl
theorem zst_12 {E : Nat → List zV → zMm → Option zV → zMm → Prop} {a b : Nat} {v : Int} {l : zLc} {s : List zV} {m : zMm} {K : Nat → zLc → List zV → zMm → Prop} {Q : Option zV → zMm → Prop} {k : zLc → List zV → zMm → Prop} : zst E (12, a, b, v) l s m K Q k = ((match s with | .inr (.inr c) :: s => zkd c = 100 + a ∧ k l (.inr (.inr (zrf c b)) :: s) m | _ => False)) := rfl
theorem zst_13 {E : Nat → List zV → zMm → Option zV → zMm → Prop} {a b : Nat} {v : Int} {l : zLc} {s : List zV} {m : zMm} {K : Nat → zLc → List zV → zMm → Prop} {Q : Option zV → zMm → Prop} {k : zLc → List zV → zMm → Prop} : zst E (13, a, b, v) l s m K Q k = ((match s with | .inl x :: .inr (.inr c) :: s => zkd c = 100 + a ∧ k l s (zmu m c b x) | _ => False)) := rfl
theorem zst_14 {E : Nat → List zV → zMm → Option zV → zMm → Prop} {a b : Nat} {v : Int} {l : zLc} {s : List zV} {m : zMm} {K : Nat → zLc → List zV → zMm → Prop} {Q : Option zV → zMm → Prop} {k : zLc → List zV → zMm → Prop} : zst E (14, a, b, v) l s m K Q k = ((match s with | .inr (.inl x) :: .inr (.inr c) :: s => zkd c = 100 + a ∧ k l s (zmu m c b x) | _ => False)) := rfl
theorem zst_15 {E : Nat → List zV → zMm → Option zV → zMm → Prop} {a b : Nat} {v : Int} {l : zLc} {s : List zV} {m : zMm} {K : Nat → zLc → List zV → zMm → Prop} {Q : Option zV → zMm → Prop} {k : zLc → List zV → zMm → Prop} : zst E (15, a, b, v) l s m K Q k = ((match s with | .inl x :: .inr (.inr c) :: s => zkd c = 100 + a ∧ (x = 0 ∨ x = 1) ∧ k l s (zmu m c b x) | _ => False)) := rfl
theorem zst_16 {E : Nat → List zV → zMm → Option zV → zMm → Prop} {a b : Nat} {v : Int} {l : zLc} {s : List zV} {m : zMm} {K : Nat → zLc → List zV → zMm → Prop} {Q : Option zV → zMm → Prop} {k : zLc → List zV → zMm → Prop} : zst E (16, a, b, v) l s m K Q k = ((match s with | .inl i :: .inr (.inr c) :: s => zkd c = 1 ∧ (0 ≤ i ∧ i < zln c) ∧ k l (.inl (m c i) :: s) m | _ => False)) := rfl
theorem zst_17 {E : Nat → List zV → zMm → Option zV → zMm → Prop} {a b : Nat} {v : Int} {l : zLc} {s : List zV} {m : zMm} {K : Nat → zLc → List zV → zMm → Prop} {Q : Option zV → zMm → Prop} {k : zLc → List zV → zMm → Prop} : zst E (17, a, b, v) l s m K Q k = ((match s with | .inl i :: .inr (.inr c) :: s => (zkd c = 3 ∨ zkd c = 4) ∧ (0 ≤ i ∧ i < zln c) ∧ k l (.inl (m c i) :: s) m | _ => False)) := rfl
theorem zst_19 {E : Nat → List zV → zMm → Option zV → zMm → Prop} {a b : Nat} {v : Int} {l : zLc} {s : List zV} {m : zMm} {K : Nat → zLc → List zV → zMm → Prop} {Q : Option zV → zMm → Prop} {k : zLc → List zV → zMm → Prop} : zst E (19, a, b, v) l s m K Q k = ((match s with | .inl i :: .inr (.inr c) :: s => zkd c = 2 ∧ (0 ≤ i ∧ i < zln c) ∧ k l (.inr (.inl (m c i)) :: s) m | _ => False)) := rfl
theorem zst_20 {E : Nat → List zV → zMm → Option zV → zMm → Prop} {a b : Nat} {v : Int} {l : zLc} {s : List zV} {m : zMm} {K : Nat → zLc → List zV → zMm → Prop} {Q : Option zV → zMm → Prop} {k : zLc → List zV → zMm → Prop} : zst E (20, a, b, v) l s m K Q k = ((match s with | .inl i :: .inr (.inr c) :: s => (5 ≤ zkd c ∧ zkd c ≤ 9) ∧ (0 ≤ i ∧ i < zln c) ∧ k l (.inr (.inr (zrf c i)) :: s) m | _ => False)) := rfl
theorem zst_21 {E : Nat → List zV → zMm → Option zV → zMm → Prop} {a b : Nat} {v : Int} {l : zLc} {s : List zV} {m : zMm} {K : Nat → zLc → List zV → zMm → Prop} {Q : Option zV → zMm → Prop} {k : zLc → List zV → zMm → Prop} : zst E (21, a, b, v) l s m K Q k = ((match s with | .inl x :: .inl i :: .inr (.inr c) :: s => zkd c = 1 ∧ (0 ≤ i ∧ i < zln c) ∧ k l s (zmu m c i x) | _ => False)) := rfl
theorem zst_22 {E : Nat → List zV → zMm → Option zV → zMm → Prop} {a b : Nat} {v : Int} {l : zLc} {s : List zV} {m : zMm} {K : Nat → zLc → List zV → zMm → Prop} {Q : Option zV → zMm → Prop} {k : zLc → List zV → zMm → Prop} : zst E (22, a, b, v) l s m K Q k = ((match s with | .inl x :: .inl i :: .inr (.inr c) :: s => (0 ≤ i ∧ i < zln c) ∧ ((zkd c = 3 ∧ k l s (zmu m c i (zw8 x))) ∨ (zkd c = 4 ∧ (x = 0 ∨ x = 1) ∧ k l s (zmu m c i x))) | _ => False)) := rfl
theorem zst_24 {E : Nat → List zV → zMm → Option zV → zMm → Prop} {a b : Nat} {v : Int} {l : zLc} {s : List zV} {m : zMm} {K : Nat → zLc → List zV → zMm → Prop} {Q : Option zV → zMm → Prop} {k : zLc → List zV → zMm → Prop} : zst E (24, a, b, v) l s m K Q k = ((match s with | .inr (.inl x) :: .inl i :: .inr (.inr c) :: s => zkd c = 2 ∧ (0 ≤ i ∧ i < zln c) ∧ k l s (zmu m c i x) | _ => False)) := rfl
theorem zst_25 {E : Nat → List zV → zMm → Option zV → zMm → Prop} {a b : Nat} {v : Int} {l : zLc} {s : List zV} {m : zMm} {K : Nat → zLc → List zV → zMm → Prop} {Q : Option zV → zMm → Prop} {k : zLc → List zV → zMm → Prop} : zst E (25, a, b, v) l s m K Q k = ((match s with | .inr (.inr c) :: s => (1 ≤ zkd c ∧ zkd c ≤ 4) ∧ k l (.inl (zln c) :: s) m | _ => False)) := rfl
theorem zst_26 {E : Nat → List zV → zMm → Option zV → zMm → Prop} {a b : Nat} {v : Int} {l : zLc} {s : List zV} {m : zMm} {K : Nat → zLc → List zV → zMm → Prop} {Q : Option zV → zMm → Prop} {k : zLc → List zV → zMm → Prop} : zst E (26, a, b, v) l s m K Q k = ((match s with | .inl y :: .inl x :: s => k l (.inl (zw (x + y)) :: s) m | _ => False)) := rfl
theorem zst_27 {E : Nat → List zV → zMm → Option zV → zMm → Prop} {a b : Nat} {v : Int} {l : zLc} {s : List zV} {m : zMm} {K : Nat → zLc → List zV → zMm → Prop} {Q : Option zV → zMm → Prop} {k : zLc → List zV → zMm → Prop} : zst E (27, a, b, v) l s m K Q k = ((match s with | .inl y :: .inl x :: s => k l (.inl (zw (x - y)) :: s) m | _ => False)) := rfl
theorem zst_28 {E : Nat → List zV → zMm → Option zV → zMm → Prop} {a b : Nat} {v : Int} {l : zLc} {s : List zV} {m : zMm} {K : Nat → zLc → List zV → zMm → Prop} {Q : Option zV → zMm → Prop} {k : zLc → List zV → zMm → Prop} : zst E (28, a, b, v) l s m K Q k = ((match s with | .inl y :: .inl x :: s => k l (.inl (zw (x * y)) :: s) m | _ => False)) := rfl
theorem zst_29 {E : Nat → List zV → zMm → Option zV → zMm → Prop} {a b : Nat} {v : Int} {l : zLc} {s : List zV} {m : zMm} {K : Nat → zLc → List zV → zMm → Prop} {Q : Option zV → zMm → Prop} {k : zLc → List zV → zMm → Prop} : zst E (29, a, b, v) l s m K Q k = ((match s with | .inl y :: .inl x :: s => ¬ y = 0 ∧ k l (.inl (zdiv x y) :: s) m | _ => False)) := rfl
theorem zst_30 {E : Nat → List zV → zMm → Option zV → zMm → Prop} {a b : Nat} {v : Int} {l : zLc} {s : List zV} {m : zMm} {K : Nat → zLc → List zV → zMm → Prop} {Q : Option zV → zMm → Prop} {k : zLc → List zV → zMm → Prop} : zst E (30, a, b, v) l s m K Q k = ((match s with | .inl y :: .inl x :: s => ¬ y = 0 ∧ k l (.inl (zrem x y) :: s) m | _ => False)) := rfl
theorem zst_31 {E : Nat → List zV → zMm → Option zV → zMm → Prop} {a b : Nat} {v : Int} {l : zLc} {s : List zV} {m : zMm} {K : Nat → zLc → List zV → zMm → Prop} {Q : Option zV → zMm → Prop} {k : zLc → List zV → zMm → Prop} : zst E (31, a, b, v) l s m K Q k = ((match s with | .inl y :: .inl x :: s => k l (.inl (zand x y) :: s) m | _ => False)) := rfl
theorem zst_32 {E : Nat → List zV → zMm → Option zV → zMm → Prop} {a b : Nat} {v : Int} {l : zLc} {s : List zV} {m : zMm} {K : Nat → zLc → List zV → zMm → Prop} {Q : Option zV → zMm → Prop} {k : zLc → List zV → zMm → Prop} : zst E (32, a, b, v) l s m K Q k = ((match s with | .inl y :: .inl x :: s => k l (.inl (zor x y) :: s) m | _ => False)) := rfl
theorem zst_33 {E : Nat → List zV → zMm → Option zV → zMm → Prop} {a b : Nat} {v : Int} {l : zLc} {s : List zV} {m : zMm} {K : Nat → zLc → List zV → zMm → Prop} {Q : Option zV → zMm → Prop} {k : zLc → List zV → zMm → Prop} : zst E (33, a, b, v) l s m K Q k = ((match s with | .inl y :: .inl x :: s => k l (.inl (zxor x y) :: s) m | _ => False)) := rfl
theorem zst_34 {E : Nat → List zV → zMm → Option zV → zMm → Prop} {a b : Nat} {v : Int} {l : zLc} {s : List zV} {m : zMm} {K : Nat → zLc → List zV → zMm → Prop} {Q : Option zV → zMm → Prop} {k : zLc → List zV → zMm → Prop} : zst E (34, a, b, v) l s m K Q k = ((match s with | .inl y :: .inl x :: s => k l (.inl (zshl x y) :: s) m | _ => False)) := rfl
theorem zst_35 {E : Nat → List zV → zMm → Option zV → zMm → Prop} {a b : Nat} {v : Int} {l : zLc} {s : List zV} {m : zMm} {K : Nat → zLc → List zV → zMm → Prop} {Q : Option zV → zMm → Prop} {k : zLc → List zV → zMm → Prop} : zst E (35, a, b, v) l s m K Q k = ((match s with | .inl y :: .inl x :: s => k l (.inl (zshr x y) :: s) m | _ => False)) := rfl
theorem zst_36 {E : Nat → List zV → zMm → Option zV → zMm → Prop} {a b : Nat} {v : Int} {l : zLc} {s : List zV} {m : zMm} {K : Nat → zLc → List zV → zMm → Prop} {Q : Option zV → zMm → Prop} {k : zLc → List zV → zMm → Prop} : zst E (36, a, b, v) l s m K Q k = ((match s with | .inl y :: .inl x :: s => k l (.inl (zushr x y) :: s) m | _ => False)) := rfl
theorem zst_37 {E : Nat → List zV → zMm → Option zV → zMm → Prop} {a b : Nat} {v : Int} {l : zLc} {s : List zV} {m : zMm} {K : Nat → zLc → List zV → zMm → Prop} {Q : Option zV → zMm → Prop} {k : zLc → List zV → zMm → Prop} : zst E (37, a, b, v) l s m K Q k = ((match s with | .inr (.inl y) :: .inr (.inl x) :: s => k l (.inr (.inl (zwl (x + y))) :: s) m | _ => False)) := rfl
theorem zst_38 {E : Nat → List zV → zMm → Option zV → zMm → Prop} {a b : Nat} {v : Int} {l : zLc} {s : List zV} {m : zMm} {K : Nat → zLc → List zV → zMm → Prop} {Q : Option zV → zMm → Prop} {k : zLc → List zV → zMm → Prop} : zst E (38, a, b, v) l s m K Q k = ((match s with | .inr (.inl y) :: .inr (.inl x) :: s => k l (.inr (.inl (zwl (x - y))) :: s) m | _ => False)) := rfl
theorem zst_39 {E : Nat → List zV → zMm → Option zV → zMm → Prop} {a b : Nat} {v : Int} {l : zLc} {s : List zV} {m : zMm} {K : Nat → zLc → List zV → zMm → Prop} {Q : Option zV → zMm → Prop} {k : zLc → List zV → zMm → Prop} : zst E (39, a, b, v) l s m K Q k = ((match s with | .inr (.inl y) :: .inr (.inl x) :: s => k l (.inr (.inl (zwl (x * y))) :: s) m | _ => False)) := rfl
theorem zst_40 {E : Nat → List zV → zMm → Option zV → zMm → Prop} {a b : Nat} {v : Int} {l : zLc} {s : List zV} {m : zMm} {K : Nat → zLc → List zV → zMm → Prop} {Q : Option zV → zMm → Prop} {k : zLc → List zV → zMm → Prop} : zst E (40, a, b, v) l s m K Q k = ((match s with | .inr (.inl y) :: .inr (.inl x) :: s => ¬ y = 0 ∧ k l (.inr (.inl (zldiv x y)) :: s) m | _ => False)) := rfl
theorem zst_41 {E : Nat → List zV → zMm → Option zV → zMm → Prop} {a b : Nat} {v : Int} {l : zLc} {s : List zV} {m : zMm} {K : Nat → zLc → List zV → zMm → Prop} {Q : Option zV → zMm → Prop} {k : zLc → List zV → zMm → Prop} : zst E (41, a, b, v) l s m K Q k = ((match s with | .inr (.inl y) :: .inr (.inl x) :: s => ¬ y = 0 ∧ k l (.inr (.inl (zlrem x y)) :: s) m | _ => False)) := rfl
theorem zst_42 {E : Nat → List zV → zMm → Option zV → zMm → Prop} {a b : Nat} {v : Int} {l : zLc} {s : List zV} {m : zMm} {K : Nat → zLc → List zV → zMm → Prop} {Q : Option zV → zMm → Prop} {k : zLc → List zV → zMm → Prop} : zst E (42, a, b, v) l s m K Q k = ((match s with | .inr (.inl y) :: .inr (.inl x) :: s => k l (.inr (.inl (zland x y)) :: s) m | _ => False)) := rfl
theorem zst_43 {E : Nat → List zV → zMm → Option zV → zMm → Prop} {a b : Nat} {v : Int} {l : zLc} {s : List zV} {m : zMm} {K : Nat → zLc → List zV → zMm → Prop} {Q : Option zV → zMm → Prop} {k : zLc → List zV → zMm → Prop} : zst E (43, a, b, v) l s m K Q k = ((match s with | .inr (.inl y) :: .inr (.inl x) :: s => k l (.inr (.inl (zlor x y)) :: s) m | _ => False)) := rfl
theorem zst_44 {E : Nat → List zV → zMm → Option zV → zMm → Prop} {a b : Nat} {v : Int} {l : zLc} {s : List zV} {m : zMm} {K : Nat → zLc → List zV → zMm → Prop} {Q : Option zV → zMm → Prop} {k : zLc → List zV → zMm → Prop} : zst E (44, a, b, v) l s m K Q k = ((match s with | .inl y :: .inr (.inl x) :: s => k l (.inr (.inl (zlshl x y)) :: s) m | _ => False)) := rfl
theorem zst_45 {E : Nat → List zV → zMm → Option zV → zMm → Prop} {a b : Nat} {v : Int} {l : zLc} {s : List zV} {m : zMm} {K : Nat → zLc → List zV → zMm → Prop} {Q : Option zV → zMm → Prop} {k : zLc → List zV → zMm → Prop} : zst E (45, a, b, v) l s m K Q k = ((match s with | .inr (.inl y) :: .inr (.inl x) :: s => k l (.inl (zlcmp x y) :: s) m | _ => False)) := rfl
theorem zst_46 {E : Nat → List zV → zMm → Option zV → zMm → Prop} {a b : Nat} {v : Int} {l : zLc} {s : List zV} {m : zMm} {K : Nat → zLc → List zV → zMm → Prop} {Q : Option zV → zMm → Prop} {k : zLc → List zV → zMm → Prop} : zst E (46, a, b, v) l s m K Q k = ((match s with | .inl x :: s => k l (.inr (.inl x) :: s) m | _ => False)) := rfl
theorem zst_47 {E : Nat → List zV → zMm → Option zV → zMm → Prop} {a b : Nat} {v : Int} {l : zLc} {s : List zV} {m : zMm} {K : Nat → zLc → List zV → zMm → Prop} {Q : Option zV → zMm → Prop} {k : zLc → List zV → zMm → Prop} : zst E (47, a, b, v) l s m K Q k = ((match s with | .inr (.inl x) :: s => k l (.inl (zw x) :: s) m | _ => False)) := rfl
theorem zst_48 {E : Nat → List zV → zMm → Option zV → zMm → Prop} {a b : Nat} {v : Int} {l : zLc} {s : List zV} {m : zMm} {K : Nat → zLc → List zV → zMm → Prop} {Q : Option zV → zMm → Prop} {k : zLc → List zV → zMm → Prop} : zst E (48, a, b, v) l s m K Q k = ((match s with | .inl x :: s => k l (.inl (zw8 x) :: s) m | _ => False)) := rfl
theorem zst_49 {E : Nat → List zV → zMm → Option zV → zMm → Prop} {a b : Nat} {v : Int} {l : zLc} {s : List zV} {m : zMm} {K : Nat → zLc → List zV → zMm → Prop} {Q : Option zV → zMm → Prop} {k : zLc → List zV → zMm → Prop} : zst E (49, a, b, v) l s m K Q k = ((match s with | .inl x :: s => k l (.inl (zw16 x) :: s) m | _ => False)) := rfl
theorem zst_50 {E : Nat → List zV → zMm → Option zV → zMm → Prop} {a b : Nat} {v : Int} {l : zLc} {s : List zV} {m : zMm} {K : Nat → zLc → List zV → zMm → Prop} {Q : Option zV → zMm → Prop} {k : zLc → List zV → zMm → Prop} : zst E (50, a, b, v) l s m K Q k = ((match s with | .inl x :: s => k l (.inl x :: .inl x :: s) m | .inr (.inr x) :: s => k l (.inr (.inr x) :: .inr (.inr x) :: s) m | _ => False)) := rfl
theorem zst_51 {E : Nat → List zV → zMm → Option zV → zMm → Prop} {a b : Nat} {v : Int} {l : zLc} {s : List zV} {m : zMm} {K : Nat → zLc → List zV → zMm → Prop} {Q : Option zV → zMm → Prop} {k : zLc → List zV → zMm → Prop} : zst E (51, a, b, v) l s m K Q k = ((match s with | .inl y :: .inr (.inr x) :: s => k l (.inl y :: .inr (.inr x) :: .inl y :: .inr (.inr x) :: s) m | _ => False)) := rfl
theorem zst_52 {E : Nat → List zV → zMm → Option zV → zMm → Prop} {a b : Nat} {v : Int} {l : zLc} {s : List zV} {m : zMm} {K : Nat → zLc → List zV → zMm → Prop} {Q : Option zV → zMm → Prop} {k : zLc → List zV → zMm → Prop} : zst E (52, a, b, v) l s m K Q k = ((match s with | .inl _ :: s => k l s m | _ => False)) := rfl
theorem zst_53 {E : Nat → List zV → zMm → Option zV → zMm → Prop} {a b : Nat} {v : Int} {l : zLc} {s : List zV} {m : zMm} {K : Nat → zLc → List zV → zMm → Prop} {Q : Option zV → zMm → Prop} {k : zLc → List zV → zMm → Prop} : zst E (53, a, b, v) l s m K Q k = ((match zlg l a with | some (.inl x) => k (zls l a (some (.inl (zw (x + v))))) s m | _ => False)) := rfl
theorem zst_54 {E : Nat → List zV → zMm → Option zV → zMm → Prop} {a b : Nat} {v : Int} {l : zLc} {s : List zV} {m : zMm} {K : Nat → zLc → List zV → zMm → Prop} {Q : Option zV → zMm → Prop} {k : zLc → List zV → zMm → Prop} : zst E (54, a, b, v) l s m K Q k = (K a l s m) := rfl
theorem zst_55 {E : Nat → List zV → zMm → Option zV → zMm → Prop} {a b : Nat} {v : Int} {l : zLc} {s : List zV} {m : zMm} {K : Nat → zLc → List zV → zMm → Prop} {Q : Option zV → zMm → Prop} {k : zLc → List zV → zMm → Prop} : zst E (55, a, b, v) l s m K Q k = ((match s with | .inl y :: .inl x :: s => (x = y → K a l s m) ∧ (¬ (x = y) → K b l s m) | _ => False)) := rfl
theorem zst_56 {E : Nat → List zV → zMm → Option zV → zMm → Prop} {a b : Nat} {v : Int} {l : zLc} {s : List zV} {m : zMm} {K : Nat → zLc → List zV → zMm → Prop} {Q : Option zV → zMm → Prop} {k : zLc → List zV → zMm → Prop} : zst E (56, a, b, v) l s m K Q k = ((match s with | .inl y :: .inl x :: s => (¬ x = y → K a l s m) ∧ (¬ (¬ x = y) → K b l s m) | _ => False)) := rfl
theorem zst_57 {E : Nat → List zV → zMm → Option zV → zMm → Prop} {a b : Nat} {v : Int} {l : zLc} {s : List zV} {m : zMm} {K : Nat → zLc → List zV → zMm → Prop} {Q : Option zV → zMm → Prop} {k : zLc → List zV → zMm → Prop} : zst E (57, a, b, v) l s m K Q k = ((match s with | .inl y :: .inl x :: s => (x < y → K a l s m) ∧ (¬ (x < y) → K b l s m) | _ => False)) := rfl
theorem zst_58 {E : Nat → List zV → zMm → Option zV → zMm → Prop} {a b : Nat} {v : Int} {l : zLc} {s : List zV} {m : zMm} {K : Nat → zLc → List zV → zMm → Prop} {Q : Option zV → zMm → Prop} {k : zLc → List zV → zMm → Prop} : zst E (58, a, b, v) l s m K Q k = ((match s with | .inl y :: .inl x :: s => (y ≤ x → K a l s m) ∧ (¬ (y ≤ x) → K b l s m) | _ => False)) := rfl
theorem zst_59 {E : Nat → List zV → zMm → Option zV → zMm → Prop} {a b : Nat} {v : Int} {l : zLc} {s : List zV} {m : zMm} {K : Nat → zLc → List zV → zMm → Prop} {Q : Option zV → zMm → Prop} {k : zLc → List zV → zMm → Prop} : zst E (59, a, b, v) l s m K Q k = ((match s with | .inl y :: .inl x :: s => (y < x → K a l s m) ∧ (¬ (y < x) → K b l s m) | _ => False)) := rfl
theorem zst_60 {E : Nat → List zV → zMm → Option zV → zMm → Prop} {a b : Nat} {v : Int} {l : zLc} {s : List zV} {m : zMm} {K : Nat → zLc → List zV → zMm → Prop} {Q : Option zV → zMm → Prop} {k : zLc → List zV → zMm → Prop} : zst E (60, a, b, v) l s m K Q k = ((match s with | .inl y :: .inl x :: s => (x ≤ y → K a l s m) ∧ (¬ (x ≤ y) → K b l s m) | _ => False)) := rfl
theorem zst_61 {E : Nat → List zV → zMm → Option zV → zMm → Prop} {a b : Nat} {v : Int} {l : zLc} {s : List zV} {m : zMm} {K : Nat → zLc → List zV → zMm → Prop} {Q : Option zV → zMm → Prop} {k : zLc → List zV → zMm → Prop} : zst E (61, a, b, v) l s m K Q k = ((match s with | .inl x :: s => (x = 0 → K a l s m) ∧ (¬ (x = 0) → K b l s m) | _ => False)) := rfl
theorem zst_62 {E : Nat → List zV → zMm → Option zV → zMm → Prop} {a b : Nat} {v : Int} {l : zLc} {s : List zV} {m : zMm} {K : Nat → zLc → List zV → zMm → Prop} {Q : Option zV → zMm → Prop} {k : zLc → List zV → zMm → Prop} : zst E (62, a, b, v) l s m K Q k = ((match s with | .inl x :: s => (¬ x = 0 → K a l s m) ∧ (¬ (¬ x = 0) → K b l s m) | _ => False)) := rfl
theorem zst_63 {E : Nat → List zV → zMm → Option zV → zMm → Prop} {a b : Nat} {v : Int} {l : zLc} {s : List zV} {m : zMm} {K : Nat → zLc → List zV → zMm → Prop} {Q : Option zV → zMm → Prop} {k : zLc → List zV → zMm → Prop} : zst E (63, a, b, v) l s m K Q k = ((match s with | .inl x :: s => (x < 0 → K a l s m) ∧ (¬ (x < 0) → K b l s m) | _ => False)) := rfl
theorem zst_64 {E : Nat → List zV → zMm → Option zV → zMm → Prop} {a b : Nat} {v : Int} {l : zLc} {s : List zV} {m : zMm} {K : Nat → zLc → List zV → zMm → Prop} {Q : Option zV → zMm → Prop} {k : zLc → List zV → zMm → Prop} : zst E (64, a, b, v) l s m K Q k = ((match s with | .inl x :: s => (0 ≤ x → K a l s m) ∧ (¬ (0 ≤ x) → K b l s m) | _ => False)) := rfl
theorem zst_65 {E : Nat → List zV → zMm → Option zV → zMm → Prop} {a b : Nat} {v : Int} {l : zLc} {s : List zV} {m : zMm} {K : Nat → zLc → List zV → zMm → Prop} {Q : Option zV → zMm → Prop} {k : zLc → List zV → zMm → Prop} : zst E (65, a, b, v) l s m K Q k = ((match s with | .inl x :: s => (0 < x → K a l s m) ∧ (¬ (0 < x) → K b l s m) | _ => False)) := rfl
theorem zst_66 {E : Nat → List zV → zMm → Option zV → zMm → Prop} {a b : Nat} {v : Int} {l : zLc} {s : List zV} {m : zMm} {K : Nat → zLc → List zV → zMm → Prop} {Q : Option zV → zMm → Prop} {k : zLc → List zV → zMm → Prop} : zst E (66, a, b, v) l s m K Q k = ((match s with | .inl x :: s => (x ≤ 0 → K a l s m) ∧ (¬ (x ≤ 0) → K b l s m) | _ => False)) := rfl
theorem zst_67 {E : Nat → List zV → zMm → Option zV → zMm → Prop} {a b : Nat} {v : Int} {l : zLc} {s : List zV} {m : zMm} {K : Nat → zLc → List zV → zMm → Prop} {Q : Option zV → zMm → Prop} {k : zLc → List zV → zMm → Prop} : zst E (67, a, b, v) l s m K Q k = ((match s with | .inl x :: s => K (zswt a x) l s m | _ => False)) := rfl
theorem zst_68 {E : Nat → List zV → zMm → Option zV → zMm → Prop} {a b : Nat} {v : Int} {l : zLc} {s : List zV} {m : zMm} {K : Nat → zLc → List zV → zMm → Prop} {Q : Option zV → zMm → Prop} {k : zLc → List zV → zMm → Prop} : zst E (68, a, b, v) l s m K Q k = (zrc b s v ∧ zcl E a b s m (fun s m => k l s m)) := rfl
theorem zst_69 {E : Nat → List zV → zMm → Option zV → zMm → Prop} {a b : Nat} {v : Int} {l : zLc} {s : List zV} {m : zMm} {K : Nat → zLc → List zV → zMm → Prop} {Q : Option zV → zMm → Prop} {k : zLc → List zV → zMm → Prop} : zst E (69, a, b, v) l s m K Q k = (zcl E a b s m (fun s m => k l s m)) := rfl
theorem zst_70 {E : Nat → List zV → zMm → Option zV → zMm → Prop} {a b : Nat} {v : Int} {l : zLc} {s : List zV} {m : zMm} {K : Nat → zLc → List zV → zMm → Prop} {Q : Option zV → zMm → Prop} {k : zLc → List zV → zMm → Prop} : zst E (70, a, b, v) l s m K Q k = ((match s with | [.inl x] => Q (some (.inl x)) m | _ => False)) := rfl
theorem zst_71 {E : Nat → List zV → zMm → Option zV → zMm → Prop} {a b : Nat} {v : Int} {l : zLc} {s : List zV} {m : zMm} {K : Nat → zLc → List zV → zMm → Prop} {Q : Option zV → zMm → Prop} {k : zLc → List zV → zMm → Prop} : zst E (71, a, b, v) l s m K Q k = ((match s with | [.inr (.inl x)] => Q (some (.inr (.inl x))) m | _ => False)) := rfl
theorem zst_72 {E : Nat → List zV → zMm → Option zV → zMm → Prop} {a b : Nat} {v : Int} {l : zLc} {s : List zV} {m : zMm} {K : Nat → zLc → List zV → zMm → Prop} {Q : Option zV → zMm → Prop} {k : zLc → List zV → zMm → Prop} : zst E (72, a, b, v) l s m K Q k = ((match s with | [] => Q none m | _ => False)) := rfl
theorem zst_73 {E : Nat → List zV → zMm → Option zV → zMm → Prop} {a b : Nat} {v : Int} {l : zLc} {s : List zV} {m : zMm} {K : Nat → zLc → List zV → zMm → Prop} {Q : Option zV → zMm → Prop} {k : zLc → List zV → zMm → Prop} : zst E (73, a, b, v) l s m K Q k = (K a l s m) := rfl
theorem zst_74 {E : Nat → List zV → zMm → Option zV → zMm → Prop} {a b : Nat} {v : Int} {l : zLc} {s : List zV} {m : zMm} {K : Nat → zLc → List zV → zMm → Prop} {Q : Option zV → zMm → Prop} {k : zLc → List zV → zMm → Prop} : zst E (74, a, b, v) l s m K Q k = ((match s with | .inl i :: .inr (.inr c) :: s => c = -2 ∧ (0 ≤ i ∧ i < m (-2) (-1)) ∧ k l (.inl (m (-2) i) :: s) m | _ => False)) := rfl
theorem zst_75 {E : Nat → List zV → zMm → Option zV → zMm → Prop} {a b : Nat} {v : Int} {l : zLc} {s : List zV} {m : zMm} {K : Nat → zLc → List zV → zMm → Prop} {Q : Option zV → zMm → Prop} {k : zLc → List zV → zMm → Prop} : zst E (75, a, b, v) l s m K Q k = ((match s with | .inr (.inr c) :: s => c = -2 ∧ k l (.inl (m (-2) (-1)) :: s) m | _ => False)) := rfl
theorem zst_76 {E : Nat → List zV → zMm → Option zV → zMm → Prop} {a b : Nat} {v : Int} {l : zLc} {s : List zV} {m : zMm} {K : Nat → zLc → List zV → zMm → Prop} {Q : Option zV → zMm → Prop} {k : zLc → List zV → zMm → Prop} : zst E (76, a, b, v) l s m K Q k = ((match s with | [.inl x] => (x = 0 ∨ x = 1) ∧ Q (some (.inl x)) m | _ => False)) := rfl
theorem zst_78 {E : Nat → List zV → zMm → Option zV → zMm → Prop} {a b : Nat} {v : Int} {l : zLc} {s : List zV} {m : zMm} {K : Nat → zLc → List zV → zMm → Prop} {Q : Option zV → zMm → Prop} {k : zLc → List zV → zMm → Prop} : zst E (78, a, b, v) l s m K Q k = (zcl E a b s m (fun s m => k l s m)) := rfl
theorem zr_4 {E : Nat → List zV → zMm → Option zV → zMm → Prop} {a b : Nat} {v : Int} {l : zLc} {s : List zV} {m : zMm} {K : Nat → zLc → List zV → zMm → Prop} {Q : Option zV → zMm → Prop} {r : List zOp} {x : Int} : zrun E ((4, a, b, v) :: r) l (.inl x :: s) m K Q = (zrun E r (zls l a (some (.inl x))) s m K Q) := propext Iff.rfl
theorem zr_5 {E : Nat → List zV → zMm → Option zV → zMm → Prop} {a b : Nat} {v : Int} {l : zLc} {s : List zV} {m : zMm} {K : Nat → zLc → List zV → zMm → Prop} {Q : Option zV → zMm → Prop} {r : List zOp} {x : Int} : zrun E ((5, a, b, v) :: r) l (.inr (.inl x) :: s) m K Q = (zrun E r (zlL l a (some (.inr (.inl x)))) s m K Q) := propext Iff.rfl
theorem zr_6 {E : Nat → List zV → zMm → Option zV → zMm → Prop} {a b : Nat} {v : Int} {l : zLc} {s : List zV} {m : zMm} {K : Nat → zLc → List zV → zMm → Prop} {Q : Option zV → zMm → Prop} {r : List zOp} {x : Int} : zrun E ((6, a, b, v) :: r) l (.inr (.inr x) :: s) m K Q = (zrun E r (zls l a (some (.inr (.inr x)))) s m K Q) := propext Iff.rfl
theorem zr_10 {E : Nat → List zV → zMm → Option zV → zMm → Prop} {a b : Nat} {v : Int} {l : zLc} {s : List zV} {m : zMm} {K : Nat → zLc → List zV → zMm → Prop} {Q : Option zV → zMm → Prop} {r : List zOp} {c : Int} : zrun E ((10, a, b, v) :: r) l (.inr (.inr c) :: s) m K Q = (zkd c = 100 + a ∧ zrun E r l (.inl (m c b) :: s) m K Q) := propext Iff.rfl
theorem zr_11 {E : Nat → List zV → zMm → Option zV → zMm → Prop} {a b : Nat} {v : Int} {l : zLc} {s : List zV} {m : zMm} {K : Nat → zLc → List zV → zMm → Prop} {Q : Option zV → zMm → Prop} {r : List zOp} {c : Int} : zrun E ((11, a, b, v) :: r) l (.inr (.inr c) :: s) m K Q = (zkd c = 100 + a ∧ zrun E r l (.inr (.inl (m c b)) :: s) m K Q) := propext Iff.rfl
theorem zr_12 {E : Nat → List zV → zMm → Option zV → zMm → Prop} {a b : Nat} {v : Int} {l : zLc} {s : List zV} {m : zMm} {K : Nat → zLc → List zV → zMm → Prop} {Q : Option zV → zMm → Prop} {r : List zOp} {c : Int} : zrun E ((12, a, b, v) :: r) l (.inr (.inr c) :: s) m K Q = (zkd c = 100 + a ∧ zrun E r l (.inr (.inr (zrf c b)) :: s) m K Q) := propext Iff.rfl
theorem zr_13 {E : Nat → List zV → zMm → Option zV → zMm → Prop} {a b : Nat} {v : Int} {l : zLc} {s : List zV} {m : zMm} {K : Nat → zLc → List zV → zMm → Prop} {Q : Option zV → zMm → Prop} {r : List zOp} {c : Int} {x : Int} : zrun E ((13, a, b, v) :: r) l (.inl x :: .inr (.inr c) :: s) m K Q = (zkd c = 100 + a ∧ zrun E r l s (zmu m c b x) K Q) := propext Iff.rfl
theorem zr_14 {E : Nat → List zV → zMm → Option zV → zMm → Prop} {a b : Nat} {v : Int} {l : zLc} {s : List zV} {m : zMm} {K : Nat → zLc → List zV → zMm → Prop} {Q : Option zV → zMm → Prop} {r : List zOp} {c : Int} {x : Int} : zrun E ((14, a, b, v) :: r) l (.inr (.inl x) :: .inr (.inr c) :: s) m K Q = (zkd c = 100 + a ∧ zrun E r l s (zmu m c b x) K Q) := propext Iff.rfl
theorem zr_15 {E : Nat → List zV → zMm → Option zV → zMm → Prop} {a b : Nat} {v : Int} {l : zLc} {s : List zV} {m : zMm} {K : Nat → zLc → List zV → zMm → Prop} {Q : Option zV → zMm → Prop} {r : List zOp} {c : Int} {x : Int} : zrun E ((15, a, b, v) :: r) l (.inl x :: .inr (.inr c) :: s) m K Q = (zkd c = 100 + a ∧ (x = 0 ∨ x = 1) ∧ zrun E r l s (zmu m c b x) K Q) := propext Iff.rfl
theorem zr_16 {E : Nat → List zV → zMm → Option zV → zMm → Prop} {a b : Nat} {v : Int} {l : zLc} {s : List zV} {m : zMm} {K : Nat → zLc → List zV → zMm → Prop} {Q : Option zV → zMm → Prop} {r : List zOp} {c : Int} {i : Int} : zrun E ((16, a, b, v) :: r) l (.inl i :: .inr (.inr c) :: s) m K Q = (zkd c = 1 ∧ (0 ≤ i ∧ i < zln c) ∧ zrun E r l (.inl (m c i) :: s) m K Q) := propext Iff.rfl
theorem zr_17 {E : Nat → List zV → zMm → Option zV → zMm → Prop} {a b : Nat} {v : Int} {l : zLc} {s : List zV} {m : zMm} {K : Nat → zLc → List zV → zMm → Prop} {Q : Option zV → zMm → Prop} {r : List zOp} {c : Int} {i : Int} : zrun E ((17, a, b, v) :: r) l (.inl i :: .inr (.inr c) :: s) m K Q = ((zkd c = 3 ∨ zkd c = 4) ∧ (0 ≤ i ∧ i < zln c) ∧ zrun E r l (.inl (m c i) :: s) m K Q) := propext Iff.rfl
theorem zr_19 {E : Nat → List zV → zMm → Option zV → zMm → Prop} {a b : Nat} {v : Int} {l : zLc} {s : List zV} {m : zMm} {K : Nat → zLc → List zV → zMm → Prop} {Q : Option zV → zMm → Prop} {r : List zOp} {c : Int} {i : Int} : zrun E ((19, a, b, v) :: r) l (.inl i :: .inr (.inr c) :: s) m K Q = (zkd c = 2 ∧ (0 ≤ i ∧ i < zln c) ∧ zrun E r l (.inr (.inl (m c i)) :: s) m K Q) := propext Iff.rfl
theorem zr_20 {E : Nat → List zV → zMm → Option zV → zMm → Prop} {a b : Nat} {v : Int} {l : zLc} {s : List zV} {m : zMm} {K : Nat → zLc → List zV → zMm → Prop} {Q : Option zV → zMm → Prop} {r : List zOp} {c : Int} {i : Int} : zrun E ((20, a, b, v) :: r) l (.inl i :: .inr (.inr c) :: s) m K Q = ((5 ≤ zkd c ∧ zkd c ≤ 9) ∧ (0 ≤ i ∧ i < zln c) ∧ zrun E r l (.inr (.inr (zrf c i)) :: s) m K Q) := propext Iff.rfl
theorem zr_21 {E : Nat → List zV → zMm → Option zV → zMm → Prop} {a b : Nat} {v : Int} {l : zLc} {s : List zV} {m : zMm} {K : Nat → zLc → List zV → zMm → Prop} {Q : Option zV → zMm → Prop} {r : List zOp} {c : Int} {i : Int} {x : Int} : zrun E ((21, a, b, v) :: r) l (.inl x :: .inl i :: .inr (.inr c) :: s) m K Q = (zkd c = 1 ∧ (0 ≤ i ∧ i < zln c) ∧ zrun E r l s (zmu m c i x) K Q) := propext Iff.rfl
theorem zr_22 {E : Nat → List zV → zMm → Option zV → zMm → Prop} {a b : Nat} {v : Int} {l : zLc} {s : List zV} {m : zMm} {K : Nat → zLc → List zV → zMm → Prop} {Q : Option zV → zMm → Prop} {r : List zOp} {c : Int} {i : Int} {x : Int} : zrun E ((22, a, b, v) :: r) l (.inl x :: .inl i :: .inr (.inr c) :: s) m K Q = ((0 ≤ i ∧ i < zln c) ∧ ((zkd c = 3 ∧ zrun E r l s (zmu m c i (zw8 x)) K Q) ∨ (zkd c = 4 ∧ (x = 0 ∨ x = 1) ∧ zrun E r l s (zmu m c i x) K Q))) := propext Iff.rfl
theorem zr_24 {E : Nat → List zV → zMm → Option zV → zMm → Prop} {a b : Nat} {v : Int} {l : zLc} {s : List zV} {m : zMm} {K : Nat → zLc → List zV → zMm → Prop} {Q : Option zV → zMm → Prop} {r : List zOp} {c : Int} {i : Int} {x : Int} : zrun E ((24, a, b, v) :: r) l (.inr (.inl x) :: .inl i :: .inr (.inr c) :: s) m K Q = (zkd c = 2 ∧ (0 ≤ i ∧ i < zln c) ∧ zrun E r l s (zmu m c i x) K Q) := propext Iff.rfl
theorem zr_25 {E : Nat → List zV → zMm → Option zV → zMm → Prop} {a b : Nat} {v : Int} {l : zLc} {s : List zV} {m : zMm} {K : Nat → zLc → List zV → zMm → Prop} {Q : Option zV → zMm → Prop} {r : List zOp} {c : Int} : zrun E ((25, a, b, v) :: r) l (.inr (.inr c) :: s) m K Q = ((1 ≤ zkd c ∧ zkd c ≤ 4) ∧ zrun E r l (.inl (zln c) :: s) m K Q) := propext Iff.rfl
theorem zr_26 {E : Nat → List zV → zMm → Option zV → zMm → Prop} {a b : Nat} {v : Int} {l : zLc} {s : List zV} {m : zMm} {K : Nat → zLc → List zV → zMm → Prop} {Q : Option zV → zMm → Prop} {r : List zOp} {x : Int} {y : Int} : zrun E ((26, a, b, v) :: r) l (.inl y :: .inl x :: s) m K Q = (zrun E r l (.inl (zw (x + y)) :: s) m K Q) := propext Iff.rfl
theorem zr_27 {E : Nat → List zV → zMm → Option zV → zMm → Prop} {a b : Nat} {v : Int} {l : zLc} {s : List zV} {m : zMm} {K : Nat → zLc → List zV → zMm → Prop} {Q : Option zV → zMm → Prop} {r : List zOp} {x : Int} {y : Int} : zrun E ((27, a, b, v) :: r) l (.inl y :: .inl x :: s) m K Q = (zrun E r l (.inl (zw (x - y)) :: s) m K Q) := propext Iff.rfl
theorem zr_28 {E : Nat → List zV → zMm → Option zV → zMm → Prop} {a b : Nat} {v : Int} {l : zLc} {s : List zV} {m : zMm} {K : Nat → zLc → List zV → zMm → Prop} {Q : Option zV → zMm → Prop} {r : List zOp} {x : Int} {y : Int} : zrun E ((28, a, b, v) :: r) l (.inl y :: .inl x :: s) m K Q = (zrun E r l (.inl (zw (x * y)) :: s) m K Q) := propext Iff.rfl
theorem zr_29 {E : Nat → List zV → zMm → Option zV → zMm → Prop} {a b : Nat} {v : Int} {l : zLc} {s : List zV} {m : zMm} {K : Nat → zLc → List zV → zMm → Prop} {Q : Option zV → zMm → Prop} {r : List zOp} {x : Int} {y : Int} : zrun E ((29, a, b, v) :: r) l (.inl y :: .inl x :: s) m K Q = (¬ y = 0 ∧ zrun E r l (.inl (zdiv x y) :: s) m K Q) := propext Iff.rfl
theorem zr_30 {E : Nat → List zV → zMm → Option zV → zMm → Prop} {a b : Nat} {v : Int} {l : zLc} {s : List zV} {m : zMm} {K : Nat → zLc → List zV → zMm → Prop} {Q : Option zV → zMm → Prop} {r : List zOp} {x : Int} {y : Int} : zrun E ((30, a, b, v) :: r) l (.inl y :: .inl x :: s) m K Q = (¬ y = 0 ∧ zrun E r l (.inl (zrem x y) :: s) m K Q) := propext Iff.rfl
theorem zr_31 {E : Nat → List zV → zMm → Option zV → zMm → Prop} {a b : Nat} {v : Int} {l : zLc} {s : List zV} {m : zMm} {K : Nat → zLc → List zV → zMm → Prop} {Q : Option zV → zMm → Prop} {r : List zOp} {x : Int} {y : Int} : zrun E ((31, a, b, v) :: r) l (.inl y :: .inl x :: s) m K Q = (zrun E r l (.inl (zand x y) :: s) m K Q) := propext Iff.rfl
theorem zr_32 {E : Nat → List zV → zMm → Option zV → zMm → Prop} {a b : Nat} {v : Int} {l : zLc} {s : List zV} {m : zMm} {K : Nat → zLc → List zV → zMm → Prop} {Q : Option zV → zMm → Prop} {r : List zOp} {x : Int} {y : Int} : zrun E ((32, a, b, v) :: r) l (.inl y :: .inl x :: s) m K Q = (zrun E r l (.inl (zor x y) :: s) m K Q) := propext Iff.rfl
theorem zr_33 {E : Nat → List zV → zMm → Option zV → zMm → Prop} {a b : Nat} {v : Int} {l : zLc} {s : List zV} {m : zMm} {K : Nat → zLc → List zV → zMm → Prop} {Q : Option zV → zMm → Prop} {r : List zOp} {x : Int} {y : Int} : zrun E ((33, a, b, v) :: r) l (.inl y :: .inl x :: s) m K Q = (zrun E r l (.inl (zxor x y) :: s) m K Q) := propext Iff.rfl
theorem zr_34 {E : Nat → List zV → zMm → Option zV → zMm → Prop} {a b : Nat} {v : Int} {l : zLc} {s : List zV} {m : zMm} {K : Nat → zLc → List zV → zMm → Prop} {Q : Option zV → zMm → Prop} {r : List zOp} {x : Int} {y : Int} : zrun E ((34, a, b, v) :: r) l (.inl y :: .inl x :: s) m K Q = (zrun E r l (.inl (zshl x y) :: s) m K Q) := propext Iff.rfl
theorem zr_35 {E : Nat → List zV → zMm → Option zV → zMm → Prop} {a b : Nat} {v : Int} {l : zLc} {s : List zV} {m : zMm} {K : Nat → zLc → List zV → zMm → Prop} {Q : Option zV → zMm → Prop} {r : List zOp} {x : Int} {y : Int} : zrun E ((35, a, b, v) :: r) l (.inl y :: .inl x :: s) m K Q = (zrun E r l (.inl (zshr x y) :: s) m K Q) := propext Iff.rfl
theorem zr_36 {E : Nat → List zV → zMm → Option zV → zMm → Prop} {a b : Nat} {v : Int} {l : zLc} {s : List zV} {m : zMm} {K : Nat → zLc → List zV → zMm → Prop} {Q : Option zV → zMm → Prop} {r : List zOp} {x : Int} {y : Int} : zrun E ((36, a, b, v) :: r) l (.inl y :: .inl x :: s) m K Q = (zrun E r l (.inl (zushr x y) :: s) m K Q) := propext Iff.rfl
theorem zr_37 {E : Nat → List zV → zMm → Option zV → zMm → Prop} {a b : Nat} {v : Int} {l : zLc} {s : List zV} {m : zMm} {K : Nat → zLc → List zV → zMm → Prop} {Q : Option zV → zMm → Prop} {r : List zOp} {x : Int} {y : Int} : zrun E ((37, a, b, v) :: r) l (.inr (.inl y) :: .inr (.inl x) :: s) m K Q = (zrun E r l (.inr (.inl (zwl (x + y))) :: s) m K Q) := propext Iff.rfl
theorem zr_38 {E : Nat → List zV → zMm → Option zV → zMm → Prop} {a b : Nat} {v : Int} {l : zLc} {s : List zV} {m : zMm} {K : Nat → zLc → List zV → zMm → Prop} {Q : Option zV → zMm → Prop} {r : List zOp} {x : Int} {y : Int} : zrun E ((38, a, b, v) :: r) l (.inr (.inl y) :: .inr (.inl x) :: s) m K Q = (zrun E r l (.inr (.inl (zwl (x - y))) :: s) m K Q) := propext Iff.rfl
theorem zr_39 {E : Nat → List zV → zMm → Option zV → zMm → Prop} {a b : Nat} {v : Int} {l : zLc} {s : List zV} {m : zMm} {K : Nat → zLc → List zV → zMm → Prop} {Q : Option zV → zMm → Prop} {r : List zOp} {x : Int} {y : Int} : zrun E ((39, a, b, v) :: r) l (.inr (.inl y) :: .inr (.inl x) :: s) m K Q = (zrun E r l (.inr (.inl (zwl (x * y))) :: s) m K Q) := propext Iff.rfl
theorem zr_40 {E : Nat → List zV → zMm → Option zV → zMm → Prop} {a b : Nat} {v : Int} {l : zLc} {s : List zV} {m : zMm} {K : Nat → zLc → List zV → zMm → Prop} {Q : Option zV → zMm → Prop} {r : List zOp} {x : Int} {y : Int} : zrun E ((40, a, b, v) :: r) l (.inr (.inl y) :: .inr (.inl x) :: s) m K Q = (¬ y = 0 ∧ zrun E r l (.inr (.inl (zldiv x y)) :: s) m K Q) := propext Iff.rfl
theorem zr_41 {E : Nat → List zV → zMm → Option zV → zMm → Prop} {a b : Nat} {v : Int} {l : zLc} {s : List zV} {m : zMm} {K : Nat → zLc → List zV → zMm → Prop} {Q : Option zV → zMm → Prop} {r : List zOp} {x : Int} {y : Int} : zrun E ((41, a, b, v) :: r) l (.inr (.inl y) :: .inr (.inl x) :: s) m K Q = (¬ y = 0 ∧ zrun E r l (.inr (.inl (zlrem x y)) :: s) m K Q) := propext Iff.rfl
theorem zr_42 {E : Nat → List zV → zMm → Option zV → zMm → Prop} {a b : Nat} {v : Int} {l : zLc} {s : List zV} {m : zMm} {K : Nat → zLc → List zV → zMm → Prop} {Q : Option zV → zMm → Prop} {r : List zOp} {x : Int} {y : Int} : zrun E ((42, a, b, v) :: r) l (.inr (.inl y) :: .inr (.inl x) :: s) m K Q = (zrun E r l (.inr (.inl (zland x y)) :: s) m K Q) := propext Iff.rfl
theorem zr_43 {E : Nat → List zV → zMm → Option zV → zMm → Prop} {a b : Nat} {v : Int} {l : zLc} {s : List zV} {m : zMm} {K : Nat → zLc → List zV → zMm → Prop} {Q : Option zV → zMm → Prop} {r : List zOp} {x : Int} {y : Int} : zrun E ((43, a, b, v) :: r) l (.inr (.inl y) :: .inr (.inl x) :: s) m K Q = (zrun E r l (.inr (.inl (zlor x y)) :: s) m K Q) := propext Iff.rfl
theorem zr_44 {E : Nat → List zV → zMm → Option zV → zMm → Prop} {a b : Nat} {v : Int} {l : zLc} {s : List zV} {m : zMm} {K : Nat → zLc → List zV → zMm → Prop} {Q : Option zV → zMm → Prop} {r : List zOp} {x : Int} {y : Int} : zrun E ((44, a, b, v) :: r) l (.inl y :: .inr (.inl x) :: s) m K Q = (zrun E r l (.inr (.inl (zlshl x y)) :: s) m K Q) := propext Iff.rfl
theorem zr_45 {E : Nat → List zV → zMm → Option zV → zMm → Prop} {a b : Nat} {v : Int} {l : zLc} {s : List zV} {m : zMm} {K : Nat → zLc → List zV → zMm → Prop} {Q : Option zV → zMm → Prop} {r : List zOp} {x : Int} {y : Int} : zrun E ((45, a, b, v) :: r) l (.inr (.inl y) :: .inr (.inl x) :: s) m K Q = (zrun E r l (.inl (zlcmp x y) :: s) m K Q) := propext Iff.rfl
theorem zr_46 {E : Nat → List zV → zMm → Option zV → zMm → Prop} {a b : Nat} {v : Int} {l : zLc} {s : List zV} {m : zMm} {K : Nat → zLc → List zV → zMm → Prop} {Q : Option zV → zMm → Prop} {r : List zOp} {x : Int} : zrun E ((46, a, b, v) :: r) l (.inl x :: s) m K Q = (zrun E r l (.inr (.inl x) :: s) m K Q) := propext Iff.rfl
theorem zr_47 {E : Nat → List zV → zMm → Option zV → zMm → Prop} {a b : Nat} {v : Int} {l : zLc} {s : List zV} {m : zMm} {K : Nat → zLc → List zV → zMm → Prop} {Q : Option zV → zMm → Prop} {r : List zOp} {x : Int} : zrun E ((47, a, b, v) :: r) l (.inr (.inl x) :: s) m K Q = (zrun E r l (.inl (zw x) :: s) m K Q) := propext Iff.rfl
theorem zr_48 {E : Nat → List zV → zMm → Option zV → zMm → Prop} {a b : Nat} {v : Int} {l : zLc} {s : List zV} {m : zMm} {K : Nat → zLc → List zV → zMm → Prop} {Q : Option zV → zMm → Prop} {r : List zOp} {x : Int} : zrun E ((48, a, b, v) :: r) l (.inl x :: s) m K Q = (zrun E r l (.inl (zw8 x) :: s) m K Q) := propext Iff.rfl
theorem zr_49 {E : Nat → List zV → zMm → Option zV → zMm → Prop} {a b : Nat} {v : Int} {l : zLc} {s : List zV} {m : zMm} {K : Nat → zLc → List zV → zMm → Prop} {Q : Option zV → zMm → Prop} {r : List zOp} {x : Int} : zrun E ((49, a, b, v) :: r) l (.inl x :: s) m K Q = (zrun E r l (.inl (zw16 x) :: s) m K Q) := propext Iff.rfl
theorem zr_50 {E : Nat → List zV → zMm → Option zV → zMm → Prop} {a b : Nat} {v : Int} {l : zLc} {s : List zV} {m : zMm} {K : Nat → zLc → List zV → zMm → Prop} {Q : Option zV → zMm → Prop} {r : List zOp} {x : Int} : zrun E ((50, a, b, v) :: r) l (.inl x :: s) m K Q = (zrun E r l (.inl x :: .inl x :: s) m K Q) := propext Iff.rfl
theorem zr_50b {E : Nat → List zV → zMm → Option zV → zMm → Prop} {a b : Nat} {v : Int} {l : zLc} {s : List zV} {m : zMm} {K : Nat → zLc → List zV → zMm → Prop} {Q : Option zV → zMm → Prop} {r : List zOp} {x : Int} : zrun E ((50, a, b, v) :: r) l (.inr (.inr x) :: s) m K Q = (zrun E r l (.inr (.inr x) :: .inr (.inr x) :: s) m K Q) := propext Iff.rfl
theorem zr_51 {E : Nat → List zV → zMm → Option zV → zMm → Prop} {a b : Nat} {v : Int} {l : zLc} {s : List zV} {m : zMm} {K : Nat → zLc → List zV → zMm → Prop} {Q : Option zV → zMm → Prop} {r : List zOp} {x : Int} {y : Int} : zrun E ((51, a, b, v) :: r) l (.inl y :: .inr (.inr x) :: s) m K Q = (zrun E r l (.inl y :: .inr (.inr x) :: .inl y :: .inr (.inr x) :: s) m K Q) := propext Iff.rfl
theorem zr_52 {E : Nat → List zV → zMm → Option zV → zMm → Prop} {a b : Nat} {v : Int} {l : zLc} {s : List zV} {m : zMm} {K : Nat → zLc → List zV → zMm → Prop} {Q : Option zV → zMm → Prop} {r : List zOp} {x : Int} : zrun E ((52, a, b, v) :: r) l (.inl x :: s) m K Q = (zrun E r l s m K Q) := propext Iff.rfl
theorem zr_55 {E : Nat → List zV → zMm → Option zV → zMm → Prop} {a b : Nat} {v : Int} {l : zLc} {s : List zV} {m : zMm} {K : Nat → zLc → List zV → zMm → Prop} {Q : Option zV → zMm → Prop} {r : List zOp} {x : Int} {y : Int} : zrun E ((55, a, b, v) :: r) l (.inl y :: .inl x :: s) m K Q = ((x = y → K a l s m) ∧ (¬ (x = y) → K b l s m)) := propext Iff.rfl
theorem zr_56 {E : Nat → List zV → zMm → Option zV → zMm → Prop} {a b : Nat} {v : Int} {l : zLc} {s : List zV} {m : zMm} {K : Nat → zLc → List zV → zMm → Prop} {Q : Option zV → zMm → Prop} {r : List zOp} {x : Int} {y : Int} : zrun E ((56, a, b, v) :: r) l (.inl y :: .inl x :: s) m K Q = ((¬ x = y → K a l s m) ∧ (¬ (¬ x = y) → K b l s m)) := propext Iff.rfl
theorem zr_57 {E : Nat → List zV → zMm → Option zV → zMm → Prop} {a b : Nat} {v : Int} {l : zLc} {s : List zV} {m : zMm} {K : Nat → zLc → List zV → zMm → Prop} {Q : Option zV → zMm → Prop} {r : List zOp} {x : Int} {y : Int} : zrun E ((57, a, b, v) :: r) l (.inl y :: .inl x :: s) m K Q = ((x < y → K a l s m) ∧ (¬ (x < y) → K b l s m)) := propext Iff.rfl
theorem zr_58 {E : Nat → List zV → zMm → Option zV → zMm → Prop} {a b : Nat} {v : Int} {l : zLc} {s : List zV} {m : zMm} {K : Nat → zLc → List zV → zMm → Prop} {Q : Option zV → zMm → Prop} {r : List zOp} {x : Int} {y : Int} : zrun E ((58, a, b, v) :: r) l (.inl y :: .inl x :: s) m K Q = ((y ≤ x → K a l s m) ∧ (¬ (y ≤ x) → K b l s m)) := propext Iff.rfl
theorem zr_59 {E : Nat → List zV → zMm → Option zV → zMm → Prop} {a b : Nat} {v : Int} {l : zLc} {s : List zV} {m : zMm} {K : Nat → zLc → List zV → zMm → Prop} {Q : Option zV → zMm → Prop} {r : List zOp} {x : Int} {y : Int} : zrun E ((59, a, b, v) :: r) l (.inl y :: .inl x :: s) m K Q = ((y < x → K a l s m) ∧ (¬ (y < x) → K b l s m)) := propext Iff.rfl
theorem zr_60 {E : Nat → List zV → zMm → Option zV → zMm → Prop} {a b : Nat} {v : Int} {l : zLc} {s : List zV} {m : zMm} {K : Nat → zLc → List zV → zMm → Prop} {Q : Option zV → zMm → Prop} {r : List zOp} {x : Int} {y : Int} : zrun E ((60, a, b, v) :: r) l (.inl y :: .inl x :: s) m K Q = ((x ≤ y → K a l s m) ∧ (¬ (x ≤ y) → K b l s m)) := propext Iff.rfl
theorem zr_61 {E : Nat → List zV → zMm → Option zV → zMm → Prop} {a b : Nat} {v : Int} {l : zLc} {s : List zV} {m : zMm} {K : Nat → zLc → List zV → zMm → Prop} {Q : Option zV → zMm → Prop} {r : List zOp} {x : Int} : zrun E ((61, a, b, v) :: r) l (.inl x :: s) m K Q = ((x = 0 → K a l s m) ∧ (¬ (x = 0) → K b l s m)) := propext Iff.rfl
theorem zr_62 {E : Nat → List zV → zMm → Option zV → zMm → Prop} {a b : Nat} {v : Int} {l : zLc} {s : List zV} {m : zMm} {K : Nat → zLc → List zV → zMm → Prop} {Q : Option zV → zMm → Prop} {r : List zOp} {x : Int} : zrun E ((62, a, b, v) :: r) l (.inl x :: s) m K Q = ((¬ x = 0 → K a l s m) ∧ (¬ (¬ x = 0) → K b l s m)) := propext Iff.rfl
theorem zr_63 {E : Nat → List zV → zMm → Option zV → zMm → Prop} {a b : Nat} {v : Int} {l : zLc} {s : List zV} {m : zMm} {K : Nat → zLc → List zV → zMm → Prop} {Q : Option zV → zMm → Prop} {r : List zOp} {x : Int} : zrun E ((63, a, b, v) :: r) l (.inl x :: s) m K Q = ((x < 0 → K a l s m) ∧ (¬ (x < 0) → K b l s m)) := propext Iff.rfl
theorem zr_64 {E : Nat → List zV → zMm → Option zV → zMm → Prop} {a b : Nat} {v : Int} {l : zLc} {s : List zV} {m : zMm} {K : Nat → zLc → List zV → zMm → Prop} {Q : Option zV → zMm → Prop} {r : List zOp} {x : Int} : zrun E ((64, a, b, v) :: r) l (.inl x :: s) m K Q = ((0 ≤ x → K a l s m) ∧ (¬ (0 ≤ x) → K b l s m)) := propext Iff.rfl
theorem zr_65 {E : Nat → List zV → zMm → Option zV → zMm → Prop} {a b : Nat} {v : Int} {l : zLc} {s : List zV} {m : zMm} {K : Nat → zLc → List zV → zMm → Prop} {Q : Option zV → zMm → Prop} {r : List zOp} {x : Int} : zrun E ((65, a, b, v) :: r) l (.inl x :: s) m K Q = ((0 < x → K a l s m) ∧ (¬ (0 < x) → K b l s m)) := propext Iff.rfl
theorem zr_66 {E : Nat → List zV → zMm → Option zV → zMm → Prop} {a b : Nat} {v : Int} {l : zLc} {s : List zV} {m : zMm} {K : Nat → zLc → List zV → zMm → Prop} {Q : Option zV → zMm → Prop} {r : List zOp} {x : Int} : zrun E ((66, a, b, v) :: r) l (.inl x :: s) m K Q = ((x ≤ 0 → K a l s m) ∧ (¬ (x ≤ 0) → K b l s m)) := propext Iff.rfl
theorem zr_67 {E : Nat → List zV → zMm → Option zV → zMm → Prop} {a b : Nat} {v : Int} {l : zLc} {s : List zV} {m : zMm} {K : Nat → zLc → List zV → zMm → Prop} {Q : Option zV → zMm → Prop} {r : List zOp} {x : Int} : zrun E ((67, a, b, v) :: r) l (.inl x :: s) m K Q = (K (zswt a x) l s m) := propext Iff.rfl
theorem zr_70 {E : Nat → List zV → zMm → Option zV → zMm → Prop} {a b : Nat} {v : Int} {l : zLc} {m : zMm} {K : Nat → zLc → List zV → zMm → Prop} {Q : Option zV → zMm → Prop} {r : List zOp} {x : Int} : zrun E ((70, a, b, v) :: r) l ([.inl x]) m K Q = (Q (some (.inl x)) m) := propext Iff.rfl
theorem zr_71 {E : Nat → List zV → zMm → Option zV → zMm → Prop} {a b : Nat} {v : Int} {l : zLc} {m : zMm} {K : Nat → zLc → List zV → zMm → Prop} {Q : Option zV → zMm → Prop} {r : List zOp} {x : Int} : zrun E ((71, a, b, v) :: r) l ([.inr (.inl x)]) m K Q = (Q (some (.inr (.inl x))) m) := propext Iff.rfl
theorem zr_72 {E : Nat → List zV → zMm → Option zV → zMm → Prop} {a b : Nat} {v : Int} {l : zLc} {m : zMm} {K : Nat → zLc → List zV → zMm → Prop} {Q : Option zV → zMm → Prop} {r : List zOp} : zrun E ((72, a, b, v) :: r) l ([]) m K Q = (Q none m) := propext Iff.rfl
theorem zr_74 {E : Nat → List zV → zMm → Option zV → zMm → Prop} {a b : Nat} {v : Int} {l : zLc} {s : List zV} {m : zMm} {K : Nat → zLc → List zV → zMm → Prop} {Q : Option zV → zMm → Prop} {r : List zOp} {c : Int} {i : Int} : zrun E ((74, a, b, v) :: r) l (.inl i :: .inr (.inr c) :: s) m K Q = (c = -2 ∧ (0 ≤ i ∧ i < m (-2) (-1)) ∧ zrun E r l (.inl (m (-2) i) :: s) m K Q) := propext Iff.rfl
theorem zr_75 {E : Nat → List zV → zMm → Option zV → zMm → Prop} {a b : Nat} {v : Int} {l : zLc} {s : List zV} {m : zMm} {K : Nat → zLc → List zV → zMm → Prop} {Q : Option zV → zMm → Prop} {r : List zOp} {c : Int} : zrun E ((75, a, b, v) :: r) l (.inr (.inr c) :: s) m K Q = (c = -2 ∧ zrun E r l (.inl (m (-2) (-1)) :: s) m K Q) := propext Iff.rfl
theorem zr_76 {E : Nat → List zV → zMm → Option zV → zMm → Prop} {a b : Nat} {v : Int} {l : zLc} {m : zMm} {K : Nat → zLc → List zV → zMm → Prop} {Q : Option zV → zMm → Prop} {r : List zOp} {x : Int} : zrun E ((76, a, b, v) :: r) l ([.inl x]) m K Q = ((x = 0 ∨ x = 1) ∧ Q (some (.inl x)) m) := propext Iff.rfl
theorem zr_1 {E : Nat → List zV → zMm → Option zV → zMm → Prop} {a b : Nat} {v : Int} {l : zLc} {s : List zV} {m : zMm} {K : Nat → zLc → List zV → zMm → Prop} {Q : Option zV → zMm → Prop} {r : List zOp} : zrun E ((1, a, b, v) :: r) l s m K Q = ((match zlg l a with | some (.inl x) => zrun E r l (.inl x :: s) m K Q | _ => False)) := propext Iff.rfl
theorem zr_2 {E : Nat → List zV → zMm → Option zV → zMm → Prop} {a b : Nat} {v : Int} {l : zLc} {s : List zV} {m : zMm} {K : Nat → zLc → List zV → zMm → Prop} {Q : Option zV → zMm → Prop} {r : List zOp} : zrun E ((2, a, b, v) :: r) l s m K Q = ((match zlg l a with | some (.inr (.inl x)) => zrun E r l (.inr (.inl x) :: s) m K Q | _ => False)) := propext Iff.rfl
theorem zr_3 {E : Nat → List zV → zMm → Option zV → zMm → Prop} {a b : Nat} {v : Int} {l : zLc} {s : List zV} {m : zMm} {K : Nat → zLc → List zV → zMm → Prop} {Q : Option zV → zMm → Prop} {r : List zOp} : zrun E ((3, a, b, v) :: r) l s m K Q = ((match zlg l a with | some (.inr (.inr x)) => zrun E r l (.inr (.inr x) :: s) m K Q | _ => False)) := propext Iff.rfl
theorem zr_53 {E : Nat → List zV → zMm → Option zV → zMm → Prop} {a b : Nat} {v : Int} {l : zLc} {s : List zV} {m : zMm} {K : Nat → zLc → List zV → zMm → Prop} {Q : Option zV → zMm → Prop} {r : List zOp} : zrun E ((53, a, b, v) :: r) l s m K Q = ((match zlg l a with | some (.inl x) => zrun E r (zls l a (some (.inl (zw (x + v))))) s m K Q | _ => False)) := propext Iff.rfl
theorem zlg_0 {a : Option zV} {t : zLc} : zlg (a :: t) 0 = a := rfl
theorem zlg_s {a : Option zV} {t : zLc} {n : Nat} : zlg (a :: t) (n + 1) = zlg t n := rfl
theorem zls_0 {a v : Option zV} {t : zLc} : zls (a :: t) 0 v = v :: t := rfl
theorem zls_1 {a v : Option zV} {t : zLc} : zls (a :: t) 1 v = zkl a :: zls t 0 v := rfl
theorem zls_s {a v : Option zV} {t : zLc} {n : Nat} : zls (a :: t) (n + 2) v = a :: zls t (n + 1) v := rfl
theorem zlL_0 {a b v : Option zV} {t : zLc} : zlL (a :: b :: t) 0 v = v :: none :: t := rfl
theorem zlL_1 {a v : Option zV} {t : zLc} : zlL (a :: t) 1 v = zkl a :: zlL t 0 v := rfl
theorem zlL_s {a v : Option zV} {t : zLc} {n : Nat} : zlL (a :: t) (n + 2) v = a :: zlL t (n + 1) v := rfl
theorem zkl_i {x : Int} : zkl (some (.inl x)) = some (.inl x) := rfl
theorem zkl_r {x : Int} : zkl (some (.inr (.inr x))) = some (.inr (.inr x)) := rfl
theorem zkl_l {x : Int} : zkl (some (.inr (.inl x))) = none := rfl
theorem zkl_n : zkl none = none := rfl
theorem zrc_1 {c v : Int} {t : List zV} : zrc 1 (.inr (.inr c) :: t) v = (v < 0 ∨ zkd c = 100 + v) := rfl
theorem zrc_s {a : zV} {v : Int} {n : Nat} {t : List zV} : zrc (n + 2) (a :: t) v = zrc (n + 1) t v := rfl
theorem zr_7 {E : Nat → List zV → zMm → Option zV → zMm → Prop} {a b : Nat} {v : Int} {l : zLc} {s : List zV} {m : zMm} {K : Nat → zLc → List zV → zMm → Prop} {Q : Option zV → zMm → Prop} {r : List zOp} : zrun E ((7, a, b, v) :: r) l s m K Q = (zrun E r l (.inl v :: s) m K Q) := propext Iff.rfl
theorem zr_8 {E : Nat → List zV → zMm → Option zV → zMm → Prop} {a b : Nat} {v : Int} {l : zLc} {s : List zV} {m : zMm} {K : Nat → zLc → List zV → zMm → Prop} {Q : Option zV → zMm → Prop} {r : List zOp} : zrun E ((8, a, b, v) :: r) l s m K Q = (zrun E r l (.inr (.inl v) :: s) m K Q) := propext Iff.rfl
theorem zr_9 {E : Nat → List zV → zMm → Option zV → zMm → Prop} {a b : Nat} {v : Int} {l : zLc} {s : List zV} {m : zMm} {K : Nat → zLc → List zV → zMm → Prop} {Q : Option zV → zMm → Prop} {r : List zOp} : zrun E ((9, a, b, v) :: r) l s m K Q = (zrun E r l (.inr (.inr (-10 - a)) :: s) m K Q) := propext Iff.rfl
theorem zr_54 {E : Nat → List zV → zMm → Option zV → zMm → Prop} {a b : Nat} {v : Int} {l : zLc} {s : List zV} {m : zMm} {K : Nat → zLc → List zV → zMm → Prop} {Q : Option zV → zMm → Prop} {r : List zOp} : zrun E ((54, a, b, v) :: r) l s m K Q = (K a l s m) := propext Iff.rfl
theorem zr_73 {E : Nat → List zV → zMm → Option zV → zMm → Prop} {a b : Nat} {v : Int} {l : zLc} {s : List zV} {m : zMm} {K : Nat → zLc → List zV → zMm → Prop} {Q : Option zV → zMm → Prop} {r : List zOp} : zrun E ((73, a, b, v) :: r) l s m K Q = (K a l s m) := propext Iff.rfl
theorem zr_68 {E : Nat → List zV → zMm → Option zV → zMm → Prop} {a b : Nat} {v : Int} {l : zLc} {s : List zV} {m : zMm} {K : Nat → zLc → List zV → zMm → Prop} {Q : Option zV → zMm → Prop} {r : List zOp} : zrun E ((68, a, b, v) :: r) l s m K Q = (zrc b s v ∧ zcl E a b s m (fun s m => zrun E r l s m K Q)) := propext Iff.rfl
theorem zr_69 {E : Nat → List zV → zMm → Option zV → zMm → Prop} {a b : Nat} {v : Int} {l : zLc} {s : List zV} {m : zMm} {K : Nat → zLc → List zV → zMm → Prop} {Q : Option zV → zMm → Prop} {r : List zOp} : zrun E ((69, a, b, v) :: r) l s m K Q = (zcl E a b s m (fun s m => zrun E r l s m K Q)) := propext Iff.rfl
theorem zr_78 {E : Nat → List zV → zMm → Option zV → zMm → Prop} {a b : Nat} {v : Int} {l : zLc} {s : List zV} {m : zMm} {K : Nat → zLc → List zV → zMm → Prop} {Q : Option zV → zMm → Prop} {r : List zOp} : zrun E ((78, a, b, v) :: r) l s m K Q = (zcl E a b s m (fun s m => zrun E r l s m K Q)) := propext Iff.rfl
/-- an op has a single way out -/
def zPt (E : Nat → List zV → zMm → Option zV → zMm → Prop) (o : zOp) (l : zLc) (s : List zV) (m : zMm) (K : Nat → zLc → List zV → zMm → Prop) (Q : Option zV → zMm → Prop) (k : zLc → List zV → zMm → Prop) : Prop :=
  (∃ b l' s' m', K b l' s' m' ∧ ∀ K' Q' k', K' b l' s' m' → zst E o l s m K' Q' k') ∨ (∃ r m', Q r m' ∧ ∀ (K' : Nat → zLc → List zV → zMm → Prop) (Q' : Option zV → zMm → Prop) (k' : zLc → List zV → zMm → Prop), Q' r m' → zst E o l s m K' Q' k') ∨ (∃ l' s' m', k l' s' m' ∧ ∀ (K' : Nat → zLc → List zV → zMm → Prop) (Q' : Option zV → zMm → Prop) (k' : zLc → List zV → zMm → Prop), k' l' s' m' → zst E o l s m K' Q' k')
theorem zpt_1 {E : Nat → List zV → zMm → Option zV → zMm → Prop} {a b : Nat} {v : Int} {l : zLc} {s : List zV} {m : zMm} {K : Nat → zLc → List zV → zMm → Prop} {Q : Option zV → zMm → Prop} {k : zLc → List zV → zMm → Prop} (h : zst E (1, a, b, v) l s m K Q k) : zPt E (1, a, b, v) l s m K Q k := by
  rw [zst_1] at h
  split at h
  · rename_i hx
    exact Or.inr (Or.inr ⟨_, _, _, h, fun K' Q' k' h' => by rw [zst_1, hx]; exact h'⟩)
  · exact h.elim
theorem zpt_2 {E : Nat → List zV → zMm → Option zV → zMm → Prop} {a b : Nat} {v : Int} {l : zLc} {s : List zV} {m : zMm} {K : Nat → zLc → List zV → zMm → Prop} {Q : Option zV → zMm → Prop} {k : zLc → List zV → zMm → Prop} (h : zst E (2, a, b, v) l s m K Q k) : zPt E (2, a, b, v) l s m K Q k := by
  rw [zst_2] at h
  split at h
  · rename_i hx
    exact Or.inr (Or.inr ⟨_, _, _, h, fun K' Q' k' h' => by rw [zst_2, hx]; exact h'⟩)
  · exact h.elim
theorem zpt_3 {E : Nat → List zV → zMm → Option zV → zMm → Prop} {a b : Nat} {v : Int} {l : zLc} {s : List zV} {m : zMm} {K : Nat → zLc → List zV → zMm → Prop} {Q : Option zV → zMm → Prop} {k : zLc → List zV → zMm → Prop} (h : zst E (3, a, b, v) l s m K Q k) : zPt E (3, a, b, v) l s m K Q k := by
  rw [zst_3] at h
  split at h
  · rename_i hx
    exact Or.inr (Or.inr ⟨_, _, _, h, fun K' Q' k' h' => by rw [zst_3, hx]; exact h'⟩)
  · exact h.elim
theorem zpt_4 {E : Nat → List zV → zMm → Option zV → zMm → Prop} {a b : Nat} {v : Int} {l : zLc} {s : List zV} {m : zMm} {K : Nat → zLc → List zV → zMm → Prop} {Q : Option zV → zMm → Prop} {k : zLc → List zV → zMm → Prop} (h : zst E (4, a, b, v) l s m K Q k) : zPt E (4, a, b, v) l s m K Q k := by
  rw [zst_4] at h
  split at h
  · exact Or.inr (Or.inr ⟨_, _, _, h, fun _ _ _ h' => h'⟩)
  · exact h.elim
theorem zpt_5 {E : Nat → List zV → zMm → Option zV → zMm → Prop} {a b : Nat} {v : Int} {l : zLc} {s : List zV} {m : zMm} {K : Nat → zLc → List zV → zMm → Prop} {Q : Option zV → zMm → Prop} {k : zLc → List zV → zMm → Prop} (h : zst E (5, a, b, v) l s m K Q k) : zPt E (5, a, b, v) l s m K Q k := by
  rw [zst_5] at h
  split at h
  · exact Or.inr (Or.inr ⟨_, _, _, h, fun _ _ _ h' => h'⟩)
  · exact h.elim
theorem zpt_6 {E : Nat → List zV → zMm → Option zV → zMm → Prop} {a b : Nat} {v : Int} {l : zLc} {s : List zV} {m : zMm} {K : Nat → zLc → List zV → zMm → Prop} {Q : Option zV → zMm → Prop} {k : zLc → List zV → zMm → Prop} (h : zst E (6, a, b, v) l s m K Q k) : zPt E (6, a, b, v) l s m K Q k := by
  rw [zst_6] at h
  split at h
  · exact Or.inr (Or.inr ⟨_, _, _, h, fun _ _ _ h' => h'⟩)
  · exact h.elim
theorem zpt_7 {E : Nat → List zV → zMm → Option zV → zMm → Prop} {a b : Nat} {v : Int} {l : zLc} {s : List zV} {m : zMm} {K : Nat → zLc → List zV → zMm → Prop} {Q : Option zV → zMm → Prop} {k : zLc → List zV → zMm → Prop} (h : zst E (7, a, b, v) l s m K Q k) : zPt E (7, a, b, v) l s m K Q k := by
  exact Or.inr (Or.inr ⟨_, _, _, h, fun _ _ _ h' => h'⟩)
theorem zpt_8 {E : Nat → List zV → zMm → Option zV → zMm → Prop} {a b : Nat} {v : Int} {l : zLc} {s : List zV} {m : zMm} {K : Nat → zLc → List zV → zMm → Prop} {Q : Option zV → zMm → Prop} {k : zLc → List zV → zMm → Prop} (h : zst E (8, a, b, v) l s m K Q k) : zPt E (8, a, b, v) l s m K Q k := by
  exact Or.inr (Or.inr ⟨_, _, _, h, fun _ _ _ h' => h'⟩)
theorem zpt_9 {E : Nat → List zV → zMm → Option zV → zMm → Prop} {a b : Nat} {v : Int} {l : zLc} {s : List zV} {m : zMm} {K : Nat → zLc → List zV → zMm → Prop} {Q : Option zV → zMm → Prop} {k : zLc → List zV → zMm → Prop} (h : zst E (9, a, b, v) l s m K Q k) : zPt E (9, a, b, v) l s m K Q k := by
  exact Or.inr (Or.inr ⟨_, _, _, h, fun _ _ _ h' => h'⟩)
theorem zpt_10 {E : Nat → List zV → zMm → Option zV → zMm → Prop} {a b : Nat} {v : Int} {l : zLc} {s : List zV} {m : zMm} {K : Nat → zLc → List zV → zMm → Prop} {Q : Option zV → zMm → Prop} {k : zLc → List zV → zMm → Prop} (h : zst E (10, a, b, v) l s m K Q k) : zPt E (10, a, b, v) l s m K Q k := by
  rw [zst_10] at h
  split at h
  · exact Or.inr (Or.inr ⟨_, _, _, h.2, fun _ _ _ h' => ⟨h.1, h'⟩⟩)
  · exact h.elim
theorem zpt_11 {E : Nat → List zV → zMm → Option zV → zMm → Prop} {a b : Nat} {v : Int} {l : zLc} {s : List zV} {m : zMm} {K : Nat → zLc → List zV → zMm → Prop} {Q : Option zV → zMm → Prop} {k : zLc → List zV → zMm → Prop} (h : zst E (11, a, b, v) l s m K Q k) : zPt E (11, a, b, v) l s m K Q k := by
  rw [zst_11] at h
  split at h
  · exact Or.inr (Or.inr ⟨_, _, _, h.2, fun _ _ _ h' => ⟨h.1, h'⟩⟩)
  · exact h.elim
theorem zpt_12 {E : Nat → List zV → zMm → Option zV → zMm → Prop} {a b : Nat} {v : Int} {l : zLc} {s : List zV} {m : zMm} {K : Nat → zLc → List zV → zMm → Prop} {Q : Option zV → zMm → Prop} {k : zLc → List zV → zMm → Prop} (h : zst E (12, a, b, v) l s m K Q k) : zPt E (12, a, b, v) l s m K Q k := by
  rw [zst_12] at h
  split at h
  · exact Or.inr (Or.inr ⟨_, _, _, h.2, fun _ _ _ h' => ⟨h.1, h'⟩⟩)
  · exact h.elim
theorem zpt_13 {E : Nat → List zV → zMm → Option zV → zMm → Prop} {a b : Nat} {v : Int} {l : zLc} {s : List zV} {m : zMm} {K : Nat → zLc → List zV → zMm → Prop} {Q : Option zV → zMm → Prop} {k : zLc → List zV → zMm → Prop} (h : zst E (13, a, b, v) l s m K Q k) : zPt E (13, a, b, v) l s m K Q k := by
  rw [zst_13] at h
  split at h
  · exact Or.inr (Or.inr ⟨_, _, _, h.2, fun _ _ _ h' => ⟨h.1, h'⟩⟩)
  · exact h.elim
theorem zpt_14 {E : Nat → List zV → zMm → Option zV → zMm → Prop} {a b : Nat} {v : Int} {l : zLc} {s : List zV} {m : zMm} {K : Nat → zLc → List zV → zMm → Prop} {Q : Option zV → zMm → Prop} {k : zLc → List zV → zMm → Prop} (h : zst E (14, a, b, v) l s m K Q k) : zPt E (14, a, b, v) l s m K Q k := by
  rw [zst_14] at h
  split at h
  · exact Or.inr (Or.inr ⟨_, _, _, h.2, fun _ _ _ h' => ⟨h.1, h'⟩⟩)
  · exact h.elim
theorem zpt_15 {E : Nat → List zV → zMm → Option zV → zMm → Prop} {a b : Nat} {v : Int} {l : zLc} {s : List zV} {m : zMm} {K : Nat → zLc → List zV → zMm → Prop} {Q : Option zV → zMm → Prop} {k : zLc → List zV → zMm → Prop} (h : zst E (15, a, b, v) l s m K Q k) : zPt E (15, a, b, v) l s m K Q k := by
  rw [zst_15] at h
  split at h
  · exact Or.inr (Or.inr ⟨_, _, _, h.2.2, fun _ _ _ h' => ⟨h.1, h.2.1, h'⟩⟩)
  · exact h.elim
theorem zpt_16 {E : Nat → List zV → zMm → Option zV → zMm → Prop} {a b : Nat} {v : Int} {l : zLc} {s : List zV} {m : zMm} {K : Nat → zLc → List zV → zMm → Prop} {Q : Option zV → zMm → Prop} {k : zLc → List zV → zMm → Prop} (h : zst E (16, a, b, v) l s m K Q k) : zPt E (16, a, b, v) l s m K Q k := by
  rw [zst_16] at h
  split at h
  · exact Or.inr (Or.inr ⟨_, _, _, h.2.2, fun _ _ _ h' => ⟨h.1, h.2.1, h'⟩⟩)
  · exact h.elim
theorem zpt_17 {E : Nat → List zV → zMm → Option zV → zMm → Prop} {a b : Nat} {v : Int} {l : zLc} {s : List zV} {m : zMm} {K : Nat → zLc → List zV → zMm → Prop} {Q : Option zV → zMm → Prop} {k : zLc → List zV → zMm → Prop} (h : zst E (17, a, b, v) l s m K Q k) : zPt E (17, a, b, v) l s m K Q k := by
  rw [zst_17] at h
  split at h
  · exact Or.inr (Or.inr ⟨_, _, _, h.2.2, fun _ _ _ h' => ⟨h.1, h.2.1, h'⟩⟩)
  · exact h.elim
theorem zpt_19 {E : Nat → List zV → zMm → Option zV → zMm → Prop} {a b : Nat} {v : Int} {l : zLc} {s : List zV} {m : zMm} {K : Nat → zLc → List zV → zMm → Prop} {Q : Option zV → zMm → Prop} {k : zLc → List zV → zMm → Prop} (h : zst E (19, a, b, v) l s m K Q k) : zPt E (19, a, b, v) l s m K Q k := by
  rw [zst_19] at h
  split at h
  · exact Or.inr (Or.inr ⟨_, _, _, h.2.2, fun _ _ _ h' => ⟨h.1, h.2.1, h'⟩⟩)
  · exact h.elim
theorem zpt_20 {E : Nat → List zV → zMm → Option zV → zMm → Prop} {a b : Nat} {v : Int} {l : zLc} {s : List zV} {m : zMm} {K : Nat → zLc → List zV → zMm → Prop} {Q : Option zV → zMm → Prop} {k : zLc → List zV → zMm → Prop} (h : zst E (20, a, b, v) l s m K Q k) : zPt E (20, a, b, v) l s m K Q k := by
  rw [zst_20] at h
  split at h
  · exact Or.inr (Or.inr ⟨_, _, _, h.2.2, fun _ _ _ h' => ⟨h.1, h.2.1, h'⟩⟩)
  · exact h.elim
theorem zpt_21 {E : Nat → List zV → zMm → Option zV → zMm → Prop} {a b : Nat} {v : Int} {l : zLc} {s : List zV} {m : zMm} {K : Nat → zLc → List zV → zMm → Prop} {Q : Option zV → zMm → Prop} {k : zLc → List zV → zMm → Prop} (h : zst E (21, a, b, v) l s m K Q k) : zPt E (21, a, b, v) l s m K Q k := by
  rw [zst_21] at h
  split at h
  · exact Or.inr (Or.inr ⟨_, _, _, h.2.2, fun _ _ _ h' => ⟨h.1, h.2.1, h'⟩⟩)
  · exact h.elim
theorem zpt_22 {E : Nat → List zV → zMm → Option zV → zMm → Prop} {a b : Nat} {v : Int} {l : zLc} {s : List zV} {m : zMm} {K : Nat → zLc → List zV → zMm → Prop} {Q : Option zV → zMm → Prop} {k : zLc → List zV → zMm → Prop} (h : zst E (22, a, b, v) l s m K Q k) : zPt E (22, a, b, v) l s m K Q k := by
  rw [zst_22] at h
  split at h
  · obtain ⟨h0, ⟨h1, h2⟩ | ⟨h1, h2, h3⟩⟩ := h
    · exact Or.inr (Or.inr ⟨_, _, _, h2, fun _ _ _ h' => ⟨h0, Or.inl ⟨h1, h'⟩⟩⟩)
    · exact Or.inr (Or.inr ⟨_, _, _, h3, fun _ _ _ h' => ⟨h0, Or.inr ⟨h1, h2, h'⟩⟩⟩)
  · exact h.elim
theorem zpt_24 {E : Nat → List zV → zMm → Option zV → zMm → Prop} {a b : Nat} {v : Int} {l : zLc} {s : List zV} {m : zMm} {K : Nat → zLc → List zV → zMm → Prop} {Q : Option zV → zMm → Prop} {k : zLc → List zV → zMm → Prop} (h : zst E (24, a, b, v) l s m K Q k) : zPt E (24, a, b, v) l s m K Q k := by
  rw [zst_24] at h
  split at h
  · exact Or.inr (Or.inr ⟨_, _, _, h.2.2, fun _ _ _ h' => ⟨h.1, h.2.1, h'⟩⟩)
  · exact h.elim
theorem zpt_25 {E : Nat → List zV → zMm → Option zV → zMm → Prop} {a b : Nat} {v : Int} {l : zLc} {s : List zV} {m : zMm} {K : Nat → zLc → List zV → zMm → Prop} {Q : Option zV → zMm → Prop} {k : zLc → List zV → zMm → Prop} (h : zst E (25, a, b, v) l s m K Q k) : zPt E (25, a, b, v) l s m K Q k := by
  rw [zst_25] at h
  split at h
  · exact Or.inr (Or.inr ⟨_, _, _, h.2, fun _ _ _ h' => ⟨h.1, h'⟩⟩)
  · exact h.elim
theorem zpt_26 {E : Nat → List zV → zMm → Option zV → zMm → Prop} {a b : Nat} {v : Int} {l : zLc} {s : List zV} {m : zMm} {K : Nat → zLc → List zV → zMm → Prop} {Q : Option zV → zMm → Prop} {k : zLc → List zV → zMm → Prop} (h : zst E (26, a, b, v) l s m K Q k) : zPt E (26, a, b, v) l s m K Q k := by
  rw [zst_26] at h
  split at h
  · exact Or.inr (Or.inr ⟨_, _, _, h, fun _ _ _ h' => h'⟩)
  · exact h.elim
theorem zpt_27 {E : Nat → List zV → zMm → Option zV → zMm → Prop} {a b : Nat} {v : Int} {l : zLc} {s : List zV} {m : zMm} {K : Nat → zLc → List zV → zMm → Prop} {Q : Option zV → zMm → Prop} {k : zLc → List zV → zMm → Prop} (h : zst E (27, a, b, v) l s m K Q k) : zPt E (27, a, b, v) l s m K Q k := by
  rw [zst_27] at h
  split at h
  · exact Or.inr (Or.inr ⟨_, _, _, h, fun _ _ _ h' => h'⟩)
  · exact h.elim
theorem zpt_28 {E : Nat → List zV → zMm → Option zV → zMm → Prop} {a b : Nat} {v : Int} {l : zLc} {s : List zV} {m : zMm} {K : Nat → zLc → List zV → zMm → Prop} {Q : Option zV → zMm → Prop} {k : zLc → List zV → zMm → Prop} (h : zst E (28, a, b, v) l s m K Q k) : zPt E (28, a, b, v) l s m K Q k := by
  rw [zst_28] at h
  split at h
  · exact Or.inr (Or.inr ⟨_, _, _, h, fun _ _ _ h' => h'⟩)
  · exact h.elim
theorem zpt_29 {E : Nat → List zV → zMm → Option zV → zMm → Prop} {a b : Nat} {v : Int} {l : zLc} {s : List zV} {m : zMm} {K : Nat → zLc → List zV → zMm → Prop} {Q : Option zV → zMm → Prop} {k : zLc → List zV → zMm → Prop} (h : zst E (29, a, b, v) l s m K Q k) : zPt E (29, a, b, v) l s m K Q k := by
  rw [zst_29] at h
  split at h
  · exact Or.inr (Or.inr ⟨_, _, _, h.2, fun _ _ _ h' => ⟨h.1, h'⟩⟩)
  · exact h.elim
theorem zpt_30 {E : Nat → List zV → zMm → Option zV → zMm → Prop} {a b : Nat} {v : Int} {l : zLc} {s : List zV} {m : zMm} {K : Nat → zLc → List zV → zMm → Prop} {Q : Option zV → zMm → Prop} {k : zLc → List zV → zMm → Prop} (h : zst E (30, a, b, v) l s m K Q k) : zPt E (30, a, b, v) l s m K Q k := by
  rw [zst_30] at h
  split at h
  · exact Or.inr (Or.inr ⟨_, _, _, h.2, fun _ _ _ h' => ⟨h.1, h'⟩⟩)
  · exact h.elim
theorem zpt_31 {E : Nat → List zV → zMm → Option zV → zMm → Prop} {a b : Nat} {v : Int} {l : zLc} {s : List zV} {m : zMm} {K : Nat → zLc → List zV → zMm → Prop} {Q : Option zV → zMm → Prop} {k : zLc → List zV → zMm → Prop} (h : zst E (31, a, b, v) l s m K Q k) : zPt E (31, a, b, v) l s m K Q k := by
  rw [zst_31] at h
  split at h
  · exact Or.inr (Or.inr ⟨_, _, _, h, fun _ _ _ h' => h'⟩)
  · exact h.elim
theorem zpt_32 {E : Nat → List zV → zMm → Option zV → zMm → Prop} {a b : Nat} {v : Int} {l : zLc} {s : List zV} {m : zMm} {K : Nat → zLc → List zV → zMm → Prop} {Q : Option zV → zMm → Prop} {k : zLc → List zV → zMm → Prop} (h : zst E (32, a, b, v) l s m K Q k) : zPt E (32, a, b, v) l s m K Q k := by
  rw [zst_32] at h
  split at h
  · exact Or.inr (Or.inr ⟨_, _, _, h, fun _ _ _ h' => h'⟩)
  · exact h.elim
theorem zpt_33 {E : Nat → List zV → zMm → Option zV → zMm → Prop} {a b : Nat} {v : Int} {l : zLc} {s : List zV} {m : zMm} {K : Nat → zLc → List zV → zMm → Prop} {Q : Option zV → zMm → Prop} {k : zLc → List zV → zMm → Prop} (h : zst E (33, a, b, v) l s m K Q k) : zPt E (33, a, b, v) l s m K Q k := by
  rw [zst_33] at h
  split at h
  · exact Or.inr (Or.inr ⟨_, _, _, h, fun _ _ _ h' => h'⟩)
  · exact h.elim
theorem zpt_34 {E : Nat → List zV → zMm → Option zV → zMm → Prop} {a b : Nat} {v : Int} {l : zLc} {s : List zV} {m : zMm} {K : Nat → zLc → List zV → zMm → Prop} {Q : Option zV → zMm → Prop} {k : zLc → List zV → zMm → Prop} (h : zst E (34, a, b, v) l s m K Q k) : zPt E (34, a, b, v) l s m K Q k := by
  rw [zst_34] at h
  split at h
  · exact Or.inr (Or.inr ⟨_, _, _, h, fun _ _ _ h' => h'⟩)
  · exact h.elim
theorem zpt_35 {E : Nat → List zV → zMm → Option zV → zMm → Prop} {a b : Nat} {v : Int} {l : zLc} {s : List zV} {m : zMm} {K : Nat → zLc → List zV → zMm → Prop} {Q : Option zV → zMm → Prop} {k : zLc → List zV → zMm → Prop} (h : zst E (35, a, b, v) l s m K Q k) : zPt E (35, a, b, v) l s m K Q k := by
  rw [zst_35] at h
  split at h
  · exact Or.inr (Or.inr ⟨_, _, _, h, fun _ _ _ h' => h'⟩)
  · exact h.elim
theorem zpt_36 {E : Nat → List zV → zMm → Option zV → zMm → Prop} {a b : Nat} {v : Int} {l : zLc} {s : List zV} {m : zMm} {K : Nat → zLc → List zV → zMm → Prop} {Q : Option zV → zMm → Prop} {k : zLc → List zV → zMm → Prop} (h : zst E (36, a, b, v) l s m K Q k) : zPt E (36, a, b, v) l s m K Q k := by
  rw [zst_36] at h
  split at h
  · exact Or.inr (Or.inr ⟨_, _, _, h, fun _ _ _ h' => h'⟩)
  · exact h.elim
theorem zpt_37 {E : Nat → List zV → zMm → Option zV → zMm → Prop} {a b : Nat} {v : Int} {l : zLc} {s : List zV} {m : zMm} {K : Nat → zLc → List zV → zMm → Prop} {Q : Option zV → zMm → Prop} {k : zLc → List zV → zMm → Prop} (h : zst E (37, a, b, v) l s m K Q k) : zPt E (37, a, b, v) l s m K Q k := by
  rw [zst_37] at h
  split at h
  · exact Or.inr (Or.inr ⟨_, _, _, h, fun _ _ _ h' => h'⟩)
  · exact h.elim
theorem zpt_38 {E : Nat → List zV → zMm → Option zV → zMm → Prop} {a b : Nat} {v : Int} {l : zLc} {s : List zV} {m : zMm} {K : Nat → zLc → List zV → zMm → Prop} {Q : Option zV → zMm → Prop} {k : zLc → List zV → zMm → Prop} (h : zst E (38, a, b, v) l s m K Q k) : zPt E (38, a, b, v) l s m K Q k := by
  rw [zst_38] at h
  split at h
  · exact Or.inr (Or.inr ⟨_, _, _, h, fun _ _ _ h' => h'⟩)
  · exact h.elim
theorem zpt_39 {E : Nat → List zV → zMm → Option zV → zMm → Prop} {a b : Nat} {v : Int} {l : zLc} {s : List zV} {m : zMm} {K : Nat → zLc → List zV → zMm → Prop} {Q : Option zV → zMm → Prop} {k : zLc → List zV → zMm → Prop} (h : zst E (39, a, b, v) l s m K Q k) : zPt E (39, a, b, v) l s m K Q k := by
  rw [zst_39] at h
  split at h
  · exact Or.inr (Or.inr ⟨_, _, _, h, fun _ _ _ h' => h'⟩)
  · exact h.elim
theorem zpt_40 {E : Nat → List zV → zMm → Option zV → zMm → Prop} {a b : Nat} {v : Int} {l : zLc} {s : List zV} {m : zMm} {K : Nat → zLc → List zV → zMm → Prop} {Q : Option zV → zMm → Prop} {k : zLc → List zV → zMm → Prop} (h : zst E (40, a, b, v) l s m K Q k) : zPt E (40, a, b, v) l s m K Q k := by
  rw [zst_40] at h
  split at h
  · exact Or.inr (Or.inr ⟨_, _, _, h.2, fun _ _ _ h' => ⟨h.1, h'⟩⟩)
  · exact h.elim
theorem zpt_41 {E : Nat → List zV → zMm → Option zV → zMm → Prop} {a b : Nat} {v : Int} {l : zLc} {s : List zV} {m : zMm} {K : Nat → zLc → List zV → zMm → Prop} {Q : Option zV → zMm → Prop} {k : zLc → List zV → zMm → Prop} (h : zst E (41, a, b, v) l s m K Q k) : zPt E (41, a, b, v) l s m K Q k := by
  rw [zst_41] at h
  split at h
  · exact Or.inr (Or.inr ⟨_, _, _, h.2, fun _ _ _ h' => ⟨h.1, h'⟩⟩)
  · exact h.elim
theorem zpt_42 {E : Nat → List zV → zMm → Option zV → zMm → Prop} {a b : Nat} {v : Int} {l : zLc} {s : List zV} {m : zMm} {K : Nat → zLc → List zV → zMm → Prop} {Q : Option zV → zMm → Prop} {k : zLc → List zV → zMm → Prop} (h : zst E (42, a, b, v) l s m K Q k) : zPt E (42, a, b, v) l s m K Q k := by
  rw [zst_42] at h
  split at h
  · exact Or.inr (Or.inr ⟨_, _, _, h, fun _ _ _ h' => h'⟩)
  · exact h.elim
theorem zpt_43 {E : Nat → List zV → zMm → Option zV → zMm → Prop} {a b : Nat} {v : Int} {l : zLc} {s : List zV} {m : zMm} {K : Nat → zLc → List zV → zMm → Prop} {Q : Option zV → zMm → Prop} {k : zLc → List zV → zMm → Prop} (h : zst E (43, a, b, v) l s m K Q k) : zPt E (43, a, b, v) l s m K Q k := by
  rw [zst_43] at h
  split at h
  · exact Or.inr (Or.inr ⟨_, _, _, h, fun _ _ _ h' => h'⟩)
  · exact h.elim
theorem zpt_44 {E : Nat → List zV → zMm → Option zV → zMm → Prop} {a b : Nat} {v : Int} {l : zLc} {s : List zV} {m : zMm} {K : Nat → zLc → List zV → zMm → Prop} {Q : Option zV → zMm → Prop} {k : zLc → List zV → zMm → Prop} (h : zst E (44, a, b, v) l s m K Q k) : zPt E (44, a, b, v) l s m K Q k := by
  rw [zst_44] at h
  split at h
  · exact Or.inr (Or.inr ⟨_, _, _, h, fun _ _ _ h' => h'⟩)
  · exact h.elim
theorem zpt_45 {E : Nat → List zV → zMm → Option zV → zMm → Prop} {a b : Nat} {v : Int} {l : zLc} {s : List zV} {m : zMm} {K : Nat → zLc → List zV → zMm → Prop} {Q : Option zV → zMm → Prop} {k : zLc → List zV → zMm → Prop} (h : zst E (45, a, b, v) l s m K Q k) : zPt E (45, a, b, v) l s m K Q k := by
  rw [zst_45] at h
  split at h
  · exact Or.inr (Or.inr ⟨_, _, _, h, fun _ _ _ h' => h'⟩)
  · exact h.elim
theorem zpt_46 {E : Nat → List zV → zMm → Option zV → zMm → Prop} {a b : Nat} {v : Int} {l : zLc} {s : List zV} {m : zMm} {K : Nat → zLc → List zV → zMm → Prop} {Q : Option zV → zMm → Prop} {k : zLc → List zV → zMm → Prop} (h : zst E (46, a, b, v) l s m K Q k) : zPt E (46, a, b, v) l s m K Q k := by
  rw [zst_46] at h
  split at h
  · exact Or.inr (Or.inr ⟨_, _, _, h, fun _ _ _ h' => h'⟩)
  · exact h.elim
theorem zpt_47 {E : Nat → List zV → zMm → Option zV → zMm → Prop} {a b : Nat} {v : Int} {l : zLc} {s : List zV} {m : zMm} {K : Nat → zLc → List zV → zMm → Prop} {Q : Option zV → zMm → Prop} {k : zLc → List zV → zMm → Prop} (h : zst E (47, a, b, v) l s m K Q k) : zPt E (47, a, b, v) l s m K Q k := by
  rw [zst_47] at h
  split at h
  · exact Or.inr (Or.inr ⟨_, _, _, h, fun _ _ _ h' => h'⟩)
  · exact h.elim
theorem zpt_48 {E : Nat → List zV → zMm → Option zV → zMm → Prop} {a b : Nat} {v : Int} {l : zLc} {s : List zV} {m : zMm} {K : Nat → zLc → List zV → zMm → Prop} {Q : Option zV → zMm → Prop} {k : zLc → List zV → zMm → Prop} (h : zst E (48, a, b, v) l s m K Q k) : zPt E (48, a, b, v) l s m K Q k := by
  rw [zst_48] at h
  split at h
  · exact Or.inr (Or.inr ⟨_, _, _, h, fun _ _ _ h' => h'⟩)
  · exact h.elim
theorem zpt_49 {E : Nat → List zV → zMm → Option zV → zMm → Prop} {a b : Nat} {v : Int} {l : zLc} {s : List zV} {m : zMm} {K : Nat → zLc → List zV → zMm → Prop} {Q : Option zV → zMm → Prop} {k : zLc → List zV → zMm → Prop} (h : zst E (49, a, b, v) l s m K Q k) : zPt E (49, a, b, v) l s m K Q k := by
  rw [zst_49] at h
  split at h
  · exact Or.inr (Or.inr ⟨_, _, _, h, fun _ _ _ h' => h'⟩)
  · exact h.elim
theorem zpt_50 {E : Nat → List zV → zMm → Option zV → zMm → Prop} {a b : Nat} {v : Int} {l : zLc} {s : List zV} {m : zMm} {K : Nat → zLc → List zV → zMm → Prop} {Q : Option zV → zMm → Prop} {k : zLc → List zV → zMm → Prop} (h : zst E (50, a, b, v) l s m K Q k) : zPt E (50, a, b, v) l s m K Q k := by
  rw [zst_50] at h
  split at h
  · exact Or.inr (Or.inr ⟨_, _, _, h, fun _ _ _ h' => h'⟩)
  · exact Or.inr (Or.inr ⟨_, _, _, h, fun _ _ _ h' => h'⟩)
  · exact h.elim
theorem zpt_51 {E : Nat → List zV → zMm → Option zV → zMm → Prop} {a b : Nat} {v : Int} {l : zLc} {s : List zV} {m : zMm} {K : Nat → zLc → List zV → zMm → Prop} {Q : Option zV → zMm → Prop} {k : zLc → List zV → zMm → Prop} (h : zst E (51, a, b, v) l s m K Q k) : zPt E (51, a, b, v) l s m K Q k := by
  rw [zst_51] at h
  split at h
  · exact Or.inr (Or.inr ⟨_, _, _, h, fun _ _ _ h' => h'⟩)
  · exact h.elim
theorem zpt_52 {E : Nat → List zV → zMm → Option zV → zMm → Prop} {a b : Nat} {v : Int} {l : zLc} {s : List zV} {m : zMm} {K : Nat → zLc → List zV → zMm → Prop} {Q : Option zV → zMm → Prop} {k : zLc → List zV → zMm → Prop} (h : zst E (52, a, b, v) l s m K Q k) : zPt E (52, a, b, v) l s m K Q k := by
  rw [zst_52] at h
  split at h
  · exact Or.inr (Or.inr ⟨_, _, _, h, fun _ _ _ h' => h'⟩)
  · exact h.elim
theorem zpt_53 {E : Nat → List zV → zMm → Option zV → zMm → Prop} {a b : Nat} {v : Int} {l : zLc} {s : List zV} {m : zMm} {K : Nat → zLc → List zV → zMm → Prop} {Q : Option zV → zMm → Prop} {k : zLc → List zV → zMm → Prop} (h : zst E (53, a, b, v) l s m K Q k) : zPt E (53, a, b, v) l s m K Q k := by
  rw [zst_53] at h
  split at h
  · rename_i hx
    exact Or.inr (Or.inr ⟨_, _, _, h, fun K' Q' k' h' => by rw [zst_53, hx]; exact h'⟩)
  · exact h.elim
theorem zpt_54 {E : Nat → List zV → zMm → Option zV → zMm → Prop} {a b : Nat} {v : Int} {l : zLc} {s : List zV} {m : zMm} {K : Nat → zLc → List zV → zMm → Prop} {Q : Option zV → zMm → Prop} {k : zLc → List zV → zMm → Prop} (h : zst E (54, a, b, v) l s m K Q k) : zPt E (54, a, b, v) l s m K Q k := by
  exact Or.inl ⟨_, _, _, _, h, fun _ _ _ h' => h'⟩
theorem zpt_55 {E : Nat → List zV → zMm → Option zV → zMm → Prop} {a b : Nat} {v : Int} {l : zLc} {s : List zV} {m : zMm} {K : Nat → zLc → List zV → zMm → Prop} {Q : Option zV → zMm → Prop} {k : zLc → List zV → zMm → Prop} (h : zst E (55, a, b, v) l s m K Q k) : zPt E (55, a, b, v) l s m K Q k := by
  rw [zst_55] at h
  split at h
  · rename_i y x s
    by_cases hc : (x = y)
    · exact Or.inl ⟨_, _, _, _, h.1 hc, fun _ _ _ h' => ⟨fun _ => h', fun n => absurd hc n⟩⟩
    · exact Or.inl ⟨_, _, _, _, h.2 hc, fun _ _ _ h' => ⟨fun n => absurd n hc, fun _ => h'⟩⟩
  · exact h.elim
theorem zpt_56 {E : Nat → List zV → zMm → Option zV → zMm → Prop} {a b : Nat} {v : Int} {l : zLc} {s : List zV} {m : zMm} {K : Nat → zLc → List zV → zMm → Prop} {Q : Option zV → zMm → Prop} {k : zLc → List zV → zMm → Prop} (h : zst E (56, a, b, v) l s m K Q k) : zPt E (56, a, b, v) l s m K Q k := by
  rw [zst_56] at h
  split at h
  · rename_i y x s
    by_cases hc : (¬ x = y)
    · exact Or.inl ⟨_, _, _, _, h.1 hc, fun _ _ _ h' => ⟨fun _ => h', fun n => absurd hc n⟩⟩
    · exact Or.inl ⟨_, _, _, _, h.2 hc, fun _ _ _ h' => ⟨fun n => absurd n hc, fun _ => h'⟩⟩
  · exact h.elim
theorem zpt_57 {E : Nat → List zV → zMm → Option zV → zMm → Prop} {a b : Nat} {v : Int} {l : zLc} {s : List zV} {m : zMm} {K : Nat → zLc → List zV → zMm → Prop} {Q : Option zV → zMm → Prop} {k : zLc → List zV → zMm → Prop} (h : zst E (57, a, b, v) l s m K Q k) : zPt E (57, a, b, v) l s m K Q k := by
  rw [zst_57] at h
  split at h
  · rename_i y x s
    by_cases hc : (x < y)
    · exact Or.inl ⟨_, _, _, _, h.1 hc, fun _ _ _ h' => ⟨fun _ => h', fun n => absurd hc n⟩⟩
    · exact Or.inl ⟨_, _, _, _, h.2 hc, fun _ _ _ h' => ⟨fun n => absurd n hc, fun _ => h'⟩⟩
  · exact h.elim
theorem zpt_58 {E : Nat → List zV → zMm → Option zV → zMm → Prop} {a b : Nat} {v : Int} {l : zLc} {s : List zV} {m : zMm} {K : Nat → zLc → List zV → zMm → Prop} {Q : Option zV → zMm → Prop} {k : zLc → List zV → zMm → Prop} (h : zst E (58, a, b, v) l s m K Q k) : zPt E (58, a, b, v) l s m K Q k := by
  rw [zst_58] at h
  split at h
  · rename_i y x s
    by_cases hc : (y ≤ x)
    · exact Or.inl ⟨_, _, _, _, h.1 hc, fun _ _ _ h' => ⟨fun _ => h', fun n => absurd hc n⟩⟩
    · exact Or.inl ⟨_, _, _, _, h.2 hc, fun _ _ _ h' => ⟨fun n => absurd n hc, fun _ => h'⟩⟩
  · exact h.elim
theorem zpt_59 {E : Nat → List zV → zMm → Option zV → zMm → Prop} {a b : Nat} {v : Int} {l : zLc} {s : List zV} {m : zMm} {K : Nat → zLc → List zV → zMm → Prop} {Q : Option zV → zMm → Prop} {k : zLc → List zV → zMm → Prop} (h : zst E (59, a, b, v) l s m K Q k) : zPt E (59, a, b, v) l s m K Q k := by
  rw [zst_59] at h
  split at h
  · rename_i y x s
    by_cases hc : (y < x)
    · exact Or.inl ⟨_, _, _, _, h.1 hc, fun _ _ _ h' => ⟨fun _ => h', fun n => absurd hc n⟩⟩
    · exact Or.inl ⟨_, _, _, _, h.2 hc, fun _ _ _ h' => ⟨fun n => absurd n hc, fun _ => h'⟩⟩
  · exact h.elim
theorem zpt_60 {E : Nat → List zV → zMm → Option zV → zMm → Prop} {a b : Nat} {v : Int} {l : zLc} {s : List zV} {m : zMm} {K : Nat → zLc → List zV → zMm → Prop} {Q : Option zV → zMm → Prop} {k : zLc → List zV → zMm → Prop} (h : zst E (60, a, b, v) l s m K Q k) : zPt E (60, a, b, v) l s m K Q k := by
  rw [zst_60] at h
  split at h
  · rename_i y x s
    by_cases hc : (x ≤ y)
    · exact Or.inl ⟨_, _, _, _, h.1 hc, fun _ _ _ h' => ⟨fun _ => h', fun n => absurd hc n⟩⟩
    · exact Or.inl ⟨_, _, _, _, h.2 hc, fun _ _ _ h' => ⟨fun n => absurd n hc, fun _ => h'⟩⟩
  · exact h.elim
theorem zpt_61 {E : Nat → List zV → zMm → Option zV → zMm → Prop} {a b : Nat} {v : Int} {l : zLc} {s : List zV} {m : zMm} {K : Nat → zLc → List zV → zMm → Prop} {Q : Option zV → zMm → Prop} {k : zLc → List zV → zMm → Prop} (h : zst E (61, a, b, v) l s m K Q k) : zPt E (61, a, b, v) l s m K Q k := by
  rw [zst_61] at h
  split at h
  · rename_i x s
    by_cases hc : (x = 0)
    · exact Or.inl ⟨_, _, _, _, h.1 hc, fun _ _ _ h' => ⟨fun _ => h', fun n => absurd hc n⟩⟩
    · exact Or.inl ⟨_, _, _, _, h.2 hc, fun _ _ _ h' => ⟨fun n => absurd n hc, fun _ => h'⟩⟩
  · exact h.elim
theorem zpt_62 {E : Nat → List zV → zMm → Option zV → zMm → Prop} {a b : Nat} {v : Int} {l : zLc} {s : List zV} {m : zMm} {K : Nat → zLc → List zV → zMm → Prop} {Q : Option zV → zMm → Prop} {k : zLc → List zV → zMm → Prop} (h : zst E (62, a, b, v) l s m K Q k) : zPt E (62, a, b, v) l s m K Q k := by
  rw [zst_62] at h
  split at h
  · rename_i x s
    by_cases hc : (¬ x = 0)
    · exact Or.inl ⟨_, _, _, _, h.1 hc, fun _ _ _ h' => ⟨fun _ => h', fun n => absurd hc n⟩⟩
    · exact Or.inl ⟨_, _, _, _, h.2 hc, fun _ _ _ h' => ⟨fun n => absurd n hc, fun _ => h'⟩⟩
  · exact h.elim
theorem zpt_63 {E : Nat → List zV → zMm → Option zV → zMm → Prop} {a b : Nat} {v : Int} {l : zLc} {s : List zV} {m : zMm} {K : Nat → zLc → List zV → zMm → Prop} {Q : Option zV → zMm → Prop} {k : zLc → List zV → zMm → Prop} (h : zst E (63, a, b, v) l s m K Q k) : zPt E (63, a, b, v) l s m K Q k := by
  rw [zst_63] at h
  split at h
  · rename_i x s
    by_cases hc : (x < 0)
    · exact Or.inl ⟨_, _, _, _, h.1 hc, fun _ _ _ h' => ⟨fun _ => h', fun n => absurd hc n⟩⟩
    · exact Or.inl ⟨_, _, _, _, h.2 hc, fun _ _ _ h' => ⟨fun n => absurd n hc, fun _ => h'⟩⟩
  · exact h.elim
theorem zpt_64 {E : Nat → List zV → zMm → Option zV → zMm → Prop} {a b : Nat} {v : Int} {l : zLc} {s : List zV} {m : zMm} {K : Nat → zLc → List zV → zMm → Prop} {Q : Option zV → zMm → Prop} {k : zLc → List zV → zMm → Prop} (h : zst E (64, a, b, v) l s m K Q k) : zPt E (64, a, b, v) l s m K Q k := by
  rw [zst_64] at h
  split at h
  · rename_i x s
    by_cases hc : (0 ≤ x)
    · exact Or.inl ⟨_, _, _, _, h.1 hc, fun _ _ _ h' => ⟨fun _ => h', fun n => absurd hc n⟩⟩
    · exact Or.inl ⟨_, _, _, _, h.2 hc, fun _ _ _ h' => ⟨fun n => absurd n hc, fun _ => h'⟩⟩
  · exact h.elim
theorem zpt_65 {E : Nat → List zV → zMm → Option zV → zMm → Prop} {a b : Nat} {v : Int} {l : zLc} {s : List zV} {m : zMm} {K : Nat → zLc → List zV → zMm → Prop} {Q : Option zV → zMm → Prop} {k : zLc → List zV → zMm → Prop} (h : zst E (65, a, b, v) l s m K Q k) : zPt E (65, a, b, v) l s m K Q k := by
  rw [zst_65] at h
  split at h
  · rename_i x s
    by_cases hc : (0 < x)
    · exact Or.inl ⟨_, _, _, _, h.1 hc, fun _ _ _ h' => ⟨fun _ => h', fun n => absurd hc n⟩⟩
    · exact Or.inl ⟨_, _, _, _, h.2 hc, fun _ _ _ h' => ⟨fun n => absurd n hc, fun _ => h'⟩⟩
  · exact h.elim
theorem zpt_66 {E : Nat → List zV → zMm → Option zV → zMm → Prop} {a b : Nat} {v : Int} {l : zLc} {s : List zV} {m : zMm} {K : Nat → zLc → List zV → zMm → Prop} {Q : Option zV → zMm → Prop} {k : zLc → List zV → zMm → Prop} (h : zst E (66, a, b, v) l s m K Q k) : zPt E (66, a, b, v) l s m K Q k := by
  rw [zst_66] at h
  split at h
  · rename_i x s
    by_cases hc : (x ≤ 0)
    · exact Or.inl ⟨_, _, _, _, h.1 hc, fun _ _ _ h' => ⟨fun _ => h', fun n => absurd hc n⟩⟩
    · exact Or.inl ⟨_, _, _, _, h.2 hc, fun _ _ _ h' => ⟨fun n => absurd n hc, fun _ => h'⟩⟩
  · exact h.elim
theorem zpt_67 {E : Nat → List zV → zMm → Option zV → zMm → Prop} {a b : Nat} {v : Int} {l : zLc} {s : List zV} {m : zMm} {K : Nat → zLc → List zV → zMm → Prop} {Q : Option zV → zMm → Prop} {k : zLc → List zV → zMm → Prop} (h : zst E (67, a, b, v) l s m K Q k) : zPt E (67, a, b, v) l s m K Q k := by
  rw [zst_67] at h
  split at h
  · exact Or.inl ⟨_, _, _, _, h, fun _ _ _ h' => h'⟩
  · exact h.elim
theorem zpt_68 {E : Nat → List zV → zMm → Option zV → zMm → Prop} {a b : Nat} {v : Int} {l : zLc} {s : List zV} {m : zMm} {K : Nat → zLc → List zV → zMm → Prop} {Q : Option zV → zMm → Prop} {k : zLc → List zV → zMm → Prop} (h : zst E (68, a, b, v) l s m K Q k) : zPt E (68, a, b, v) l s m K Q k := by
  rw [zst_68] at h
  obtain ⟨h0, h1, h2, r, m', h3, h4⟩ := h
  exact Or.inr (Or.inr ⟨_, _, _, h4, fun K' Q' k' h' => by rw [zst_68]; exact ⟨h0, h1, h2, r, m', h3, h'⟩⟩)
theorem zpt_69 {E : Nat → List zV → zMm → Option zV → zMm → Prop} {a b : Nat} {v : Int} {l : zLc} {s : List zV} {m : zMm} {K : Nat → zLc → List zV → zMm → Prop} {Q : Option zV → zMm → Prop} {k : zLc → List zV → zMm → Prop} (h : zst E (69, a, b, v) l s m K Q k) : zPt E (69, a, b, v) l s m K Q k := by
  rw [zst_69] at h
  obtain ⟨h1, h2, r, m', h3, h4⟩ := h
  exact Or.inr (Or.inr ⟨_, _, _, h4, fun K' Q' k' h' => by rw [zst_69]; exact ⟨h1, h2, r, m', h3, h'⟩⟩)
theorem zpt_70 {E : Nat → List zV → zMm → Option zV → zMm → Prop} {a b : Nat} {v : Int} {l : zLc} {s : List zV} {m : zMm} {K : Nat → zLc → List zV → zMm → Prop} {Q : Option zV → zMm → Prop} {k : zLc → List zV → zMm → Prop} (h : zst E (70, a, b, v) l s m K Q k) : zPt E (70, a, b, v) l s m K Q k := by
  rw [zst_70] at h
  split at h
  · exact Or.inr (Or.inl ⟨_, _, h, fun _ _ _ h' => h'⟩)
  · exact h.elim
theorem zpt_71 {E : Nat → List zV → zMm → Option zV → zMm → Prop} {a b : Nat} {v : Int} {l : zLc} {s : List zV} {m : zMm} {K : Nat → zLc → List zV → zMm → Prop} {Q : Option zV → zMm → Prop} {k : zLc → List zV → zMm → Prop} (h : zst E (71, a, b, v) l s m K Q k) : zPt E (71, a, b, v) l s m K Q k := by
  rw [zst_71] at h
  split at h
  · exact Or.inr (Or.inl ⟨_, _, h, fun _ _ _ h' => h'⟩)
  · exact h.elim
theorem zpt_72 {E : Nat → List zV → zMm → Option zV → zMm → Prop} {a b : Nat} {v : Int} {l : zLc} {s : List zV} {m : zMm} {K : Nat → zLc → List zV → zMm → Prop} {Q : Option zV → zMm → Prop} {k : zLc → List zV → zMm → Prop} (h : zst E (72, a, b, v) l s m K Q k) : zPt E (72, a, b, v) l s m K Q k := by
  rw [zst_72] at h
  split at h
  · exact Or.inr (Or.inl ⟨_, _, h, fun _ _ _ h' => h'⟩)
  · exact h.elim
theorem zpt_73 {E : Nat → List zV → zMm → Option zV → zMm → Prop} {a b : Nat} {v : Int} {l : zLc} {s : List zV} {m : zMm} {K : Nat → zLc → List zV → zMm → Prop} {Q : Option zV → zMm → Prop} {k : zLc → List zV → zMm → Prop} (h : zst E (73, a, b, v) l s m K Q k) : zPt E (73, a, b, v) l s m K Q k := by
  exact Or.inl ⟨_, _, _, _, h, fun _ _ _ h' => h'⟩
theorem zpt_74 {E : Nat → List zV → zMm → Option zV → zMm → Prop} {a b : Nat} {v : Int} {l : zLc} {s : List zV} {m : zMm} {K : Nat → zLc → List zV → zMm → Prop} {Q : Option zV → zMm → Prop} {k : zLc → List zV → zMm → Prop} (h : zst E (74, a, b, v) l s m K Q k) : zPt E (74, a, b, v) l s m K Q k := by
  rw [zst_74] at h
  split at h
  · exact Or.inr (Or.inr ⟨_, _, _, h.2.2, fun _ _ _ h' => ⟨h.1, h.2.1, h'⟩⟩)
  · exact h.elim
theorem zpt_75 {E : Nat → List zV → zMm → Option zV → zMm → Prop} {a b : Nat} {v : Int} {l : zLc} {s : List zV} {m : zMm} {K : Nat → zLc → List zV → zMm → Prop} {Q : Option zV → zMm → Prop} {k : zLc → List zV → zMm → Prop} (h : zst E (75, a, b, v) l s m K Q k) : zPt E (75, a, b, v) l s m K Q k := by
  rw [zst_75] at h
  split at h
  · exact Or.inr (Or.inr ⟨_, _, _, h.2, fun _ _ _ h' => ⟨h.1, h'⟩⟩)
  · exact h.elim
theorem zpt_76 {E : Nat → List zV → zMm → Option zV → zMm → Prop} {a b : Nat} {v : Int} {l : zLc} {s : List zV} {m : zMm} {K : Nat → zLc → List zV → zMm → Prop} {Q : Option zV → zMm → Prop} {k : zLc → List zV → zMm → Prop} (h : zst E (76, a, b, v) l s m K Q k) : zPt E (76, a, b, v) l s m K Q k := by
  rw [zst_76] at h
  split at h
  · exact Or.inr (Or.inl ⟨_, _, h.2, fun _ _ _ h' => ⟨h.1, h'⟩⟩)
  · exact h.elim
theorem zpt_78 {E : Nat → List zV → zMm → Option zV → zMm → Prop} {a b : Nat} {v : Int} {l : zLc} {s : List zV} {m : zMm} {K : Nat → zLc → List zV → zMm → Prop} {Q : Option zV → zMm → Prop} {k : zLc → List zV → zMm → Prop} (h : zst E (78, a, b, v) l s m K Q k) : zPt E (78, a, b, v) l s m K Q k := by
  rw [zst_78] at h
  obtain ⟨h1, h2, r, m', h3, h4⟩ := h
  exact Or.inr (Or.inr ⟨_, _, _, h4, fun K' Q' k' h' => by rw [zst_78]; exact ⟨h1, h2, r, m', h3, h'⟩⟩)
theorem zst_no {E : Nat → List zV → zMm → Option zV → zMm → Prop} {a b : Nat} {v : Int} {l : zLc} {s : List zV} {m : zMm} {K : Nat → zLc → List zV → zMm → Prop} {Q : Option zV → zMm → Prop} {k : zLc → List zV → zMm → Prop} {op : Nat} (h : zst E (op, a, b, v) l s m K Q k) : op ∈ ([1, 2, 3, 4, 5, 6, 7, 8, 9, 10, 11, 12, 13, 14, 15, 16, 17, 19, 20, 21, 22, 24, 25, 26, 27, 28, 29, 30, 31, 32, 33, 34, 35, 36, 37, 38, 39, 40, 41, 42, 43, 44, 45, 46, 47, 48, 49, 50, 51, 52, 53, 54, 55, 56, 57, 58, 59, 60, 61, 62, 63, 64, 65, 66, 67, 68, 69, 70, 71, 72, 73, 74, 75, 76, 78] : List Nat) := by
  by_cases g1 : op ≤ 78
  · have h0 : ∀ n, n ≤ 78 → n ∉ ([1, 2, 3, 4, 5, 6, 7, 8, 9, 10, 11, 12, 13, 14, 15, 16, 17, 19, 20, 21, 22, 24, 25, 26, 27, 28, 29, 30, 31, 32, 33, 34, 35, 36, 37, 38, 39, 40, 41, 42, 43, 44, 45, 46, 47, 48, 49, 50, 51, 52, 53, 54, 55, 56, 57, 58, 59, 60, 61, 62, 63, 64, 65, 66, 67, 68, 69, 70, 71, 72, 73, 74, 75, 76, 78] : List Nat) → n = 0 ∨ n = 18 ∨ n = 23 ∨ n = 77 := by decide
    by_cases g2 : op ∈ ([1, 2, 3, 4, 5, 6, 7, 8, 9, 10, 11, 12, 13, 14, 15, 16, 17, 19, 20, 21, 22, 24, 25, 26, 27, 28, 29, 30, 31, 32, 33, 34, 35, 36, 37, 38, 39, 40, 41, 42, 43, 44, 45, 46, 47, 48, 49, 50, 51, 52, 53, 54, 55, 56, 57, 58, 59, 60, 61, 62, 63, 64, 65, 66, 67, 68, 69, 70, 71, 72, 73, 74, 75, 76, 78] : List Nat)
    · exact g2
    · rcases h0 op g1 g2 with rfl | rfl | rfl | rfl
      · exact False.elim h
      · exact False.elim h
      · exact False.elim h
      · exact False.elim h
  · exfalso
    have e1 : ¬ op < 26 := by omega
    have e2 : ¬ op < 50 := by omega
    simp only [zst, e1, e2, if_false, zstC] at h
    rw [if_neg (by omega), if_neg (by omega), if_neg (by omega), if_neg (by omega), if_neg (by omega), if_neg (by omega), if_neg (by omega), if_neg (by omega), if_neg (by omega), if_neg (by omega), if_neg (by omega), if_neg (by omega), if_neg (by omega), if_neg (by omega), if_neg (by omega), if_neg (by omega), if_neg (by omega)] at h
    exact h
theorem zpt {E : Nat → List zV → zMm → Option zV → zMm → Prop} {o : zOp} {l : zLc} {s : List zV} {m : zMm} {K : Nat → zLc → List zV → zMm → Prop} {Q : Option zV → zMm → Prop} {k : zLc → List zV → zMm → Prop} (h : zst E o l s m K Q k) : zPt E o l s m K Q k := by
  obtain ⟨op, a, b, v⟩ := o
  have h0 := zst_no h
  simp only [List.mem_cons, List.not_mem_nil, or_false] at h0
  rcases h0 with rfl | rfl | rfl | rfl | rfl | rfl | rfl | rfl | rfl | rfl | rfl | rfl | rfl | rfl | rfl | rfl | rfl | rfl | rfl | rfl | rfl | rfl | rfl | rfl | rfl | rfl | rfl | rfl | rfl | rfl | rfl | rfl | rfl | rfl | rfl | rfl | rfl | rfl | rfl | rfl | rfl | rfl | rfl | rfl | rfl | rfl | rfl | rfl | rfl | rfl | rfl | rfl | rfl | rfl | rfl | rfl | rfl | rfl | rfl | rfl | rfl | rfl | rfl | rfl | rfl | rfl | rfl | rfl | rfl | rfl | rfl | rfl | rfl | rfl | rfl
  · exact zpt_1 h
  · exact zpt_2 h
  · exact zpt_3 h
  · exact zpt_4 h
  · exact zpt_5 h
  · exact zpt_6 h
  · exact zpt_7 h
  · exact zpt_8 h
  · exact zpt_9 h
  · exact zpt_10 h
  · exact zpt_11 h
  · exact zpt_12 h
  · exact zpt_13 h
  · exact zpt_14 h
  · exact zpt_15 h
  · exact zpt_16 h
  · exact zpt_17 h
  · exact zpt_19 h
  · exact zpt_20 h
  · exact zpt_21 h
  · exact zpt_22 h
  · exact zpt_24 h
  · exact zpt_25 h
  · exact zpt_26 h
  · exact zpt_27 h
  · exact zpt_28 h
  · exact zpt_29 h
  · exact zpt_30 h
  · exact zpt_31 h
  · exact zpt_32 h
  · exact zpt_33 h
  · exact zpt_34 h
  · exact zpt_35 h
  · exact zpt_36 h
  · exact zpt_37 h
  · exact zpt_38 h
  · exact zpt_39 h
  · exact zpt_40 h
  · exact zpt_41 h
  · exact zpt_42 h
  · exact zpt_43 h
  · exact zpt_44 h
  · exact zpt_45 h
  · exact zpt_46 h
  · exact zpt_47 h
  · exact zpt_48 h
  · exact zpt_49 h
  · exact zpt_50 h
  · exact zpt_51 h
  · exact zpt_52 h
  · exact zpt_53 h
  · exact zpt_54 h
  · exact zpt_55 h
  · exact zpt_56 h
  · exact zpt_57 h
  · exact zpt_58 h
  · exact zpt_59 h
  · exact zpt_60 h
  · exact zpt_61 h
  · exact zpt_62 h
  · exact zpt_63 h
  · exact zpt_64 h
  · exact zpt_65 h
  · exact zpt_66 h
  · exact zpt_67 h
  · exact zpt_68 h
  · exact zpt_69 h
  · exact zpt_70 h
  · exact zpt_71 h
  · exact zpt_72 h
  · exact zpt_73 h
  · exact zpt_74 h
  · exact zpt_75 h
  · exact zpt_76 h
  · exact zpt_78 h
theorem zst_mono {E E' : Nat → List zV → zMm → Option zV → zMm → Prop} (hE : ∀ y as m r m', E y as m r m' → E' y as m r m') {o : zOp} {l : zLc} {s : List zV} {m : zMm} {K : Nat → zLc → List zV → zMm → Prop} {Q : Option zV → zMm → Prop} {k : zLc → List zV → zMm → Prop} (h : zst E o l s m K Q k) : zst E' o l s m K Q k := by
  obtain ⟨op, a, b, v⟩ := o
  have hc : ∀ {y n : Nat} {s : List zV} {m : zMm} {k : List zV → zMm → Prop}, zcl E y n s m k → zcl E' y n s m k := fun ⟨h1, h2, r, m', h3, h4⟩ => ⟨h1, h2, r, m', hE _ _ _ _ _ h3, h4⟩
  have h0 := zst_no h
  simp only [List.mem_cons, List.not_mem_nil, or_false] at h0
  rcases h0 with rfl | rfl | rfl | rfl | rfl | rfl | rfl | rfl | rfl | rfl | rfl | rfl | rfl | rfl | rfl | rfl | rfl | rfl | rfl | rfl | rfl | rfl | rfl | rfl | rfl | rfl | rfl | rfl | rfl | rfl | rfl | rfl | rfl | rfl | rfl | rfl | rfl | rfl | rfl | rfl | rfl | rfl | rfl | rfl | rfl | rfl | rfl | rfl | rfl | rfl | rfl | rfl | rfl | rfl | rfl | rfl | rfl | rfl | rfl | rfl | rfl | rfl | rfl | rfl | rfl | rfl | rfl | rfl | rfl | rfl | rfl | rfl | rfl | rfl | rfl
  · exact h
  · exact h
  · exact h
  · exact h
  · exact h
  · exact h
  · exact h
  · exact h
  · exact h
  · exact h
  · exact h
  · exact h
  · exact h
  · exact h
  · exact h
  · exact h
  · exact h
  · exact h
  · exact h
  · exact h
  · exact h
  · exact h
  · exact h
  · exact h
  · exact h
  · exact h
  · exact h
  · exact h
  · exact h
  · exact h
  · exact h
  · exact h
  · exact h
  · exact h
  · exact h
  · exact h
  · exact h
  · exact h
  · exact h
  · exact h
  · exact h
  · exact h
  · exact h
  · exact h
  · exact h
  · exact h
  · exact h
  · exact h
  · exact h
  · exact h
  · exact h
  · exact h
  · exact h
  · exact h
  · exact h
  · exact h
  · exact h
  · exact h
  · exact h
  · exact h
  · exact h
  · exact h
  · exact h
  · exact h
  · exact h
  · exact ⟨And.left h, hc (And.right h)⟩
  · exact hc h
  · exact h
  · exact h
  · exact h
  · exact h
  · exact h
  · exact h
  · exact h
  · exact hc h
/-- a stretch has a single way out -/
theorem zrun_pt {E : Nat → List zV → zMm → Option zV → zMm → Prop} : ∀ {os : List zOp} {l : zLc} {s : List zV} {m : zMm} {K : Nat → zLc → List zV → zMm → Prop} {Q : Option zV → zMm → Prop}, zrun E os l s m K Q →
    (∃ b l' s' m', K b l' s' m' ∧ ∀ (K' : Nat → zLc → List zV → zMm → Prop) (Q' : Option zV → zMm → Prop), K' b l' s' m' → zrun E os l s m K' Q') ∨ (∃ r m', Q r m' ∧ ∀ (K' : Nat → zLc → List zV → zMm → Prop) (Q' : Option zV → zMm → Prop), Q' r m' → zrun E os l s m K' Q')
  | [], _, _, _, _, _, h => h.elim
  | o :: r, l, s, m, K, Q, h => by
    rcases zpt (h : zst E o l s m K Q (fun l s m => zrun E r l s m K Q)) with ⟨b, l', s', m', h1, h2⟩ | ⟨r', m', h1, h2⟩ | ⟨l', s', m', h1, h2⟩
    · exact Or.inl ⟨b, l', s', m', h1, fun K' Q' h' => h2 K' Q' _ h'⟩
    · exact Or.inr ⟨r', m', h1, fun K' Q' h' => h2 K' Q' _ h'⟩
    · rcases zrun_pt h1 with ⟨b, l2, s2, m2, h3, h4⟩ | ⟨r2, m2, h3, h4⟩
      · exact Or.inl ⟨b, l2, s2, m2, h3, fun K' Q' h' => h2 K' Q' _ (h4 K' Q' h')⟩
      · exact Or.inr ⟨r2, m2, h3, fun K' Q' h' => h2 K' Q' _ (h4 K' Q' h')⟩
theorem zrun_kq {E : Nat → List zV → zMm → Option zV → zMm → Prop} {os : List zOp} {l : zLc} {s : List zV} {m : zMm} {K K' : Nat → zLc → List zV → zMm → Prop} {Q Q' : Option zV → zMm → Prop} (hK : ∀ b l s m, K b l s m → K' b l s m) (hQ : ∀ r m, Q r m → Q' r m) (h : zrun E os l s m K Q) : zrun E os l s m K' Q' := by
  rcases zrun_pt h with ⟨b, l', s', m', h1, h2⟩ | ⟨r', m', h1, h2⟩
  · exact h2 K' Q' (hK _ _ _ _ h1)
  · exact h2 K' Q' (hQ _ _ h1)
theorem zrun_mono {E E' : Nat → List zV → zMm → Option zV → zMm → Prop} (hE : ∀ y as m r m', E y as m r m' → E' y as m r m') : ∀ {os : List zOp} {l : zLc} {s : List zV} {m : zMm} {K : Nat → zLc → List zV → zMm → Prop} {Q : Option zV → zMm → Prop}, zrun E os l s m K Q → zrun E' os l s m K Q
  | [], _, _, _, _, _, h => h
  | o :: r, l, s, m, K, Q, h => by
    have h0 : zst E o l s m K Q (fun l s m => zrun E r l s m K Q) := h
    show zst E' o l s m K Q (fun l s m => zrun E' r l s m K Q)
    rcases zpt (zst_mono hE h0) with ⟨b, l', s', m', h1, h2⟩ | ⟨r', m', h1, h2⟩ | ⟨l', s', m', h1, h2⟩
    · exact h2 _ _ _ h1
    · exact h2 _ _ _ h1
    · exact h2 _ _ _ (zrun_mono hE h1)
theorem zWPn_mono {E E' : Nat → List zV → zMm → Option zV → zMm → Prop} (hE : ∀ y as m r m', E y as m r m' → E' y as m r m') : ∀ {n y b : Nat} {l : zLc} {s : List zV} {m : zMm} {Q : Option zV → zMm → Prop}, zWPn E n y b l s m Q → zWPn E' n y b l s m Q
  | 0, _, _, _, _, _, _, h => h
  | n + 1, y, b, l, s, m, Q, h => zrun_kq (fun _ _ _ _ h => zWPn_mono hE h) (fun _ _ h => h) (zrun_mono hE (h : zrun E (zbl y b) l s m (fun b' l' s' m' => zWPn E n y b' l' s' m' Q) Q))
/-- a block, then what comes behind it -/
theorem zWP_iff {E : Nat → List zV → zMm → Option zV → zMm → Prop} {y b : Nat} {l : zLc} {s : List zV} {m : zMm} {Q : Option zV → zMm → Prop} : zWP E y b l s m Q ↔ zrun E (zbl y b) l s m (fun b' l' s' m' => zWP E y b' l' s' m' Q) Q := by
  constructor
  · rintro ⟨n, h⟩
    cases n with
    | zero => exact h.elim
    | succ n => exact zrun_kq (fun _ _ _ _ h => ⟨n, h⟩) (fun _ _ h => h) (h : zrun E (zbl y b) l s m (fun b' l' s' m' => zWPn E n y b' l' s' m' Q) Q)
  · intro h
    rcases zrun_pt h with ⟨b', l', s', m', ⟨n, h1⟩, h2⟩ | ⟨r', m', h1, h2⟩
    · exact ⟨n + 1, h2 _ _ h1⟩
    · exact ⟨1, h2 _ _ h1⟩
theorem zWPn_pt {E : Nat → List zV → zMm → Option zV → zMm → Prop} : ∀ {n y b : Nat} {l : zLc} {s : List zV} {m : zMm} {Q : Option zV → zMm → Prop}, zWPn E n y b l s m Q → ∃ r m', Q r m' ∧ zWPn E n y b l s m (fun r' m'' => r' = r ∧ m'' = m')
  | 0, _, _, _, _, _, _, h => h.elim
  | n + 1, y, b, l, s, m, Q, h => by
    rcases zrun_pt (h : zrun E (zbl y b) l s m (fun b' l' s' m' => zWPn E n y b' l' s' m' Q) Q) with ⟨b', l', s', m', h1, h2⟩ | ⟨r', m', h1, h2⟩
    · obtain ⟨r2, m2, h3, h4⟩ := zWPn_pt h1
      exact ⟨r2, m2, h3, h2 _ _ h4⟩
    · exact ⟨r', m', h1, h2 _ _ ⟨rfl, rfl⟩⟩
theorem zEx_succ : ∀ {d y : Nat} {as : List zV} {m : zMm} {r : Option zV} {m' : zMm}, zEx d y as m r m' → zEx (d + 1) y as m r m'
  | 0, _, _, _, _, _, h => h.elim
  | d + 1, y, as, m, r, m', h => by
    rcases (h : (1000 ≤ y ∧ zpr y as m r m') ∨ _) with h | ⟨h1, n, h2⟩
    · exact Or.inl h
    · exact Or.inr ⟨h1, n, zWPn_mono (fun _ _ _ _ _ h => zEx_succ h) h2⟩
theorem zEx_le {d d' y : Nat} {as : List zV} {m : zMm} {r : Option zV} {m' : zMm} (hd : d ≤ d') (h : zEx d y as m r m') : zEx d' y as m r m' := by
  induction hd with
  | refl => exact h
  | step _ ih => exact zEx_succ ih
/-- what a call comes to, at most d deep -/
def zC (d y : Nat) (as : List zV) (m : zMm) (Q : Option zV → zMm → Prop) : Prop := ∃ r m', zEx d y as m r m' ∧ Q r m'
theorem zC_in {d y : Nat} {as : List zV} {m : zMm} {Q : Option zV → zMm → Prop} {l : zLc} (hy : y < 1000 ∧ zcat as ≤ (zmt y).2.2.1) (hl : zal as (zmt y).2.2.1 = l) (h : zWP (zEx d) y 0 l [] m Q) : zC (d + 1) y as m Q := by
  obtain ⟨n, h⟩ := h
  obtain ⟨r, m', h1, h2⟩ := zWPn_pt h
  exact ⟨r, m', Or.inr ⟨hy, n, by rw [hl]; exact h2⟩, h1⟩
theorem zC_le {d d' y : Nat} {as : List zV} {m : zMm} {Q : Option zV → zMm → Prop} (hd : d ≤ d') (h : zC d y as m Q) : zC d' y as m Q := by
  obtain ⟨r, m', h1, h2⟩ := h
  exact ⟨r, m', zEx_le hd h1, h2⟩
theorem zC_im {d y : Nat} {as : List zV} {m : zMm} {Q Q' : Option zV → zMm → Prop} (h : zC d y as m Q) (hq : ∀ r m', Q r m' → Q' r m') : zC d y as m Q' := by
  obtain ⟨r, m', h1, h2⟩ := h
  exact ⟨r, m', h1, hq _ _ h2⟩
theorem zWP_im {E : Nat → List zV → zMm → Option zV → zMm → Prop} {y b : Nat} {l : zLc} {s : List zV} {m : zMm} {Q Q' : Option zV → zMm → Prop} (h : zWP E y b l s m Q) (hq : ∀ r m', Q r m' → Q' r m') : zWP E y b l s m Q' := by
  obtain ⟨n, h⟩ := h
  induction n generalizing b l s m with
  | zero => exact h.elim
  | succ n ih => exact zWP_iff.mpr (zrun_kq (fun _ _ _ _ h => ih h) hq (h : zrun E (zbl y b) l s m (fun b' l' s' m' => zWPn E n y b' l' s' m' Q) Q))
/-- a call within a walk, its stack in place -/
theorem zcl_of {d y n : Nat} {s as rest : List zV} {m : zMm} {k : List zV → zMm → Prop} (hs : s = as.reverse ++ rest) (hn : as.length = n) (hc : zcat rest ≤ 8) (h : zC d y as m (fun r m' => k (r.toList ++ rest) m')) : zcl (zEx d) y n s m k := by
  obtain ⟨r, m', h1, h2⟩ := h
  have e1 : s.take n = as.reverse := by rw [hs, ← hn, ← List.length_reverse]; exact List.take_left
  have e2 : s.drop n = rest := by rw [hs, ← hn, ← List.length_reverse]; exact List.drop_left
  refine ⟨by rw [hs, List.length_append, List.length_reverse, hn]; omega, by rw [e2]; exact hc, r, m', ?_, by rw [e2]; exact h2⟩
  rw [e1, List.reverse_reverse]; exact h1
theorem zdt_1 {E : Nat → List zV → zMm → Option zV → zMm → Prop} {a b : Nat} {v : Int} {l : zLc} {s : List zV} {m : zMm} {K1 K2 : Nat → zLc → List zV → zMm → Prop} {Q1 Q2 : Option zV → zMm → Prop} {k1 k2 : zLc → List zV → zMm → Prop} (h1 : zst E (1, a, b, v) l s m K1 Q1 k1) (h2 : zst E (1, a, b, v) l s m K2 Q2 k2) : zst E (1, a, b, v) l s m (fun b l s m => K1 b l s m ∧ K2 b l s m) (fun r m => Q1 r m ∧ Q2 r m) (fun l s m => k1 l s m ∧ k2 l s m) := by
  rw [zst_1] at h1 h2 ⊢
  split at h1
  · rename_i hx
    rw [hx] at h2
    first | exact ⟨h1, h2⟩ | (rw [hx]; exact ⟨h1, h2⟩)
  · exact h1.elim
theorem zdt_2 {E : Nat → List zV → zMm → Option zV → zMm → Prop} {a b : Nat} {v : Int} {l : zLc} {s : List zV} {m : zMm} {K1 K2 : Nat → zLc → List zV → zMm → Prop} {Q1 Q2 : Option zV → zMm → Prop} {k1 k2 : zLc → List zV → zMm → Prop} (h1 : zst E (2, a, b, v) l s m K1 Q1 k1) (h2 : zst E (2, a, b, v) l s m K2 Q2 k2) : zst E (2, a, b, v) l s m (fun b l s m => K1 b l s m ∧ K2 b l s m) (fun r m => Q1 r m ∧ Q2 r m) (fun l s m => k1 l s m ∧ k2 l s m) := by
  rw [zst_2] at h1 h2 ⊢
  split at h1
  · rename_i hx
    rw [hx] at h2
    first | exact ⟨h1, h2⟩ | (rw [hx]; exact ⟨h1, h2⟩)
  · exact h1.elim
theorem zdt_3 {E : Nat → List zV → zMm → Option zV → zMm → Prop} {a b : Nat} {v : Int} {l : zLc} {s : List zV} {m : zMm} {K1 K2 : Nat → zLc → List zV → zMm → Prop} {Q1 Q2 : Option zV → zMm → Prop} {k1 k2 : zLc → List zV → zMm → Prop} (h1 : zst E (3, a, b, v) l s m K1 Q1 k1) (h2 : zst E (3, a, b, v) l s m K2 Q2 k2) : zst E (3, a, b, v) l s m (fun b l s m => K1 b l s m ∧ K2 b l s m) (fun r m => Q1 r m ∧ Q2 r m) (fun l s m => k1 l s m ∧ k2 l s m) := by
  rw [zst_3] at h1 h2 ⊢
  split at h1
  · rename_i hx
    rw [hx] at h2
    first | exact ⟨h1, h2⟩ | (rw [hx]; exact ⟨h1, h2⟩)
  · exact h1.elim
theorem zdt_4 {E : Nat → List zV → zMm → Option zV → zMm → Prop} {a b : Nat} {v : Int} {l : zLc} {s : List zV} {m : zMm} {K1 K2 : Nat → zLc → List zV → zMm → Prop} {Q1 Q2 : Option zV → zMm → Prop} {k1 k2 : zLc → List zV → zMm → Prop} (h1 : zst E (4, a, b, v) l s m K1 Q1 k1) (h2 : zst E (4, a, b, v) l s m K2 Q2 k2) : zst E (4, a, b, v) l s m (fun b l s m => K1 b l s m ∧ K2 b l s m) (fun r m => Q1 r m ∧ Q2 r m) (fun l s m => k1 l s m ∧ k2 l s m) := by
  rw [zst_4] at h1
  split at h1
  · exact ⟨h1, h2⟩
  · exact h1.elim
theorem zdt_5 {E : Nat → List zV → zMm → Option zV → zMm → Prop} {a b : Nat} {v : Int} {l : zLc} {s : List zV} {m : zMm} {K1 K2 : Nat → zLc → List zV → zMm → Prop} {Q1 Q2 : Option zV → zMm → Prop} {k1 k2 : zLc → List zV → zMm → Prop} (h1 : zst E (5, a, b, v) l s m K1 Q1 k1) (h2 : zst E (5, a, b, v) l s m K2 Q2 k2) : zst E (5, a, b, v) l s m (fun b l s m => K1 b l s m ∧ K2 b l s m) (fun r m => Q1 r m ∧ Q2 r m) (fun l s m => k1 l s m ∧ k2 l s m) := by
  rw [zst_5] at h1
  split at h1
  · exact ⟨h1, h2⟩
  · exact h1.elim
theorem zdt_6 {E : Nat → List zV → zMm → Option zV → zMm → Prop} {a b : Nat} {v : Int} {l : zLc} {s : List zV} {m : zMm} {K1 K2 : Nat → zLc → List zV → zMm → Prop} {Q1 Q2 : Option zV → zMm → Prop} {k1 k2 : zLc → List zV → zMm → Prop} (h1 : zst E (6, a, b, v) l s m K1 Q1 k1) (h2 : zst E (6, a, b, v) l s m K2 Q2 k2) : zst E (6, a, b, v) l s m (fun b l s m => K1 b l s m ∧ K2 b l s m) (fun r m => Q1 r m ∧ Q2 r m) (fun l s m => k1 l s m ∧ k2 l s m) := by
  rw [zst_6] at h1
  split at h1
  · exact ⟨h1, h2⟩
  · exact h1.elim
theorem zdt_7 {E : Nat → List zV → zMm → Option zV → zMm → Prop} {a b : Nat} {v : Int} {l : zLc} {s : List zV} {m : zMm} {K1 K2 : Nat → zLc → List zV → zMm → Prop} {Q1 Q2 : Option zV → zMm → Prop} {k1 k2 : zLc → List zV → zMm → Prop} (h1 : zst E (7, a, b, v) l s m K1 Q1 k1) (h2 : zst E (7, a, b, v) l s m K2 Q2 k2) : zst E (7, a, b, v) l s m (fun b l s m => K1 b l s m ∧ K2 b l s m) (fun r m => Q1 r m ∧ Q2 r m) (fun l s m => k1 l s m ∧ k2 l s m) := by
  exact ⟨h1, h2⟩
theorem zdt_8 {E : Nat → List zV → zMm → Option zV → zMm → Prop} {a b : Nat} {v : Int} {l : zLc} {s : List zV} {m : zMm} {K1 K2 : Nat → zLc → List zV → zMm → Prop} {Q1 Q2 : Option zV → zMm → Prop} {k1 k2 : zLc → List zV → zMm → Prop} (h1 : zst E (8, a, b, v) l s m K1 Q1 k1) (h2 : zst E (8, a, b, v) l s m K2 Q2 k2) : zst E (8, a, b, v) l s m (fun b l s m => K1 b l s m ∧ K2 b l s m) (fun r m => Q1 r m ∧ Q2 r m) (fun l s m => k1 l s m ∧ k2 l s m) := by
  exact ⟨h1, h2⟩
theorem zdt_9 {E : Nat → List zV → zMm → Option zV → zMm → Prop} {a b : Nat} {v : Int} {l : zLc} {s : List zV} {m : zMm} {K1 K2 : Nat → zLc → List zV → zMm → Prop} {Q1 Q2 : Option zV → zMm → Prop} {k1 k2 : zLc → List zV → zMm → Prop} (h1 : zst E (9, a, b, v) l s m K1 Q1 k1) (h2 : zst E (9, a, b, v) l s m K2 Q2 k2) : zst E (9, a, b, v) l s m (fun b l s m => K1 b l s m ∧ K2 b l s m) (fun r m => Q1 r m ∧ Q2 r m) (fun l s m => k1 l s m ∧ k2 l s m) := by
  exact ⟨h1, h2⟩
theorem zdt_10 {E : Nat → List zV → zMm → Option zV → zMm → Prop} {a b : Nat} {v : Int} {l : zLc} {s : List zV} {m : zMm} {K1 K2 : Nat → zLc → List zV → zMm → Prop} {Q1 Q2 : Option zV → zMm → Prop} {k1 k2 : zLc → List zV → zMm → Prop} (h1 : zst E (10, a, b, v) l s m K1 Q1 k1) (h2 : zst E (10, a, b, v) l s m K2 Q2 k2) : zst E (10, a, b, v) l s m (fun b l s m => K1 b l s m ∧ K2 b l s m) (fun r m => Q1 r m ∧ Q2 r m) (fun l s m => k1 l s m ∧ k2 l s m) := by
  rw [zst_10] at h1
  split at h1
  · exact ⟨h1.1, h1.2, And.right h2⟩
  · exact h1.elim
theorem zdt_11 {E : Nat → List zV → zMm → Option zV → zMm → Prop} {a b : Nat} {v : Int} {l : zLc} {s : List zV} {m : zMm} {K1 K2 : Nat → zLc → List zV → zMm → Prop} {Q1 Q2 : Option zV → zMm → Prop} {k1 k2 : zLc → List zV → zMm → Prop} (h1 : zst E (11, a, b, v) l s m K1 Q1 k1) (h2 : zst E (11, a, b, v) l s m K2 Q2 k2) : zst E (11, a, b, v) l s m (fun b l s m => K1 b l s m ∧ K2 b l s m) (fun r m => Q1 r m ∧ Q2 r m) (fun l s m => k1 l s m ∧ k2 l s m) := by
  rw [zst_11] at h1
  split at h1
  · exact ⟨h1.1, h1.2, And.right h2⟩
  · exact h1.elim
theorem zdt_12 {E : Nat → List zV → zMm → Option zV → zMm → Prop} {a b : Nat} {v : Int} {l : zLc} {s : List zV} {m : zMm} {K1 K2 : Nat → zLc → List zV → zMm → Prop} {Q1 Q2 : Option zV → zMm → Prop} {k1 k2 : zLc → List zV → zMm → Prop} (h1 : zst E (12, a, b, v) l s m K1 Q1 k1) (h2 : zst E (12, a, b, v) l s m K2 Q2 k2) : zst E (12, a, b, v) l s m (fun b l s m => K1 b l s m ∧ K2 b l s m) (fun r m => Q1 r m ∧ Q2 r m) (fun l s m => k1 l s m ∧ k2 l s m) := by
  rw [zst_12] at h1
  split at h1
  · exact ⟨h1.1, h1.2, And.right h2⟩
  · exact h1.elim
theorem zdt_13 {E : Nat → List zV → zMm → Option zV → zMm → Prop} {a b : Nat} {v : Int} {l : zLc} {s : List zV} {m : zMm} {K1 K2 : Nat → zLc → List zV → zMm → Prop} {Q1 Q2 : Option zV → zMm → Prop} {k1 k2 : zLc → List zV → zMm → Prop} (h1 : zst E (13, a, b, v) l s m K1 Q1 k1) (h2 : zst E (13, a, b, v) l s m K2 Q2 k2) : zst E (13, a, b, v) l s m (fun b l s m => K1 b l s m ∧ K2 b l s m) (fun r m => Q1 r m ∧ Q2 r m) (fun l s m => k1 l s m ∧ k2 l s m) := by
  rw [zst_13] at h1
  split at h1
  · exact ⟨h1.1, h1.2, And.right h2⟩
  · exact h1.elim
theorem zdt_14 {E : Nat → List zV → zMm → Option zV → zMm → Prop} {a b : Nat} {v : Int} {l : zLc} {s : List zV} {m : zMm} {K1 K2 : Nat → zLc → List zV → zMm → Prop} {Q1 Q2 : Option zV → zMm → Prop} {k1 k2 : zLc → List zV → zMm → Prop} (h1 : zst E (14, a, b, v) l s m K1 Q1 k1) (h2 : zst E (14, a, b, v) l s m K2 Q2 k2) : zst E (14, a, b, v) l s m (fun b l s m => K1 b l s m ∧ K2 b l s m) (fun r m => Q1 r m ∧ Q2 r m) (fun l s m => k1 l s m ∧ k2 l s m) := by
  rw [zst_14] at h1
  split at h1
  · exact ⟨h1.1, h1.2, And.right h2⟩
  · exact h1.elim
theorem zdt_15 {E : Nat → List zV → zMm → Option zV → zMm → Prop} {a b : Nat} {v : Int} {l : zLc} {s : List zV} {m : zMm} {K1 K2 : Nat → zLc → List zV → zMm → Prop} {Q1 Q2 : Option zV → zMm → Prop} {k1 k2 : zLc → List zV → zMm → Prop} (h1 : zst E (15, a, b, v) l s m K1 Q1 k1) (h2 : zst E (15, a, b, v) l s m K2 Q2 k2) : zst E (15, a, b, v) l s m (fun b l s m => K1 b l s m ∧ K2 b l s m) (fun r m => Q1 r m ∧ Q2 r m) (fun l s m => k1 l s m ∧ k2 l s m) := by
  rw [zst_15] at h1
  split at h1
  · exact ⟨h1.1, h1.2.1, h1.2.2, And.right (And.right h2)⟩
  · exact h1.elim
theorem zdt_16 {E : Nat → List zV → zMm → Option zV → zMm → Prop} {a b : Nat} {v : Int} {l : zLc} {s : List zV} {m : zMm} {K1 K2 : Nat → zLc → List zV → zMm → Prop} {Q1 Q2 : Option zV → zMm → Prop} {k1 k2 : zLc → List zV → zMm → Prop} (h1 : zst E (16, a, b, v) l s m K1 Q1 k1) (h2 : zst E (16, a, b, v) l s m K2 Q2 k2) : zst E (16, a, b, v) l s m (fun b l s m => K1 b l s m ∧ K2 b l s m) (fun r m => Q1 r m ∧ Q2 r m) (fun l s m => k1 l s m ∧ k2 l s m) := by
  rw [zst_16] at h1
  split at h1
  · exact ⟨h1.1, h1.2.1, h1.2.2, And.right (And.right h2)⟩
  · exact h1.elim
theorem zdt_17 {E : Nat → List zV → zMm → Option zV → zMm → Prop} {a b : Nat} {v : Int} {l : zLc} {s : List zV} {m : zMm} {K1 K2 : Nat → zLc → List zV → zMm → Prop} {Q1 Q2 : Option zV → zMm → Prop} {k1 k2 : zLc → List zV → zMm → Prop} (h1 : zst E (17, a, b, v) l s m K1 Q1 k1) (h2 : zst E (17, a, b, v) l s m K2 Q2 k2) : zst E (17, a, b, v) l s m (fun b l s m => K1 b l s m ∧ K2 b l s m) (fun r m => Q1 r m ∧ Q2 r m) (fun l s m => k1 l s m ∧ k2 l s m) := by
  rw [zst_17] at h1
  split at h1
  · exact ⟨h1.1, h1.2.1, h1.2.2, And.right (And.right h2)⟩
  · exact h1.elim
theorem zdt_19 {E : Nat → List zV → zMm → Option zV → zMm → Prop} {a b : Nat} {v : Int} {l : zLc} {s : List zV} {m : zMm} {K1 K2 : Nat → zLc → List zV → zMm → Prop} {Q1 Q2 : Option zV → zMm → Prop} {k1 k2 : zLc → List zV → zMm → Prop} (h1 : zst E (19, a, b, v) l s m K1 Q1 k1) (h2 : zst E (19, a, b, v) l s m K2 Q2 k2) : zst E (19, a, b, v) l s m (fun b l s m => K1 b l s m ∧ K2 b l s m) (fun r m => Q1 r m ∧ Q2 r m) (fun l s m => k1 l s m ∧ k2 l s m) := by
  rw [zst_19] at h1
  split at h1
  · exact ⟨h1.1, h1.2.1, h1.2.2, And.right (And.right h2)⟩
  · exact h1.elim
theorem zdt_20 {E : Nat → List zV → zMm → Option zV → zMm → Prop} {a b : Nat} {v : Int} {l : zLc} {s : List zV} {m : zMm} {K1 K2 : Nat → zLc → List zV → zMm → Prop} {Q1 Q2 : Option zV → zMm → Prop} {k1 k2 : zLc → List zV → zMm → Prop} (h1 : zst E (20, a, b, v) l s m K1 Q1 k1) (h2 : zst E (20, a, b, v) l s m K2 Q2 k2) : zst E (20, a, b, v) l s m (fun b l s m => K1 b l s m ∧ K2 b l s m) (fun r m => Q1 r m ∧ Q2 r m) (fun l s m => k1 l s m ∧ k2 l s m) := by
  rw [zst_20] at h1
  split at h1
  · exact ⟨h1.1, h1.2.1, h1.2.2, And.right (And.right h2)⟩
  · exact h1.elim
theorem zdt_21 {E : Nat → List zV → zMm → Option zV → zMm → Prop} {a b : Nat} {v : Int} {l : zLc} {s : List zV} {m : zMm} {K1 K2 : Nat → zLc → List zV → zMm → Prop} {Q1 Q2 : Option zV → zMm → Prop} {k1 k2 : zLc → List zV → zMm → Prop} (h1 : zst E (21, a, b, v) l s m K1 Q1 k1) (h2 : zst E (21, a, b, v) l s m K2 Q2 k2) : zst E (21, a, b, v) l s m (fun b l s m => K1 b l s m ∧ K2 b l s m) (fun r m => Q1 r m ∧ Q2 r m) (fun l s m => k1 l s m ∧ k2 l s m) := by
  rw [zst_21] at h1
  split at h1
  · exact ⟨h1.1, h1.2.1, h1.2.2, And.right (And.right h2)⟩
  · exact h1.elim
theorem zdt_22 {E : Nat → List zV → zMm → Option zV → zMm → Prop} {a b : Nat} {v : Int} {l : zLc} {s : List zV} {m : zMm} {K1 K2 : Nat → zLc → List zV → zMm → Prop} {Q1 Q2 : Option zV → zMm → Prop} {k1 k2 : zLc → List zV → zMm → Prop} (h1 : zst E (22, a, b, v) l s m K1 Q1 k1) (h2 : zst E (22, a, b, v) l s m K2 Q2 k2) : zst E (22, a, b, v) l s m (fun b l s m => K1 b l s m ∧ K2 b l s m) (fun r m => Q1 r m ∧ Q2 r m) (fun l s m => k1 l s m ∧ k2 l s m) := by
  rw [zst_22] at h1
  split at h1
  · rename_i x i c s
    rw [zst_22] at h2
    obtain ⟨g0, ⟨g1, g2⟩ | ⟨g1, g2, g3⟩⟩ := h1 <;> obtain ⟨f0, ⟨f1, f2⟩ | ⟨f1, f2, f3⟩⟩ := h2
    · exact ⟨g0, Or.inl ⟨g1, g2, f2⟩⟩
    · omega
    · omega
    · exact ⟨g0, Or.inr ⟨g1, g2, g3, f3⟩⟩
  · exact h1.elim
theorem zdt_24 {E : Nat → List zV → zMm → Option zV → zMm → Prop} {a b : Nat} {v : Int} {l : zLc} {s : List zV} {m : zMm} {K1 K2 : Nat → zLc → List zV → zMm → Prop} {Q1 Q2 : Option zV → zMm → Prop} {k1 k2 : zLc → List zV → zMm → Prop} (h1 : zst E (24, a, b, v) l s m K1 Q1 k1) (h2 : zst E (24, a, b, v) l s m K2 Q2 k2) : zst E (24, a, b, v) l s m (fun b l s m => K1 b l s m ∧ K2 b l s m) (fun r m => Q1 r m ∧ Q2 r m) (fun l s m => k1 l s m ∧ k2 l s m) := by
  rw [zst_24] at h1
  split at h1
  · exact ⟨h1.1, h1.2.1, h1.2.2, And.right (And.right h2)⟩
  · exact h1.elim
theorem zdt_25 {E : Nat → List zV → zMm → Option zV → zMm → Prop} {a b : Nat} {v : Int} {l : zLc} {s : List zV} {m : zMm} {K1 K2 : Nat → zLc → List zV → zMm → Prop} {Q1 Q2 : Option zV → zMm → Prop} {k1 k2 : zLc → List zV → zMm → Prop} (h1 : zst E (25, a, b, v) l s m K1 Q1 k1) (h2 : zst E (25, a, b, v) l s m K2 Q2 k2) : zst E (25, a, b, v) l s m (fun b l s m => K1 b l s m ∧ K2 b l s m) (fun r m => Q1 r m ∧ Q2 r m) (fun l s m => k1 l s m ∧ k2 l s m) := by
  rw [zst_25] at h1
  split at h1
  · exact ⟨h1.1, h1.2, And.right h2⟩
  · exact h1.elim
theorem zdt_26 {E : Nat → List zV → zMm → Option zV → zMm → Prop} {a b : Nat} {v : Int} {l : zLc} {s : List zV} {m : zMm} {K1 K2 : Nat → zLc → List zV → zMm → Prop} {Q1 Q2 : Option zV → zMm → Prop} {k1 k2 : zLc → List zV → zMm → Prop} (h1 : zst E (26, a, b, v) l s m K1 Q1 k1) (h2 : zst E (26, a, b, v) l s m K2 Q2 k2) : zst E (26, a, b, v) l s m (fun b l s m => K1 b l s m ∧ K2 b l s m) (fun r m => Q1 r m ∧ Q2 r m) (fun l s m => k1 l s m ∧ k2 l s m) := by
  rw [zst_26] at h1
  split at h1
  · exact ⟨h1, h2⟩
  · exact h1.elim
theorem zdt_27 {E : Nat → List zV → zMm → Option zV → zMm → Prop} {a b : Nat} {v : Int} {l : zLc} {s : List zV} {m : zMm} {K1 K2 : Nat → zLc → List zV → zMm → Prop} {Q1 Q2 : Option zV → zMm → Prop} {k1 k2 : zLc → List zV → zMm → Prop} (h1 : zst E (27, a, b, v) l s m K1 Q1 k1) (h2 : zst E (27, a, b, v) l s m K2 Q2 k2) : zst E (27, a, b, v) l s m (fun b l s m => K1 b l s m ∧ K2 b l s m) (fun r m => Q1 r m ∧ Q2 r m) (fun l s m => k1 l s m ∧ k2 l s m) := by
  rw [zst_27] at h1
  split at h1
  · exact ⟨h1, h2⟩
  · exact h1.elim
theorem zdt_28 {E : Nat → List zV → zMm → Option zV → zMm → Prop} {a b : Nat} {v : Int} {l : zLc} {s : List zV} {m : zMm} {K1 K2 : Nat → zLc → List zV → zMm → Prop} {Q1 Q2 : Option zV → zMm → Prop} {k1 k2 : zLc → List zV → zMm → Prop} (h1 : zst E (28, a, b, v) l s m K1 Q1 k1) (h2 : zst E (28, a, b, v) l s m K2 Q2 k2) : zst E (28, a, b, v) l s m (fun b l s m => K1 b l s m ∧ K2 b l s m) (fun r m => Q1 r m ∧ Q2 r m) (fun l s m => k1 l s m ∧ k2 l s m) := by
  rw [zst_28] at h1
  split at h1
  · exact ⟨h1, h2⟩
  · exact h1.elim
theorem zdt_29 {E : Nat → List zV → zMm → Option zV → zMm → Prop} {a b : Nat} {v : Int} {l : zLc} {s : List zV} {m : zMm} {K1 K2 : Nat → zLc → List zV → zMm → Prop} {Q1 Q2 : Option zV → zMm → Prop} {k1 k2 : zLc → List zV → zMm → Prop} (h1 : zst E (29, a, b, v) l s m K1 Q1 k1) (h2 : zst E (29, a, b, v) l s m K2 Q2 k2) : zst E (29, a, b, v) l s m (fun b l s m => K1 b l s m ∧ K2 b l s m) (fun r m => Q1 r m ∧ Q2 r m) (fun l s m => k1 l s m ∧ k2 l s m) := by
  rw [zst_29] at h1
  split at h1
  · exact ⟨h1.1, h1.2, And.right h2⟩
  · exact h1.elim
theorem zdt_30 {E : Nat → List zV → zMm → Option zV → zMm → Prop} {a b : Nat} {v : Int} {l : zLc} {s : List zV} {m : zMm} {K1 K2 : Nat → zLc → List zV → zMm → Prop} {Q1 Q2 : Option zV → zMm → Prop} {k1 k2 : zLc → List zV → zMm → Prop} (h1 : zst E (30, a, b, v) l s m K1 Q1 k1) (h2 : zst E (30, a, b, v) l s m K2 Q2 k2) : zst E (30, a, b, v) l s m (fun b l s m => K1 b l s m ∧ K2 b l s m) (fun r m => Q1 r m ∧ Q2 r m) (fun l s m => k1 l s m ∧ k2 l s m) := by
  rw [zst_30] at h1
  split at h1
  · exact ⟨h1.1, h1.2, And.right h2⟩
  · exact h1.elim
theorem zdt_31 {E : Nat → List zV → zMm → Option zV → zMm → Prop} {a b : Nat} {v : Int} {l : zLc} {s : List zV} {m : zMm} {K1 K2 : Nat → zLc → List zV → zMm → Prop} {Q1 Q2 : Option zV → zMm → Prop} {k1 k2 : zLc → List zV → zMm → Prop} (h1 : zst E (31, a, b, v) l s m K1 Q1 k1) (h2 : zst E (31, a, b, v) l s m K2 Q2 k2) : zst E (31, a, b, v) l s m (fun b l s m => K1 b l s m ∧ K2 b l s m) (fun r m => Q1 r m ∧ Q2 r m) (fun l s m => k1 l s m ∧ k2 l s m) := by
  rw [zst_31] at h1
  split at h1
  · exact ⟨h1, h2⟩
  · exact h1.elim
theorem zdt_32 {E : Nat → List zV → zMm → Option zV → zMm → Prop} {a b : Nat} {v : Int} {l : zLc} {s : List zV} {m : zMm} {K1 K2 : Nat → zLc → List zV → zMm → Prop} {Q1 Q2 : Option zV → zMm → Prop} {k1 k2 : zLc → List zV → zMm → Prop} (h1 : zst E (32, a, b, v) l s m K1 Q1 k1) (h2 : zst E (32, a, b, v) l s m K2 Q2 k2) : zst E (32, a, b, v) l s m (fun b l s m => K1 b l s m ∧ K2 b l s m) (fun r m => Q1 r m ∧ Q2 r m) (fun l s m => k1 l s m ∧ k2 l s m) := by
  rw [zst_32] at h1
  split at h1
  · exact ⟨h1, h2⟩
  · exact h1.elim
theorem zdt_33 {E : Nat → List zV → zMm → Option zV → zMm → Prop} {a b : Nat} {v : Int} {l : zLc} {s : List zV} {m : zMm} {K1 K2 : Nat → zLc → List zV → zMm → Prop} {Q1 Q2 : Option zV → zMm → Prop} {k1 k2 : zLc → List zV → zMm → Prop} (h1 : zst E (33, a, b, v) l s m K1 Q1 k1) (h2 : zst E (33, a, b, v) l s m K2 Q2 k2) : zst E (33, a, b, v) l s m (fun b l s m => K1 b l s m ∧ K2 b l s m) (fun r m => Q1 r m ∧ Q2 r m) (fun l s m => k1 l s m ∧ k2 l s m) := by
  rw [zst_33] at h1
  split at h1
  · exact ⟨h1, h2⟩
  · exact h1.elim
theorem zdt_34 {E : Nat → List zV → zMm → Option zV → zMm → Prop} {a b : Nat} {v : Int} {l : zLc} {s : List zV} {m : zMm} {K1 K2 : Nat → zLc → List zV → zMm → Prop} {Q1 Q2 : Option zV → zMm → Prop} {k1 k2 : zLc → List zV → zMm → Prop} (h1 : zst E (34, a, b, v) l s m K1 Q1 k1) (h2 : zst E (34, a, b, v) l s m K2 Q2 k2) : zst E (34, a, b, v) l s m (fun b l s m => K1 b l s m ∧ K2 b l s m) (fun r m => Q1 r m ∧ Q2 r m) (fun l s m => k1 l s m ∧ k2 l s m) := by
  rw [zst_34] at h1
  split at h1
  · exact ⟨h1, h2⟩
  · exact h1.elim
theorem zdt_35 {E : Nat → List zV → zMm → Option zV → zMm → Prop} {a b : Nat} {v : Int} {l : zLc} {s : List zV} {m : zMm} {K1 K2 : Nat → zLc → List zV → zMm → Prop} {Q1 Q2 : Option zV → zMm → Prop} {k1 k2 : zLc → List zV → zMm → Prop} (h1 : zst E (35, a, b, v) l s m K1 Q1 k1) (h2 : zst E (35, a, b, v) l s m K2 Q2 k2) : zst E (35, a, b, v) l s m (fun b l s m => K1 b l s m ∧ K2 b l s m) (fun r m => Q1 r m ∧ Q2 r m) (fun l s m => k1 l s m ∧ k2 l s m) := by
  rw [zst_35] at h1
  split at h1
  · exact ⟨h1, h2⟩
  · exact h1.elim
theorem zdt_36 {E : Nat → List zV → zMm → Option zV → zMm → Prop} {a b : Nat} {v : Int} {l : zLc} {s : List zV} {m : zMm} {K1 K2 : Nat → zLc → List zV → zMm → Prop} {Q1 Q2 : Option zV → zMm → Prop} {k1 k2 : zLc → List zV → zMm → Prop} (h1 : zst E (36, a, b, v) l s m K1 Q1 k1) (h2 : zst E (36, a, b, v) l s m K2 Q2 k2) : zst E (36, a, b, v) l s m (fun b l s m => K1 b l s m ∧ K2 b l s m) (fun r m => Q1 r m ∧ Q2 r m) (fun l s m => k1 l s m ∧ k2 l s m) := by
  rw [zst_36] at h1
  split at h1
  · exact ⟨h1, h2⟩
  · exact h1.elim
theorem zdt_37 {E : Nat → List zV → zMm → Option zV → zMm → Prop} {a b : Nat} {v : Int} {l : zLc} {s : List zV} {m : zMm} {K1 K2 : Nat → zLc → List zV → zMm → Prop} {Q1 Q2 : Option zV → zMm → Prop} {k1 k2 : zLc → List zV → zMm → Prop} (h1 : zst E (37, a, b, v) l s m K1 Q1 k1) (h2 : zst E (37, a, b, v) l s m K2 Q2 k2) : zst E (37, a, b, v) l s m (fun b l s m => K1 b l s m ∧ K2 b l s m) (fun r m => Q1 r m ∧ Q2 r m) (fun l s m => k1 l s m ∧ k2 l s m) := by
  rw [zst_37] at h1
  split at h1
  · exact ⟨h1, h2⟩
  · exact h1.elim
theorem zdt_38 {E : Nat → List zV → zMm → Option zV → zMm → Prop} {a b : Nat} {v : Int} {l : zLc} {s : List zV} {m : zMm} {K1 K2 : Nat → zLc → List zV → zMm → Prop} {Q1 Q2 : Option zV → zMm → Prop} {k1 k2 : zLc → List zV → zMm → Prop} (h1 : zst E (38, a, b, v) l s m K1 Q1 k1) (h2 : zst E (38, a, b, v) l s m K2 Q2 k2) : zst E (38, a, b, v) l s m (fun b l s m => K1 b l s m ∧ K2 b l s m) (fun r m => Q1 r m ∧ Q2 r m) (fun l s m => k1 l s m ∧ k2 l s m) := by
  rw [zst_38] at h1
  split at h1
  · exact ⟨h1, h2⟩
  · exact h1.elim
theorem zdt_39 {E : Nat → List zV → zMm → Option zV → zMm → Prop} {a b : Nat} {v : Int} {l : zLc} {s : List zV} {m : zMm} {K1 K2 : Nat → zLc → List zV → zMm → Prop} {Q1 Q2 : Option zV → zMm → Prop} {k1 k2 : zLc → List zV → zMm → Prop} (h1 : zst E (39, a, b, v) l s m K1 Q1 k1) (h2 : zst E (39, a, b, v) l s m K2 Q2 k2) : zst E (39, a, b, v) l s m (fun b l s m => K1 b l s m ∧ K2 b l s m) (fun r m => Q1 r m ∧ Q2 r m) (fun l s m => k1 l s m ∧ k2 l s m) := by
  rw [zst_39] at h1
  split at h1
  · exact ⟨h1, h2⟩
  · exact h1.elim
theorem zdt_40 {E : Nat → List zV → zMm → Option zV → zMm → Prop} {a b : Nat} {v : Int} {l : zLc} {s : List zV} {m : zMm} {K1 K2 : Nat → zLc → List zV → zMm → Prop} {Q1 Q2 : Option zV → zMm → Prop} {k1 k2 : zLc → List zV → zMm → Prop} (h1 : zst E (40, a, b, v) l s m K1 Q1 k1) (h2 : zst E (40, a, b, v) l s m K2 Q2 k2) : zst E (40, a, b, v) l s m (fun b l s m => K1 b l s m ∧ K2 b l s m) (fun r m => Q1 r m ∧ Q2 r m) (fun l s m => k1 l s m ∧ k2 l s m) := by
  rw [zst_40] at h1
  split at h1
  · exact ⟨h1.1, h1.2, And.right h2⟩
  · exact h1.elim
theorem zdt_41 {E : Nat → List zV → zMm → Option zV → zMm → Prop} {a b : Nat} {v : Int} {l : zLc} {s : List zV} {m : zMm} {K1 K2 : Nat → zLc → List zV → zMm → Prop} {Q1 Q2 : Option zV → zMm → Prop} {k1 k2 : zLc → List zV → zMm → Prop} (h1 : zst E (41, a, b, v) l s m K1 Q1 k1) (h2 : zst E (41, a, b, v) l s m K2 Q2 k2) : zst E (41, a, b, v) l s m (fun b l s m => K1 b l s m ∧ K2 b l s m) (fun r m => Q1 r m ∧ Q2 r m) (fun l s m => k1 l s m ∧ k2 l s m) := by
  rw [zst_41] at h1
  split at h1
  · exact ⟨h1.1, h1.2, And.right h2⟩
  · exact h1.elim
theorem zdt_42 {E : Nat → List zV → zMm → Option zV → zMm → Prop} {a b : Nat} {v : Int} {l : zLc} {s : List zV} {m : zMm} {K1 K2 : Nat → zLc → List zV → zMm → Prop} {Q1 Q2 : Option zV → zMm → Prop} {k1 k2 : zLc → List zV → zMm → Prop} (h1 : zst E (42, a, b, v) l s m K1 Q1 k1) (h2 : zst E (42, a, b, v) l s m K2 Q2 k2) : zst E (42, a, b, v) l s m (fun b l s m => K1 b l s m ∧ K2 b l s m) (fun r m => Q1 r m ∧ Q2 r m) (fun l s m => k1 l s m ∧ k2 l s m) := by
  rw [zst_42] at h1
  split at h1
  · exact ⟨h1, h2⟩
  · exact h1.elim
theorem zdt_43 {E : Nat → List zV → zMm → Option zV → zMm → Prop} {a b : Nat} {v : Int} {l : zLc} {s : List zV} {m : zMm} {K1 K2 : Nat → zLc → List zV → zMm → Prop} {Q1 Q2 : Option zV → zMm → Prop} {k1 k2 : zLc → List zV → zMm → Prop} (h1 : zst E (43, a, b, v) l s m K1 Q1 k1) (h2 : zst E (43, a, b, v) l s m K2 Q2 k2) : zst E (43, a, b, v) l s m (fun b l s m => K1 b l s m ∧ K2 b l s m) (fun r m => Q1 r m ∧ Q2 r m) (fun l s m => k1 l s m ∧ k2 l s m) := by
  rw [zst_43] at h1
  split at h1
  · exact ⟨h1, h2⟩
  · exact h1.elim
theorem zdt_44 {E : Nat → List zV → zMm → Option zV → zMm → Prop} {a b : Nat} {v : Int} {l : zLc} {s : List zV} {m : zMm} {K1 K2 : Nat → zLc → List zV → zMm → Prop} {Q1 Q2 : Option zV → zMm → Prop} {k1 k2 : zLc → List zV → zMm → Prop} (h1 : zst E (44, a, b, v) l s m K1 Q1 k1) (h2 : zst E (44, a, b, v) l s m K2 Q2 k2) : zst E (44, a, b, v) l s m (fun b l s m => K1 b l s m ∧ K2 b l s m) (fun r m => Q1 r m ∧ Q2 r m) (fun l s m => k1 l s m ∧ k2 l s m) := by
  rw [zst_44] at h1
  split at h1
  · exact ⟨h1, h2⟩
  · exact h1.elim
theorem zdt_45 {E : Nat → List zV → zMm → Option zV → zMm → Prop} {a b : Nat} {v : Int} {l : zLc} {s : List zV} {m : zMm} {K1 K2 : Nat → zLc → List zV → zMm → Prop} {Q1 Q2 : Option zV → zMm → Prop} {k1 k2 : zLc → List zV → zMm → Prop} (h1 : zst E (45, a, b, v) l s m K1 Q1 k1) (h2 : zst E (45, a, b, v) l s m K2 Q2 k2) : zst E (45, a, b, v) l s m (fun b l s m => K1 b l s m ∧ K2 b l s m) (fun r m => Q1 r m ∧ Q2 r m) (fun l s m => k1 l s m ∧ k2 l s m) := by
  rw [zst_45] at h1
  split at h1
  · exact ⟨h1, h2⟩
  · exact h1.elim
theorem zdt_46 {E : Nat → List zV → zMm → Option zV → zMm → Prop} {a b : Nat} {v : Int} {l : zLc} {s : List zV} {m : zMm} {K1 K2 : Nat → zLc → List zV → zMm → Prop} {Q1 Q2 : Option zV → zMm → Prop} {k1 k2 : zLc → List zV → zMm → Prop} (h1 : zst E (46, a, b, v) l s m K1 Q1 k1) (h2 : zst E (46, a, b, v) l s m K2 Q2 k2) : zst E (46, a, b, v) l s m (fun b l s m => K1 b l s m ∧ K2 b l s m) (fun r m => Q1 r m ∧ Q2 r m) (fun l s m => k1 l s m ∧ k2 l s m) := by
  rw [zst_46] at h1
  split at h1
  · exact ⟨h1, h2⟩
  · exact h1.elim
theorem zdt_47 {E : Nat → List zV → zMm → Option zV → zMm → Prop} {a b : Nat} {v : Int} {l : zLc} {s : List zV} {m : zMm} {K1 K2 : Nat → zLc → List zV → zMm → Prop} {Q1 Q2 : Option zV → zMm → Prop} {k1 k2 : zLc → List zV → zMm → Prop} (h1 : zst E (47, a, b, v) l s m K1 Q1 k1) (h2 : zst E (47, a, b, v) l s m K2 Q2 k2) : zst E (47, a, b, v) l s m (fun b l s m => K1 b l s m ∧ K2 b l s m) (fun r m => Q1 r m ∧ Q2 r m) (fun l s m => k1 l s m ∧ k2 l s m) := by
  rw [zst_47] at h1
  split at h1
  · exact ⟨h1, h2⟩
  · exact h1.elim
theorem zdt_48 {E : Nat → List zV → zMm → Option zV → zMm → Prop} {a b : Nat} {v : Int} {l : zLc} {s : List zV} {m : zMm} {K1 K2 : Nat → zLc → List zV → zMm → Prop} {Q1 Q2 : Option zV → zMm → Prop} {k1 k2 : zLc → List zV → zMm → Prop} (h1 : zst E (48, a, b, v) l s m K1 Q1 k1) (h2 : zst E (48, a, b, v) l s m K2 Q2 k2) : zst E (48, a, b, v) l s m (fun b l s m => K1 b l s m ∧ K2 b l s m) (fun r m => Q1 r m ∧ Q2 r m) (fun l s m => k1 l s m ∧ k2 l s m) := by
  rw [zst_48] at h1
  split at h1
  · exact ⟨h1, h2⟩
  · exact h1.elim
theorem zdt_49 {E : Nat → List zV → zMm → Option zV → zMm → Prop} {a b : Nat} {v : Int} {l : zLc} {s : List zV} {m : zMm} {K1 K2 : Nat → zLc → List zV → zMm → Prop} {Q1 Q2 : Option zV → zMm → Prop} {k1 k2 : zLc → List zV → zMm → Prop} (h1 : zst E (49, a, b, v) l s m K1 Q1 k1) (h2 : zst E (49, a, b, v) l s m K2 Q2 k2) : zst E (49, a, b, v) l s m (fun b l s m => K1 b l s m ∧ K2 b l s m) (fun r m => Q1 r m ∧ Q2 r m) (fun l s m => k1 l s m ∧ k2 l s m) := by
  rw [zst_49] at h1
  split at h1
  · exact ⟨h1, h2⟩
  · exact h1.elim
theorem zdt_50 {E : Nat → List zV → zMm → Option zV → zMm → Prop} {a b : Nat} {v : Int} {l : zLc} {s : List zV} {m : zMm} {K1 K2 : Nat → zLc → List zV → zMm → Prop} {Q1 Q2 : Option zV → zMm → Prop} {k1 k2 : zLc → List zV → zMm → Prop} (h1 : zst E (50, a, b, v) l s m K1 Q1 k1) (h2 : zst E (50, a, b, v) l s m K2 Q2 k2) : zst E (50, a, b, v) l s m (fun b l s m => K1 b l s m ∧ K2 b l s m) (fun r m => Q1 r m ∧ Q2 r m) (fun l s m => k1 l s m ∧ k2 l s m) := by
  rw [zst_50] at h1
  split at h1
  · exact ⟨h1, h2⟩
  · exact ⟨h1, h2⟩
  · exact h1.elim
theorem zdt_51 {E : Nat → List zV → zMm → Option zV → zMm → Prop} {a b : Nat} {v : Int} {l : zLc} {s : List zV} {m : zMm} {K1 K2 : Nat → zLc → List zV → zMm → Prop} {Q1 Q2 : Option zV → zMm → Prop} {k1 k2 : zLc → List zV → zMm → Prop} (h1 : zst E (51, a, b, v) l s m K1 Q1 k1) (h2 : zst E (51, a, b, v) l s m K2 Q2 k2) : zst E (51, a, b, v) l s m (fun b l s m => K1 b l s m ∧ K2 b l s m) (fun r m => Q1 r m ∧ Q2 r m) (fun l s m => k1 l s m ∧ k2 l s m) := by
  rw [zst_51] at h1
  split at h1
  · exact ⟨h1, h2⟩
  · exact h1.elim
theorem zdt_52 {E : Nat → List zV → zMm → Option zV → zMm → Prop} {a b : Nat} {v : Int} {l : zLc} {s : List zV} {m : zMm} {K1 K2 : Nat → zLc → List zV → zMm → Prop} {Q1 Q2 : Option zV → zMm → Prop} {k1 k2 : zLc → List zV → zMm → Prop} (h1 : zst E (52, a, b, v) l s m K1 Q1 k1) (h2 : zst E (52, a, b, v) l s m K2 Q2 k2) : zst E (52, a, b, v) l s m (fun b l s m => K1 b l s m ∧ K2 b l s m) (fun r m => Q1 r m ∧ Q2 r m) (fun l s m => k1 l s m ∧ k2 l s m) := by
  rw [zst_52] at h1
  split at h1
  · exact ⟨h1, h2⟩
  · exact h1.elim
theorem zdt_53 {E : Nat → List zV → zMm → Option zV → zMm → Prop} {a b : Nat} {v : Int} {l : zLc} {s : List zV} {m : zMm} {K1 K2 : Nat → zLc → List zV → zMm → Prop} {Q1 Q2 : Option zV → zMm → Prop} {k1 k2 : zLc → List zV → zMm → Prop} (h1 : zst E (53, a, b, v) l s m K1 Q1 k1) (h2 : zst E (53, a, b, v) l s m K2 Q2 k2) : zst E (53, a, b, v) l s m (fun b l s m => K1 b l s m ∧ K2 b l s m) (fun r m => Q1 r m ∧ Q2 r m) (fun l s m => k1 l s m ∧ k2 l s m) := by
  rw [zst_53] at h1 h2 ⊢
  split at h1
  · rename_i hx
    rw [hx] at h2
    first | exact ⟨h1, h2⟩ | (rw [hx]; exact ⟨h1, h2⟩)
  · exact h1.elim
theorem zdt_54 {E : Nat → List zV → zMm → Option zV → zMm → Prop} {a b : Nat} {v : Int} {l : zLc} {s : List zV} {m : zMm} {K1 K2 : Nat → zLc → List zV → zMm → Prop} {Q1 Q2 : Option zV → zMm → Prop} {k1 k2 : zLc → List zV → zMm → Prop} (h1 : zst E (54, a, b, v) l s m K1 Q1 k1) (h2 : zst E (54, a, b, v) l s m K2 Q2 k2) : zst E (54, a, b, v) l s m (fun b l s m => K1 b l s m ∧ K2 b l s m) (fun r m => Q1 r m ∧ Q2 r m) (fun l s m => k1 l s m ∧ k2 l s m) := by
  exact ⟨h1, h2⟩
theorem zdt_55 {E : Nat → List zV → zMm → Option zV → zMm → Prop} {a b : Nat} {v : Int} {l : zLc} {s : List zV} {m : zMm} {K1 K2 : Nat → zLc → List zV → zMm → Prop} {Q1 Q2 : Option zV → zMm → Prop} {k1 k2 : zLc → List zV → zMm → Prop} (h1 : zst E (55, a, b, v) l s m K1 Q1 k1) (h2 : zst E (55, a, b, v) l s m K2 Q2 k2) : zst E (55, a, b, v) l s m (fun b l s m => K1 b l s m ∧ K2 b l s m) (fun r m => Q1 r m ∧ Q2 r m) (fun l s m => k1 l s m ∧ k2 l s m) := by
  rw [zst_55] at h1
  split at h1
  · exact ⟨fun c => ⟨h1.1 c, (And.left h2) c⟩, fun c => ⟨h1.2 c, (And.right h2) c⟩⟩
  · exact h1.elim
theorem zdt_56 {E : Nat → List zV → zMm → Option zV → zMm → Prop} {a b : Nat} {v : Int} {l : zLc} {s : List zV} {m : zMm} {K1 K2 : Nat → zLc → List zV → zMm → Prop} {Q1 Q2 : Option zV → zMm → Prop} {k1 k2 : zLc → List zV → zMm → Prop} (h1 : zst E (56, a, b, v) l s m K1 Q1 k1) (h2 : zst E (56, a, b, v) l s m K2 Q2 k2) : zst E (56, a, b, v) l s m (fun b l s m => K1 b l s m ∧ K2 b l s m) (fun r m => Q1 r m ∧ Q2 r m) (fun l s m => k1 l s m ∧ k2 l s m) := by
  rw [zst_56] at h1
  split at h1
  · exact ⟨fun c => ⟨h1.1 c, (And.left h2) c⟩, fun c => ⟨h1.2 c, (And.right h2) c⟩⟩
  · exact h1.elim
theorem zdt_57 {E : Nat → List zV → zMm → Option zV → zMm → Prop} {a b : Nat} {v : Int} {l : zLc} {s : List zV} {m : zMm} {K1 K2 : Nat → zLc → List zV → zMm → Prop} {Q1 Q2 : Option zV → zMm → Prop} {k1 k2 : zLc → List zV → zMm → Prop} (h1 : zst E (57, a, b, v) l s m K1 Q1 k1) (h2 : zst E (57, a, b, v) l s m K2 Q2 k2) : zst E (57, a, b, v) l s m (fun b l s m => K1 b l s m ∧ K2 b l s m) (fun r m => Q1 r m ∧ Q2 r m) (fun l s m => k1 l s m ∧ k2 l s m) := by
  rw [zst_57] at h1
  split at h1
  · exact ⟨fun c => ⟨h1.1 c, (And.left h2) c⟩, fun c => ⟨h1.2 c, (And.right h2) c⟩⟩
  · exact h1.elim
theorem zdt_58 {E : Nat → List zV → zMm → Option zV → zMm → Prop} {a b : Nat} {v : Int} {l : zLc} {s : List zV} {m : zMm} {K1 K2 : Nat → zLc → List zV → zMm → Prop} {Q1 Q2 : Option zV → zMm → Prop} {k1 k2 : zLc → List zV → zMm → Prop} (h1 : zst E (58, a, b, v) l s m K1 Q1 k1) (h2 : zst E (58, a, b, v) l s m K2 Q2 k2) : zst E (58, a, b, v) l s m (fun b l s m => K1 b l s m ∧ K2 b l s m) (fun r m => Q1 r m ∧ Q2 r m) (fun l s m => k1 l s m ∧ k2 l s m) := by
  rw [zst_58] at h1
  split at h1
  · exact ⟨fun c => ⟨h1.1 c, (And.left h2) c⟩, fun c => ⟨h1.2 c, (And.right h2) c⟩⟩
  · exact h1.elim
theorem zdt_59 {E : Nat → List zV → zMm → Option zV → zMm → Prop} {a b : Nat} {v : Int} {l : zLc} {s : List zV} {m : zMm} {K1 K2 : Nat → zLc → List zV → zMm → Prop} {Q1 Q2 : Option zV → zMm → Prop} {k1 k2 : zLc → List zV → zMm → Prop} (h1 : zst E (59, a, b, v) l s m K1 Q1 k1) (h2 : zst E (59, a, b, v) l s m K2 Q2 k2) : zst E (59, a, b, v) l s m (fun b l s m => K1 b l s m ∧ K2 b l s m) (fun r m => Q1 r m ∧ Q2 r m) (fun l s m => k1 l s m ∧ k2 l s m) := by
  rw [zst_59] at h1
  split at h1
  · exact ⟨fun c => ⟨h1.1 c, (And.left h2) c⟩, fun c => ⟨h1.2 c, (And.right h2) c⟩⟩
  · exact h1.elim
theorem zdt_60 {E : Nat → List zV → zMm → Option zV → zMm → Prop} {a b : Nat} {v : Int} {l : zLc} {s : List zV} {m : zMm} {K1 K2 : Nat → zLc → List zV → zMm → Prop} {Q1 Q2 : Option zV → zMm → Prop} {k1 k2 : zLc → List zV → zMm → Prop} (h1 : zst E (60, a, b, v) l s m K1 Q1 k1) (h2 : zst E (60, a, b, v) l s m K2 Q2 k2) : zst E (60, a, b, v) l s m (fun b l s m => K1 b l s m ∧ K2 b l s m) (fun r m => Q1 r m ∧ Q2 r m) (fun l s m => k1 l s m ∧ k2 l s m) := by
  rw [zst_60] at h1
  split at h1
  · exact ⟨fun c => ⟨h1.1 c, (And.left h2) c⟩, fun c => ⟨h1.2 c, (And.right h2) c⟩⟩
  · exact h1.elim
theorem zdt_61 {E : Nat → List zV → zMm → Option zV → zMm → Prop} {a b : Nat} {v : Int} {l : zLc} {s : List zV} {m : zMm} {K1 K2 : Nat → zLc → List zV → zMm → Prop} {Q1 Q2 : Option zV → zMm → Prop} {k1 k2 : zLc → List zV → zMm → Prop} (h1 : zst E (61, a, b, v) l s m K1 Q1 k1) (h2 : zst E (61, a, b, v) l s m K2 Q2 k2) : zst E (61, a, b, v) l s m (fun b l s m => K1 b l s m ∧ K2 b l s m) (fun r m => Q1 r m ∧ Q2 r m) (fun l s m => k1 l s m ∧ k2 l s m) := by
  rw [zst_61] at h1
  split at h1
  · exact ⟨fun c => ⟨h1.1 c, (And.left h2) c⟩, fun c => ⟨h1.2 c, (And.right h2) c⟩⟩
  · exact h1.elim
theorem zdt_62 {E : Nat → List zV → zMm → Option zV → zMm → Prop} {a b : Nat} {v : Int} {l : zLc} {s : List zV} {m : zMm} {K1 K2 : Nat → zLc → List zV → zMm → Prop} {Q1 Q2 : Option zV → zMm → Prop} {k1 k2 : zLc → List zV → zMm → Prop} (h1 : zst E (62, a, b, v) l s m K1 Q1 k1) (h2 : zst E (62, a, b, v) l s m K2 Q2 k2) : zst E (62, a, b, v) l s m (fun b l s m => K1 b l s m ∧ K2 b l s m) (fun r m => Q1 r m ∧ Q2 r m) (fun l s m => k1 l s m ∧ k2 l s m) := by
  rw [zst_62] at h1
  split at h1
  · exact ⟨fun c => ⟨h1.1 c, (And.left h2) c⟩, fun c => ⟨h1.2 c, (And.right h2) c⟩⟩
  · exact h1.elim
theorem zdt_63 {E : Nat → List zV → zMm → Option zV → zMm → Prop} {a b : Nat} {v : Int} {l : zLc} {s : List zV} {m : zMm} {K1 K2 : Nat → zLc → List zV → zMm → Prop} {Q1 Q2 : Option zV → zMm → Prop} {k1 k2 : zLc → List zV → zMm → Prop} (h1 : zst E (63, a, b, v) l s m K1 Q1 k1) (h2 : zst E (63, a, b, v) l s m K2 Q2 k2) : zst E (63, a, b, v) l s m (fun b l s m => K1 b l s m ∧ K2 b l s m) (fun r m => Q1 r m ∧ Q2 r m) (fun l s m => k1 l s m ∧ k2 l s m) := by
  rw [zst_63] at h1
  split at h1
  · exact ⟨fun c => ⟨h1.1 c, (And.left h2) c⟩, fun c => ⟨h1.2 c, (And.right h2) c⟩⟩
  · exact h1.elim
theorem zdt_64 {E : Nat → List zV → zMm → Option zV → zMm → Prop} {a b : Nat} {v : Int} {l : zLc} {s : List zV} {m : zMm} {K1 K2 : Nat → zLc → List zV → zMm → Prop} {Q1 Q2 : Option zV → zMm → Prop} {k1 k2 : zLc → List zV → zMm → Prop} (h1 : zst E (64, a, b, v) l s m K1 Q1 k1) (h2 : zst E (64, a, b, v) l s m K2 Q2 k2) : zst E (64, a, b, v) l s m (fun b l s m => K1 b l s m ∧ K2 b l s m) (fun r m => Q1 r m ∧ Q2 r m) (fun l s m => k1 l s m ∧ k2 l s m) := by
  rw [zst_64] at h1
  split at h1
  · exact ⟨fun c => ⟨h1.1 c, (And.left h2) c⟩, fun c => ⟨h1.2 c, (And.right h2) c⟩⟩
  · exact h1.elim
theorem zdt_65 {E : Nat → List zV → zMm → Option zV → zMm → Prop} {a b : Nat} {v : Int} {l : zLc} {s : List zV} {m : zMm} {K1 K2 : Nat → zLc → List zV → zMm → Prop} {Q1 Q2 : Option zV → zMm → Prop} {k1 k2 : zLc → List zV → zMm → Prop} (h1 : zst E (65, a, b, v) l s m K1 Q1 k1) (h2 : zst E (65, a, b, v) l s m K2 Q2 k2) : zst E (65, a, b, v) l s m (fun b l s m => K1 b l s m ∧ K2 b l s m) (fun r m => Q1 r m ∧ Q2 r m) (fun l s m => k1 l s m ∧ k2 l s m) := by
  rw [zst_65] at h1
  split at h1
  · exact ⟨fun c => ⟨h1.1 c, (And.left h2) c⟩, fun c => ⟨h1.2 c, (And.right h2) c⟩⟩
  · exact h1.elim
theorem zdt_66 {E : Nat → List zV → zMm → Option zV → zMm → Prop} {a b : Nat} {v : Int} {l : zLc} {s : List zV} {m : zMm} {K1 K2 : Nat → zLc → List zV → zMm → Prop} {Q1 Q2 : Option zV → zMm → Prop} {k1 k2 : zLc → List zV → zMm → Prop} (h1 : zst E (66, a, b, v) l s m K1 Q1 k1) (h2 : zst E (66, a, b, v) l s m K2 Q2 k2) : zst E (66, a, b, v) l s m (fun b l s m => K1 b l s m ∧ K2 b l s m) (fun r m => Q1 r m ∧ Q2 r m) (fun l s m => k1 l s m ∧ k2 l s m) := by
  rw [zst_66] at h1
  split at h1
  · exact ⟨fun c => ⟨h1.1 c, (And.left h2) c⟩, fun c => ⟨h1.2 c, (And.right h2) c⟩⟩
  · exact h1.elim
theorem zdt_67 {E : Nat → List zV → zMm → Option zV → zMm → Prop} {a b : Nat} {v : Int} {l : zLc} {s : List zV} {m : zMm} {K1 K2 : Nat → zLc → List zV → zMm → Prop} {Q1 Q2 : Option zV → zMm → Prop} {k1 k2 : zLc → List zV → zMm → Prop} (h1 : zst E (67, a, b, v) l s m K1 Q1 k1) (h2 : zst E (67, a, b, v) l s m K2 Q2 k2) : zst E (67, a, b, v) l s m (fun b l s m => K1 b l s m ∧ K2 b l s m) (fun r m => Q1 r m ∧ Q2 r m) (fun l s m => k1 l s m ∧ k2 l s m) := by
  rw [zst_67] at h1
  split at h1
  · exact ⟨h1, h2⟩
  · exact h1.elim
theorem zdt_68 {E : Nat → List zV → zMm → Option zV → zMm → Prop} {a b : Nat} {v : Int} {l : zLc} {s : List zV} {m : zMm} {K1 K2 : Nat → zLc → List zV → zMm → Prop} {Q1 Q2 : Option zV → zMm → Prop} {k1 k2 : zLc → List zV → zMm → Prop} (hE : ∀ y as m r1 m1 r2 m2, E y as m r1 m1 → E y as m r2 m2 → r1 = r2 ∧ m1 = m2) (h1 : zst E (68, a, b, v) l s m K1 Q1 k1) (h2 : zst E (68, a, b, v) l s m K2 Q2 k2) : zst E (68, a, b, v) l s m (fun b l s m => K1 b l s m ∧ K2 b l s m) (fun r m => Q1 r m ∧ Q2 r m) (fun l s m => k1 l s m ∧ k2 l s m) := by
  obtain ⟨a0, a1, a2, r, m', a3, a4⟩ := (h1 : zrc b s v ∧ zcl E a b s m (fun s m => k1 l s m))
  obtain ⟨_, _, _, r2, m2, b3, b4⟩ := (h2 : zrc b s v ∧ zcl E a b s m (fun s m => k2 l s m))
  obtain ⟨rfl, rfl⟩ := hE _ _ _ _ _ _ _ a3 b3
  exact (show zrc b s v ∧ zcl E a b s m (fun s m => k1 l s m ∧ k2 l s m) from ⟨a0, a1, a2, r, m', a3, a4, b4⟩)
theorem zdt_69 {E : Nat → List zV → zMm → Option zV → zMm → Prop} {a b : Nat} {v : Int} {l : zLc} {s : List zV} {m : zMm} {K1 K2 : Nat → zLc → List zV → zMm → Prop} {Q1 Q2 : Option zV → zMm → Prop} {k1 k2 : zLc → List zV → zMm → Prop} (hE : ∀ y as m r1 m1 r2 m2, E y as m r1 m1 → E y as m r2 m2 → r1 = r2 ∧ m1 = m2) (h1 : zst E (69, a, b, v) l s m K1 Q1 k1) (h2 : zst E (69, a, b, v) l s m K2 Q2 k2) : zst E (69, a, b, v) l s m (fun b l s m => K1 b l s m ∧ K2 b l s m) (fun r m => Q1 r m ∧ Q2 r m) (fun l s m => k1 l s m ∧ k2 l s m) := by
  obtain ⟨a1, a2, r, m', a3, a4⟩ := (h1 : zcl E a b s m (fun s m => k1 l s m))
  obtain ⟨_, _, r2, m2, b3, b4⟩ := (h2 : zcl E a b s m (fun s m => k2 l s m))
  obtain ⟨rfl, rfl⟩ := hE _ _ _ _ _ _ _ a3 b3
  exact (show zcl E a b s m (fun s m => k1 l s m ∧ k2 l s m) from ⟨a1, a2, r, m', a3, a4, b4⟩)
theorem zdt_70 {E : Nat → List zV → zMm → Option zV → zMm → Prop} {a b : Nat} {v : Int} {l : zLc} {s : List zV} {m : zMm} {K1 K2 : Nat → zLc → List zV → zMm → Prop} {Q1 Q2 : Option zV → zMm → Prop} {k1 k2 : zLc → List zV → zMm → Prop} (h1 : zst E (70, a, b, v) l s m K1 Q1 k1) (h2 : zst E (70, a, b, v) l s m K2 Q2 k2) : zst E (70, a, b, v) l s m (fun b l s m => K1 b l s m ∧ K2 b l s m) (fun r m => Q1 r m ∧ Q2 r m) (fun l s m => k1 l s m ∧ k2 l s m) := by
  rw [zst_70] at h1
  split at h1
  · exact ⟨h1, h2⟩
  · exact h1.elim
theorem zdt_71 {E : Nat → List zV → zMm → Option zV → zMm → Prop} {a b : Nat} {v : Int} {l : zLc} {s : List zV} {m : zMm} {K1 K2 : Nat → zLc → List zV → zMm → Prop} {Q1 Q2 : Option zV → zMm → Prop} {k1 k2 : zLc → List zV → zMm → Prop} (h1 : zst E (71, a, b, v) l s m K1 Q1 k1) (h2 : zst E (71, a, b, v) l s m K2 Q2 k2) : zst E (71, a, b, v) l s m (fun b l s m => K1 b l s m ∧ K2 b l s m) (fun r m => Q1 r m ∧ Q2 r m) (fun l s m => k1 l s m ∧ k2 l s m) := by
  rw [zst_71] at h1
  split at h1
  · exact ⟨h1, h2⟩
  · exact h1.elim
theorem zdt_72 {E : Nat → List zV → zMm → Option zV → zMm → Prop} {a b : Nat} {v : Int} {l : zLc} {s : List zV} {m : zMm} {K1 K2 : Nat → zLc → List zV → zMm → Prop} {Q1 Q2 : Option zV → zMm → Prop} {k1 k2 : zLc → List zV → zMm → Prop} (h1 : zst E (72, a, b, v) l s m K1 Q1 k1) (h2 : zst E (72, a, b, v) l s m K2 Q2 k2) : zst E (72, a, b, v) l s m (fun b l s m => K1 b l s m ∧ K2 b l s m) (fun r m => Q1 r m ∧ Q2 r m) (fun l s m => k1 l s m ∧ k2 l s m) := by
  rw [zst_72] at h1
  split at h1
  · exact ⟨h1, h2⟩
  · exact h1.elim
theorem zdt_73 {E : Nat → List zV → zMm → Option zV → zMm → Prop} {a b : Nat} {v : Int} {l : zLc} {s : List zV} {m : zMm} {K1 K2 : Nat → zLc → List zV → zMm → Prop} {Q1 Q2 : Option zV → zMm → Prop} {k1 k2 : zLc → List zV → zMm → Prop} (h1 : zst E (73, a, b, v) l s m K1 Q1 k1) (h2 : zst E (73, a, b, v) l s m K2 Q2 k2) : zst E (73, a, b, v) l s m (fun b l s m => K1 b l s m ∧ K2 b l s m) (fun r m => Q1 r m ∧ Q2 r m) (fun l s m => k1 l s m ∧ k2 l s m) := by
  exact ⟨h1, h2⟩
theorem zdt_74 {E : Nat → List zV → zMm → Option zV → zMm → Prop} {a b : Nat} {v : Int} {l : zLc} {s : List zV} {m : zMm} {K1 K2 : Nat → zLc → List zV → zMm → Prop} {Q1 Q2 : Option zV → zMm → Prop} {k1 k2 : zLc → List zV → zMm → Prop} (h1 : zst E (74, a, b, v) l s m K1 Q1 k1) (h2 : zst E (74, a, b, v) l s m K2 Q2 k2) : zst E (74, a, b, v) l s m (fun b l s m => K1 b l s m ∧ K2 b l s m) (fun r m => Q1 r m ∧ Q2 r m) (fun l s m => k1 l s m ∧ k2 l s m) := by
  rw [zst_74] at h1
  split at h1
  · exact ⟨h1.1, h1.2.1, h1.2.2, And.right (And.right h2)⟩
  · exact h1.elim
theorem zdt_75 {E : Nat → List zV → zMm → Option zV → zMm → Prop} {a b : Nat} {v : Int} {l : zLc} {s : List zV} {m : zMm} {K1 K2 : Nat → zLc → List zV → zMm → Prop} {Q1 Q2 : Option zV → zMm → Prop} {k1 k2 : zLc → List zV → zMm → Prop} (h1 : zst E (75, a, b, v) l s m K1 Q1 k1) (h2 : zst E (75, a, b, v) l s m K2 Q2 k2) : zst E (75, a, b, v) l s m (fun b l s m => K1 b l s m ∧ K2 b l s m) (fun r m => Q1 r m ∧ Q2 r m) (fun l s m => k1 l s m ∧ k2 l s m) := by
  rw [zst_75] at h1
  split at h1
  · exact ⟨h1.1, h1.2, And.right h2⟩
  · exact h1.elim
theorem zdt_76 {E : Nat → List zV → zMm → Option zV → zMm → Prop} {a b : Nat} {v : Int} {l : zLc} {s : List zV} {m : zMm} {K1 K2 : Nat → zLc → List zV → zMm → Prop} {Q1 Q2 : Option zV → zMm → Prop} {k1 k2 : zLc → List zV → zMm → Prop} (h1 : zst E (76, a, b, v) l s m K1 Q1 k1) (h2 : zst E (76, a, b, v) l s m K2 Q2 k2) : zst E (76, a, b, v) l s m (fun b l s m => K1 b l s m ∧ K2 b l s m) (fun r m => Q1 r m ∧ Q2 r m) (fun l s m => k1 l s m ∧ k2 l s m) := by
  rw [zst_76] at h1
  split at h1
  · exact ⟨h1.1, h1.2, And.right h2⟩
  · exact h1.elim
theorem zdt_78 {E : Nat → List zV → zMm → Option zV → zMm → Prop} {a b : Nat} {v : Int} {l : zLc} {s : List zV} {m : zMm} {K1 K2 : Nat → zLc → List zV → zMm → Prop} {Q1 Q2 : Option zV → zMm → Prop} {k1 k2 : zLc → List zV → zMm → Prop} (hE : ∀ y as m r1 m1 r2 m2, E y as m r1 m1 → E y as m r2 m2 → r1 = r2 ∧ m1 = m2) (h1 : zst E (78, a, b, v) l s m K1 Q1 k1) (h2 : zst E (78, a, b, v) l s m K2 Q2 k2) : zst E (78, a, b, v) l s m (fun b l s m => K1 b l s m ∧ K2 b l s m) (fun r m => Q1 r m ∧ Q2 r m) (fun l s m => k1 l s m ∧ k2 l s m) := by
  obtain ⟨a1, a2, r, m', a3, a4⟩ := (h1 : zcl E a b s m (fun s m => k1 l s m))
  obtain ⟨_, _, r2, m2, b3, b4⟩ := (h2 : zcl E a b s m (fun s m => k2 l s m))
  obtain ⟨rfl, rfl⟩ := hE _ _ _ _ _ _ _ a3 b3
  exact (show zcl E a b s m (fun s m => k1 l s m ∧ k2 l s m) from ⟨a1, a2, r, m', a3, a4, b4⟩)
theorem zdt {E : Nat → List zV → zMm → Option zV → zMm → Prop} (hE : ∀ y as m r1 m1 r2 m2, E y as m r1 m1 → E y as m r2 m2 → r1 = r2 ∧ m1 = m2) {o : zOp} {l : zLc} {s : List zV} {m : zMm} {K1 K2 : Nat → zLc → List zV → zMm → Prop} {Q1 Q2 : Option zV → zMm → Prop} {k1 k2 : zLc → List zV → zMm → Prop} (h1 : zst E o l s m K1 Q1 k1) (h2 : zst E o l s m K2 Q2 k2) : zst E o l s m (fun b l s m => K1 b l s m ∧ K2 b l s m) (fun r m => Q1 r m ∧ Q2 r m) (fun l s m => k1 l s m ∧ k2 l s m) := by
  obtain ⟨op, a, b, v⟩ := o
  have h0 := zst_no h1
  simp only [List.mem_cons, List.not_mem_nil, or_false] at h0
  rcases h0 with rfl | rfl | rfl | rfl | rfl | rfl | rfl | rfl | rfl | rfl | rfl | rfl | rfl | rfl | rfl | rfl | rfl | rfl | rfl | rfl | rfl | rfl | rfl | rfl | rfl | rfl | rfl | rfl | rfl | rfl | rfl | rfl | rfl | rfl | rfl | rfl | rfl | rfl | rfl | rfl | rfl | rfl | rfl | rfl | rfl | rfl | rfl | rfl | rfl | rfl | rfl | rfl | rfl | rfl | rfl | rfl | rfl | rfl | rfl | rfl | rfl | rfl | rfl | rfl | rfl | rfl | rfl | rfl | rfl | rfl | rfl | rfl | rfl | rfl | rfl
  · exact zdt_1 h1 h2
  · exact zdt_2 h1 h2
  · exact zdt_3 h1 h2
  · exact zdt_4 h1 h2
  · exact zdt_5 h1 h2
  · exact zdt_6 h1 h2
  · exact zdt_7 h1 h2
  · exact zdt_8 h1 h2
  · exact zdt_9 h1 h2
  · exact zdt_10 h1 h2
  · exact zdt_11 h1 h2
  · exact zdt_12 h1 h2
  · exact zdt_13 h1 h2
  · exact zdt_14 h1 h2
  · exact zdt_15 h1 h2
  · exact zdt_16 h1 h2
  · exact zdt_17 h1 h2
  · exact zdt_19 h1 h2
  · exact zdt_20 h1 h2
  · exact zdt_21 h1 h2
  · exact zdt_22 h1 h2
  · exact zdt_24 h1 h2
  · exact zdt_25 h1 h2
  · exact zdt_26 h1 h2
  · exact zdt_27 h1 h2
  · exact zdt_28 h1 h2
  · exact zdt_29 h1 h2
  · exact zdt_30 h1 h2
  · exact zdt_31 h1 h2
  · exact zdt_32 h1 h2
  · exact zdt_33 h1 h2
  · exact zdt_34 h1 h2
  · exact zdt_35 h1 h2
  · exact zdt_36 h1 h2
  · exact zdt_37 h1 h2
  · exact zdt_38 h1 h2
  · exact zdt_39 h1 h2
  · exact zdt_40 h1 h2
  · exact zdt_41 h1 h2
  · exact zdt_42 h1 h2
  · exact zdt_43 h1 h2
  · exact zdt_44 h1 h2
  · exact zdt_45 h1 h2
  · exact zdt_46 h1 h2
  · exact zdt_47 h1 h2
  · exact zdt_48 h1 h2
  · exact zdt_49 h1 h2
  · exact zdt_50 h1 h2
  · exact zdt_51 h1 h2
  · exact zdt_52 h1 h2
  · exact zdt_53 h1 h2
  · exact zdt_54 h1 h2
  · exact zdt_55 h1 h2
  · exact zdt_56 h1 h2
  · exact zdt_57 h1 h2
  · exact zdt_58 h1 h2
  · exact zdt_59 h1 h2
  · exact zdt_60 h1 h2
  · exact zdt_61 h1 h2
  · exact zdt_62 h1 h2
  · exact zdt_63 h1 h2
  · exact zdt_64 h1 h2
  · exact zdt_65 h1 h2
  · exact zdt_66 h1 h2
  · exact zdt_67 h1 h2
  · exact zdt_68 hE h1 h2
  · exact zdt_69 hE h1 h2
  · exact zdt_70 h1 h2
  · exact zdt_71 h1 h2
  · exact zdt_72 h1 h2
  · exact zdt_73 h1 h2
  · exact zdt_74 h1 h2
  · exact zdt_75 h1 h2
  · exact zdt_76 h1 h2
  · exact zdt_78 hE h1 h2
theorem zst_k {E : Nat → List zV → zMm → Option zV → zMm → Prop} {o : zOp} {l : zLc} {s : List zV} {m : zMm} {K K' : Nat → zLc → List zV → zMm → Prop} {Q Q' : Option zV → zMm → Prop} {k k' : zLc → List zV → zMm → Prop} (hK : ∀ b l s m, K b l s m → K' b l s m) (hQ : ∀ r m, Q r m → Q' r m) (hk : ∀ l s m, k l s m → k' l s m) (h : zst E o l s m K Q k) : zst E o l s m K' Q' k' := by
  rcases zpt h with ⟨b, l', s', m', h1, h2⟩ | ⟨r', m', h1, h2⟩ | ⟨l', s', m', h1, h2⟩
  · exact h2 _ _ _ (hK _ _ _ _ h1)
  · exact h2 _ _ _ (hQ _ _ h1)
  · exact h2 _ _ _ (hk _ _ _ h1)
theorem zrun_dt {E : Nat → List zV → zMm → Option zV → zMm → Prop} (hE : ∀ y as m r1 m1 r2 m2, E y as m r1 m1 → E y as m r2 m2 → r1 = r2 ∧ m1 = m2) : ∀ {os : List zOp} {l : zLc} {s : List zV} {m : zMm} {K1 K2 : Nat → zLc → List zV → zMm → Prop} {Q1 Q2 : Option zV → zMm → Prop}, zrun E os l s m K1 Q1 → zrun E os l s m K2 Q2 → zrun E os l s m (fun b l s m => K1 b l s m ∧ K2 b l s m) (fun r m => Q1 r m ∧ Q2 r m)
  | [], _, _, _, _, _, _, _, h, _ => h
  | o :: r, l, s, m, K1, K2, Q1, Q2, h1, h2 => by
    have g1 : zst E o l s m K1 Q1 (fun l s m => zrun E r l s m K1 Q1) := h1
    have g2 : zst E o l s m K2 Q2 (fun l s m => zrun E r l s m K2 Q2) := h2
    exact zst_k (fun _ _ _ _ h => h) (fun _ _ h => h) (fun _ _ _ h => zrun_dt hE h.1 h.2) (zdt hE g1 g2)
theorem zWPn_succ {E : Nat → List zV → zMm → Option zV → zMm → Prop} : ∀ {n y b : Nat} {l : zLc} {s : List zV} {m : zMm} {Q : Option zV → zMm → Prop}, zWPn E n y b l s m Q → zWPn E (n + 1) y b l s m Q
  | 0, _, _, _, _, _, _, h => h.elim
  | n + 1, y, b, l, s, m, Q, h => zrun_kq (fun _ _ _ _ h => zWPn_succ h) (fun _ _ h => h) (h : zrun E (zbl y b) l s m (fun b' l' s' m' => zWPn E n y b' l' s' m' Q) Q)
theorem zWPn_le {E : Nat → List zV → zMm → Option zV → zMm → Prop} {n n' y b : Nat} {l : zLc} {s : List zV} {m : zMm} {Q : Option zV → zMm → Prop} (hn : n ≤ n') (h : zWPn E n y b l s m Q) : zWPn E n' y b l s m Q := by
  induction hn with
  | refl => exact h
  | step _ ih => exact zWPn_succ ih
theorem zWPn_dt {E : Nat → List zV → zMm → Option zV → zMm → Prop} (hE : ∀ y as m r1 m1 r2 m2, E y as m r1 m1 → E y as m r2 m2 → r1 = r2 ∧ m1 = m2) : ∀ {n y b : Nat} {l : zLc} {s : List zV} {m : zMm} {Q1 Q2 : Option zV → zMm → Prop}, zWPn E n y b l s m Q1 → zWPn E n y b l s m Q2 → zWPn E n y b l s m (fun r m => Q1 r m ∧ Q2 r m)
  | 0, _, _, _, _, _, _, _, h, _ => h
  | n + 1, y, b, l, s, m, Q1, Q2, h1, h2 => zrun_kq (fun _ _ _ _ h => zWPn_dt hE h.1 h.2) (fun _ _ h => h) (zrun_dt hE (h1 : zrun E (zbl y b) l s m (fun b' l' s' m' => zWPn E n y b' l' s' m' Q1) Q1) (h2 : zrun E (zbl y b) l s m (fun b' l' s' m' => zWPn E n y b' l' s' m' Q2) Q2))
theorem zpr_dt {y : Nat} {as : List zV} {m m1 m2 : zMm} {r1 r2 : Option zV} (h1 : zpr y as m r1 m1) (h2 : zpr y as m r2 m2) : r1 = r2 ∧ m1 = m2 := by
  unfold zpr at h1 h2
  by_cases e0 : y = 1000
  · rw [if_pos e0] at h1 h2
    split at h1
    · exact ⟨h1.1.trans h2.1.symm, h1.2.2.2.trans h2.2.2.2.symm⟩
    · exact h1.elim
  · rw [if_neg e0] at h1 h2
    by_cases e1 : y = 1001
    · rw [if_pos e1] at h1 h2
      split at h1
      · obtain ⟨a1, k, a2, a3, a4⟩ := h1
        obtain ⟨b1, k2, b2, b3, b4⟩ := h2
        have : k = k2 := by omega
        subst this
        exact ⟨a4.trans b4.symm, a1.trans b1.symm⟩
      · exact h1.elim
    · rw [if_neg e1] at h1 h2
      split at h1
      · obtain ⟨a1, k, a2, a3, a5, a4⟩ := h1
        obtain ⟨b1, k2, b2, b3, b5, b4⟩ := h2
        have : k = k2 := by omega
        subst this
        exact ⟨a4.trans b4.symm, a1.trans b1.symm⟩
      · exact h1.elim
theorem zEx_dt : ∀ {d y : Nat} {as : List zV} {m m1 m2 : zMm} {r1 r2 : Option zV}, zEx d y as m r1 m1 → zEx d y as m r2 m2 → r1 = r2 ∧ m1 = m2
  | 0, _, _, _, _, _, _, _, h, _ => h.elim
  | d + 1, y, as, m, m1, m2, r1, r2, h1, h2 => by
    rcases (h1 : (1000 ≤ y ∧ zpr y as m r1 m1) ∨ _) with ⟨a1, a2⟩ | ⟨a1, n1, a2⟩ <;> rcases (h2 : (1000 ≤ y ∧ zpr y as m r2 m2) ∨ _) with ⟨b1, b2⟩ | ⟨b1, n2, b2⟩
    · exact zpr_dt a2 b2
    · omega
    · omega
    · have c1 := zWPn_le (Nat.le_max_left n1 n2) a2
      have c2 := zWPn_le (Nat.le_max_right n1 n2) b2
      obtain ⟨r, m', ⟨⟨e1, e2⟩, e3, e4⟩, -⟩ := zWPn_pt (zWPn_dt (E := zEx d) (fun _ _ _ _ _ _ _ h h' => zEx_dt h h') c1 c2)
      exact ⟨e1.symm.trans e3, e2.symm.trans e4⟩
/-- a call whose end is known -/
theorem zcl_eq {d y n : Nat} {s as rest : List zV} {m m' : zMm} {r : Option zV} {k : List zV → zMm → Prop} (h : zEx d y as m r m') (hs : s = as.reverse ++ rest) (hn : as.length = n) : zcl (zEx d) y n s m k = (zcat rest ≤ 8 ∧ k (r.toList ++ rest) m') := by
  have e1 : s.take n = as.reverse := by rw [hs, ← hn, ← List.length_reverse]; exact List.take_left
  have e2 : s.drop n = rest := by rw [hs, ← hn, ← List.length_reverse]; exact List.drop_left
  apply propext
  unfold zcl
  rw [e1, e2, List.reverse_reverse]
  constructor
  · rintro ⟨-, h2, r2, m2, h3, h4⟩
    obtain ⟨rfl, rfl⟩ := zEx_dt h h3
    exact ⟨h2, h4⟩
  · rintro ⟨h2, h4⟩
    exact ⟨by rw [hs, List.length_append, List.length_reverse, hn]; omega, h2, r, m', h, h4⟩
theorem zcat_n : zcat [] = 0 := rfl
theorem zcat_i {x : Int} {t : List zV} : zcat (.inl x :: t) = zcat t + 1 := rfl
theorem zcat_l {x : Int} {t : List zV} : zcat (.inr (.inl x) :: t) = zcat t + 2 := rfl
theorem zcat_r {x : Int} {t : List zV} : zcat (.inr (.inr x) :: t) = zcat t + 1 := rfl
theorem zC_eq {d y : Nat} {as : List zV} {m : zMm} {r : Option zV} {m' : zMm} : zC d y as m (fun r' m'' => r' = r ∧ m'' = m') ↔ zEx d y as m r m' := by
  constructor
  · rintro ⟨r2, m2, h, rfl, rfl⟩; exact h
  · intro h; exact ⟨r, m', h, rfl, rfl⟩
