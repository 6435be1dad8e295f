/-! ===== the law: what its rows leave alone ===== -/
theorem zv_1 {E : Nat → List zV → zMm → Option zV → zMm → Prop} {P : zMm → Prop} {a b : Nat} {v : Int} {l : zLc} {s : List zV} {m : zMm} {K : Nat → zLc → List zV → zMm → Prop} {Q : Option zV → zMm → Prop} {k : zLc → List zV → zMm → Prop} (h : zst E (1, a, b, v) l s m K Q k) (hm : P m) : zst E (1, a, b, v) l s m (fun b l s m => K b l s m ∧ P m) Q (fun l s m => k l s m ∧ P m) := by
  rw [zst_1] at h ⊢
  first
    | exact ⟨h, hm⟩
    | (split at h <;> first | exact h.elim | (rename_i hx; rw [hx]; exact ⟨h, hm⟩) | exact ⟨h, hm⟩ | exact ⟨h.1, h.2, hm⟩ | exact ⟨fun c => ⟨h.1 c, hm⟩, fun c => ⟨h.2 c, hm⟩⟩ | (rename_i hx; rw [hx]; exact ⟨fun c => ⟨h.1 c, hm⟩, fun c => ⟨h.2 c, hm⟩⟩))
theorem zv_3 {E : Nat → List zV → zMm → Option zV → zMm → Prop} {P : zMm → Prop} {a b : Nat} {v : Int} {l : zLc} {s : List zV} {m : zMm} {K : Nat → zLc → List zV → zMm → Prop} {Q : Option zV → zMm → Prop} {k : zLc → List zV → zMm → Prop} (h : zst E (3, a, b, v) l s m K Q k) (hm : P m) : zst E (3, a, b, v) l s m (fun b l s m => K b l s m ∧ P m) Q (fun l s m => k l s m ∧ P m) := by
  rw [zst_3] at h ⊢
  first
    | exact ⟨h, hm⟩
    | (split at h <;> first | exact h.elim | (rename_i hx; rw [hx]; exact ⟨h, hm⟩) | exact ⟨h, hm⟩ | exact ⟨h.1, h.2, hm⟩ | exact ⟨fun c => ⟨h.1 c, hm⟩, fun c => ⟨h.2 c, hm⟩⟩ | (rename_i hx; rw [hx]; exact ⟨fun c => ⟨h.1 c, hm⟩, fun c => ⟨h.2 c, hm⟩⟩))
theorem zv_7 {E : Nat → List zV → zMm → Option zV → zMm → Prop} {P : zMm → Prop} {a b : Nat} {v : Int} {l : zLc} {s : List zV} {m : zMm} {K : Nat → zLc → List zV → zMm → Prop} {Q : Option zV → zMm → Prop} {k : zLc → List zV → zMm → Prop} (h : zst E (7, a, b, v) l s m K Q k) (hm : P m) : zst E (7, a, b, v) l s m (fun b l s m => K b l s m ∧ P m) Q (fun l s m => k l s m ∧ P m) := by
  rw [zst_7] at h ⊢
  first
    | exact ⟨h, hm⟩
    | (split at h <;> first | exact h.elim | (rename_i hx; rw [hx]; exact ⟨h, hm⟩) | exact ⟨h, hm⟩ | exact ⟨h.1, h.2, hm⟩ | exact ⟨fun c => ⟨h.1 c, hm⟩, fun c => ⟨h.2 c, hm⟩⟩ | (rename_i hx; rw [hx]; exact ⟨fun c => ⟨h.1 c, hm⟩, fun c => ⟨h.2 c, hm⟩⟩))
theorem zv_8 {E : Nat → List zV → zMm → Option zV → zMm → Prop} {P : zMm → Prop} {a b : Nat} {v : Int} {l : zLc} {s : List zV} {m : zMm} {K : Nat → zLc → List zV → zMm → Prop} {Q : Option zV → zMm → Prop} {k : zLc → List zV → zMm → Prop} (h : zst E (8, a, b, v) l s m K Q k) (hm : P m) : zst E (8, a, b, v) l s m (fun b l s m => K b l s m ∧ P m) Q (fun l s m => k l s m ∧ P m) := by
  rw [zst_8] at h ⊢
  first
    | exact ⟨h, hm⟩
    | (split at h <;> first | exact h.elim | (rename_i hx; rw [hx]; exact ⟨h, hm⟩) | exact ⟨h, hm⟩ | exact ⟨h.1, h.2, hm⟩ | exact ⟨fun c => ⟨h.1 c, hm⟩, fun c => ⟨h.2 c, hm⟩⟩ | (rename_i hx; rw [hx]; exact ⟨fun c => ⟨h.1 c, hm⟩, fun c => ⟨h.2 c, hm⟩⟩))
theorem zv_26 {E : Nat → List zV → zMm → Option zV → zMm → Prop} {P : zMm → Prop} {a b : Nat} {v : Int} {l : zLc} {s : List zV} {m : zMm} {K : Nat → zLc → List zV → zMm → Prop} {Q : Option zV → zMm → Prop} {k : zLc → List zV → zMm → Prop} (h : zst E (26, a, b, v) l s m K Q k) (hm : P m) : zst E (26, a, b, v) l s m (fun b l s m => K b l s m ∧ P m) Q (fun l s m => k l s m ∧ P m) := by
  rw [zst_26] at h ⊢
  first
    | exact ⟨h, hm⟩
    | (split at h <;> first | exact h.elim | (rename_i hx; rw [hx]; exact ⟨h, hm⟩) | exact ⟨h, hm⟩ | exact ⟨h.1, h.2, hm⟩ | exact ⟨fun c => ⟨h.1 c, hm⟩, fun c => ⟨h.2 c, hm⟩⟩ | (rename_i hx; rw [hx]; exact ⟨fun c => ⟨h.1 c, hm⟩, fun c => ⟨h.2 c, hm⟩⟩))
theorem zv_27 {E : Nat → List zV → zMm → Option zV → zMm → Prop} {P : zMm → Prop} {a b : Nat} {v : Int} {l : zLc} {s : List zV} {m : zMm} {K : Nat → zLc → List zV → zMm → Prop} {Q : Option zV → zMm → Prop} {k : zLc → List zV → zMm → Prop} (h : zst E (27, a, b, v) l s m K Q k) (hm : P m) : zst E (27, a, b, v) l s m (fun b l s m => K b l s m ∧ P m) Q (fun l s m => k l s m ∧ P m) := by
  rw [zst_27] at h ⊢
  first
    | exact ⟨h, hm⟩
    | (split at h <;> first | exact h.elim | (rename_i hx; rw [hx]; exact ⟨h, hm⟩) | exact ⟨h, hm⟩ | exact ⟨h.1, h.2, hm⟩ | exact ⟨fun c => ⟨h.1 c, hm⟩, fun c => ⟨h.2 c, hm⟩⟩ | (rename_i hx; rw [hx]; exact ⟨fun c => ⟨h.1 c, hm⟩, fun c => ⟨h.2 c, hm⟩⟩))
theorem zv_31 {E : Nat → List zV → zMm → Option zV → zMm → Prop} {P : zMm → Prop} {a b : Nat} {v : Int} {l : zLc} {s : List zV} {m : zMm} {K : Nat → zLc → List zV → zMm → Prop} {Q : Option zV → zMm → Prop} {k : zLc → List zV → zMm → Prop} (h : zst E (31, a, b, v) l s m K Q k) (hm : P m) : zst E (31, a, b, v) l s m (fun b l s m => K b l s m ∧ P m) Q (fun l s m => k l s m ∧ P m) := by
  rw [zst_31] at h ⊢
  first
    | exact ⟨h, hm⟩
    | (split at h <;> first | exact h.elim | (rename_i hx; rw [hx]; exact ⟨h, hm⟩) | exact ⟨h, hm⟩ | exact ⟨h.1, h.2, hm⟩ | exact ⟨fun c => ⟨h.1 c, hm⟩, fun c => ⟨h.2 c, hm⟩⟩ | (rename_i hx; rw [hx]; exact ⟨fun c => ⟨h.1 c, hm⟩, fun c => ⟨h.2 c, hm⟩⟩))
theorem zv_42 {E : Nat → List zV → zMm → Option zV → zMm → Prop} {P : zMm → Prop} {a b : Nat} {v : Int} {l : zLc} {s : List zV} {m : zMm} {K : Nat → zLc → List zV → zMm → Prop} {Q : Option zV → zMm → Prop} {k : zLc → List zV → zMm → Prop} (h : zst E (42, a, b, v) l s m K Q k) (hm : P m) : zst E (42, a, b, v) l s m (fun b l s m => K b l s m ∧ P m) Q (fun l s m => k l s m ∧ P m) := by
  rw [zst_42] at h ⊢
  first
    | exact ⟨h, hm⟩
    | (split at h <;> first | exact h.elim | (rename_i hx; rw [hx]; exact ⟨h, hm⟩) | exact ⟨h, hm⟩ | exact ⟨h.1, h.2, hm⟩ | exact ⟨fun c => ⟨h.1 c, hm⟩, fun c => ⟨h.2 c, hm⟩⟩ | (rename_i hx; rw [hx]; exact ⟨fun c => ⟨h.1 c, hm⟩, fun c => ⟨h.2 c, hm⟩⟩))
theorem zv_43 {E : Nat → List zV → zMm → Option zV → zMm → Prop} {P : zMm → Prop} {a b : Nat} {v : Int} {l : zLc} {s : List zV} {m : zMm} {K : Nat → zLc → List zV → zMm → Prop} {Q : Option zV → zMm → Prop} {k : zLc → List zV → zMm → Prop} (h : zst E (43, a, b, v) l s m K Q k) (hm : P m) : zst E (43, a, b, v) l s m (fun b l s m => K b l s m ∧ P m) Q (fun l s m => k l s m ∧ P m) := by
  rw [zst_43] at h ⊢
  first
    | exact ⟨h, hm⟩
    | (split at h <;> first | exact h.elim | (rename_i hx; rw [hx]; exact ⟨h, hm⟩) | exact ⟨h, hm⟩ | exact ⟨h.1, h.2, hm⟩ | exact ⟨fun c => ⟨h.1 c, hm⟩, fun c => ⟨h.2 c, hm⟩⟩ | (rename_i hx; rw [hx]; exact ⟨fun c => ⟨h.1 c, hm⟩, fun c => ⟨h.2 c, hm⟩⟩))
theorem zv_44 {E : Nat → List zV → zMm → Option zV → zMm → Prop} {P : zMm → Prop} {a b : Nat} {v : Int} {l : zLc} {s : List zV} {m : zMm} {K : Nat → zLc → List zV → zMm → Prop} {Q : Option zV → zMm → Prop} {k : zLc → List zV → zMm → Prop} (h : zst E (44, a, b, v) l s m K Q k) (hm : P m) : zst E (44, a, b, v) l s m (fun b l s m => K b l s m ∧ P m) Q (fun l s m => k l s m ∧ P m) := by
  rw [zst_44] at h ⊢
  first
    | exact ⟨h, hm⟩
    | (split at h <;> first | exact h.elim | (rename_i hx; rw [hx]; exact ⟨h, hm⟩) | exact ⟨h, hm⟩ | exact ⟨h.1, h.2, hm⟩ | exact ⟨fun c => ⟨h.1 c, hm⟩, fun c => ⟨h.2 c, hm⟩⟩ | (rename_i hx; rw [hx]; exact ⟨fun c => ⟨h.1 c, hm⟩, fun c => ⟨h.2 c, hm⟩⟩))
theorem zv_45 {E : Nat → List zV → zMm → Option zV → zMm → Prop} {P : zMm → Prop} {a b : Nat} {v : Int} {l : zLc} {s : List zV} {m : zMm} {K : Nat → zLc → List zV → zMm → Prop} {Q : Option zV → zMm → Prop} {k : zLc → List zV → zMm → Prop} (h : zst E (45, a, b, v) l s m K Q k) (hm : P m) : zst E (45, a, b, v) l s m (fun b l s m => K b l s m ∧ P m) Q (fun l s m => k l s m ∧ P m) := by
  rw [zst_45] at h ⊢
  first
    | exact ⟨h, hm⟩
    | (split at h <;> first | exact h.elim | (rename_i hx; rw [hx]; exact ⟨h, hm⟩) | exact ⟨h, hm⟩ | exact ⟨h.1, h.2, hm⟩ | exact ⟨fun c => ⟨h.1 c, hm⟩, fun c => ⟨h.2 c, hm⟩⟩ | (rename_i hx; rw [hx]; exact ⟨fun c => ⟨h.1 c, hm⟩, fun c => ⟨h.2 c, hm⟩⟩))
theorem zv_46 {E : Nat → List zV → zMm → Option zV → zMm → Prop} {P : zMm → Prop} {a b : Nat} {v : Int} {l : zLc} {s : List zV} {m : zMm} {K : Nat → zLc → List zV → zMm → Prop} {Q : Option zV → zMm → Prop} {k : zLc → List zV → zMm → Prop} (h : zst E (46, a, b, v) l s m K Q k) (hm : P m) : zst E (46, a, b, v) l s m (fun b l s m => K b l s m ∧ P m) Q (fun l s m => k l s m ∧ P m) := by
  rw [zst_46] at h ⊢
  first
    | exact ⟨h, hm⟩
    | (split at h <;> first | exact h.elim | (rename_i hx; rw [hx]; exact ⟨h, hm⟩) | exact ⟨h, hm⟩ | exact ⟨h.1, h.2, hm⟩ | exact ⟨fun c => ⟨h.1 c, hm⟩, fun c => ⟨h.2 c, hm⟩⟩ | (rename_i hx; rw [hx]; exact ⟨fun c => ⟨h.1 c, hm⟩, fun c => ⟨h.2 c, hm⟩⟩))
theorem zv_53 {E : Nat → List zV → zMm → Option zV → zMm → Prop} {P : zMm → Prop} {a b : Nat} {v : Int} {l : zLc} {s : List zV} {m : zMm} {K : Nat → zLc → List zV → zMm → Prop} {Q : Option zV → zMm → Prop} {k : zLc → List zV → zMm → Prop} (h : zst E (53, a, b, v) l s m K Q k) (hm : P m) : zst E (53, a, b, v) l s m (fun b l s m => K b l s m ∧ P m) Q (fun l s m => k l s m ∧ P m) := by
  rw [zst_53] at h ⊢
  first
    | exact ⟨h, hm⟩
    | (split at h <;> first | exact h.elim | (rename_i hx; rw [hx]; exact ⟨h, hm⟩) | exact ⟨h, hm⟩ | exact ⟨h.1, h.2, hm⟩ | exact ⟨fun c => ⟨h.1 c, hm⟩, fun c => ⟨h.2 c, hm⟩⟩ | (rename_i hx; rw [hx]; exact ⟨fun c => ⟨h.1 c, hm⟩, fun c => ⟨h.2 c, hm⟩⟩))
theorem zv_54 {E : Nat → List zV → zMm → Option zV → zMm → Prop} {P : zMm → Prop} {a b : Nat} {v : Int} {l : zLc} {s : List zV} {m : zMm} {K : Nat → zLc → List zV → zMm → Prop} {Q : Option zV → zMm → Prop} {k : zLc → List zV → zMm → Prop} (h : zst E (54, a, b, v) l s m K Q k) (hm : P m) : zst E (54, a, b, v) l s m (fun b l s m => K b l s m ∧ P m) Q (fun l s m => k l s m ∧ P m) := by
  rw [zst_54] at h ⊢
  first
    | exact ⟨h, hm⟩
    | (split at h <;> first | exact h.elim | (rename_i hx; rw [hx]; exact ⟨h, hm⟩) | exact ⟨h, hm⟩ | exact ⟨h.1, h.2, hm⟩ | exact ⟨fun c => ⟨h.1 c, hm⟩, fun c => ⟨h.2 c, hm⟩⟩ | (rename_i hx; rw [hx]; exact ⟨fun c => ⟨h.1 c, hm⟩, fun c => ⟨h.2 c, hm⟩⟩))
theorem zv_55 {E : Nat → List zV → zMm → Option zV → zMm → Prop} {P : zMm → Prop} {a b : Nat} {v : Int} {l : zLc} {s : List zV} {m : zMm} {K : Nat → zLc → List zV → zMm → Prop} {Q : Option zV → zMm → Prop} {k : zLc → List zV → zMm → Prop} (h : zst E (55, a, b, v) l s m K Q k) (hm : P m) : zst E (55, a, b, v) l s m (fun b l s m => K b l s m ∧ P m) Q (fun l s m => k l s m ∧ P m) := by
  rw [zst_55] at h ⊢
  first
    | exact ⟨h, hm⟩
    | (split at h <;> first | exact h.elim | (rename_i hx; rw [hx]; exact ⟨h, hm⟩) | exact ⟨h, hm⟩ | exact ⟨h.1, h.2, hm⟩ | exact ⟨fun c => ⟨h.1 c, hm⟩, fun c => ⟨h.2 c, hm⟩⟩ | (rename_i hx; rw [hx]; exact ⟨fun c => ⟨h.1 c, hm⟩, fun c => ⟨h.2 c, hm⟩⟩))
theorem zv_59 {E : Nat → List zV → zMm → Option zV → zMm → Prop} {P : zMm → Prop} {a b : Nat} {v : Int} {l : zLc} {s : List zV} {m : zMm} {K : Nat → zLc → List zV → zMm → Prop} {Q : Option zV → zMm → Prop} {k : zLc → List zV → zMm → Prop} (h : zst E (59, a, b, v) l s m K Q k) (hm : P m) : zst E (59, a, b, v) l s m (fun b l s m => K b l s m ∧ P m) Q (fun l s m => k l s m ∧ P m) := by
  rw [zst_59] at h ⊢
  first
    | exact ⟨h, hm⟩
    | (split at h <;> first | exact h.elim | (rename_i hx; rw [hx]; exact ⟨h, hm⟩) | exact ⟨h, hm⟩ | exact ⟨h.1, h.2, hm⟩ | exact ⟨fun c => ⟨h.1 c, hm⟩, fun c => ⟨h.2 c, hm⟩⟩ | (rename_i hx; rw [hx]; exact ⟨fun c => ⟨h.1 c, hm⟩, fun c => ⟨h.2 c, hm⟩⟩))
theorem zv_61 {E : Nat → List zV → zMm → Option zV → zMm → Prop} {P : zMm → Prop} {a b : Nat} {v : Int} {l : zLc} {s : List zV} {m : zMm} {K : Nat → zLc → List zV → zMm → Prop} {Q : Option zV → zMm → Prop} {k : zLc → List zV → zMm → Prop} (h : zst E (61, a, b, v) l s m K Q k) (hm : P m) : zst E (61, a, b, v) l s m (fun b l s m => K b l s m ∧ P m) Q (fun l s m => k l s m ∧ P m) := by
  rw [zst_61] at h ⊢
  first
    | exact ⟨h, hm⟩
    | (split at h <;> first | exact h.elim | (rename_i hx; rw [hx]; exact ⟨h, hm⟩) | exact ⟨h, hm⟩ | exact ⟨h.1, h.2, hm⟩ | exact ⟨fun c => ⟨h.1 c, hm⟩, fun c => ⟨h.2 c, hm⟩⟩ | (rename_i hx; rw [hx]; exact ⟨fun c => ⟨h.1 c, hm⟩, fun c => ⟨h.2 c, hm⟩⟩))
theorem zv_67 {E : Nat → List zV → zMm → Option zV → zMm → Prop} {P : zMm → Prop} {a b : Nat} {v : Int} {l : zLc} {s : List zV} {m : zMm} {K : Nat → zLc → List zV → zMm → Prop} {Q : Option zV → zMm → Prop} {k : zLc → List zV → zMm → Prop} (h : zst E (67, a, b, v) l s m K Q k) (hm : P m) : zst E (67, a, b, v) l s m (fun b l s m => K b l s m ∧ P m) Q (fun l s m => k l s m ∧ P m) := by
  rw [zst_67] at h ⊢
  first
    | exact ⟨h, hm⟩
    | (split at h <;> first | exact h.elim | (rename_i hx; rw [hx]; exact ⟨h, hm⟩) | exact ⟨h, hm⟩ | exact ⟨h.1, h.2, hm⟩ | exact ⟨fun c => ⟨h.1 c, hm⟩, fun c => ⟨h.2 c, hm⟩⟩ | (rename_i hx; rw [hx]; exact ⟨fun c => ⟨h.1 c, hm⟩, fun c => ⟨h.2 c, hm⟩⟩))
theorem zv_68 {E : Nat → List zV → zMm → Option zV → zMm → Prop} {P : zMm → Prop} {a b : Nat} {v : Int} {l : zLc} {s : List zV} {m : zMm} {K : Nat → zLc → List zV → zMm → Prop} {Q : Option zV → zMm → Prop} {k : zLc → List zV → zMm → Prop} (hE : ∀ y as m r m', E y as m r m' → P m → P m') (h : zst E (68, a, b, v) l s m K Q k) (hm : P m) : zst E (68, a, b, v) l s m (fun b l s m => K b l s m ∧ P m) Q (fun l s m => k l s m ∧ P m) := by
  rw [zst_68] at h ⊢
  obtain ⟨h0, h1, h2, r, m', h3, h4⟩ := h
  exact ⟨h0, h1, h2, r, m', h3, h4, hE _ _ _ _ _ h3 hm⟩
