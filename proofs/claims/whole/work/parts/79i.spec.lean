/-! ===== calls in the law's words ===== -/
theorem gV1_ex (V : zMm) (c : Prop) (V' : zMm) : ∃ V1, gV1 V c V' V1 := by
  by_cases h : c
  · exact ⟨V', fun _ => rfl, fun z => absurd h z⟩
  · exact ⟨V, fun z => absurd z h, fun _ => rfl⟩
theorem gV1_p {P : zMm → Prop} {V V' V1 : zMm} {c : Prop} (h : gV1 V c V' V1) (h0 : P V) (h1 : c → P V') : P V1 := by
  by_cases z : c
  · rw [h.1 z]; exact h1 z
  · rw [h.2 z]; exact h0
theorem gx72 {d : Nat} {m V T : zMm} {n : Int} (hI : gI V m) (ht : gTc T m) : zC (d + 1) 72 [.inr (.inr 0), .inl n] m (fun r' m' => r' = some (.inl (sp72 T n)) ∧ gI V m' ∧ gX m m') := zC_im (gz72 ht) (fun r' m' ⟨a, b⟩ => ⟨a, by rw [b]; exact hI, by rw [b]; exact gX_refl⟩)
theorem gx191 {d : Nat} {m T : zMm} {n : Int} (ht : gTm T m) : zC (d + 1) 191 [.inr (.inr 131), .inl n] m (fun r' m' => r' = some (.inl (sp72 T n)) ∧ gY m m') := zC_im (gz191 ht) (fun r' m' ⟨a, b⟩ => ⟨a, by rw [b]; exact gY_u (by decide)⟩)
theorem sp166_o {k x y : Int} (h : ¬ (0 ≤ k ∧ k ≤ 2)) : sp166 k x = sp166 k y := by unfold sp166; rw [if_neg h, if_neg h]
theorem gx166 {d : Nat} {m V V1 U T : zMm} {W : Int → zMm} {K : Int → Int} {k : Int} (h : gC1 V U T W K m) (h1 : gV1 V ((0 ≤ k ∧ k ≤ 2) ∧ K k ≠ 0) (W k) V1) : zC (d + 7) 166 [.inr (.inr 0), .inl k] m (fun r' m' => r' = some (.inl (sp166 k (K k))) ∧ gI V1 m' ∧ gZ m m') := by
  by_cases c : 0 ≤ k ∧ k ≤ 2
  · have q := h.2.2.2 k c.1 c.2
    rw [← q.1] at h1 ⊢
    refine gz166 (W := W k) h.1 (fun _ z => q.2 (by rw [← q.1]; exact z)) h1
  · rw [sp166_o (y := m (66 + 19 * k) 3) c]
    exact gz166 (W := W k) h.1 (fun z => absurd z c) ⟨fun z => absurd z.1 c, fun _ => h1.2 (fun z => c z.1)⟩
theorem gx310 {d : Nat} {m V V1 U T : zMm} {W : Int → zMm} {K : Int → Int} {k : Int} (h : gM1 V U T W K m) (h1 : gV1 V ((0 ≤ k ∧ k ≤ 2) ∧ K k ≠ 0) (W k) V1) : zC (d + 4) 310 [.inr (.inr 131), .inl k] m (fun r' m' => r' = some (.inl (sp166 k (K k))) ∧ gQ V1 m' ∧ gZm m m') := by
  by_cases c : 0 ≤ k ∧ k ≤ 2
  · have q := h.2.2.2 k c.1 c.2
    rw [← q.1] at h1 ⊢
    refine gz310 (W := W k) h.1 (fun _ z => q.2 (by rw [← q.1]; exact z)) h1
  · rw [sp166_o (y := m 142 k) c]
    exact gz310 (W := W k) h.1 (fun z => absurd z c) ⟨fun z => absurd z.1 c, fun _ => h1.2 (fun z => c z.1)⟩
/-- calls that leave the script alone -/
def zXs (d : Nat) : Nat → List zV → zMm → Option zV → zMm → Prop := fun y as m r m' => zEx d y as m r m' ∧ gScr m m'
theorem gKs {d y n : Nat} {s as rest : List zV} {m : zMm} {Q : Option zV → zMm → Prop} {k : List zV → zMm → Prop} (h : zC d y as m Q) (hs : s = as.reverse ++ rest) (hn : as.length = n) (hc : zcat rest ≤ 8) (hsc : ∀ r m', Q r m' → gScr m m') (hk : ∀ r m', Q r m' → k (r.toList ++ rest) m') : zcl (zXs d) y n s m k := by
  obtain ⟨r, m', h1, h2⟩ := h
  have e1 : s.take n = as.reverse := by rw [hs, ← hn, ← List.length_reverse]; exact List.take_left
  have e2 : s.drop n = rest := by rw [hs, ← hn, ← List.length_reverse]; exact List.drop_left
  refine ⟨by rw [hs, List.length_append, List.length_reverse, hn]; omega, by rw [e2]; exact hc, r, m', ⟨?_, hsc r m' h2⟩, by rw [e2]; exact hk r m' h2⟩
  rw [e1, List.reverse_reverse]; exact h1
