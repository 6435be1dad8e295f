/-! ===== the class reads a token ===== -/
def gUb (b : Int) : Int := if b < 0 then b + 256 else b
theorem gUb_f : ∀ j : Fin 8, ∀ k : Fin 32, zand (32 * (j.val : Int) + (k.val : Int) - 128) 255 = gUb (32 * (j.val : Int) + (k.val : Int) - 128) := by decide
theorem zand_255 {b : Int} (h : -128 ≤ b ∧ b ≤ 127) : zand b 255 = gUb b := by
  have := gUb_f ⟨((b + 128) / 32).toNat, by omega⟩ ⟨((b + 128) % 32).toNat, by omega⟩
  rw [show 32 * ((⟨((b + 128) / 32).toNat, by omega⟩ : Fin 8).val : Int) + ((⟨((b + 128) % 32).toNat, by omega⟩ : Fin 32).val : Int) - 128 = b from by show 32 * ((((b + 128) / 32).toNat : Nat) : Int) + ((((b + 128) % 32).toNat : Nat) : Int) - 128 = b; omega] at this
  exact this
/-- the class's tape -/
def gTp (T m : zMm) : Prop := m 1 0 = T 0 0 ∧ ∀ i, 0 ≤ i → i < T 0 0 → m 2 i = T 1 i
theorem gTp_of {T m m' : zMm} (h : gTp T m) (h0 : m' 1 0 = m 1 0) (h1 : ∀ i, m' 2 i = m 2 i) : gTp T m' := ⟨by rw [h0]; exact h.1, fun i a b => by rw [h1]; exact h.2 i a b⟩
def gBa (T : zMm) (i : Int) : Int := if 0 ≤ i ∧ i < T 0 0 then gUb (T 1 i) else -1
theorem zq62T {d : Nat} {m T : zMm} {p : Int} {rest : List zV} {k : List zV → zMm → Prop} (hk : gTo1 T) (ht : gTp T m) : zcl (zEx (d + 1)) 62 2 (.inl p :: .inr (.inr 1) :: rest) m k = (zcat rest ≤ 8 ∧ k (.inl (gBa T p) :: rest) m) := by
  have hb := hk.1
  rw [zq62 (by rw [ht.1]; omega), ht.1]
  unfold gBa
  by_cases c : 0 ≤ p ∧ p < T 0 0
  · rw [if_pos c, if_pos c, ht.2 p c.1 c.2, zand_255 (hk.2 p c.1 c.2)]
  · rw [if_neg c, if_neg c]
