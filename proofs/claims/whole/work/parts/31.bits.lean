/-! ===== sets of at most eight, as bits ===== -/
theorem gbv {a : Nat} : (Int32.ofInt (a : Int)).toBitVec = BitVec.ofNat 32 a := BitVec.ofInt_natCast ..
theorem gbv_int {x : BitVec 32} {n : Nat} (h : x.toNat = n) (hn : n < 2147483648) : x.toInt = n := by
  rw [BitVec.toInt_eq_toNat_of_lt (by rw [h]; omega), h]
theorem gband {a b : Nat} (ha : a < 256) (hb : b < 256) : zand (a : Nat) (b : Nat) = ((a &&& b : Nat) : Int) := by
  unfold zand
  show ((Int32.ofInt (a : Int)).toBitVec &&& (Int32.ofInt (b : Int)).toBitVec).toInt = _
  rw [gbv, gbv]
  have := Nat.and_le_left (n := a) (m := b)
  refine gbv_int ?_ (by omega)
  rw [BitVec.toNat_and, BitVec.toNat_ofNat, BitVec.toNat_ofNat, Nat.mod_eq_of_lt (by omega), Nat.mod_eq_of_lt (by omega)]
theorem gbor {a b : Nat} (ha : a < 256) (hb : b < 256) : zor (a : Nat) (b : Nat) = ((a ||| b : Nat) : Int) := by
  unfold zor
  show ((Int32.ofInt (a : Int)).toBitVec ||| (Int32.ofInt (b : Int)).toBitVec).toInt = _
  rw [gbv, gbv]
  have := Nat.or_lt_two_pow (n := 8) (x := a) (y := b) (by omega) (by omega)
  refine gbv_int ?_ (by omega)
  rw [BitVec.toNat_or, BitVec.toNat_ofNat, BitVec.toNat_ofNat, Nat.mod_eq_of_lt (by omega), Nat.mod_eq_of_lt (by omega)]
theorem gbandn {a b : Nat} (ha : a < 256) (hb : b < 256) : zand (a : Nat) (zxor (b : Nat) (-1)) = ((a &&& (b ^^^ 4294967295) : Nat) : Int) := by
  unfold zand zxor
  rw [Int32.ofInt_toInt]
  show ((Int32.ofInt (a : Int)).toBitVec &&& ((Int32.ofInt (b : Int)).toBitVec ^^^ (Int32.ofInt (-1)).toBitVec)).toInt = _
  rw [gbv, gbv]
  have := Nat.and_le_left (n := a) (m := b ^^^ 4294967295)
  refine gbv_int ?_ (by omega)
  rw [BitVec.toNat_and, BitVec.toNat_xor, BitVec.toNat_ofNat, BitVec.toNat_ofNat, Nat.mod_eq_of_lt (by omega), Nat.mod_eq_of_lt (by omega)]
  rfl
theorem zbit_tb (n j : Nat) : zbit (n : Nat) (j : Nat) = if n.testBit j then 1 else 0 := by
  unfold zbit
  rw [Nat.testBit_eq_decide_div_mod_eq, Int.toNat_natCast]
  have e : ((n : Nat) : Int) / 2 ^ j % 2 = ((n / 2 ^ j % 2 : Nat) : Int) := by norm_cast
  rw [e]
  have := Nat.mod_lt (n / 2 ^ j) (show 0 < 2 by decide)
  by_cases c : n / 2 ^ j % 2 = 1
  · rw [c]; simp
  · simp only [c, decide_false]; simp; omega
theorem zand_bd {x y : Int} (hx : 0 ≤ x ∧ x < 256) (hy : 0 ≤ y ∧ y < 256) : 0 ≤ zand x y ∧ zand x y ≤ x := by
  obtain ⟨a, rfl⟩ : ∃ n : Nat, x = n := ⟨x.toNat, by omega⟩
  obtain ⟨b, rfl⟩ : ∃ n : Nat, y = n := ⟨y.toNat, by omega⟩
  rw [gband (by omega) (by omega)]
  have := Nat.and_le_left (n := a) (m := b)
  omega
theorem zbit_and {x y j : Int} (hx : 0 ≤ x ∧ x < 256) (hy : 0 ≤ y ∧ y < 256) (hj : 0 ≤ j) : zbit (zand x y) j = if zbit x j = 1 ∧ zbit y j = 1 then 1 else 0 := by
  obtain ⟨a, rfl⟩ : ∃ n : Nat, x = n := ⟨x.toNat, by omega⟩
  obtain ⟨b, rfl⟩ : ∃ n : Nat, y = n := ⟨y.toNat, by omega⟩
  obtain ⟨k, rfl⟩ : ∃ n : Nat, j = n := ⟨j.toNat, by omega⟩
  rw [gband (by omega) (by omega), zbit_tb, zbit_tb, zbit_tb, Nat.testBit_and]
  cases a.testBit k <;> cases b.testBit k <;> rfl
theorem zor_bd {x y : Int} (hx : 0 ≤ x ∧ x < 256) (hy : 0 ≤ y ∧ y < 256) : 0 ≤ zor x y ∧ zor x y < 256 := by
  obtain ⟨a, rfl⟩ : ∃ n : Nat, x = n := ⟨x.toNat, by omega⟩
  obtain ⟨b, rfl⟩ : ∃ n : Nat, y = n := ⟨y.toNat, by omega⟩
  rw [gbor (by omega) (by omega)]
  have := Nat.or_lt_two_pow (n := 8) (x := a) (y := b) (by omega) (by omega)
  omega
theorem zbit_or {x y j : Int} (hx : 0 ≤ x ∧ x < 256) (hy : 0 ≤ y ∧ y < 256) (hj : 0 ≤ j) : zbit (zor x y) j = if zbit x j = 1 ∨ zbit y j = 1 then 1 else 0 := by
  obtain ⟨a, rfl⟩ : ∃ n : Nat, x = n := ⟨x.toNat, by omega⟩
  obtain ⟨b, rfl⟩ : ∃ n : Nat, y = n := ⟨y.toNat, by omega⟩
  obtain ⟨k, rfl⟩ : ∃ n : Nat, j = n := ⟨j.toNat, by omega⟩
  rw [gbor (by omega) (by omega), zbit_tb, zbit_tb, zbit_tb, Nat.testBit_or]
  cases a.testBit k <;> cases b.testBit k <;> rfl
theorem zandn_bd {x y : Int} (hx : 0 ≤ x ∧ x < 256) (hy : 0 ≤ y ∧ y < 256) : 0 ≤ zand x (zxor y (-1)) ∧ zand x (zxor y (-1)) ≤ x := by
  obtain ⟨a, rfl⟩ : ∃ n : Nat, x = n := ⟨x.toNat, by omega⟩
  obtain ⟨b, rfl⟩ : ∃ n : Nat, y = n := ⟨y.toNat, by omega⟩
  rw [gbandn (by omega) (by omega)]
  have := Nat.and_le_left (n := a) (m := b ^^^ 4294967295)
  omega
theorem zbit_andn {x y j : Int} (hx : 0 ≤ x ∧ x < 256) (hy : 0 ≤ y ∧ y < 256) (hj : 0 ≤ j ∧ j < 8) : zbit (zand x (zxor y (-1))) j = if zbit x j = 1 ∧ zbit y j = 0 then 1 else 0 := by
  obtain ⟨a, rfl⟩ : ∃ n : Nat, x = n := ⟨x.toNat, by omega⟩
  obtain ⟨b, rfl⟩ : ∃ n : Nat, y = n := ⟨y.toNat, by omega⟩
  obtain ⟨k, rfl⟩ : ∃ n : Nat, j = n := ⟨j.toNat, by omega⟩
  rw [gbandn (by omega) (by omega), zbit_tb, zbit_tb, zbit_tb, Nat.testBit_and, Nat.testBit_xor]
  have : Nat.testBit 4294967295 k = true := by
    have := Nat.testBit_two_pow_sub_one 32 k
    rw [show (2 : Nat) ^ 32 - 1 = 4294967295 by decide] at this
    rw [this]; exact decide_eq_true (by omega)
  rw [this]
  cases a.testBit k <;> cases b.testBit k <;> rfl
/-- two numbers below 256 with the same bits are the same -/
theorem zbit_ext {x y : Int} (hx : 0 ≤ x ∧ x < 256) (hy : 0 ≤ y ∧ y < 256) (h : ∀ j, 0 ≤ j → j < 8 → zbit x j = zbit y j) : x = y := by
  obtain ⟨a, rfl⟩ : ∃ n : Nat, x = n := ⟨x.toNat, by omega⟩
  obtain ⟨b, rfl⟩ : ∃ n : Nat, y = n := ⟨y.toNat, by omega⟩
  congr 1
  apply Nat.eq_of_testBit_eq
  intro i
  by_cases c : i < 8
  · have := h i (by omega) (by omega)
    rw [zbit_tb, zbit_tb] at this
    revert this
    cases a.testBit i <;> cases b.testBit i <;> simp
  · rw [Nat.testBit_lt_two_pow (Nat.lt_of_lt_of_le (by omega : a < 2 ^ 8) (Nat.pow_le_pow_right (by decide) (by omega))), Nat.testBit_lt_two_pow (Nat.lt_of_lt_of_le (by omega : b < 2 ^ 8) (Nat.pow_le_pow_right (by decide) (by omega)))]
theorem zbit_p2 {k j : Int} (hk : 0 ≤ k ∧ k < 8) (hj : 0 ≤ j ∧ j < 8) : zbit (2 ^ k.toNat) j = if j = k then 1 else 0 := by
  obtain ⟨a, rfl⟩ : ∃ n : Nat, k = n := ⟨k.toNat, by omega⟩
  obtain ⟨b, rfl⟩ : ∃ n : Nat, j = n := ⟨j.toNat, by omega⟩
  have : ∀ a, a < 8 → ∀ b, b < 8 → zbit (2 ^ ((a : Nat) : Int).toNat) (b : Nat) = if ((b : Nat) : Int) = (a : Nat) then 1 else 0 := by decide
  exact this a (by omega) b (by omega)
theorem p2_bd {k : Int} (hk : 0 ≤ k ∧ k < 8) : 0 ≤ (2 : Int) ^ k.toNat ∧ (2 : Int) ^ k.toNat < 256 := by
  obtain ⟨a, rfl⟩ : ∃ n : Nat, k = n := ⟨k.toNat, by omega⟩
  have : ∀ a, a < 8 → 0 ≤ (2 : Int) ^ ((a : Nat) : Int).toNat ∧ (2 : Int) ^ ((a : Nat) : Int).toNat < 256 := by decide
  exact this a (by omega)
theorem zor_0 {x : Int} (hx : 0 ≤ x ∧ x < 256) : zor x 0 = x := by
  refine zbit_ext (zor_bd hx (by decide)) hx (fun j a b => ?_)
  rw [zbit_or hx (by decide) a]
  rw [show zbit 0 j = 0 by unfold zbit; rw [Int.zero_ediv]; rfl]
  rcases zbit_01 x j with z | z <;> rw [z] <;> rfl
/-- the set of those below N with c, as bits -/
def gBt (c : Int → Prop) [DecidablePred c] : Nat → Int
  | 0 => 0
  | k + 1 => zor (gBt c k) (if c k then 2 ^ k else 0)
theorem gBt_bd {c : Int → Prop} [DecidablePred c] : ∀ N : Nat, N ≤ 8 → 0 ≤ gBt c N ∧ gBt c N < 256
  | 0, _ => by show (0 : Int) ≤ 0 ∧ (0 : Int) < 256; decide
  | k + 1, h => by
    have i := gBt_bd (c := c) k (by omega)
    have p := p2_bd (k := (k : Int)) (by omega)
    rw [Int.toNat_natCast] at p
    show 0 ≤ zor (gBt c k) (if c k then 2 ^ k else 0) ∧ zor (gBt c k) (if c k then 2 ^ k else 0) < 256
    exact zor_bd i (by split; exact p; decide)
theorem zbit_0 (j : Int) : zbit 0 j = 0 := by unfold zbit; rw [Int.zero_ediv]; rfl
theorem zbit_Bt {c : Int → Prop} [DecidablePred c] : ∀ (N : Nat), N ≤ 8 → ∀ j : Nat, j < 8 → zbit (gBt c N) j = if j < N ∧ c j then 1 else 0
  | 0, _, j, _ => by
    rw [if_neg (by omega)]; exact zbit_0 j
  | k + 1, h, j, hj => by
    have i := zbit_Bt (c := c) k (by omega) j hj
    have b := gBt_bd (c := c) k (by omega)
    have p := p2_bd (k := (k : Int)) (by omega)
    have q := zbit_p2 (k := (k : Int)) (j := (j : Int)) (by omega) (by omega)
    rw [Int.toNat_natCast] at p q
    show zbit (zor (gBt c k) (if c k then 2 ^ k else 0)) j = _
    rw [zbit_or b (by split; exact p; decide) (by omega), i]
    by_cases e : j = k
    · subst e
      by_cases d : c j
      · rw [if_pos d, q, if_pos rfl, if_pos (Or.inr rfl), if_pos ⟨by omega, d⟩]
      · rw [if_neg d, zbit_0, if_neg (show ¬ (j < j ∧ c j) from fun z => d z.2), if_neg (show ¬ ((0 : Int) = 1 ∨ (0 : Int) = 1) by omega), if_neg (fun z => d z.2)]
    · have hq : zbit (if c k then 2 ^ k else 0) j = 0 := by
        split
        · rw [q, if_neg (by omega)]
        · exact zbit_0 j
      rw [hq]
      by_cases d : j < k ∧ c j
      · rw [if_pos d, if_pos (Or.inl rfl), if_pos ⟨by omega, d.2⟩]
      · rw [if_neg d, if_neg (by omega), if_neg (fun z => d ⟨by omega, z.2⟩)]
theorem gBt_s {c : Int → Prop} [DecidablePred c] {j : Int} (h : 0 ≤ j) : gBt c (j + 1).toNat = zor (gBt c j.toNat) (if c j then 2 ^ j.toNat else 0) := by
  rw [show (j + 1).toNat = j.toNat + 1 by omega]
  show zor (gBt c j.toNat) (if c (j.toNat : Nat) then 2 ^ j.toNat else 0) = _
  rw [show ((j.toNat : Nat) : Int) = j by omega]
