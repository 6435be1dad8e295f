theorem zw_id {x : Int} (h1 : -2147483648 ≤ x) (h2 : x < 2147483648) : zw x = x := by
  unfold zw
  rw [Int.bmod_def]
  split <;> omega
theorem zwl_id {x : Int} (h1 : -9223372036854775808 ≤ x) (h2 : x < 9223372036854775808) : zwl x = x := by
  unfold zwl
  rw [Int.bmod_def]
  split <;> omega
theorem zbd {i n : Int} (h1 : 0 ≤ i) (h2 : i < n) : (0 ≤ i ∧ i < n) = True := by
  apply propext
  exact ⟨fun _ => trivial, fun _ => ⟨h1, h2⟩⟩
theorem z01 {x : Int} (h : x = 0 ∨ x = 1) : (x = 0 ∨ x = 1) = True := eq_true h
theorem zmu_same {m : zMm} {c i v : Int} : zmu m c i v c i = v := by unfold zmu; rw [if_pos ⟨rfl, rfl⟩]
theorem zmu_c {m : zMm} {c i v c' i' : Int} (h : c' ≠ c) : zmu m c i v c' i' = m c' i' := by unfold zmu; rw [if_neg (fun q => h q.1)]
theorem zmu_i {m : zMm} {c i v c' i' : Int} (h : i' ≠ i) : zmu m c i v c' i' = m c' i' := by unfold zmu; rw [if_neg (fun q => h q.2)]
theorem zmu_ci {m : zMm} {c i v i' : Int} : zmu m c i v c i' = if i' = i then v else m c i' := by
  unfold zmu
  by_cases h : i' = i
  · rw [if_pos ⟨rfl, h⟩, if_pos h]
  · rw [if_neg (fun q => h q.2), if_neg h]
/-- a loop that counts up to N -/
theorem zfor {E : Nat → List zV → zMm → Option zV → zMm → Prop} {y b : Nat} {Q : Option zV → zMm → Prop} (N : Int) (P : Int → zLc → zMm → Prop)
    (step : ∀ i lc m, i < N → P i lc m → (∀ lc' m', P (i + 1) lc' m' → zWP E y b lc' [] m' Q) → zWP E y b lc [] m Q) (last : ∀ lc m, P N lc m → zWP E y b lc [] m Q) {i : Int} {lc : zLc} {m : zMm} (hi : i ≤ N) (h : P i lc m) : zWP E y b lc [] m Q := by
  obtain ⟨k, hk⟩ : ∃ k : Nat, N - i = k := ⟨(N - i).toNat, by omega⟩
  induction k generalizing i lc m with
  | zero =>
    have : i = N := by omega
    subst this
    exact last lc m h
  | succ k ih =>
    exact step i lc m (by omega) h (fun lc' m' h' => ih (by omega) h' (by omega))
theorem zlc_lt {x y : Int} : (zlcmp x y < 0) = (x < y) := by unfold zlcmp; apply propext; split <;> (try split) <;> omega
theorem zlc_ge {x y : Int} : (0 ≤ zlcmp x y) = (y ≤ x) := by unfold zlcmp; apply propext; split <;> (try split) <;> omega
theorem zlc_gt {x y : Int} : (0 < zlcmp x y) = (y < x) := by unfold zlcmp; apply propext; split <;> (try split) <;> omega
theorem zlc_le {x y : Int} : (zlcmp x y ≤ 0) = (x ≤ y) := by unfold zlcmp; apply propext; split <;> (try split) <;> omega
theorem zlc_eq {x y : Int} : (zlcmp x y = 0) = (x = y) := by unfold zlcmp; apply propext; split <;> (try split) <;> omega
theorem zdiv_pos {x y : Int} (h0 : 0 ≤ x) (h1 : x < 2147483648) (h2 : 0 < y) : zdiv x y = x / y := by
  unfold zdiv
  rw [Int.tdiv_eq_ediv_of_nonneg h0]
  have := Int.ediv_nonneg h0 (Int.le_of_lt h2)
  have := Int.ediv_le_self y h0
  exact zw_id (by omega) (by omega)
theorem zrem_pos {x y : Int} (h0 : 0 ≤ x) (h1 : x < 2147483648) (h2 : 0 < y) : zrem x y = x % y := by
  unfold zrem
  rw [zdiv_pos h0 h1 h2]
  have a1 := Int.emod_nonneg x (Int.ne_of_gt h2)
  have a2 := Int.emod_add_mul_ediv x y
  have a3 : y * (x / y) = x / y * y := Int.mul_comm _ _
  have a4 : 0 ≤ x / y * y := Int.mul_nonneg (Int.ediv_nonneg h0 (Int.le_of_lt h2)) (Int.le_of_lt h2)
  have a5 : x / y * y ≤ x := by omega
  rw [zw_id (x := x / y * y) (by omega) (by omega), zw_id (by omega) (by omega)]
  omega
theorem zldiv_pos {x y : Int} (h0 : 0 ≤ x) (h1 : x < 9223372036854775808) (h2 : 0 < y) : zldiv x y = x / y := by
  unfold zldiv
  rw [Int.tdiv_eq_ediv_of_nonneg h0]
  have := Int.ediv_nonneg h0 (Int.le_of_lt h2)
  have := Int.ediv_le_self y h0
  exact zwl_id (by omega) (by omega)
theorem zlrem_pos {x y : Int} (h0 : 0 ≤ x) (h1 : x < 9223372036854775808) (h2 : 0 < y) : zlrem x y = x % y := by
  unfold zlrem
  rw [zldiv_pos h0 h1 h2]
  have a1 := Int.emod_nonneg x (Int.ne_of_gt h2)
  have a2 := Int.emod_add_mul_ediv x y
  have a3 : y * (x / y) = x / y * y := Int.mul_comm _ _
  have a4 : 0 ≤ x / y * y := Int.mul_nonneg (Int.ediv_nonneg h0 (Int.le_of_lt h2)) (Int.le_of_lt h2)
  have a5 : x / y * y ≤ x := by omega
  rw [zwl_id (x := x / y * y) (by omega) (by omega), zwl_id (by omega) (by omega)]
  omega
theorem zif0 {c : Prop} [Decidable c] : ((if c then (1 : Int) else 0) = 0) = ¬ c := by
  apply propext; by_cases h : c <;> simp [h]
theorem zif1 {c : Prop} [Decidable c] : ((if c then (1 : Int) else 0) = 1) = c := by
  apply propext; by_cases h : c <;> simp [h]
theorem zif01 {c : Prop} [Decidable c] : ((if c then (1 : Int) else 0) = 0 ∨ (if c then (1 : Int) else 0) = 1) = True := by
  apply propext; by_cases h : c <;> simp [h]
theorem zbrT {c A B : Prop} (h : c) : ((c → A) ∧ (¬ c → B)) = A := propext ⟨fun q => q.1 h, fun q => ⟨fun _ => q, fun n => absurd h n⟩⟩
theorem zbrF {c A B : Prop} (h : ¬ c) : ((c → A) ∧ (¬ c → B)) = B := propext ⟨fun q => q.2 h, fun q => ⟨fun n => absurd n h, fun _ => q⟩⟩
theorem zem1 {c : Prop} : (¬ c ∨ c) = True := eq_true ((Classical.em c).symm)
theorem zem2 {c : Prop} : (c ∨ ¬ c) = True := eq_true (Classical.em c)
theorem zpow8 {k : Int} (h1 : 0 ≤ k) (h2 : k ≤ 8) : 1 ≤ (2 : Int) ^ k.toNat ∧ (2 : Int) ^ k.toNat ≤ 256 := by
  obtain ⟨n, rfl⟩ : ∃ n : Nat, k = n := ⟨k.toNat, by omega⟩
  have : ∀ n, n < 9 → 1 ≤ (2 : Int) ^ ((n : Nat) : Int).toNat ∧ (2 : Int) ^ ((n : Nat) : Int).toNat ≤ 256 := by decide
  exact this n (by omega)
/-- bits of numbers below 256 -/
def zbit (x k : Int) : Int := x / 2 ^ k.toNat % 2
theorem zbit_of {x k : Int} (h0 : 0 ≤ x) (h1 : x < 256) (h2 : 0 ≤ k) (h3 : k < 8) : zand (zshr x k) 1 = zbit x k := by
  obtain ⟨n, rfl⟩ : ∃ n : Nat, x = n := ⟨x.toNat, by omega⟩
  obtain ⟨j, rfl⟩ : ∃ j : Nat, k = j := ⟨k.toNat, by omega⟩
  have : ∀ n, n < 256 → ∀ j, j < 8 → zand (zshr (n : Nat) (j : Nat)) 1 = zbit (n : Nat) (j : Nat) := by decide +kernel
  exact this n (by omega) j (by omega)
theorem zbit_01 (x k : Int) : zbit x k = 0 ∨ zbit x k = 1 := by unfold zbit; omega
theorem zshl_1 {k : Int} (h2 : 0 ≤ k) (h3 : k < 31) : zshl 1 k = 2 ^ k.toNat := by
  obtain ⟨j, rfl⟩ : ∃ j : Nat, k = j := ⟨k.toNat, by omega⟩
  have : ∀ j, j < 31 → zshl 1 (j : Nat) = 2 ^ ((j : Nat) : Int).toNat := by decide +kernel
  exact this j (by omega)
/-- the number of ones of a number below 256 -/
def zpc (x : Int) : Int := zbit x 0 + zbit x 1 + zbit x 2 + zbit x 3 + zbit x 4 + zbit x 5 + zbit x 6 + zbit x 7
theorem zkd_0 : zkd 0 = 110 := rfl
theorem zrf_0_0 : zrf 0 0 = 1 := rfl
theorem zrf_0_1 : zrf 0 1 = 3 := rfl
theorem zrf_0_2 : zrf 0 2 = 20 := rfl
theorem zrf_0_3 : zrf 0 3 = 21 := rfl
theorem zrf_0_4 : zrf 0 4 = 42 := rfl
theorem zrf_0_6 : zrf 0 6 = 43 := rfl
theorem zrf_0_7 : zrf 0 7 = 45 := rfl
theorem zrf_0_8 : zrf 0 8 = 47 := rfl
theorem zrf_0_9 : zrf 0 9 = 48 := rfl
theorem zrf_0_10 : zrf 0 10 = 61 := rfl
theorem zrf_0_11 : zrf 0 11 = 64 := rfl
theorem zrf_0_12 : zrf 0 12 = 65 := rfl
theorem zkd_1 : zkd 1 = 108 := rfl
theorem zrf_1_3 : zrf 1 3 = 2 := rfl
theorem zkd_2 : zkd 2 = 3 := rfl
theorem zln_2 : zln 2 = 900 := rfl
theorem zkd_3 : zkd 3 = 105 := rfl
theorem zrf_3_10 : zrf 3 10 = 4 := rfl
theorem zrf_3_11 : zrf 3 11 = 5 := rfl
theorem zkd_4 : zkd 4 = 5 := rfl
theorem zln_4 : zln 4 = 8 := rfl
theorem zkd_5 : zkd 5 = 6 := rfl
theorem zln_5 : zln 5 = 6 := rfl
theorem zkd_6 : zkd 6 = 104 := rfl
theorem zkd_7 : zkd 7 = 104 := rfl
theorem zkd_8 : zkd 8 = 104 := rfl
theorem zkd_9 : zkd 9 = 104 := rfl
theorem zkd_10 : zkd 10 = 104 := rfl
theorem zkd_11 : zkd 11 = 104 := rfl
theorem zkd_12 : zkd 12 = 104 := rfl
theorem zkd_13 : zkd 13 = 104 := rfl
theorem zkd_14 : zkd 14 = 101 := rfl
theorem zkd_15 : zkd 15 = 101 := rfl
theorem zkd_16 : zkd 16 = 101 := rfl
theorem zkd_17 : zkd 17 = 101 := rfl
theorem zkd_18 : zkd 18 = 101 := rfl
theorem zkd_19 : zkd 19 = 101 := rfl
theorem zkd_20 : zkd 20 = 100 := rfl
theorem zrf_20_0 : zrf 20 0 = 21 := rfl
theorem zrf_20_1 : zrf 20 1 = 38 := rfl
theorem zrf_20_2 : zrf 20 2 = 39 := rfl
theorem zrf_20_3 : zrf 20 3 = 40 := rfl
theorem zrf_20_4 : zrf 20 4 = 41 := rfl
theorem zkd_21 : zkd 21 = 105 := rfl
theorem zrf_21_10 : zrf 21 10 = 22 := rfl
theorem zrf_21_11 : zrf 21 11 = 23 := rfl
theorem zkd_22 : zkd 22 = 5 := rfl
theorem zln_22 : zln 22 = 8 := rfl
theorem zkd_23 : zkd 23 = 6 := rfl
theorem zln_23 : zln 23 = 6 := rfl
theorem zkd_24 : zkd 24 = 104 := rfl
theorem zkd_25 : zkd 25 = 104 := rfl
theorem zkd_26 : zkd 26 = 104 := rfl
theorem zkd_27 : zkd 27 = 104 := rfl
theorem zkd_28 : zkd 28 = 104 := rfl
theorem zkd_29 : zkd 29 = 104 := rfl
theorem zkd_30 : zkd 30 = 104 := rfl
theorem zkd_31 : zkd 31 = 104 := rfl
theorem zkd_32 : zkd 32 = 101 := rfl
theorem zkd_33 : zkd 33 = 101 := rfl
theorem zkd_34 : zkd 34 = 101 := rfl
theorem zkd_35 : zkd 35 = 101 := rfl
theorem zkd_36 : zkd 36 = 101 := rfl
theorem zkd_37 : zkd 37 = 101 := rfl
theorem zkd_38 : zkd 38 = 1 := rfl
theorem zln_38 : zln 38 = 36 := rfl
theorem zkd_39 : zkd 39 = 1 := rfl
theorem zln_39 : zln 39 = 36 := rfl
theorem zkd_40 : zkd 40 = 1 := rfl
theorem zln_40 : zln 40 = 256 := rfl
theorem zkd_41 : zkd 41 = 1 := rfl
theorem zln_41 : zln 41 = 6 := rfl
theorem zkd_42 : zkd 42 = 1 := rfl
theorem zln_42 : zln 42 = 40 := rfl
theorem zkd_43 : zkd 43 = 107 := rfl
theorem zrf_43_6 : zrf 43 6 = 44 := rfl
theorem zkd_44 : zkd 44 = 1 := rfl
theorem zln_44 : zln 44 = 8 := rfl
theorem zkd_45 : zkd 45 = 107 := rfl
theorem zrf_45_6 : zrf 45 6 = 46 := rfl
theorem zkd_46 : zkd 46 = 1 := rfl
theorem zln_46 : zln 46 = 8 := rfl
theorem zkd_47 : zkd 47 = 1 := rfl
theorem zln_47 : zln 47 = 8 := rfl
theorem zkd_48 : zkd 48 = 103 := rfl
theorem zrf_48_0 : zrf 48 0 = 49 := rfl
theorem zrf_48_1 : zrf 48 1 = 50 := rfl
theorem zkd_49 : zkd 49 = 1 := rfl
theorem zln_49 : zln 49 = 4 := rfl
theorem zkd_50 : zkd 50 = 7 := rfl
theorem zln_50 : zln 50 = 5 := rfl
theorem zkd_51 : zkd 51 = 107 := rfl
theorem zrf_51_6 : zrf 51 6 = 52 := rfl
theorem zkd_52 : zkd 52 = 1 := rfl
theorem zln_52 : zln 52 = 8 := rfl
theorem zkd_53 : zkd 53 = 107 := rfl
theorem zrf_53_6 : zrf 53 6 = 54 := rfl
theorem zkd_54 : zkd 54 = 1 := rfl
theorem zln_54 : zln 54 = 8 := rfl
theorem zkd_55 : zkd 55 = 107 := rfl
theorem zrf_55_6 : zrf 55 6 = 56 := rfl
theorem zkd_56 : zkd 56 = 1 := rfl
theorem zln_56 : zln 56 = 8 := rfl
theorem zkd_57 : zkd 57 = 107 := rfl
theorem zrf_57_6 : zrf 57 6 = 58 := rfl
theorem zkd_58 : zkd 58 = 1 := rfl
theorem zln_58 : zln 58 = 8 := rfl
theorem zkd_59 : zkd 59 = 107 := rfl
theorem zrf_59_6 : zrf 59 6 = 60 := rfl
theorem zkd_60 : zkd 60 = 1 := rfl
theorem zln_60 : zln 60 = 8 := rfl
theorem zkd_61 : zkd 61 = 109 := rfl
theorem zrf_61_0 : zrf 61 0 = 62 := rfl
theorem zrf_61_2 : zrf 61 2 = 63 := rfl
theorem zkd_62 : zkd 62 = 1 := rfl
theorem zln_62 : zln 62 = 6 := rfl
theorem zkd_63 : zkd 63 = 1 := rfl
theorem zln_63 : zln 63 = 6 := rfl
theorem zkd_64 : zkd 64 = 8 := rfl
theorem zln_64 : zln 64 = 3 := rfl
theorem zkd_65 : zkd 65 = 9 := rfl
theorem zln_65 : zln 65 = 4 := rfl
theorem zkd_66 : zkd 66 = 102 := rfl
theorem zrf_66_0 : zrf 66 0 = 67 := rfl
theorem zrf_66_1 : zrf 66 1 = 84 := rfl
theorem zkd_67 : zkd 67 = 105 := rfl
theorem zrf_67_10 : zrf 67 10 = 68 := rfl
theorem zrf_67_11 : zrf 67 11 = 69 := rfl
theorem zkd_68 : zkd 68 = 5 := rfl
theorem zln_68 : zln 68 = 8 := rfl
theorem zkd_69 : zkd 69 = 6 := rfl
theorem zln_69 : zln 69 = 6 := rfl
theorem zkd_70 : zkd 70 = 104 := rfl
theorem zkd_71 : zkd 71 = 104 := rfl
theorem zkd_72 : zkd 72 = 104 := rfl
theorem zkd_73 : zkd 73 = 104 := rfl
theorem zkd_74 : zkd 74 = 104 := rfl
theorem zkd_75 : zkd 75 = 104 := rfl
theorem zkd_76 : zkd 76 = 104 := rfl
theorem zkd_77 : zkd 77 = 104 := rfl
theorem zkd_78 : zkd 78 = 101 := rfl
theorem zkd_79 : zkd 79 = 101 := rfl
theorem zkd_80 : zkd 80 = 101 := rfl
theorem zkd_81 : zkd 81 = 101 := rfl
theorem zkd_82 : zkd 82 = 101 := rfl
theorem zkd_83 : zkd 83 = 101 := rfl
theorem zkd_84 : zkd 84 = 1 := rfl
theorem zln_84 : zln 84 = 40 := rfl
theorem zkd_85 : zkd 85 = 102 := rfl
theorem zrf_85_0 : zrf 85 0 = 86 := rfl
theorem zrf_85_1 : zrf 85 1 = 103 := rfl
theorem zkd_86 : zkd 86 = 105 := rfl
theorem zrf_86_10 : zrf 86 10 = 87 := rfl
theorem zrf_86_11 : zrf 86 11 = 88 := rfl
theorem zkd_87 : zkd 87 = 5 := rfl
theorem zln_87 : zln 87 = 8 := rfl
theorem zkd_88 : zkd 88 = 6 := rfl
theorem zln_88 : zln 88 = 6 := rfl
theorem zkd_89 : zkd 89 = 104 := rfl
theorem zkd_90 : zkd 90 = 104 := rfl
theorem zkd_91 : zkd 91 = 104 := rfl
theorem zkd_92 : zkd 92 = 104 := rfl
theorem zkd_93 : zkd 93 = 104 := rfl
theorem zkd_94 : zkd 94 = 104 := rfl
theorem zkd_95 : zkd 95 = 104 := rfl
theorem zkd_96 : zkd 96 = 104 := rfl
theorem zkd_97 : zkd 97 = 101 := rfl
theorem zkd_98 : zkd 98 = 101 := rfl
theorem zkd_99 : zkd 99 = 101 := rfl
theorem zkd_100 : zkd 100 = 101 := rfl
theorem zkd_101 : zkd 101 = 101 := rfl
theorem zkd_102 : zkd 102 = 101 := rfl
theorem zkd_103 : zkd 103 = 1 := rfl
theorem zln_103 : zln 103 = 40 := rfl
theorem zkd_104 : zkd 104 = 102 := rfl
theorem zrf_104_0 : zrf 104 0 = 105 := rfl
theorem zrf_104_1 : zrf 104 1 = 122 := rfl
theorem zkd_105 : zkd 105 = 105 := rfl
theorem zrf_105_10 : zrf 105 10 = 106 := rfl
theorem zrf_105_11 : zrf 105 11 = 107 := rfl
theorem zkd_106 : zkd 106 = 5 := rfl
theorem zln_106 : zln 106 = 8 := rfl
theorem zkd_107 : zkd 107 = 6 := rfl
theorem zln_107 : zln 107 = 6 := rfl
theorem zkd_108 : zkd 108 = 104 := rfl
theorem zkd_109 : zkd 109 = 104 := rfl
theorem zkd_110 : zkd 110 = 104 := rfl
theorem zkd_111 : zkd 111 = 104 := rfl
theorem zkd_112 : zkd 112 = 104 := rfl
theorem zkd_113 : zkd 113 = 104 := rfl
theorem zkd_114 : zkd 114 = 104 := rfl
theorem zkd_115 : zkd 115 = 104 := rfl
theorem zkd_116 : zkd 116 = 101 := rfl
theorem zkd_117 : zkd 117 = 101 := rfl
theorem zkd_118 : zkd 118 = 101 := rfl
theorem zkd_119 : zkd 119 = 101 := rfl
theorem zkd_120 : zkd 120 = 101 := rfl
theorem zkd_121 : zkd 121 = 101 := rfl
theorem zkd_122 : zkd 122 = 1 := rfl
theorem zln_122 : zln 122 = 40 := rfl
theorem zkd_123 : zkd 123 = 106 := rfl
theorem zrf_123_0 : zrf 123 0 = 124 := rfl
theorem zkd_124 : zkd 124 = 2 := rfl
theorem zln_124 : zln 124 = 60 := rfl
theorem zkd_125 : zkd 125 = 106 := rfl
theorem zrf_125_0 : zrf 125 0 = 126 := rfl
theorem zkd_126 : zkd 126 = 2 := rfl
theorem zln_126 : zln 126 = 60 := rfl
theorem zkd_127 : zkd 127 = 106 := rfl
theorem zrf_127_0 : zrf 127 0 = 128 := rfl
theorem zkd_128 : zkd 128 = 2 := rfl
theorem zln_128 : zln 128 = 60 := rfl
theorem zkd_129 : zkd 129 = 106 := rfl
theorem zrf_129_0 : zrf 129 0 = 130 := rfl
theorem zkd_130 : zkd 130 = 2 := rfl
theorem zln_130 : zln 130 = 60 := rfl
theorem zkd_131 : zkd 131 = 111 := rfl
theorem zrf_131_1 : zrf 131 1 = 132 := rfl
theorem zrf_131_2 : zrf 131 2 = 133 := rfl
theorem zrf_131_3 : zrf 131 3 = 134 := rfl
theorem zrf_131_4 : zrf 131 4 = 135 := rfl
theorem zrf_131_5 : zrf 131 5 = 136 := rfl
theorem zrf_131_16 : zrf 131 16 = 137 := rfl
theorem zrf_131_17 : zrf 131 17 = 138 := rfl
theorem zrf_131_18 : zrf 131 18 = 139 := rfl
theorem zrf_131_19 : zrf 131 19 = 140 := rfl
theorem zrf_131_20 : zrf 131 20 = 141 := rfl
theorem zrf_131_21 : zrf 131 21 = 142 := rfl
theorem zrf_131_22 : zrf 131 22 = 143 := rfl
theorem zrf_131_23 : zrf 131 23 = 144 := rfl
theorem zrf_131_27 : zrf 131 27 = 145 := rfl
theorem zrf_131_34 : zrf 131 34 = 146 := rfl
theorem zrf_131_37 : zrf 131 37 = 147 := rfl
theorem zrf_131_38 : zrf 131 38 = 148 := rfl
theorem zrf_131_39 : zrf 131 39 = 149 := rfl
theorem zrf_131_40 : zrf 131 40 = 150 := rfl
theorem zkd_132 : zkd 132 = 1 := rfl
theorem zln_132 : zln 132 = 4 := rfl
theorem zkd_133 : zkd 133 = 1 := rfl
theorem zln_133 : zln 133 = 4 := rfl
theorem zkd_134 : zkd 134 = 2 := rfl
theorem zln_134 : zln 134 = 240 := rfl
theorem zkd_135 : zkd 135 = 2 := rfl
theorem zln_135 : zln 135 = 60 := rfl
theorem zkd_136 : zkd 136 = 3 := rfl
theorem zln_136 : zln 136 = 900 := rfl
theorem zkd_137 : zkd 137 = 1 := rfl
theorem zln_137 : zln 137 = 5 := rfl
theorem zkd_138 : zkd 138 = 1 := rfl
theorem zln_138 : zln 138 = 50 := rfl
theorem zkd_139 : zkd 139 = 1 := rfl
theorem zln_139 : zln 139 = 160 := rfl
theorem zkd_140 : zkd 140 = 1 := rfl
theorem zln_140 : zln 140 = 150 := rfl
theorem zkd_141 : zkd 141 = 1 := rfl
theorem zln_141 : zln 141 = 200 := rfl
theorem zkd_142 : zkd 142 = 4 := rfl
theorem zln_142 : zln 142 = 3 := rfl
theorem zkd_143 : zkd 143 = 1 := rfl
theorem zln_143 : zln 143 = 8 := rfl
theorem zkd_144 : zkd 144 = 1 := rfl
theorem zln_144 : zln 144 = 8 := rfl
theorem zkd_145 : zkd 145 = 1 := rfl
theorem zln_145 : zln 145 = 36 := rfl
theorem zkd_146 : zkd 146 = 1 := rfl
theorem zln_146 : zln 146 = 8 := rfl
theorem zkd_147 : zkd 147 = 1 := rfl
theorem zln_147 : zln 147 = 36 := rfl
theorem zkd_148 : zkd 148 = 1 := rfl
theorem zln_148 : zln 148 = 384 := rfl
theorem zkd_149 : zkd 149 = 1 := rfl
theorem zln_149 : zln 149 = 8 := rfl
theorem zkd_150 : zkd 150 = 1 := rfl
theorem zln_150 : zln 150 = 4 := rfl
theorem zsw0_0 : zswt 0 0 = 1 := rfl
theorem zsw0_1 : zswt 0 1 = 2 := rfl
theorem zsw0_2 : zswt 0 2 = 3 := rfl
theorem zsw0_l {x : Int} (h : x < 0) : zswt 0 x = 4 := by
  show (if x < 0 then 4 else _) = 4
  rw [if_pos h]
theorem zsw0_h {x : Int} (h : 2 < x) : zswt 0 x = 4 := by
  show (if x < 0 then 4 else ([1, 2, 3] : List Nat).getD (x - 0).toNat 4) = 4
  rw [if_neg (by omega), List.getD_eq_getElem?_getD, List.getElem?_eq_none (by show 3 ≤ _; omega)]
  rfl
theorem zsw1_0 : zswt 1 0 = 3 := rfl
theorem zsw1_1 : zswt 1 1 = 4 := rfl
theorem zsw1_2 : zswt 1 2 = 5 := rfl
theorem zsw1_3 : zswt 1 3 = 6 := rfl
theorem zsw1_4 : zswt 1 4 = 7 := rfl
theorem zsw1_l {x : Int} (h : x < 0) : zswt 1 x = 11 := by
  show (if x < 0 then 11 else _) = 11
  rw [if_pos h]
theorem zsw1_h {x : Int} (h : 4 < x) : zswt 1 x = 11 := by
  show (if x < 0 then 11 else ([3, 4, 5, 6, 7] : List Nat).getD (x - 0).toNat 11) = 11
  rw [if_neg (by omega), List.getD_eq_getElem?_getD, List.getElem?_eq_none (by show 5 ≤ _; omega)]
  rfl
theorem zsw2_0 : zswt 2 0 = 3 := rfl
theorem zsw2_1 : zswt 2 1 = 4 := rfl
theorem zsw2_2 : zswt 2 2 = 5 := rfl
theorem zsw2_3 : zswt 2 3 = 6 := rfl
theorem zsw2_4 : zswt 2 4 = 7 := rfl
theorem zsw2_l {x : Int} (h : x < 0) : zswt 2 x = 8 := by
  show (if x < 0 then 8 else _) = 8
  rw [if_pos h]
theorem zsw2_h {x : Int} (h : 4 < x) : zswt 2 x = 8 := by
  show (if x < 0 then 8 else ([3, 4, 5, 6, 7] : List Nat).getD (x - 0).toNat 8) = 8
  rw [if_neg (by omega), List.getD_eq_getElem?_getD, List.getElem?_eq_none (by show 5 ≤ _; omega)]
  rfl
theorem zsw3_0 : zswt 3 0 = 1 := rfl
theorem zsw3_1 : zswt 3 1 = 2 := rfl
theorem zsw3_2 : zswt 3 2 = 3 := rfl
theorem zsw3_3 : zswt 3 3 = 4 := rfl
theorem zsw3_4 : zswt 3 4 = 5 := rfl
theorem zsw3_5 : zswt 3 5 = 6 := rfl
theorem zsw3_6 : zswt 3 6 = 7 := rfl
theorem zsw3_7 : zswt 3 7 = 8 := rfl
theorem zsw3_8 : zswt 3 8 = 9 := rfl
theorem zsw3_9 : zswt 3 9 = 10 := rfl
theorem zsw3_l {x : Int} (h : x < 0) : zswt 3 x = 11 := by
  show (if x < 0 then 11 else _) = 11
  rw [if_pos h]
theorem zsw3_h {x : Int} (h : 9 < x) : zswt 3 x = 11 := by
  show (if x < 0 then 11 else ([1, 2, 3, 4, 5, 6, 7, 8, 9, 10] : List Nat).getD (x - 0).toNat 11) = 11
  rw [if_neg (by omega), List.getD_eq_getElem?_getD, List.getElem?_eq_none (by show 10 ≤ _; omega)]
  rfl
theorem zsw4_0 : zswt 4 0 = 3 := rfl
theorem zsw4_1 : zswt 4 1 = 4 := rfl
theorem zsw4_2 : zswt 4 2 = 5 := rfl
theorem zsw4_3 : zswt 4 3 = 9 := rfl
theorem zsw4_4 : zswt 4 4 = 10 := rfl
theorem zsw4_l {x : Int} (h : x < 0) : zswt 4 x = 11 := by
  show (if x < 0 then 11 else _) = 11
  rw [if_pos h]
theorem zsw4_h {x : Int} (h : 4 < x) : zswt 4 x = 11 := by
  show (if x < 0 then 11 else ([3, 4, 5, 9, 10] : List Nat).getD (x - 0).toNat 11) = 11
  rw [if_neg (by omega), List.getD_eq_getElem?_getD, List.getElem?_eq_none (by show 5 ≤ _; omega)]
  rfl
theorem zsw5_0 : zswt 5 0 = 4 := rfl
theorem zsw5_1 : zswt 5 1 = 5 := rfl
theorem zsw5_2 : zswt 5 2 = 6 := rfl
theorem zsw5_3 : zswt 5 3 = 10 := rfl
theorem zsw5_l {x : Int} (h : x < 0) : zswt 5 x = 11 := by
  show (if x < 0 then 11 else _) = 11
  rw [if_pos h]
theorem zsw5_h {x : Int} (h : 3 < x) : zswt 5 x = 11 := by
  show (if x < 0 then 11 else ([4, 5, 6, 10] : List Nat).getD (x - 0).toNat 11) = 11
  rw [if_neg (by omega), List.getD_eq_getElem?_getD, List.getElem?_eq_none (by show 4 ≤ _; omega)]
  rfl
theorem zsw6_0 : zswt 6 0 = 1 := rfl
theorem zsw6_1 : zswt 6 1 = 2 := rfl
theorem zsw6_2 : zswt 6 2 = 3 := rfl
theorem zsw6_3 : zswt 6 3 = 4 := rfl
theorem zsw6_4 : zswt 6 4 = 5 := rfl
theorem zsw6_5 : zswt 6 5 = 6 := rfl
theorem zsw6_6 : zswt 6 6 = 7 := rfl
theorem zsw6_7 : zswt 6 7 = 8 := rfl
theorem zsw6_8 : zswt 6 8 = 9 := rfl
theorem zsw6_9 : zswt 6 9 = 10 := rfl
theorem zsw6_l {x : Int} (h : x < 0) : zswt 6 x = 17 := by
  show (if x < 0 then 17 else _) = 17
  rw [if_pos h]
theorem zsw6_h {x : Int} (h : 9 < x) : zswt 6 x = 17 := by
  show (if x < 0 then 17 else ([1, 2, 3, 4, 5, 6, 7, 8, 9, 10] : List Nat).getD (x - 0).toNat 17) = 17
  rw [if_neg (by omega), List.getD_eq_getElem?_getD, List.getElem?_eq_none (by show 10 ≤ _; omega)]
  rfl
theorem zsw7_0 : zswt 7 0 = 2 := rfl
theorem zsw7_1 : zswt 7 1 = 4 := rfl
theorem zsw7_2 : zswt 7 2 = 6 := rfl
theorem zsw7_3 : zswt 7 3 = 8 := rfl
theorem zsw7_4 : zswt 7 4 = 10 := rfl
theorem zsw7_5 : zswt 7 5 = 12 := rfl
theorem zsw7_6 : zswt 7 6 = 14 := rfl
theorem zsw7_7 : zswt 7 7 = 16 := rfl
theorem zsw7_8 : zswt 7 8 = 18 := rfl
theorem zsw7_9 : zswt 7 9 = 20 := rfl
theorem zsw7_10 : zswt 7 10 = 22 := rfl
theorem zsw7_11 : zswt 7 11 = 24 := rfl
theorem zsw7_12 : zswt 7 12 = 26 := rfl
theorem zsw7_13 : zswt 7 13 = 28 := rfl
theorem zsw7_14 : zswt 7 14 = 30 := rfl
theorem zsw7_15 : zswt 7 15 = 32 := rfl
theorem zsw7_16 : zswt 7 16 = 34 := rfl
theorem zsw7_17 : zswt 7 17 = 36 := rfl
theorem zsw7_18 : zswt 7 18 = 38 := rfl
theorem zsw7_19 : zswt 7 19 = 40 := rfl
theorem zsw7_20 : zswt 7 20 = 42 := rfl
theorem zsw7_21 : zswt 7 21 = 44 := rfl
theorem zsw7_22 : zswt 7 22 = 46 := rfl
theorem zsw7_23 : zswt 7 23 = 48 := rfl
theorem zsw7_24 : zswt 7 24 = 50 := rfl
theorem zsw7_25 : zswt 7 25 = 52 := rfl
theorem zsw7_26 : zswt 7 26 = 54 := rfl
theorem zsw7_27 : zswt 7 27 = 56 := rfl
theorem zsw7_28 : zswt 7 28 = 58 := rfl
theorem zsw7_29 : zswt 7 29 = 60 := rfl
theorem zsw7_30 : zswt 7 30 = 62 := rfl
theorem zsw7_31 : zswt 7 31 = 64 := rfl
theorem zsw7_32 : zswt 7 32 = 66 := rfl
theorem zsw7_33 : zswt 7 33 = 68 := rfl
theorem zsw7_34 : zswt 7 34 = 70 := rfl
theorem zsw7_35 : zswt 7 35 = 72 := rfl
theorem zsw7_36 : zswt 7 36 = 74 := rfl
theorem zsw7_37 : zswt 7 37 = 76 := rfl
theorem zsw7_38 : zswt 7 38 = 78 := rfl
theorem zsw7_39 : zswt 7 39 = 80 := rfl
theorem zsw7_40 : zswt 7 40 = 82 := rfl
theorem zsw7_41 : zswt 7 41 = 84 := rfl
theorem zsw7_42 : zswt 7 42 = 86 := rfl
theorem zsw7_43 : zswt 7 43 = 88 := rfl
theorem zsw7_44 : zswt 7 44 = 90 := rfl
theorem zsw7_45 : zswt 7 45 = 92 := rfl
theorem zsw7_46 : zswt 7 46 = 94 := rfl
theorem zsw7_47 : zswt 7 47 = 96 := rfl
theorem zsw7_48 : zswt 7 48 = 98 := rfl
theorem zsw7_49 : zswt 7 49 = 100 := rfl
theorem zsw7_50 : zswt 7 50 = 102 := rfl
theorem zsw7_51 : zswt 7 51 = 104 := rfl
theorem zsw7_52 : zswt 7 52 = 106 := rfl
theorem zsw7_53 : zswt 7 53 = 108 := rfl
theorem zsw7_54 : zswt 7 54 = 110 := rfl
theorem zsw7_55 : zswt 7 55 = 112 := rfl
theorem zsw7_56 : zswt 7 56 = 114 := rfl
theorem zsw7_57 : zswt 7 57 = 116 := rfl
theorem zsw7_58 : zswt 7 58 = 118 := rfl
theorem zsw7_59 : zswt 7 59 = 120 := rfl
theorem zsw7_60 : zswt 7 60 = 122 := rfl
theorem zsw7_61 : zswt 7 61 = 124 := rfl
theorem zsw7_62 : zswt 7 62 = 126 := rfl
theorem zsw7_63 : zswt 7 63 = 128 := rfl
theorem zsw7_64 : zswt 7 64 = 130 := rfl
theorem zsw7_l {x : Int} (h : x < 0) : zswt 7 x = 132 := by
  show (if x < 0 then 132 else _) = 132
  rw [if_pos h]
theorem zsw7_h {x : Int} (h : 64 < x) : zswt 7 x = 132 := by
  show (if x < 0 then 132 else ([2, 4, 6, 8, 10, 12, 14, 16, 18, 20, 22, 24, 26, 28, 30, 32, 34, 36, 38, 40, 42, 44, 46, 48, 50, 52, 54, 56, 58, 60, 62, 64, 66, 68, 70, 72, 74, 76, 78, 80, 82, 84, 86, 88, 90, 92, 94, 96, 98, 100, 102, 104, 106, 108, 110, 112, 114, 116, 118, 120, 122, 124, 126, 128, 130] : List Nat).getD (x - 0).toNat 132) = 132
  rw [if_neg (by omega), List.getD_eq_getElem?_getD, List.getElem?_eq_none (by show 65 ≤ _; omega)]
  rfl
theorem zrf_a4 {i : Int} (h1 : 0 ≤ i) (h2 : i < 8) : zrf 4 i = 6 + i := by
  obtain ⟨k, rfl⟩ : ∃ k : Nat, i = k := ⟨i.toNat, by omega⟩
  have : ∀ k : Nat, k < 8 → zrf 4 (k : Int) = 6 + (k : Int) := by decide
  exact this k (by omega)
theorem zkd_a4 {i : Int} (h1 : 0 ≤ i) (h2 : i < 8) : zkd (6 + i) = 104 := by
  obtain ⟨k, rfl⟩ : ∃ k : Nat, i = k := ⟨i.toNat, by omega⟩
  have : ∀ k : Nat, k < 8 → zkd (6 + (k : Int)) = 104 := by decide
  exact this k (by omega)
theorem zrf_a5 {i : Int} (h1 : 0 ≤ i) (h2 : i < 6) : zrf 5 i = 14 + i := by
  obtain ⟨k, rfl⟩ : ∃ k : Nat, i = k := ⟨i.toNat, by omega⟩
  have : ∀ k : Nat, k < 6 → zrf 5 (k : Int) = 14 + (k : Int) := by decide
  exact this k (by omega)
theorem zkd_a5 {i : Int} (h1 : 0 ≤ i) (h2 : i < 6) : zkd (14 + i) = 101 := by
  obtain ⟨k, rfl⟩ : ∃ k : Nat, i = k := ⟨i.toNat, by omega⟩
  have : ∀ k : Nat, k < 6 → zkd (14 + (k : Int)) = 101 := by decide
  exact this k (by omega)
theorem zrf_a22 {i : Int} (h1 : 0 ≤ i) (h2 : i < 8) : zrf 22 i = 24 + i := by
  obtain ⟨k, rfl⟩ : ∃ k : Nat, i = k := ⟨i.toNat, by omega⟩
  have : ∀ k : Nat, k < 8 → zrf 22 (k : Int) = 24 + (k : Int) := by decide
  exact this k (by omega)
theorem zkd_a22 {i : Int} (h1 : 0 ≤ i) (h2 : i < 8) : zkd (24 + i) = 104 := by
  obtain ⟨k, rfl⟩ : ∃ k : Nat, i = k := ⟨i.toNat, by omega⟩
  have : ∀ k : Nat, k < 8 → zkd (24 + (k : Int)) = 104 := by decide
  exact this k (by omega)
theorem zrf_a23 {i : Int} (h1 : 0 ≤ i) (h2 : i < 6) : zrf 23 i = 32 + i := by
  obtain ⟨k, rfl⟩ : ∃ k : Nat, i = k := ⟨i.toNat, by omega⟩
  have : ∀ k : Nat, k < 6 → zrf 23 (k : Int) = 32 + (k : Int) := by decide
  exact this k (by omega)
theorem zkd_a23 {i : Int} (h1 : 0 ≤ i) (h2 : i < 6) : zkd (32 + i) = 101 := by
  obtain ⟨k, rfl⟩ : ∃ k : Nat, i = k := ⟨i.toNat, by omega⟩
  have : ∀ k : Nat, k < 6 → zkd (32 + (k : Int)) = 101 := by decide
  exact this k (by omega)
theorem zrf_a50 {i : Int} (h1 : 0 ≤ i) (h2 : i < 5) : zrf 50 i = 51 + 2 * i := by
  obtain ⟨k, rfl⟩ : ∃ k : Nat, i = k := ⟨i.toNat, by omega⟩
  have : ∀ k : Nat, k < 5 → zrf 50 (k : Int) = 51 + 2 * (k : Int) := by decide
  exact this k (by omega)
theorem zkd_a50 {i : Int} (h1 : 0 ≤ i) (h2 : i < 5) : zkd (51 + 2 * i) = 107 := by
  obtain ⟨k, rfl⟩ : ∃ k : Nat, i = k := ⟨i.toNat, by omega⟩
  have : ∀ k : Nat, k < 5 → zkd (51 + 2 * (k : Int)) = 107 := by decide
  exact this k (by omega)
theorem zrf_a50_6 {i : Int} (h1 : 0 ≤ i) (h2 : i < 5) : zrf (51 + 2 * i) 6 = 52 + 2 * i := by
  obtain ⟨k, rfl⟩ : ∃ k : Nat, i = k := ⟨i.toNat, by omega⟩
  have : ∀ k : Nat, k < 5 → zrf (51 + 2 * (k : Int)) 6 = 52 + 2 * (k : Int) := by decide
  exact this k (by omega)
theorem zkd_a50_6 {i : Int} (h1 : 0 ≤ i) (h2 : i < 5) : zkd (52 + 2 * i) = 1 := by
  obtain ⟨k, rfl⟩ : ∃ k : Nat, i = k := ⟨i.toNat, by omega⟩
  have : ∀ k : Nat, k < 5 → zkd (52 + 2 * (k : Int)) = 1 := by decide
  exact this k (by omega)
theorem zln_a50_6 {i : Int} (h1 : 0 ≤ i) (h2 : i < 5) : zln (52 + 2 * i) = 8 := by
  obtain ⟨k, rfl⟩ : ∃ k : Nat, i = k := ⟨i.toNat, by omega⟩
  have : ∀ k : Nat, k < 5 → zln (52 + 2 * (k : Int)) = 8 := by decide
  exact this k (by omega)
theorem zrf_a64 {i : Int} (h1 : 0 ≤ i) (h2 : i < 3) : zrf 64 i = 66 + 19 * i := by
  obtain ⟨k, rfl⟩ : ∃ k : Nat, i = k := ⟨i.toNat, by omega⟩
  have : ∀ k : Nat, k < 3 → zrf 64 (k : Int) = 66 + 19 * (k : Int) := by decide
  exact this k (by omega)
theorem zkd_a64 {i : Int} (h1 : 0 ≤ i) (h2 : i < 3) : zkd (66 + 19 * i) = 102 := by
  obtain ⟨k, rfl⟩ : ∃ k : Nat, i = k := ⟨i.toNat, by omega⟩
  have : ∀ k : Nat, k < 3 → zkd (66 + 19 * (k : Int)) = 102 := by decide
  exact this k (by omega)
theorem zrf_a64_0 {i : Int} (h1 : 0 ≤ i) (h2 : i < 3) : zrf (66 + 19 * i) 0 = 67 + 19 * i := by
  obtain ⟨k, rfl⟩ : ∃ k : Nat, i = k := ⟨i.toNat, by omega⟩
  have : ∀ k : Nat, k < 3 → zrf (66 + 19 * (k : Int)) 0 = 67 + 19 * (k : Int) := by decide
  exact this k (by omega)
theorem zkd_a64_0 {i : Int} (h1 : 0 ≤ i) (h2 : i < 3) : zkd (67 + 19 * i) = 105 := by
  obtain ⟨k, rfl⟩ : ∃ k : Nat, i = k := ⟨i.toNat, by omega⟩
  have : ∀ k : Nat, k < 3 → zkd (67 + 19 * (k : Int)) = 105 := by decide
  exact this k (by omega)
theorem zrf_a64_1 {i : Int} (h1 : 0 ≤ i) (h2 : i < 3) : zrf (66 + 19 * i) 1 = 84 + 19 * i := by
  obtain ⟨k, rfl⟩ : ∃ k : Nat, i = k := ⟨i.toNat, by omega⟩
  have : ∀ k : Nat, k < 3 → zrf (66 + 19 * (k : Int)) 1 = 84 + 19 * (k : Int) := by decide
  exact this k (by omega)
theorem zkd_a64_1 {i : Int} (h1 : 0 ≤ i) (h2 : i < 3) : zkd (84 + 19 * i) = 1 := by
  obtain ⟨k, rfl⟩ : ∃ k : Nat, i = k := ⟨i.toNat, by omega⟩
  have : ∀ k : Nat, k < 3 → zkd (84 + 19 * (k : Int)) = 1 := by decide
  exact this k (by omega)
theorem zln_a64_1 {i : Int} (h1 : 0 ≤ i) (h2 : i < 3) : zln (84 + 19 * i) = 40 := by
  obtain ⟨k, rfl⟩ : ∃ k : Nat, i = k := ⟨i.toNat, by omega⟩
  have : ∀ k : Nat, k < 3 → zln (84 + 19 * (k : Int)) = 40 := by decide
  exact this k (by omega)
theorem zrf_a65 {i : Int} (h1 : 0 ≤ i) (h2 : i < 4) : zrf 65 i = 123 + 2 * i := by
  obtain ⟨k, rfl⟩ : ∃ k : Nat, i = k := ⟨i.toNat, by omega⟩
  have : ∀ k : Nat, k < 4 → zrf 65 (k : Int) = 123 + 2 * (k : Int) := by decide
  exact this k (by omega)
theorem zkd_a65 {i : Int} (h1 : 0 ≤ i) (h2 : i < 4) : zkd (123 + 2 * i) = 106 := by
  obtain ⟨k, rfl⟩ : ∃ k : Nat, i = k := ⟨i.toNat, by omega⟩
  have : ∀ k : Nat, k < 4 → zkd (123 + 2 * (k : Int)) = 106 := by decide
  exact this k (by omega)
theorem zrf_a65_0 {i : Int} (h1 : 0 ≤ i) (h2 : i < 4) : zrf (123 + 2 * i) 0 = 124 + 2 * i := by
  obtain ⟨k, rfl⟩ : ∃ k : Nat, i = k := ⟨i.toNat, by omega⟩
  have : ∀ k : Nat, k < 4 → zrf (123 + 2 * (k : Int)) 0 = 124 + 2 * (k : Int) := by decide
  exact this k (by omega)
theorem zkd_a65_0 {i : Int} (h1 : 0 ≤ i) (h2 : i < 4) : zkd (124 + 2 * i) = 2 := by
  obtain ⟨k, rfl⟩ : ∃ k : Nat, i = k := ⟨i.toNat, by omega⟩
  have : ∀ k : Nat, k < 4 → zkd (124 + 2 * (k : Int)) = 2 := by decide
  exact this k (by omega)
theorem zln_a65_0 {i : Int} (h1 : 0 ≤ i) (h2 : i < 4) : zln (124 + 2 * i) = 60 := by
  obtain ⟨k, rfl⟩ : ∃ k : Nat, i = k := ⟨i.toNat, by omega⟩
  have : ∀ k : Nat, k < 4 → zln (124 + 2 * (k : Int)) = 60 := by decide
  exact this k (by omega)
theorem zrf_a68 {i : Int} (h1 : 0 ≤ i) (h2 : i < 8) : zrf 68 i = 70 + i := by
  obtain ⟨k, rfl⟩ : ∃ k : Nat, i = k := ⟨i.toNat, by omega⟩
  have : ∀ k : Nat, k < 8 → zrf 68 (k : Int) = 70 + (k : Int) := by decide
  exact this k (by omega)
theorem zkd_a68 {i : Int} (h1 : 0 ≤ i) (h2 : i < 8) : zkd (70 + i) = 104 := by
  obtain ⟨k, rfl⟩ : ∃ k : Nat, i = k := ⟨i.toNat, by omega⟩
  have : ∀ k : Nat, k < 8 → zkd (70 + (k : Int)) = 104 := by decide
  exact this k (by omega)
theorem zrf_a69 {i : Int} (h1 : 0 ≤ i) (h2 : i < 6) : zrf 69 i = 78 + i := by
  obtain ⟨k, rfl⟩ : ∃ k : Nat, i = k := ⟨i.toNat, by omega⟩
  have : ∀ k : Nat, k < 6 → zrf 69 (k : Int) = 78 + (k : Int) := by decide
  exact this k (by omega)
theorem zkd_a69 {i : Int} (h1 : 0 ≤ i) (h2 : i < 6) : zkd (78 + i) = 101 := by
  obtain ⟨k, rfl⟩ : ∃ k : Nat, i = k := ⟨i.toNat, by omega⟩
  have : ∀ k : Nat, k < 6 → zkd (78 + (k : Int)) = 101 := by decide
  exact this k (by omega)
theorem zrf_a87 {i : Int} (h1 : 0 ≤ i) (h2 : i < 8) : zrf 87 i = 89 + i := by
  obtain ⟨k, rfl⟩ : ∃ k : Nat, i = k := ⟨i.toNat, by omega⟩
  have : ∀ k : Nat, k < 8 → zrf 87 (k : Int) = 89 + (k : Int) := by decide
  exact this k (by omega)
theorem zkd_a87 {i : Int} (h1 : 0 ≤ i) (h2 : i < 8) : zkd (89 + i) = 104 := by
  obtain ⟨k, rfl⟩ : ∃ k : Nat, i = k := ⟨i.toNat, by omega⟩
  have : ∀ k : Nat, k < 8 → zkd (89 + (k : Int)) = 104 := by decide
  exact this k (by omega)
theorem zrf_a88 {i : Int} (h1 : 0 ≤ i) (h2 : i < 6) : zrf 88 i = 97 + i := by
  obtain ⟨k, rfl⟩ : ∃ k : Nat, i = k := ⟨i.toNat, by omega⟩
  have : ∀ k : Nat, k < 6 → zrf 88 (k : Int) = 97 + (k : Int) := by decide
  exact this k (by omega)
theorem zkd_a88 {i : Int} (h1 : 0 ≤ i) (h2 : i < 6) : zkd (97 + i) = 101 := by
  obtain ⟨k, rfl⟩ : ∃ k : Nat, i = k := ⟨i.toNat, by omega⟩
  have : ∀ k : Nat, k < 6 → zkd (97 + (k : Int)) = 101 := by decide
  exact this k (by omega)
theorem zrf_a106 {i : Int} (h1 : 0 ≤ i) (h2 : i < 8) : zrf 106 i = 108 + i := by
  obtain ⟨k, rfl⟩ : ∃ k : Nat, i = k := ⟨i.toNat, by omega⟩
  have : ∀ k : Nat, k < 8 → zrf 106 (k : Int) = 108 + (k : Int) := by decide
  exact this k (by omega)
theorem zkd_a106 {i : Int} (h1 : 0 ≤ i) (h2 : i < 8) : zkd (108 + i) = 104 := by
  obtain ⟨k, rfl⟩ : ∃ k : Nat, i = k := ⟨i.toNat, by omega⟩
  have : ∀ k : Nat, k < 8 → zkd (108 + (k : Int)) = 104 := by decide
  exact this k (by omega)
theorem zrf_a107 {i : Int} (h1 : 0 ≤ i) (h2 : i < 6) : zrf 107 i = 116 + i := by
  obtain ⟨k, rfl⟩ : ∃ k : Nat, i = k := ⟨i.toNat, by omega⟩
  have : ∀ k : Nat, k < 6 → zrf 107 (k : Int) = 116 + (k : Int) := by decide
  exact this k (by omega)
theorem zkd_a107 {i : Int} (h1 : 0 ≤ i) (h2 : i < 6) : zkd (116 + i) = 101 := by
  obtain ⟨k, rfl⟩ : ∃ k : Nat, i = k := ⟨i.toNat, by omega⟩
  have : ∀ k : Nat, k < 6 → zkd (116 + (k : Int)) = 101 := by decide
  exact this k (by omega)
