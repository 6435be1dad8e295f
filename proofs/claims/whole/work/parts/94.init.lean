/-! ===== the constructors ===== -/
theorem dn10_0 : decode cX10_init 0 = .ok (.aload_n 0, 1) := by decide +kernel
theorem dn10_1 : decode cX10_init 1 = .ok (.invokespecial 1, 3) := by decide +kernel
theorem dn10_4 : decode cX10_init 4 = .ok (.aload_n 0, 1) := by decide +kernel
theorem dn10_5 : decode cX10_init 5 = .ok (.new 7, 3) := by decide +kernel
theorem dn10_8 : decode cX10_init 8 = .ok (.dup, 1) := by decide +kernel
theorem dn10_9 : decode cX10_init 9 = .ok (.invokespecial 9, 3) := by decide +kernel
theorem dn10_12 : decode cX10_init 12 = .ok (.putfield 10, 3) := by decide +kernel
theorem dn10_15 : decode cX10_init 15 = .ok (.aload_n 0, 1) := by decide +kernel
theorem dn10_16 : decode cX10_init 16 = .ok (.new 16, 3) := by decide +kernel
theorem dn10_19 : decode cX10_init 19 = .ok (.dup, 1) := by decide +kernel
theorem dn10_20 : decode cX10_init 20 = .ok (.invokespecial 18, 3) := by decide +kernel
theorem dn10_23 : decode cX10_init 23 = .ok (.putfield 19, 3) := by decide +kernel
theorem dn10_26 : decode cX10_init 26 = .ok (.aload_n 0, 1) := by decide +kernel
theorem dn10_27 : decode cX10_init 27 = .ok (.new 23, 3) := by decide +kernel
theorem dn10_30 : decode cX10_init 30 = .ok (.dup, 1) := by decide +kernel
theorem dn10_31 : decode cX10_init 31 = .ok (.invokespecial 25, 3) := by decide +kernel
theorem dn10_34 : decode cX10_init 34 = .ok (.putfield 26, 3) := by decide +kernel
theorem dn10_37 : decode cX10_init 37 = .ok (.aload_n 0, 1) := by decide +kernel
theorem dn10_38 : decode cX10_init 38 = .ok (.aload_n 0, 1) := by decide +kernel
theorem dn10_39 : decode cX10_init 39 = .ok (.getfield 26, 3) := by decide +kernel
theorem dn10_42 : decode cX10_init 42 = .ok (.getfield 30, 3) := by decide +kernel
theorem dn10_45 : decode cX10_init 45 = .ok (.putfield 33, 3) := by decide +kernel
theorem dn10_48 : decode cX10_init 48 = .ok (.aload_n 0, 1) := by decide +kernel
theorem dn10_49 : decode cX10_init 49 = .ok (.bipush 40, 2) := by decide +kernel
theorem dn10_51 : decode cX10_init 51 = .ok (.newarray .int, 2) := by decide +kernel
theorem dn10_53 : decode cX10_init 53 = .ok (.putfield 34, 3) := by decide +kernel
theorem dn10_56 : decode cX10_init 56 = .ok (.aload_n 0, 1) := by decide +kernel
theorem dn10_57 : decode cX10_init 57 = .ok (.new 38, 3) := by decide +kernel
theorem dn10_60 : decode cX10_init 60 = .ok (.dup, 1) := by decide +kernel
theorem dn10_61 : decode cX10_init 61 = .ok (.invokespecial 40, 3) := by decide +kernel
theorem dn10_64 : decode cX10_init 64 = .ok (.putfield 41, 3) := by decide +kernel
theorem dn10_67 : decode cX10_init 67 = .ok (.aload_n 0, 1) := by decide +kernel
theorem dn10_68 : decode cX10_init 68 = .ok (.new 38, 3) := by decide +kernel
theorem dn10_71 : decode cX10_init 71 = .ok (.dup, 1) := by decide +kernel
theorem dn10_72 : decode cX10_init 72 = .ok (.invokespecial 40, 3) := by decide +kernel
theorem dn10_75 : decode cX10_init 75 = .ok (.putfield 45, 3) := by decide +kernel
theorem dn10_78 : decode cX10_init 78 = .ok (.aload_n 0, 1) := by decide +kernel
theorem dn10_79 : decode cX10_init 79 = .ok (.bipush 8, 2) := by decide +kernel
theorem dn10_81 : decode cX10_init 81 = .ok (.newarray .int, 2) := by decide +kernel
theorem dn10_83 : decode cX10_init 83 = .ok (.putfield 48, 3) := by decide +kernel
theorem dn10_86 : decode cX10_init 86 = .ok (.aload_n 0, 1) := by decide +kernel
theorem dn10_87 : decode cX10_init 87 = .ok (.new 51, 3) := by decide +kernel
theorem dn10_90 : decode cX10_init 90 = .ok (.dup, 1) := by decide +kernel
theorem dn10_91 : decode cX10_init 91 = .ok (.invokespecial 53, 3) := by decide +kernel
theorem dn10_94 : decode cX10_init 94 = .ok (.putfield 54, 3) := by decide +kernel
theorem dn10_97 : decode cX10_init 97 = .ok (.aload_n 0, 1) := by decide +kernel
theorem dn10_98 : decode cX10_init 98 = .ok (.new 58, 3) := by decide +kernel
theorem dn10_101 : decode cX10_init 101 = .ok (.dup, 1) := by decide +kernel
theorem dn10_102 : decode cX10_init 102 = .ok (.invokespecial 60, 3) := by decide +kernel
theorem dn10_105 : decode cX10_init 105 = .ok (.putfield 61, 3) := by decide +kernel
theorem dn10_108 : decode cX10_init 108 = .ok (.aload_n 0, 1) := by decide +kernel
theorem dn10_109 : decode cX10_init 109 = .ok (.iconst 3, 1) := by decide +kernel
theorem dn10_110 : decode cX10_init 110 = .ok (.anewarray 65, 3) := by decide +kernel
theorem dn10_113 : decode cX10_init 113 = .ok (.putfield 67, 3) := by decide +kernel
theorem dn10_116 : decode cX10_init 116 = .ok (.aload_n 0, 1) := by decide +kernel
theorem dn10_117 : decode cX10_init 117 = .ok (.iconst 4, 1) := by decide +kernel
theorem dn10_118 : decode cX10_init 118 = .ok (.anewarray 71, 3) := by decide +kernel
theorem dn10_121 : decode cX10_init 121 = .ok (.putfield 73, 3) := by decide +kernel
theorem dn10_124 : decode cX10_init 124 = .ok (.iconst 0, 1) := by decide +kernel
theorem dn10_125 : decode cX10_init 125 = .ok (.istore_n 1, 1) := by decide +kernel
theorem dn10_126 : decode cX10_init 126 = .ok (.iload_n 1, 1) := by decide +kernel
theorem dn10_127 : decode cX10_init 127 = .ok (.iconst 3, 1) := by decide +kernel
theorem dn10_128 : decode cX10_init 128 = .ok (.if_icmp .ge 22, 3) := by decide +kernel
theorem dn10_131 : decode cX10_init 131 = .ok (.aload_n 0, 1) := by decide +kernel
theorem dn10_132 : decode cX10_init 132 = .ok (.getfield 67, 3) := by decide +kernel
theorem dn10_135 : decode cX10_init 135 = .ok (.iload_n 1, 1) := by decide +kernel
theorem dn10_136 : decode cX10_init 136 = .ok (.new 65, 3) := by decide +kernel
theorem dn10_139 : decode cX10_init 139 = .ok (.dup, 1) := by decide +kernel
theorem dn10_140 : decode cX10_init 140 = .ok (.invokespecial 77, 3) := by decide +kernel
theorem dn10_143 : decode cX10_init 143 = .ok (.aastore, 1) := by decide +kernel
theorem dn10_144 : decode cX10_init 144 = .ok (.iinc 1 1, 3) := by decide +kernel
theorem dn10_147 : decode cX10_init 147 = .ok (.goto (-21), 3) := by decide +kernel
theorem dn10_150 : decode cX10_init 150 = .ok (.iconst 0, 1) := by decide +kernel
theorem dn10_151 : decode cX10_init 151 = .ok (.istore_n 1, 1) := by decide +kernel
theorem dn10_152 : decode cX10_init 152 = .ok (.iload_n 1, 1) := by decide +kernel
theorem dn10_153 : decode cX10_init 153 = .ok (.iconst 4, 1) := by decide +kernel
theorem dn10_154 : decode cX10_init 154 = .ok (.if_icmp .ge 22, 3) := by decide +kernel
theorem dn10_157 : decode cX10_init 157 = .ok (.aload_n 0, 1) := by decide +kernel
theorem dn10_158 : decode cX10_init 158 = .ok (.getfield 73, 3) := by decide +kernel
theorem dn10_161 : decode cX10_init 161 = .ok (.iload_n 1, 1) := by decide +kernel
theorem dn10_162 : decode cX10_init 162 = .ok (.new 71, 3) := by decide +kernel
theorem dn10_165 : decode cX10_init 165 = .ok (.dup, 1) := by decide +kernel
theorem dn10_166 : decode cX10_init 166 = .ok (.invokespecial 78, 3) := by decide +kernel
theorem dn10_169 : decode cX10_init 169 = .ok (.aastore, 1) := by decide +kernel
theorem dn10_170 : decode cX10_init 170 = .ok (.iinc 1 1, 3) := by decide +kernel
theorem dn10_173 : decode cX10_init 173 = .ok (.goto (-21), 3) := by decide +kernel
theorem dn10_176 : decode cX10_init 176 = .ok (.return_, 1) := by decide +kernel
def zF10 (T : Nat → ClassId) (a : Nat → Nat) : Nat → va_E
  | 0 => .inr (10, [.ref (a 1), .ref (a 3), .ref (a 20), .ref (a 21), .ref (a 42), .int 0, .ref (a 43), .ref (a 45), .ref (a 47), .ref (a 48), .ref (a 61), .ref (a 64), .ref (a 65)])
  | 1 => .inr (8, [.int 0, .int 0, .int (-1), .ref (a 2), .int 0, .int 0, .int 0, .int 0])
  | 2 => .inl (T 3, 900, .inl (fun _ => 0))
  | 3 => .inr (5, [.int 0, .int 0, .int 0, .int 0, .int 0, .int 0, .int 0, .int 0, .int 0, .int 0, .ref (a 4), .ref (a 5)])
  | 4 => .inl (T 5, 8, .inr (.inr (.inr (.inr (zUp (fun i => a (6 + 1 * i)) 8)))))
  | 5 => .inl (T 6, 6, .inr (.inr (.inr (.inr (zUp (fun i => a (14 + 1 * i)) 6)))))
  | 6 => .inr (4, [.int 0, .int 0, .int 0, .int 0])
  | 7 => .inr (4, [.int 0, .int 0, .int 0, .int 0])
  | 8 => .inr (4, [.int 0, .int 0, .int 0, .int 0])
  | 9 => .inr (4, [.int 0, .int 0, .int 0, .int 0])
  | 10 => .inr (4, [.int 0, .int 0, .int 0, .int 0])
  | 11 => .inr (4, [.int 0, .int 0, .int 0, .int 0])
  | 12 => .inr (4, [.int 0, .int 0, .int 0, .int 0])
  | 13 => .inr (4, [.int 0, .int 0, .int 0, .int 0])
  | 14 => .inr (1, [.int 0, .int 0, .int 0, .int 0, .int 0])
  | 15 => .inr (1, [.int 0, .int 0, .int 0, .int 0, .int 0])
  | 16 => .inr (1, [.int 0, .int 0, .int 0, .int 0, .int 0])
  | 17 => .inr (1, [.int 0, .int 0, .int 0, .int 0, .int 0])
  | 18 => .inr (1, [.int 0, .int 0, .int 0, .int 0, .int 0])
  | 19 => .inr (1, [.int 0, .int 0, .int 0, .int 0, .int 0])
  | 20 => .inr (0, [.ref (a 21), .ref (a 38), .ref (a 39), .ref (a 40), .ref (a 41), .int (-1)])
  | 21 => .inr (5, [.int 0, .int 0, .int 0, .int 0, .int 0, .int 0, .int 0, .int 0, .int 0, .int 0, .ref (a 22), .ref (a 23)])
  | 22 => .inl (T 5, 8, .inr (.inr (.inr (.inr (zUp (fun i => a (24 + 1 * i)) 8)))))
  | 23 => .inl (T 6, 6, .inr (.inr (.inr (.inr (zUp (fun i => a (32 + 1 * i)) 6)))))
  | 24 => .inr (4, [.int 0, .int 0, .int 0, .int 0])
  | 25 => .inr (4, [.int 0, .int 0, .int 0, .int 0])
  | 26 => .inr (4, [.int 0, .int 0, .int 0, .int 0])
  | 27 => .inr (4, [.int 0, .int 0, .int 0, .int 0])
  | 28 => .inr (4, [.int 0, .int 0, .int 0, .int 0])
  | 29 => .inr (4, [.int 0, .int 0, .int 0, .int 0])
  | 30 => .inr (4, [.int 0, .int 0, .int 0, .int 0])
  | 31 => .inr (4, [.int 0, .int 0, .int 0, .int 0])
  | 32 => .inr (1, [.int 0, .int 0, .int 0, .int 0, .int 0])
  | 33 => .inr (1, [.int 0, .int 0, .int 0, .int 0, .int 0])
  | 34 => .inr (1, [.int 0, .int 0, .int 0, .int 0, .int 0])
  | 35 => .inr (1, [.int 0, .int 0, .int 0, .int 0, .int 0])
  | 36 => .inr (1, [.int 0, .int 0, .int 0, .int 0, .int 0])
  | 37 => .inr (1, [.int 0, .int 0, .int 0, .int 0, .int 0])
  | 38 => .inl (T 1, 36, .inl (fun _ => 0))
  | 39 => .inl (T 1, 36, .inl (fun _ => 0))
  | 40 => .inl (T 1, 256, .inl (fun _ => 0))
  | 41 => .inl (T 1, 6, .inl (fun _ => 0))
  | 42 => .inl (T 1, 40, .inl (fun _ => 0))
  | 43 => .inr (7, [.int 0, .int 0, .int 0, .int 0, .int 0, .int 0, .ref (a 44)])
  | 44 => .inl (T 1, 8, .inl (fun _ => 0))
  | 45 => .inr (7, [.int 0, .int 0, .int 0, .int 0, .int 0, .int 0, .ref (a 46)])
  | 46 => .inl (T 1, 8, .inl (fun _ => 0))
  | 47 => .inl (T 1, 8, .inl (fun _ => 0))
  | 48 => .inr (3, [.ref (a 49), .ref (a 50), .int 0, .int 0])
  | 49 => .inl (T 1, 4, .inl (fun _ => 0))
  | 50 => .inl (T 7, 5, .inr (.inr (.inr (.inr (zUp (fun i => a (51 + 2 * i)) 5)))))
  | 51 => .inr (7, [.int 0, .int 0, .int 0, .int 0, .int 0, .int 0, .ref (a 52)])
  | 52 => .inl (T 1, 8, .inl (fun _ => 0))
  | 53 => .inr (7, [.int 0, .int 0, .int 0, .int 0, .int 0, .int 0, .ref (a 54)])
  | 54 => .inl (T 1, 8, .inl (fun _ => 0))
  | 55 => .inr (7, [.int 0, .int 0, .int 0, .int 0, .int 0, .int 0, .ref (a 56)])
  | 56 => .inl (T 1, 8, .inl (fun _ => 0))
  | 57 => .inr (7, [.int 0, .int 0, .int 0, .int 0, .int 0, .int 0, .ref (a 58)])
  | 58 => .inl (T 1, 8, .inl (fun _ => 0))
  | 59 => .inr (7, [.int 0, .int 0, .int 0, .int 0, .int 0, .int 0, .ref (a 60)])
  | 60 => .inl (T 1, 8, .inl (fun _ => 0))
  | 61 => .inr (9, [.ref (a 62), .int 0, .ref (a 63), .int 0, .int 0])
  | 62 => .inl (T 1, 6, .inl (fun _ => 0))
  | 63 => .inl (T 1, 6, .inl (fun _ => 0))
  | 64 => .inl (T 8, 3, .inr (.inr (.inr (.inr (zUp (fun i => a (66 + 19 * i)) 3)))))
  | 65 => .inl (T 9, 4, .inr (.inr (.inr (.inr (zUp (fun i => a (123 + 2 * i)) 4)))))
  | 66 => .inr (2, [.ref (a 67), .ref (a 84), .int 0, .int 0])
  | 67 => .inr (5, [.int 0, .int 0, .int 0, .int 0, .int 0, .int 0, .int 0, .int 0, .int 0, .int 0, .ref (a 68), .ref (a 69)])
  | 68 => .inl (T 5, 8, .inr (.inr (.inr (.inr (zUp (fun i => a (70 + 1 * i)) 8)))))
  | 69 => .inl (T 6, 6, .inr (.inr (.inr (.inr (zUp (fun i => a (78 + 1 * i)) 6)))))
  | 70 => .inr (4, [.int 0, .int 0, .int 0, .int 0])
  | 71 => .inr (4, [.int 0, .int 0, .int 0, .int 0])
  | 72 => .inr (4, [.int 0, .int 0, .int 0, .int 0])
  | 73 => .inr (4, [.int 0, .int 0, .int 0, .int 0])
  | 74 => .inr (4, [.int 0, .int 0, .int 0, .int 0])
  | 75 => .inr (4, [.int 0, .int 0, .int 0, .int 0])
  | 76 => .inr (4, [.int 0, .int 0, .int 0, .int 0])
  | 77 => .inr (4, [.int 0, .int 0, .int 0, .int 0])
  | 78 => .inr (1, [.int 0, .int 0, .int 0, .int 0, .int 0])
  | 79 => .inr (1, [.int 0, .int 0, .int 0, .int 0, .int 0])
  | 80 => .inr (1, [.int 0, .int 0, .int 0, .int 0, .int 0])
  | 81 => .inr (1, [.int 0, .int 0, .int 0, .int 0, .int 0])
  | 82 => .inr (1, [.int 0, .int 0, .int 0, .int 0, .int 0])
  | 83 => .inr (1, [.int 0, .int 0, .int 0, .int 0, .int 0])
  | 84 => .inl (T 1, 40, .inl (fun _ => 0))
  | 85 => .inr (2, [.ref (a 86), .ref (a 103), .int 0, .int 0])
  | 86 => .inr (5, [.int 0, .int 0, .int 0, .int 0, .int 0, .int 0, .int 0, .int 0, .int 0, .int 0, .ref (a 87), .ref (a 88)])
  | 87 => .inl (T 5, 8, .inr (.inr (.inr (.inr (zUp (fun i => a (89 + 1 * i)) 8)))))
  | 88 => .inl (T 6, 6, .inr (.inr (.inr (.inr (zUp (fun i => a (97 + 1 * i)) 6)))))
  | 89 => .inr (4, [.int 0, .int 0, .int 0, .int 0])
  | 90 => .inr (4, [.int 0, .int 0, .int 0, .int 0])
  | 91 => .inr (4, [.int 0, .int 0, .int 0, .int 0])
  | 92 => .inr (4, [.int 0, .int 0, .int 0, .int 0])
  | 93 => .inr (4, [.int 0, .int 0, .int 0, .int 0])
  | 94 => .inr (4, [.int 0, .int 0, .int 0, .int 0])
  | 95 => .inr (4, [.int 0, .int 0, .int 0, .int 0])
  | 96 => .inr (4, [.int 0, .int 0, .int 0, .int 0])
  | 97 => .inr (1, [.int 0, .int 0, .int 0, .int 0, .int 0])
  | 98 => .inr (1, [.int 0, .int 0, .int 0, .int 0, .int 0])
  | 99 => .inr (1, [.int 0, .int 0, .int 0, .int 0, .int 0])
  | 100 => .inr (1, [.int 0, .int 0, .int 0, .int 0, .int 0])
  | 101 => .inr (1, [.int 0, .int 0, .int 0, .int 0, .int 0])
  | 102 => .inr (1, [.int 0, .int 0, .int 0, .int 0, .int 0])
  | 103 => .inl (T 1, 40, .inl (fun _ => 0))
  | 104 => .inr (2, [.ref (a 105), .ref (a 122), .int 0, .int 0])
  | 105 => .inr (5, [.int 0, .int 0, .int 0, .int 0, .int 0, .int 0, .int 0, .int 0, .int 0, .int 0, .ref (a 106), .ref (a 107)])
  | 106 => .inl (T 5, 8, .inr (.inr (.inr (.inr (zUp (fun i => a (108 + 1 * i)) 8)))))
  | 107 => .inl (T 6, 6, .inr (.inr (.inr (.inr (zUp (fun i => a (116 + 1 * i)) 6)))))
  | 108 => .inr (4, [.int 0, .int 0, .int 0, .int 0])
  | 109 => .inr (4, [.int 0, .int 0, .int 0, .int 0])
  | 110 => .inr (4, [.int 0, .int 0, .int 0, .int 0])
  | 111 => .inr (4, [.int 0, .int 0, .int 0, .int 0])
  | 112 => .inr (4, [.int 0, .int 0, .int 0, .int 0])
  | 113 => .inr (4, [.int 0, .int 0, .int 0, .int 0])
  | 114 => .inr (4, [.int 0, .int 0, .int 0, .int 0])
  | 115 => .inr (4, [.int 0, .int 0, .int 0, .int 0])
  | 116 => .inr (1, [.int 0, .int 0, .int 0, .int 0, .int 0])
  | 117 => .inr (1, [.int 0, .int 0, .int 0, .int 0, .int 0])
  | 118 => .inr (1, [.int 0, .int 0, .int 0, .int 0, .int 0])
  | 119 => .inr (1, [.int 0, .int 0, .int 0, .int 0, .int 0])
  | 120 => .inr (1, [.int 0, .int 0, .int 0, .int 0, .int 0])
  | 121 => .inr (1, [.int 0, .int 0, .int 0, .int 0, .int 0])
  | 122 => .inl (T 1, 40, .inl (fun _ => 0))
  | 123 => .inr (6, [.ref (a 124), .int (-1), .int 0])
  | 124 => .inl (T 2, 60, .inr (.inl (fun _ => 0)))
  | 125 => .inr (6, [.ref (a 126), .int (-1), .int 0])
  | 126 => .inl (T 2, 60, .inr (.inl (fun _ => 0)))
  | 127 => .inr (6, [.ref (a 128), .int (-1), .int 0])
  | 128 => .inl (T 2, 60, .inr (.inl (fun _ => 0)))
  | 129 => .inr (6, [.ref (a 130), .int (-1), .int 0])
  | 130 => .inl (T 2, 60, .inr (.inl (fun _ => 0)))
  | _ => .inr (0, [])
def zS10_1 (T : Nat → ClassId) (a : Nat → Nat) : Nat → va_E := zUe (zF10 T a) 0 (.inr (10, [.ref (a 1), .null, .null, .null, .null, .int 0, .null, .null, .null, .null, .null, .null, .null]))
def zS10_2 (T : Nat → ClassId) (a : Nat → Nat) : Nat → va_E := zUe (zF10 T a) 0 (.inr (10, [.ref (a 1), .ref (a 3), .null, .null, .null, .int 0, .null, .null, .null, .null, .null, .null, .null]))
def zS10_3 (T : Nat → ClassId) (a : Nat → Nat) : Nat → va_E := zUe (zF10 T a) 0 (.inr (10, [.ref (a 1), .ref (a 3), .ref (a 20), .null, .null, .int 0, .null, .null, .null, .null, .null, .null, .null]))
def zS10_4 (T : Nat → ClassId) (a : Nat → Nat) : Nat → va_E := zUe (zF10 T a) 0 (.inr (10, [.ref (a 1), .ref (a 3), .ref (a 20), .ref (a 21), .ref (a 42), .int 0, .ref (a 43), .null, .null, .null, .null, .null, .null]))
def zS10_5 (T : Nat → ClassId) (a : Nat → Nat) : Nat → va_E := zUe (zF10 T a) 0 (.inr (10, [.ref (a 1), .ref (a 3), .ref (a 20), .ref (a 21), .ref (a 42), .int 0, .ref (a 43), .ref (a 45), .null, .null, .null, .null, .null]))
def zS10_6 (T : Nat → ClassId) (a : Nat → Nat) : Nat → va_E := zUe (zF10 T a) 0 (.inr (10, [.ref (a 1), .ref (a 3), .ref (a 20), .ref (a 21), .ref (a 42), .int 0, .ref (a 43), .ref (a 45), .ref (a 47), .ref (a 48), .null, .null, .null]))
def zS10_7 (T : Nat → ClassId) (a : Nat → Nat) : Nat → va_E := zUe (zF10 T a) 0 (.inr (10, [.ref (a 1), .ref (a 3), .ref (a 20), .ref (a 21), .ref (a 42), .int 0, .ref (a 43), .ref (a 45), .ref (a 47), .ref (a 48), .ref (a 61), .null, .null]))
def zS10_8 (T : Nat → ClassId) (a : Nat → Nat) : Nat → va_E := zUe (zUe (zF10 T a) 64 (.inl (T 8, 3, .inr (.inr (.inr (.inr (zUp (fun i => a (66 + 19 * i)) 1))))))) 65 (.inl (T 9, 4, .inr (.inr (.inr (.inr (zUp (fun i => a (123 + 2 * i)) 0))))))
def zS10_9 (T : Nat → ClassId) (a : Nat → Nat) : Nat → va_E := zUe (zUe (zF10 T a) 64 (.inl (T 8, 3, .inr (.inr (.inr (.inr (zUp (fun i => a (66 + 19 * i)) 2))))))) 65 (.inl (T 9, 4, .inr (.inr (.inr (.inr (zUp (fun i => a (123 + 2 * i)) 0))))))
def zS10_10 (T : Nat → ClassId) (a : Nat → Nat) : Nat → va_E := zUe (zF10 T a) 65 (.inl (T 9, 4, .inr (.inr (.inr (.inr (zUp (fun i => a (123 + 2 * i)) 0))))))
def zS10_11 (T : Nat → ClassId) (a : Nat → Nat) : Nat → va_E := zUe (zF10 T a) 65 (.inl (T 9, 4, .inr (.inr (.inr (.inr (zUp (fun i => a (123 + 2 * i)) 1))))))
def zS10_12 (T : Nat → ClassId) (a : Nat → Nat) : Nat → va_E := zUe (zF10 T a) 65 (.inl (T 9, 4, .inr (.inr (.inr (.inr (zUp (fun i => a (123 + 2 * i)) 2))))))
def zS10_13 (T : Nat → ClassId) (a : Nat → Nat) : Nat → va_E := zUe (zF10 T a) 65 (.inl (T 9, 4, .inr (.inr (.inr (.inr (zUp (fun i => a (123 + 2 * i)) 3))))))
def zS10_14 (T : Nat → ClassId) (a : Nat → Nat) : Nat → va_E := zF10 T a
set_option maxHeartbeats 4000000 in
set_option maxRecDepth 100000 in
theorem zk10 (l : Launch) (G : zG) (h0 sz : Nat) : Met l yX10_init (.code yX10_init cX10_init 2 none :: zBIG) { frames := 4, cells := 130, slots := 2262, locals := 73 } (zPn G h0 sz (.inr (10, zBk10))) (zQn G h0 sz (.inr (10, zBk10)) 131 (zF10 G.2.1)) 130 2262 (va_A [(h0, .inr (10, zBk10))] sz) := by
  refine Met.ofW (cc := cX10_init) (maxL := 2) (ret := none) (by decide) rfl ?_
  intro p e s m args below meth c s₁ B hml hv
  obtain ⟨rfl, hsz, hP, hCn⟩ := hv
  have hx := B.exec
  have hb := B.bytes
  have hr := B.returns
  have hts0 := atoms_spec (ws := .code yX10_init cX10_init 2 none :: zBIG) B.pre
  have hts : ∀ w ∈ zBIG, w.before _ s = true := fun w h => hts0 w (List.mem_cons_of_mem _ h)
  have hown : s.vm.findClass (zCN 10) = some m.cls := findClass_of_methodNamed B.named
  have hlocks := B.notSynchronized
  have hin : meth.name = "<init>" := (name_of_methodNamed B.named B.method).1
  have C : zMc p s m _ c cX10_init 2 10 G := ⟨hx, hb, hml, hown, hts, hCn⟩
  subst hsz
  replace hP : va_P G.1 zcl12 (zL (fun _ => h0) (fun _ => .inr (10, zBk10)) 1) s.heap := hP
  have hD : va_D (va_A [(h0, .inr (10, zBk10))] s.heap.size) (zL (fun _ => h0) (fun _ => .inr (10, zBk10)) 1) := zn_D1
  generalize hAe : va_A [(h0, .inr (10, zBk10))] s.heap.size = A at hD ⊢
  have hA : ∀ q : Nat, s.heap.size ≤ q → A q := fun q h => by rw [← hAe]; exact Or.inr h
  have hS : va_S A s.heap s.heap [] := va_S.rf
  have hl := lv_entry ([.ref h0]) (n := 2) (Nat.le_of_ble_eq_true rfl)
  rw [lg_entry_eq]
  generalize (lg_sl ([.ref h0]) ++ List.replicate (2 - (lg_sl ([.ref h0])).length) Slot.unset).toArray = ls at hl ⊢
  replace hl : lv_has ls 2 [(0, .ref h0)] := hl
  refine lv_aload_n hx hb dn10_0 rfl (lv_at hl 0 rfl) ?_
  refine W.objInit hx hb hown (hts _ (zKW_in (k := 5) rfl)) (hts _ (zKW_in (k := 6) rfl)) (hts _ (zKW_in (k := 7) rfl)) rfl (by rw [hml]; exact hl.1) rfl dn10_1 (Nat.le_of_ble_eq_true rfl) (Nat.le_of_ble_eq_true rfl) ?_
  refine W.eq (g2 := F0 m 4 ls []) rfl ?_
  refine lv_aload_n hx hb dn10_4 rfl (lv_at hl 0 rfl) ?_
  refine zn_new (ci := 8) (fs := zBk8) C hP hD hS hA (by decide) (zKW_in (k := 8) rfl) (zKW_in (k := 9) rfl) (zINI_in (by decide)) zdf8 (Nat.le_of_ble_eq_true rfl) (Nat.le_of_ble_eq_true rfl) dn10_5 (fun q0 H hP hD hS => ?_)
  refine W.widen (k := 1) (n := 8) (Nat.le_of_ble_eq_true rfl) (Nat.le_of_ble_eq_true rfl) ?_
  refine lv_dup hx hb dn10_8 rfl ?_
  refine zn_callN (n := 1) (q := q0) (e0 := .inr (8, zBk8)) (F := zF8 G.2.1) C (zk8 l G q0) rfl rfl zcd8 zii8 zim8 rfl (C.2.2.2.2.2.2.2 0 (10, 9, yX8_init) rfl) zds8 ⟨(Nat.le_of_ble_eq_true rfl), (Nat.le_of_ble_eq_true rfl)⟩ ⟨(Nat.le_of_ble_eq_true rfl), (Nat.le_of_ble_eq_true rfl)⟩ hl.1 (lv_room (Nat.le_of_ble_eq_true rfl)) dn10_9 hP hD hS hA rfl rfl (by decide +kernel) (fun a1 H locs hw hP hD hS => ?_)
  replace hw : a1 0 = q0 := hw
  subst hw
  refine W.widen (k := 2) (n := 908) (Nat.le_of_ble_eq_true rfl) (Nat.le_of_ble_eq_true rfl) ?_
  refine zn_put (ci := 10) (k := 0) (j := 0) (fs := [.null, .null, .null, .null, .null, .int 0, .null, .null, .null, .null, .null, .null, .null]) C hin hP hD hS (by decide) rfl rfl (by decide) (by decide) (by decide) rfl rfl rfl (Nat.le_of_ble_eq_true rfl) dn10_12 (fun H locs hP hD hS => ?_)
  obtain ⟨u1, hu1, hP, hD⟩ := zn_cmp (K := 3) (h0 := h0) (F := zS10_1 G.2.1) hP hD rfl (fun j hj => by
    match j, hj with
    | 0, _ => rfl
    | 1, _ => rfl
    | 2, _ => rfl
    | _ + 3, h => exact absurd h (by omega))
  refine lv_aload_n hx hb dn10_15 rfl (lv_at hl 0 rfl) ?_
  refine zn_new (ci := 5) (fs := zBk5) C hP hD hS hA (by decide) (zKW_in (k := 14) rfl) (zKW_in (k := 15) rfl) (zINI_in (by decide)) zdf5 (Nat.le_of_ble_eq_true rfl) (Nat.le_of_ble_eq_true rfl) dn10_16 (fun q2 H hP hD hS => ?_)
  refine W.widen (k := 3) (n := 920) (Nat.le_of_ble_eq_true rfl) (Nat.le_of_ble_eq_true rfl) ?_
  refine lv_dup hx hb dn10_19 rfl ?_
  refine zn_callI (n := 3) (q := q2) (e0 := .inr (5, zBk5)) (F := zF5 G.2.1) C (zk5 l G q2) rfl rfl zcd5 zii5 zim5 rfl (zKW_in (k := 16) rfl) zds5 ⟨(Nat.le_of_ble_eq_true rfl), (Nat.le_of_ble_eq_true rfl)⟩ ⟨(Nat.le_of_ble_eq_true rfl), (Nat.le_of_ble_eq_true rfl)⟩ hl.1 (lv_room (Nat.le_of_ble_eq_true rfl)) dn10_20 hP hD hS hA rfl rfl (by decide +kernel) (fun a3 H locs hw hP hD hS => ?_)
  replace hw : a3 0 = q2 := hw
  subst hw
  refine W.widen (k := 19) (n := 996) (Nat.le_of_ble_eq_true rfl) (Nat.le_of_ble_eq_true rfl) ?_
  refine zn_put (ci := 10) (k := 1) (j := 0) (fs := [.ref (u1 1), .null, .null, .null, .null, .int 0, .null, .null, .null, .null, .null, .null, .null]) C hin hP hD hS (by decide) rfl hu1 (by decide) (by decide) (by decide) rfl rfl rfl (Nat.le_of_ble_eq_true rfl) dn10_23 (fun H locs hP hD hS => ?_)
  obtain ⟨u2, hu2, hP, hD⟩ := zn_cmp (K := 20) (h0 := h0) (F := zS10_2 G.2.1) hP hD hu1 (fun j hj => by
    match j, hj with
    | 0, _ => rfl
    | 1, _ => rfl
    | 2, _ => rfl
    | 3, _ => rfl
    | 4, _ => rfl
    | 5, _ => rfl
    | 6, _ => rfl
    | 7, _ => rfl
    | 8, _ => rfl
    | 9, _ => rfl
    | 10, _ => rfl
    | 11, _ => rfl
    | 12, _ => rfl
    | 13, _ => rfl
    | 14, _ => rfl
    | 15, _ => rfl
    | 16, _ => rfl
    | 17, _ => rfl
    | 18, _ => rfl
    | 19, _ => rfl
    | _ + 20, h => exact absurd h (by omega))
  refine lv_aload_n hx hb dn10_26 rfl (lv_at hl 0 rfl) ?_
  refine zn_new (ci := 0) (fs := zBk0) C hP hD hS hA (by decide) (zKW_in (k := 30) rfl) (zKW_in (k := 31) rfl) (zINI_in (by decide)) zdf0 (Nat.le_of_ble_eq_true rfl) (Nat.le_of_ble_eq_true rfl) dn10_27 (fun q4 H hP hD hS => ?_)
  refine W.widen (k := 20) (n := 1002) (Nat.le_of_ble_eq_true rfl) (Nat.le_of_ble_eq_true rfl) ?_
  refine lv_dup hx hb dn10_30 rfl ?_
  refine zn_callN (n := 20) (q := q4) (e0 := .inr (0, zBk0)) (F := zF0 G.2.1) C (zk0 l G q4) rfl rfl zcd0 zii0 zim0 rfl (C.2.2.2.2.2.2.2 3 (10, 25, yX0_init) rfl) zds0 ⟨(Nat.le_of_ble_eq_true rfl), (Nat.le_of_ble_eq_true rfl)⟩ ⟨(Nat.le_of_ble_eq_true rfl), (Nat.le_of_ble_eq_true rfl)⟩ hl.1 (lv_room (Nat.le_of_ble_eq_true rfl)) dn10_31 hP hD hS hA rfl rfl (by decide +kernel) (fun a5 H locs hw hP hD hS => ?_)
  replace hw : a5 0 = q4 := hw
  subst hw
  refine W.widen (k := 41) (n := 1424) (Nat.le_of_ble_eq_true rfl) (Nat.le_of_ble_eq_true rfl) ?_
  refine zn_put (ci := 10) (k := 2) (j := 0) (fs := [.ref (u2 1), .ref (u2 3), .null, .null, .null, .int 0, .null, .null, .null, .null, .null, .null, .null]) C hin hP hD hS (by decide) rfl hu2 (by decide) (by decide) (by decide) rfl rfl rfl (Nat.le_of_ble_eq_true rfl) dn10_34 (fun H locs hP hD hS => ?_)
  obtain ⟨u3, hu3, hP, hD⟩ := zn_cmp (K := 42) (h0 := h0) (F := zS10_3 G.2.1) hP hD hu2 (fun j hj => by
    match j, hj with
    | 0, _ => rfl
    | 1, _ => rfl
    | 2, _ => rfl
    | 3, _ => rfl
    | 4, _ => rfl
    | 5, _ => rfl
    | 6, _ => rfl
    | 7, _ => rfl
    | 8, _ => rfl
    | 9, _ => rfl
    | 10, _ => rfl
    | 11, _ => rfl
    | 12, _ => rfl
    | 13, _ => rfl
    | 14, _ => rfl
    | 15, _ => rfl
    | 16, _ => rfl
    | 17, _ => rfl
    | 18, _ => rfl
    | 19, _ => rfl
    | 20, _ => rfl
    | 21, _ => rfl
    | 22, _ => rfl
    | 23, _ => rfl
    | 24, _ => rfl
    | 25, _ => rfl
    | 26, _ => rfl
    | 27, _ => rfl
    | 28, _ => rfl
    | 29, _ => rfl
    | 30, _ => rfl
    | 31, _ => rfl
    | 32, _ => rfl
    | 33, _ => rfl
    | 34, _ => rfl
    | 35, _ => rfl
    | 36, _ => rfl
    | 37, _ => rfl
    | 38, _ => rfl
    | 39, _ => rfl
    | 40, _ => rfl
    | 41, _ => rfl
    | _ + 42, h => exact absurd h (by omega))
  refine lv_aload_n hx hb dn10_37 rfl (lv_at hl 0 rfl) ?_
  refine lv_aload_n hx hb dn10_38 rfl (lv_at hl 0 rfl) ?_
  refine zn_get (ci := 10) (k := 2) (j := 0) (fs := [.ref (u3 1), .ref (u3 3), .ref (u3 20), .null, .null, .int 0, .null, .null, .null, .null, .null, .null, .null]) (v := .ref (u3 20)) C hP (by decide) rfl hu3 (by decide) (by decide) (by decide) rfl dn10_39 ?_
  refine zn_get (ci := 0) (k := 0) (j := 20) (fs := [.ref (u3 21), .ref (u3 38), .ref (u3 39), .ref (u3 40), .ref (u3 41), .int (-1)]) (v := .ref (u3 21)) C hP (by decide) rfl rfl (by decide) (by decide) (by decide) rfl dn10_42 ?_
  refine zn_put (ci := 10) (k := 3) (j := 0) (fs := [.ref (u3 1), .ref (u3 3), .ref (u3 20), .null, .null, .int 0, .null, .null, .null, .null, .null, .null, .null]) C hin hP hD hS (by decide) rfl hu3 (by decide) (by decide) (by decide) rfl rfl rfl (Nat.le_of_ble_eq_true rfl) dn10_45 (fun H locs hP hD hS => ?_)
  refine lv_aload_n hx hb dn10_48 rfl (lv_at hl 0 rfl) ?_
  refine lv_bipush (v := 40) hx hb dn10_49 rfl ?_
  refine zn_newa (t := 0) (ty := .int) (N := 40) (a0 := (40, .inl (fun _ => 0))) C hP hD hS hA (zKW_in (k := 37) rfl) rfl rfl (fun _ _ => Iff.rfl) (fun _ => rfl) (by decide) (by decide) (by decide) (Nat.le_of_ble_eq_true rfl) (Nat.le_of_ble_eq_true rfl) dn10_51 (fun q6 H hP hD hS => ?_)
  refine W.widen (k := 42) (n := 1464) (Nat.le_of_ble_eq_true rfl) (Nat.le_of_ble_eq_true rfl) ?_
  refine zn_put (ci := 10) (k := 4) (j := 0) (fs := [.ref (u3 1), .ref (u3 3), .ref (u3 20), .ref (u3 21), .null, .int 0, .null, .null, .null, .null, .null, .null, .null]) C hin hP hD hS (by decide) rfl hu3 (by decide) (by decide) (by decide) rfl rfl rfl (Nat.le_of_ble_eq_true rfl) dn10_53 (fun H locs hP hD hS => ?_)
  refine lv_aload_n hx hb dn10_56 rfl (lv_at hl 0 rfl) ?_
  refine zn_new (ci := 7) (fs := zBk7) C hP hD hS hA (by decide) (zKW_in (k := 38) rfl) (zKW_in (k := 39) rfl) (zINI_in (by decide)) zdf7 (Nat.le_of_ble_eq_true rfl) (Nat.le_of_ble_eq_true rfl) dn10_57 (fun q7 H hP hD hS => ?_)
  refine W.widen (k := 43) (n := 1471) (Nat.le_of_ble_eq_true rfl) (Nat.le_of_ble_eq_true rfl) ?_
  refine lv_dup hx hb dn10_60 rfl ?_
  refine zn_callN (n := 43) (q := q7) (e0 := .inr (7, zBk7)) (F := zF7 G.2.1) C (zk7 l G q7) rfl rfl zcd7 zii7 zim7 rfl (C.2.2.2.2.2.2.2 4 (10, 40, yX7_init) rfl) zds7 ⟨(Nat.le_of_ble_eq_true rfl), (Nat.le_of_ble_eq_true rfl)⟩ ⟨(Nat.le_of_ble_eq_true rfl), (Nat.le_of_ble_eq_true rfl)⟩ hl.1 (lv_room (Nat.le_of_ble_eq_true rfl)) dn10_61 hP hD hS hA rfl rfl (by decide +kernel) (fun a8 H locs hw hP hD hS => ?_)
  replace hw : a8 0 = q7 := hw
  subst hw
  refine W.widen (k := 44) (n := 1479) (Nat.le_of_ble_eq_true rfl) (Nat.le_of_ble_eq_true rfl) ?_
  refine zn_put (ci := 10) (k := 6) (j := 0) (fs := [.ref (u3 1), .ref (u3 3), .ref (u3 20), .ref (u3 21), .ref q6, .int 0, .null, .null, .null, .null, .null, .null, .null]) C hin hP hD hS (by decide) rfl hu3 (by decide) (by decide) (by decide) rfl rfl rfl (Nat.le_of_ble_eq_true rfl) dn10_64 (fun H locs hP hD hS => ?_)
  obtain ⟨u4, hu4, hP, hD⟩ := zn_cmp (K := 45) (h0 := h0) (F := zS10_4 G.2.1) hP hD hu3 (fun j hj => by
    match j, hj with
    | 0, _ => rfl
    | 1, _ => rfl
    | 2, _ => rfl
    | 3, _ => rfl
    | 4, _ => rfl
    | 5, _ => rfl
    | 6, _ => rfl
    | 7, _ => rfl
    | 8, _ => rfl
    | 9, _ => rfl
    | 10, _ => rfl
    | 11, _ => rfl
    | 12, _ => rfl
    | 13, _ => rfl
    | 14, _ => rfl
    | 15, _ => rfl
    | 16, _ => rfl
    | 17, _ => rfl
    | 18, _ => rfl
    | 19, _ => rfl
    | 20, _ => rfl
    | 21, _ => rfl
    | 22, _ => rfl
    | 23, _ => rfl
    | 24, _ => rfl
    | 25, _ => rfl
    | 26, _ => rfl
    | 27, _ => rfl
    | 28, _ => rfl
    | 29, _ => rfl
    | 30, _ => rfl
    | 31, _ => rfl
    | 32, _ => rfl
    | 33, _ => rfl
    | 34, _ => rfl
    | 35, _ => rfl
    | 36, _ => rfl
    | 37, _ => rfl
    | 38, _ => rfl
    | 39, _ => rfl
    | 40, _ => rfl
    | 41, _ => rfl
    | 42, _ => rfl
    | 43, _ => rfl
    | 44, _ => rfl
    | _ + 45, h => exact absurd h (by omega))
  refine lv_aload_n hx hb dn10_67 rfl (lv_at hl 0 rfl) ?_
  refine zn_new (ci := 7) (fs := zBk7) C hP hD hS hA (by decide) (zKW_in (k := 38) rfl) (zKW_in (k := 39) rfl) (zINI_in (by decide)) zdf7 (Nat.le_of_ble_eq_true rfl) (Nat.le_of_ble_eq_true rfl) dn10_68 (fun q9 H hP hD hS => ?_)
  refine W.widen (k := 45) (n := 1486) (Nat.le_of_ble_eq_true rfl) (Nat.le_of_ble_eq_true rfl) ?_
  refine lv_dup hx hb dn10_71 rfl ?_
  refine zn_callN (n := 45) (q := q9) (e0 := .inr (7, zBk7)) (F := zF7 G.2.1) C (zk7 l G q9) rfl rfl zcd7 zii7 zim7 rfl (C.2.2.2.2.2.2.2 4 (10, 40, yX7_init) rfl) zds7 ⟨(Nat.le_of_ble_eq_true rfl), (Nat.le_of_ble_eq_true rfl)⟩ ⟨(Nat.le_of_ble_eq_true rfl), (Nat.le_of_ble_eq_true rfl)⟩ hl.1 (lv_room (Nat.le_of_ble_eq_true rfl)) dn10_72 hP hD hS hA rfl rfl (by decide +kernel) (fun a10 H locs hw hP hD hS => ?_)
  replace hw : a10 0 = q9 := hw
  subst hw
  refine W.widen (k := 46) (n := 1494) (Nat.le_of_ble_eq_true rfl) (Nat.le_of_ble_eq_true rfl) ?_
  refine zn_put (ci := 10) (k := 7) (j := 0) (fs := [.ref (u4 1), .ref (u4 3), .ref (u4 20), .ref (u4 21), .ref (u4 42), .int 0, .ref (u4 43), .null, .null, .null, .null, .null, .null]) C hin hP hD hS (by decide) rfl hu4 (by decide) (by decide) (by decide) rfl rfl rfl (Nat.le_of_ble_eq_true rfl) dn10_75 (fun H locs hP hD hS => ?_)
  obtain ⟨u5, hu5, hP, hD⟩ := zn_cmp (K := 47) (h0 := h0) (F := zS10_5 G.2.1) hP hD hu4 (fun j hj => by
    match j, hj with
    | 0, _ => rfl
    | 1, _ => rfl
    | 2, _ => rfl
    | 3, _ => rfl
    | 4, _ => rfl
    | 5, _ => rfl
    | 6, _ => rfl
    | 7, _ => rfl
    | 8, _ => rfl
    | 9, _ => rfl
    | 10, _ => rfl
    | 11, _ => rfl
    | 12, _ => rfl
    | 13, _ => rfl
    | 14, _ => rfl
    | 15, _ => rfl
    | 16, _ => rfl
    | 17, _ => rfl
    | 18, _ => rfl
    | 19, _ => rfl
    | 20, _ => rfl
    | 21, _ => rfl
    | 22, _ => rfl
    | 23, _ => rfl
    | 24, _ => rfl
    | 25, _ => rfl
    | 26, _ => rfl
    | 27, _ => rfl
    | 28, _ => rfl
    | 29, _ => rfl
    | 30, _ => rfl
    | 31, _ => rfl
    | 32, _ => rfl
    | 33, _ => rfl
    | 34, _ => rfl
    | 35, _ => rfl
    | 36, _ => rfl
    | 37, _ => rfl
    | 38, _ => rfl
    | 39, _ => rfl
    | 40, _ => rfl
    | 41, _ => rfl
    | 42, _ => rfl
    | 43, _ => rfl
    | 44, _ => rfl
    | 45, _ => rfl
    | 46, _ => rfl
    | _ + 47, h => exact absurd h (by omega))
  refine lv_aload_n hx hb dn10_78 rfl (lv_at hl 0 rfl) ?_
  refine lv_bipush (v := 8) hx hb dn10_79 rfl ?_
  refine zn_newa (t := 0) (ty := .int) (N := 8) (a0 := (8, .inl (fun _ => 0))) C hP hD hS hA (zKW_in (k := 37) rfl) rfl rfl (fun _ _ => Iff.rfl) (fun _ => rfl) (by decide) (by decide) (by decide) (Nat.le_of_ble_eq_true rfl) (Nat.le_of_ble_eq_true rfl) dn10_81 (fun q11 H hP hD hS => ?_)
  refine W.widen (k := 47) (n := 1502) (Nat.le_of_ble_eq_true rfl) (Nat.le_of_ble_eq_true rfl) ?_
  refine zn_put (ci := 10) (k := 8) (j := 0) (fs := [.ref (u5 1), .ref (u5 3), .ref (u5 20), .ref (u5 21), .ref (u5 42), .int 0, .ref (u5 43), .ref (u5 45), .null, .null, .null, .null, .null]) C hin hP hD hS (by decide) rfl hu5 (by decide) (by decide) (by decide) rfl rfl rfl (Nat.le_of_ble_eq_true rfl) dn10_83 (fun H locs hP hD hS => ?_)
  refine lv_aload_n hx hb dn10_86 rfl (lv_at hl 0 rfl) ?_
  refine zn_new (ci := 3) (fs := zBk3) C hP hD hS hA (by decide) (zKW_in (k := 43) rfl) (zKW_in (k := 44) rfl) (zINI_in (by decide)) zdf3 (Nat.le_of_ble_eq_true rfl) (Nat.le_of_ble_eq_true rfl) dn10_87 (fun q12 H hP hD hS => ?_)
  refine W.widen (k := 48) (n := 1506) (Nat.le_of_ble_eq_true rfl) (Nat.le_of_ble_eq_true rfl) ?_
  refine lv_dup hx hb dn10_90 rfl ?_
  refine zn_callI (n := 48) (q := q12) (e0 := .inr (3, zBk3)) (F := zF3 G.2.1) C (zk3 l G q12) rfl rfl zcd3 zii3 zim3 rfl (zKW_in (k := 45) rfl) zds3 ⟨(Nat.le_of_ble_eq_true rfl), (Nat.le_of_ble_eq_true rfl)⟩ ⟨(Nat.le_of_ble_eq_true rfl), (Nat.le_of_ble_eq_true rfl)⟩ hl.1 (lv_room (Nat.le_of_ble_eq_true rfl)) dn10_91 hP hD hS hA rfl rfl (by decide +kernel) (fun a13 H locs hw hP hD hS => ?_)
  replace hw : a13 0 = q12 := hw
  subst hw
  refine W.widen (k := 60) (n := 1590) (Nat.le_of_ble_eq_true rfl) (Nat.le_of_ble_eq_true rfl) ?_
  refine zn_put (ci := 10) (k := 9) (j := 0) (fs := [.ref (u5 1), .ref (u5 3), .ref (u5 20), .ref (u5 21), .ref (u5 42), .int 0, .ref (u5 43), .ref (u5 45), .ref q11, .null, .null, .null, .null]) C hin hP hD hS (by decide) rfl hu5 (by decide) (by decide) (by decide) rfl rfl rfl (Nat.le_of_ble_eq_true rfl) dn10_94 (fun H locs hP hD hS => ?_)
  obtain ⟨u6, hu6, hP, hD⟩ := zn_cmp (K := 61) (h0 := h0) (F := zS10_6 G.2.1) hP hD hu5 (fun j hj => by
    match j, hj with
    | 0, _ => rfl
    | 1, _ => rfl
    | 2, _ => rfl
    | 3, _ => rfl
    | 4, _ => rfl
    | 5, _ => rfl
    | 6, _ => rfl
    | 7, _ => rfl
    | 8, _ => rfl
    | 9, _ => rfl
    | 10, _ => rfl
    | 11, _ => rfl
    | 12, _ => rfl
    | 13, _ => rfl
    | 14, _ => rfl
    | 15, _ => rfl
    | 16, _ => rfl
    | 17, _ => rfl
    | 18, _ => rfl
    | 19, _ => rfl
    | 20, _ => rfl
    | 21, _ => rfl
    | 22, _ => rfl
    | 23, _ => rfl
    | 24, _ => rfl
    | 25, _ => rfl
    | 26, _ => rfl
    | 27, _ => rfl
    | 28, _ => rfl
    | 29, _ => rfl
    | 30, _ => rfl
    | 31, _ => rfl
    | 32, _ => rfl
    | 33, _ => rfl
    | 34, _ => rfl
    | 35, _ => rfl
    | 36, _ => rfl
    | 37, _ => rfl
    | 38, _ => rfl
    | 39, _ => rfl
    | 40, _ => rfl
    | 41, _ => rfl
    | 42, _ => rfl
    | 43, _ => rfl
    | 44, _ => rfl
    | 45, _ => rfl
    | 46, _ => rfl
    | 47, _ => rfl
    | 48, _ => rfl
    | 49, _ => rfl
    | 50, _ => rfl
    | 51, _ => rfl
    | 52, _ => rfl
    | 53, _ => rfl
    | 54, _ => rfl
    | 55, _ => rfl
    | 56, _ => rfl
    | 57, _ => rfl
    | 58, _ => rfl
    | 59, _ => rfl
    | 60, _ => rfl
    | _ + 61, h => exact absurd h (by omega))
  refine lv_aload_n hx hb dn10_97 rfl (lv_at hl 0 rfl) ?_
  refine zn_new (ci := 9) (fs := zBk9) C hP hD hS hA (by decide) (zKW_in (k := 50) rfl) (zKW_in (k := 51) rfl) (zINI_in (by decide)) zdf9 (Nat.le_of_ble_eq_true rfl) (Nat.le_of_ble_eq_true rfl) dn10_98 (fun q14 H hP hD hS => ?_)
  refine W.widen (k := 61) (n := 1595) (Nat.le_of_ble_eq_true rfl) (Nat.le_of_ble_eq_true rfl) ?_
  refine lv_dup hx hb dn10_101 rfl ?_
  refine zn_callN (n := 61) (q := q14) (e0 := .inr (9, zBk9)) (F := zF9 G.2.1) C (zk9 l G q14) rfl rfl zcd9 zii9 zim9 rfl (C.2.2.2.2.2.2.2 6 (10, 60, yX9_init) rfl) zds9 ⟨(Nat.le_of_ble_eq_true rfl), (Nat.le_of_ble_eq_true rfl)⟩ ⟨(Nat.le_of_ble_eq_true rfl), (Nat.le_of_ble_eq_true rfl)⟩ hl.1 (lv_room (Nat.le_of_ble_eq_true rfl)) dn10_102 hP hD hS hA rfl rfl (by decide +kernel) (fun a15 H locs hw hP hD hS => ?_)
  replace hw : a15 0 = q14 := hw
  subst hw
  refine W.widen (k := 63) (n := 1607) (Nat.le_of_ble_eq_true rfl) (Nat.le_of_ble_eq_true rfl) ?_
  refine zn_put (ci := 10) (k := 10) (j := 0) (fs := [.ref (u6 1), .ref (u6 3), .ref (u6 20), .ref (u6 21), .ref (u6 42), .int 0, .ref (u6 43), .ref (u6 45), .ref (u6 47), .ref (u6 48), .null, .null, .null]) C hin hP hD hS (by decide) rfl hu6 (by decide) (by decide) (by decide) rfl rfl rfl (Nat.le_of_ble_eq_true rfl) dn10_105 (fun H locs hP hD hS => ?_)
  obtain ⟨u7, hu7, hP, hD⟩ := zn_cmp (K := 64) (h0 := h0) (F := zS10_7 G.2.1) hP hD hu6 (fun j hj => by
    match j, hj with
    | 0, _ => rfl
    | 1, _ => rfl
    | 2, _ => rfl
    | 3, _ => rfl
    | 4, _ => rfl
    | 5, _ => rfl
    | 6, _ => rfl
    | 7, _ => rfl
    | 8, _ => rfl
    | 9, _ => rfl
    | 10, _ => rfl
    | 11, _ => rfl
    | 12, _ => rfl
    | 13, _ => rfl
    | 14, _ => rfl
    | 15, _ => rfl
    | 16, _ => rfl
    | 17, _ => rfl
    | 18, _ => rfl
    | 19, _ => rfl
    | 20, _ => rfl
    | 21, _ => rfl
    | 22, _ => rfl
    | 23, _ => rfl
    | 24, _ => rfl
    | 25, _ => rfl
    | 26, _ => rfl
    | 27, _ => rfl
    | 28, _ => rfl
    | 29, _ => rfl
    | 30, _ => rfl
    | 31, _ => rfl
    | 32, _ => rfl
    | 33, _ => rfl
    | 34, _ => rfl
    | 35, _ => rfl
    | 36, _ => rfl
    | 37, _ => rfl
    | 38, _ => rfl
    | 39, _ => rfl
    | 40, _ => rfl
    | 41, _ => rfl
    | 42, _ => rfl
    | 43, _ => rfl
    | 44, _ => rfl
    | 45, _ => rfl
    | 46, _ => rfl
    | 47, _ => rfl
    | 48, _ => rfl
    | 49, _ => rfl
    | 50, _ => rfl
    | 51, _ => rfl
    | 52, _ => rfl
    | 53, _ => rfl
    | 54, _ => rfl
    | 55, _ => rfl
    | 56, _ => rfl
    | 57, _ => rfl
    | 58, _ => rfl
    | 59, _ => rfl
    | 60, _ => rfl
    | 61, _ => rfl
    | 62, _ => rfl
    | 63, _ => rfl
    | _ + 64, h => exact absurd h (by omega))
  refine lv_aload_n hx hb dn10_108 rfl (lv_at hl 0 rfl) ?_
  refine lv_iconst (v := 3) hx hb dn10_109 rfl ?_
  refine zn_newq (t := 7) (N := 3) C hP hD hS hA (zKW_in (k := 55) rfl) C.2.2.2.2.2.2.1.2.2.2.1 rfl (by decide) (by decide) (by decide) (Nat.le_of_ble_eq_true rfl) (Nat.le_of_ble_eq_true rfl) dn10_110 (fun q16 H hP hD hS => ?_)
  refine W.widen (k := 64) (n := 1610) (Nat.le_of_ble_eq_true rfl) (Nat.le_of_ble_eq_true rfl) ?_
  refine zn_put (ci := 10) (k := 11) (j := 0) (fs := [.ref (u7 1), .ref (u7 3), .ref (u7 20), .ref (u7 21), .ref (u7 42), .int 0, .ref (u7 43), .ref (u7 45), .ref (u7 47), .ref (u7 48), .ref (u7 61), .null, .null]) C hin hP hD hS (by decide) rfl hu7 (by decide) (by decide) (by decide) rfl rfl rfl (Nat.le_of_ble_eq_true rfl) dn10_113 (fun H locs hP hD hS => ?_)
  refine lv_aload_n hx hb dn10_116 rfl (lv_at hl 0 rfl) ?_
  refine lv_iconst (v := 4) hx hb dn10_117 rfl ?_
  refine zn_newq (t := 8) (N := 4) C hP hD hS hA (zKW_in (k := 56) rfl) C.2.2.2.2.2.2.1.2.2.2.2 rfl (by decide) (by decide) (by decide) (Nat.le_of_ble_eq_true rfl) (Nat.le_of_ble_eq_true rfl) dn10_118 (fun q17 H hP hD hS => ?_)
  refine W.widen (k := 65) (n := 1614) (Nat.le_of_ble_eq_true rfl) (Nat.le_of_ble_eq_true rfl) ?_
  refine zn_put (ci := 10) (k := 12) (j := 0) (fs := [.ref (u7 1), .ref (u7 3), .ref (u7 20), .ref (u7 21), .ref (u7 42), .int 0, .ref (u7 43), .ref (u7 45), .ref (u7 47), .ref (u7 48), .ref (u7 61), .ref q16, .null]) C hin hP hD hS (by decide) rfl hu7 (by decide) (by decide) (by decide) rfl rfl rfl (Nat.le_of_ble_eq_true rfl) dn10_121 (fun H locs hP hD hS => ?_)
  refine lv_iconst (v := 0) hx hb dn10_124 rfl ?_
  refine lv_istore_n (lv' := [(1, .int 0), (0, .ref h0)]) hx hb dn10_125 rfl hl (by decide) rfl (fun ls hl => ?_)
  refine lv_iload_n hx hb dn10_126 rfl (lv_at hl 0 rfl) ?_
  refine lv_iconst (v := 3) hx hb dn10_127 rfl ?_
  refine lv_icmp_ge (tgt := 150) hx hb dn10_128 (by decide) (fun z => absurd z (by decide)) (fun _ => ?_)
  refine lv_aload_n hx hb dn10_131 rfl (lv_at hl 1 rfl) ?_
  refine zn_get (ci := 10) (k := 11) (j := 0) (fs := [.ref (u7 1), .ref (u7 3), .ref (u7 20), .ref (u7 21), .ref (u7 42), .int 0, .ref (u7 43), .ref (u7 45), .ref (u7 47), .ref (u7 48), .ref (u7 61), .ref q16, .ref q17]) (v := .ref q16) C hP (by decide) rfl hu7 (by decide) (by decide) (by decide) rfl dn10_132 ?_
  refine lv_iload_n hx hb dn10_135 rfl (lv_at hl 0 rfl) ?_
  refine zn_new (ci := 2) (fs := zBk2) C hP hD hS hA (by decide) (zKW_in (k := 55) rfl) (zKW_in (k := 57) rfl) (zINI_in (by decide)) zdf2 (Nat.le_of_ble_eq_true rfl) (Nat.le_of_ble_eq_true rfl) dn10_136 (fun q18 H hP hD hS => ?_)
  refine W.widen (k := 66) (n := 1618) (Nat.le_of_ble_eq_true rfl) (Nat.le_of_ble_eq_true rfl) ?_
  refine lv_dup hx hb dn10_139 rfl ?_
  refine zn_callN (n := 66) (q := q18) (e0 := .inr (2, zBk2)) (F := zF2 G.2.1) C (zk2 l G q18) rfl rfl zcd2 zii2 zim2 rfl (C.2.2.2.2.2.2.2 7 (10, 77, yX2_init) rfl) zds2 ⟨(Nat.le_of_ble_eq_true rfl), (Nat.le_of_ble_eq_true rfl)⟩ ⟨(Nat.le_of_ble_eq_true rfl), (Nat.le_of_ble_eq_true rfl)⟩ hl.1 (lv_room (Nat.le_of_ble_eq_true rfl)) dn10_140 hP hD hS hA rfl rfl (by decide +kernel) (fun a19 H locs hw hP hD hS => ?_)
  replace hw : a19 0 = q18 := hw
  subst hw
  refine W.widen (k := 84) (n := 1746) (Nat.le_of_ble_eq_true rfl) (Nat.le_of_ble_eq_true rfl) ?_
  refine zn_astq (t := 7) (j := 64) (k := 66) (ci := 2) (N := 3) C hP hD hS (by decide) rfl rfl rfl (by decide) rfl rfl rfl (zvin rfl) dn10_143 (fun H locs hP hD hS => ?_)
  obtain ⟨u8, hu8, hP, hD⟩ := zn_cmp (K := 85) (h0 := h0) (F := zS10_8 G.2.1) hP hD hu7 (fun j hj => by
    match j, hj with
    | 0, _ => rfl
    | 1, _ => rfl
    | 2, _ => rfl
    | 3, _ => rfl
    | 4, _ => rfl
    | 5, _ => rfl
    | 6, _ => rfl
    | 7, _ => rfl
    | 8, _ => rfl
    | 9, _ => rfl
    | 10, _ => rfl
    | 11, _ => rfl
    | 12, _ => rfl
    | 13, _ => rfl
    | 14, _ => rfl
    | 15, _ => rfl
    | 16, _ => rfl
    | 17, _ => rfl
    | 18, _ => rfl
    | 19, _ => rfl
    | 20, _ => rfl
    | 21, _ => rfl
    | 22, _ => rfl
    | 23, _ => rfl
    | 24, _ => rfl
    | 25, _ => rfl
    | 26, _ => rfl
    | 27, _ => rfl
    | 28, _ => rfl
    | 29, _ => rfl
    | 30, _ => rfl
    | 31, _ => rfl
    | 32, _ => rfl
    | 33, _ => rfl
    | 34, _ => rfl
    | 35, _ => rfl
    | 36, _ => rfl
    | 37, _ => rfl
    | 38, _ => rfl
    | 39, _ => rfl
    | 40, _ => rfl
    | 41, _ => rfl
    | 42, _ => rfl
    | 43, _ => rfl
    | 44, _ => rfl
    | 45, _ => rfl
    | 46, _ => rfl
    | 47, _ => rfl
    | 48, _ => rfl
    | 49, _ => rfl
    | 50, _ => rfl
    | 51, _ => rfl
    | 52, _ => rfl
    | 53, _ => rfl
    | 54, _ => rfl
    | 55, _ => rfl
    | 56, _ => rfl
    | 57, _ => rfl
    | 58, _ => rfl
    | 59, _ => rfl
    | 60, _ => rfl
    | 61, _ => rfl
    | 62, _ => rfl
    | 63, _ => rfl
    | 64, _ => rfl
    | 65, _ => rfl
    | 66, _ => rfl
    | 67, _ => rfl
    | 68, _ => rfl
    | 69, _ => rfl
    | 70, _ => rfl
    | 71, _ => rfl
    | 72, _ => rfl
    | 73, _ => rfl
    | 74, _ => rfl
    | 75, _ => rfl
    | 76, _ => rfl
    | 77, _ => rfl
    | 78, _ => rfl
    | 79, _ => rfl
    | 80, _ => rfl
    | 81, _ => rfl
    | 82, _ => rfl
    | 83, _ => rfl
    | 84, _ => rfl
    | _ + 85, h => exact absurd h (by omega))
  refine lv_iinc (v := 1) (lv' := [(1, .int 1), (0, .ref h0)]) hx hb dn10_144 hl (k := 0) rfl (by decide) (by decide) rfl (fun ls hl => ?_)
  refine lv_goto (tgt := 126) hx hb dn10_147 (by decide) ?_
  refine lv_iload_n hx hb dn10_126 rfl (lv_at hl 0 rfl) ?_
  refine lv_iconst (v := 3) hx hb dn10_127 rfl ?_
  refine lv_icmp_ge (tgt := 150) hx hb dn10_128 (by decide) (fun z => absurd z (by decide)) (fun _ => ?_)
  refine lv_aload_n hx hb dn10_131 rfl (lv_at hl 1 rfl) ?_
  refine zn_get (ci := 10) (k := 11) (j := 0) (fs := [.ref (u8 1), .ref (u8 3), .ref (u8 20), .ref (u8 21), .ref (u8 42), .int 0, .ref (u8 43), .ref (u8 45), .ref (u8 47), .ref (u8 48), .ref (u8 61), .ref (u8 64), .ref (u8 65)]) (v := .ref (u8 64)) C hP (by decide) rfl hu8 (by decide) (by decide) (by decide) rfl dn10_132 ?_
  refine lv_iload_n hx hb dn10_135 rfl (lv_at hl 0 rfl) ?_
  refine zn_new (ci := 2) (fs := zBk2) C hP hD hS hA (by decide) (zKW_in (k := 55) rfl) (zKW_in (k := 57) rfl) (zINI_in (by decide)) zdf2 (Nat.le_of_ble_eq_true rfl) (Nat.le_of_ble_eq_true rfl) dn10_136 (fun q20 H hP hD hS => ?_)
  refine W.widen (k := 85) (n := 1750) (Nat.le_of_ble_eq_true rfl) (Nat.le_of_ble_eq_true rfl) ?_
  refine lv_dup hx hb dn10_139 rfl ?_
  refine zn_callN (n := 85) (q := q20) (e0 := .inr (2, zBk2)) (F := zF2 G.2.1) C (zk2 l G q20) rfl rfl zcd2 zii2 zim2 rfl (C.2.2.2.2.2.2.2 7 (10, 77, yX2_init) rfl) zds2 ⟨(Nat.le_of_ble_eq_true rfl), (Nat.le_of_ble_eq_true rfl)⟩ ⟨(Nat.le_of_ble_eq_true rfl), (Nat.le_of_ble_eq_true rfl)⟩ hl.1 (lv_room (Nat.le_of_ble_eq_true rfl)) dn10_140 hP hD hS hA rfl rfl (by decide +kernel) (fun a21 H locs hw hP hD hS => ?_)
  replace hw : a21 0 = q20 := hw
  subst hw
  refine W.widen (k := 103) (n := 1878) (Nat.le_of_ble_eq_true rfl) (Nat.le_of_ble_eq_true rfl) ?_
  refine zn_astq (t := 7) (j := 64) (k := 85) (ci := 2) (N := 3) C hP hD hS (by decide) rfl rfl rfl (by decide) rfl rfl rfl (zvin rfl) dn10_143 (fun H locs hP hD hS => ?_)
  obtain ⟨u9, hu9, hP, hD⟩ := zn_cmp (K := 104) (h0 := h0) (F := zS10_9 G.2.1) hP hD hu8 (fun j hj => by
    match j, hj with
    | 0, _ => rfl
    | 1, _ => rfl
    | 2, _ => rfl
    | 3, _ => rfl
    | 4, _ => rfl
    | 5, _ => rfl
    | 6, _ => rfl
    | 7, _ => rfl
    | 8, _ => rfl
    | 9, _ => rfl
    | 10, _ => rfl
    | 11, _ => rfl
    | 12, _ => rfl
    | 13, _ => rfl
    | 14, _ => rfl
    | 15, _ => rfl
    | 16, _ => rfl
    | 17, _ => rfl
    | 18, _ => rfl
    | 19, _ => rfl
    | 20, _ => rfl
    | 21, _ => rfl
    | 22, _ => rfl
    | 23, _ => rfl
    | 24, _ => rfl
    | 25, _ => rfl
    | 26, _ => rfl
    | 27, _ => rfl
    | 28, _ => rfl
    | 29, _ => rfl
    | 30, _ => rfl
    | 31, _ => rfl
    | 32, _ => rfl
    | 33, _ => rfl
    | 34, _ => rfl
    | 35, _ => rfl
    | 36, _ => rfl
    | 37, _ => rfl
    | 38, _ => rfl
    | 39, _ => rfl
    | 40, _ => rfl
    | 41, _ => rfl
    | 42, _ => rfl
    | 43, _ => rfl
    | 44, _ => rfl
    | 45, _ => rfl
    | 46, _ => rfl
    | 47, _ => rfl
    | 48, _ => rfl
    | 49, _ => rfl
    | 50, _ => rfl
    | 51, _ => rfl
    | 52, _ => rfl
    | 53, _ => rfl
    | 54, _ => rfl
    | 55, _ => rfl
    | 56, _ => rfl
    | 57, _ => rfl
    | 58, _ => rfl
    | 59, _ => rfl
    | 60, _ => rfl
    | 61, _ => rfl
    | 62, _ => rfl
    | 63, _ => rfl
    | 64, _ => rfl
    | 65, _ => rfl
    | 66, _ => rfl
    | 67, _ => rfl
    | 68, _ => rfl
    | 69, _ => rfl
    | 70, _ => rfl
    | 71, _ => rfl
    | 72, _ => rfl
    | 73, _ => rfl
    | 74, _ => rfl
    | 75, _ => rfl
    | 76, _ => rfl
    | 77, _ => rfl
    | 78, _ => rfl
    | 79, _ => rfl
    | 80, _ => rfl
    | 81, _ => rfl
    | 82, _ => rfl
    | 83, _ => rfl
    | 84, _ => rfl
    | 85, _ => rfl
    | 86, _ => rfl
    | 87, _ => rfl
    | 88, _ => rfl
    | 89, _ => rfl
    | 90, _ => rfl
    | 91, _ => rfl
    | 92, _ => rfl
    | 93, _ => rfl
    | 94, _ => rfl
    | 95, _ => rfl
    | 96, _ => rfl
    | 97, _ => rfl
    | 98, _ => rfl
    | 99, _ => rfl
    | 100, _ => rfl
    | 101, _ => rfl
    | 102, _ => rfl
    | 103, _ => rfl
    | _ + 104, h => exact absurd h (by omega))
  refine lv_iinc (v := 2) (lv' := [(1, .int 2), (0, .ref h0)]) hx hb dn10_144 hl (k := 0) rfl (by decide) (by decide) rfl (fun ls hl => ?_)
  refine lv_goto (tgt := 126) hx hb dn10_147 (by decide) ?_
  refine lv_iload_n hx hb dn10_126 rfl (lv_at hl 0 rfl) ?_
  refine lv_iconst (v := 3) hx hb dn10_127 rfl ?_
  refine lv_icmp_ge (tgt := 150) hx hb dn10_128 (by decide) (fun z => absurd z (by decide)) (fun _ => ?_)
  refine lv_aload_n hx hb dn10_131 rfl (lv_at hl 1 rfl) ?_
  refine zn_get (ci := 10) (k := 11) (j := 0) (fs := [.ref (u9 1), .ref (u9 3), .ref (u9 20), .ref (u9 21), .ref (u9 42), .int 0, .ref (u9 43), .ref (u9 45), .ref (u9 47), .ref (u9 48), .ref (u9 61), .ref (u9 64), .ref (u9 65)]) (v := .ref (u9 64)) C hP (by decide) rfl hu9 (by decide) (by decide) (by decide) rfl dn10_132 ?_
  refine lv_iload_n hx hb dn10_135 rfl (lv_at hl 0 rfl) ?_
  refine zn_new (ci := 2) (fs := zBk2) C hP hD hS hA (by decide) (zKW_in (k := 55) rfl) (zKW_in (k := 57) rfl) (zINI_in (by decide)) zdf2 (Nat.le_of_ble_eq_true rfl) (Nat.le_of_ble_eq_true rfl) dn10_136 (fun q22 H hP hD hS => ?_)
  refine W.widen (k := 104) (n := 1882) (Nat.le_of_ble_eq_true rfl) (Nat.le_of_ble_eq_true rfl) ?_
  refine lv_dup hx hb dn10_139 rfl ?_
  refine zn_callN (n := 104) (q := q22) (e0 := .inr (2, zBk2)) (F := zF2 G.2.1) C (zk2 l G q22) rfl rfl zcd2 zii2 zim2 rfl (C.2.2.2.2.2.2.2 7 (10, 77, yX2_init) rfl) zds2 ⟨(Nat.le_of_ble_eq_true rfl), (Nat.le_of_ble_eq_true rfl)⟩ ⟨(Nat.le_of_ble_eq_true rfl), (Nat.le_of_ble_eq_true rfl)⟩ hl.1 (lv_room (Nat.le_of_ble_eq_true rfl)) dn10_140 hP hD hS hA rfl rfl (by decide +kernel) (fun a23 H locs hw hP hD hS => ?_)
  replace hw : a23 0 = q22 := hw
  subst hw
  refine W.widen (k := 122) (n := 2010) (Nat.le_of_ble_eq_true rfl) (Nat.le_of_ble_eq_true rfl) ?_
  refine zn_astq (t := 7) (j := 64) (k := 104) (ci := 2) (N := 3) C hP hD hS (by decide) rfl rfl rfl (by decide) rfl rfl rfl (zvin rfl) dn10_143 (fun H locs hP hD hS => ?_)
  obtain ⟨u10, hu10, hP, hD⟩ := zn_cmp (K := 123) (h0 := h0) (F := zS10_10 G.2.1) hP hD hu9 (fun j hj => by
    match j, hj with
    | 0, _ => rfl
    | 1, _ => rfl
    | 2, _ => rfl
    | 3, _ => rfl
    | 4, _ => rfl
    | 5, _ => rfl
    | 6, _ => rfl
    | 7, _ => rfl
    | 8, _ => rfl
    | 9, _ => rfl
    | 10, _ => rfl
    | 11, _ => rfl
    | 12, _ => rfl
    | 13, _ => rfl
    | 14, _ => rfl
    | 15, _ => rfl
    | 16, _ => rfl
    | 17, _ => rfl
    | 18, _ => rfl
    | 19, _ => rfl
    | 20, _ => rfl
    | 21, _ => rfl
    | 22, _ => rfl
    | 23, _ => rfl
    | 24, _ => rfl
    | 25, _ => rfl
    | 26, _ => rfl
    | 27, _ => rfl
    | 28, _ => rfl
    | 29, _ => rfl
    | 30, _ => rfl
    | 31, _ => rfl
    | 32, _ => rfl
    | 33, _ => rfl
    | 34, _ => rfl
    | 35, _ => rfl
    | 36, _ => rfl
    | 37, _ => rfl
    | 38, _ => rfl
    | 39, _ => rfl
    | 40, _ => rfl
    | 41, _ => rfl
    | 42, _ => rfl
    | 43, _ => rfl
    | 44, _ => rfl
    | 45, _ => rfl
    | 46, _ => rfl
    | 47, _ => rfl
    | 48, _ => rfl
    | 49, _ => rfl
    | 50, _ => rfl
    | 51, _ => rfl
    | 52, _ => rfl
    | 53, _ => rfl
    | 54, _ => rfl
    | 55, _ => rfl
    | 56, _ => rfl
    | 57, _ => rfl
    | 58, _ => rfl
    | 59, _ => rfl
    | 60, _ => rfl
    | 61, _ => rfl
    | 62, _ => rfl
    | 63, _ => rfl
    | 64, _ => rfl
    | 65, _ => rfl
    | 66, _ => rfl
    | 67, _ => rfl
    | 68, _ => rfl
    | 69, _ => rfl
    | 70, _ => rfl
    | 71, _ => rfl
    | 72, _ => rfl
    | 73, _ => rfl
    | 74, _ => rfl
    | 75, _ => rfl
    | 76, _ => rfl
    | 77, _ => rfl
    | 78, _ => rfl
    | 79, _ => rfl
    | 80, _ => rfl
    | 81, _ => rfl
    | 82, _ => rfl
    | 83, _ => rfl
    | 84, _ => rfl
    | 85, _ => rfl
    | 86, _ => rfl
    | 87, _ => rfl
    | 88, _ => rfl
    | 89, _ => rfl
    | 90, _ => rfl
    | 91, _ => rfl
    | 92, _ => rfl
    | 93, _ => rfl
    | 94, _ => rfl
    | 95, _ => rfl
    | 96, _ => rfl
    | 97, _ => rfl
    | 98, _ => rfl
    | 99, _ => rfl
    | 100, _ => rfl
    | 101, _ => rfl
    | 102, _ => rfl
    | 103, _ => rfl
    | 104, _ => rfl
    | 105, _ => rfl
    | 106, _ => rfl
    | 107, _ => rfl
    | 108, _ => rfl
    | 109, _ => rfl
    | 110, _ => rfl
    | 111, _ => rfl
    | 112, _ => rfl
    | 113, _ => rfl
    | 114, _ => rfl
    | 115, _ => rfl
    | 116, _ => rfl
    | 117, _ => rfl
    | 118, _ => rfl
    | 119, _ => rfl
    | 120, _ => rfl
    | 121, _ => rfl
    | 122, _ => rfl
    | _ + 123, h => exact absurd h (by omega))
  refine lv_iinc (v := 3) (lv' := [(1, .int 3), (0, .ref h0)]) hx hb dn10_144 hl (k := 0) rfl (by decide) (by decide) rfl (fun ls hl => ?_)
  refine lv_goto (tgt := 126) hx hb dn10_147 (by decide) ?_
  refine lv_iload_n hx hb dn10_126 rfl (lv_at hl 0 rfl) ?_
  refine lv_iconst (v := 3) hx hb dn10_127 rfl ?_
  refine lv_icmp_ge (tgt := 150) hx hb dn10_128 (by decide) (fun _ => ?_) (fun z => absurd (by decide) z)
  refine lv_iconst (v := 0) hx hb dn10_150 rfl ?_
  refine lv_istore_n (lv' := [(1, .int 0), (0, .ref h0)]) hx hb dn10_151 rfl hl (by decide) rfl (fun ls hl => ?_)
  refine lv_iload_n hx hb dn10_152 rfl (lv_at hl 0 rfl) ?_
  refine lv_iconst (v := 4) hx hb dn10_153 rfl ?_
  refine lv_icmp_ge (tgt := 176) hx hb dn10_154 (by decide) (fun z => absurd z (by decide)) (fun _ => ?_)
  refine lv_aload_n hx hb dn10_157 rfl (lv_at hl 1 rfl) ?_
  refine zn_get (ci := 10) (k := 12) (j := 0) (fs := [.ref (u10 1), .ref (u10 3), .ref (u10 20), .ref (u10 21), .ref (u10 42), .int 0, .ref (u10 43), .ref (u10 45), .ref (u10 47), .ref (u10 48), .ref (u10 61), .ref (u10 64), .ref (u10 65)]) (v := .ref (u10 65)) C hP (by decide) rfl hu10 (by decide) (by decide) (by decide) rfl dn10_158 ?_
  refine lv_iload_n hx hb dn10_161 rfl (lv_at hl 0 rfl) ?_
  refine zn_new (ci := 6) (fs := zBk6) C hP hD hS hA (by decide) (zKW_in (k := 56) rfl) (zKW_in (k := 63) rfl) (zINI_in (by decide)) zdf6 (Nat.le_of_ble_eq_true rfl) (Nat.le_of_ble_eq_true rfl) dn10_162 (fun q24 H hP hD hS => ?_)
  refine W.widen (k := 123) (n := 2013) (Nat.le_of_ble_eq_true rfl) (Nat.le_of_ble_eq_true rfl) ?_
  refine lv_dup hx hb dn10_165 rfl ?_
  refine zn_callN (n := 123) (q := q24) (e0 := .inr (6, zBk6)) (F := zF6 G.2.1) C (zk6 l G q24) rfl rfl zcd6 zii6 zim6 rfl (C.2.2.2.2.2.2.2 8 (10, 78, yX6_init) rfl) zds6 ⟨(Nat.le_of_ble_eq_true rfl), (Nat.le_of_ble_eq_true rfl)⟩ ⟨(Nat.le_of_ble_eq_true rfl), (Nat.le_of_ble_eq_true rfl)⟩ hl.1 (lv_room (Nat.le_of_ble_eq_true rfl)) dn10_166 hP hD hS hA rfl rfl (by decide +kernel) (fun a25 H locs hw hP hD hS => ?_)
  replace hw : a25 0 = q24 := hw
  subst hw
  refine W.widen (k := 124) (n := 2073) (Nat.le_of_ble_eq_true rfl) (Nat.le_of_ble_eq_true rfl) ?_
  refine zn_astq (t := 8) (j := 65) (k := 123) (ci := 6) (N := 4) C hP hD hS (by decide) rfl rfl rfl (by decide) rfl rfl rfl (zvin rfl) dn10_169 (fun H locs hP hD hS => ?_)
  obtain ⟨u11, hu11, hP, hD⟩ := zn_cmp (K := 125) (h0 := h0) (F := zS10_11 G.2.1) hP hD hu10 (fun j hj => by
    match j, hj with
    | 0, _ => rfl
    | 1, _ => rfl
    | 2, _ => rfl
    | 3, _ => rfl
    | 4, _ => rfl
    | 5, _ => rfl
    | 6, _ => rfl
    | 7, _ => rfl
    | 8, _ => rfl
    | 9, _ => rfl
    | 10, _ => rfl
    | 11, _ => rfl
    | 12, _ => rfl
    | 13, _ => rfl
    | 14, _ => rfl
    | 15, _ => rfl
    | 16, _ => rfl
    | 17, _ => rfl
    | 18, _ => rfl
    | 19, _ => rfl
    | 20, _ => rfl
    | 21, _ => rfl
    | 22, _ => rfl
    | 23, _ => rfl
    | 24, _ => rfl
    | 25, _ => rfl
    | 26, _ => rfl
    | 27, _ => rfl
    | 28, _ => rfl
    | 29, _ => rfl
    | 30, _ => rfl
    | 31, _ => rfl
    | 32, _ => rfl
    | 33, _ => rfl
    | 34, _ => rfl
    | 35, _ => rfl
    | 36, _ => rfl
    | 37, _ => rfl
    | 38, _ => rfl
    | 39, _ => rfl
    | 40, _ => rfl
    | 41, _ => rfl
    | 42, _ => rfl
    | 43, _ => rfl
    | 44, _ => rfl
    | 45, _ => rfl
    | 46, _ => rfl
    | 47, _ => rfl
    | 48, _ => rfl
    | 49, _ => rfl
    | 50, _ => rfl
    | 51, _ => rfl
    | 52, _ => rfl
    | 53, _ => rfl
    | 54, _ => rfl
    | 55, _ => rfl
    | 56, _ => rfl
    | 57, _ => rfl
    | 58, _ => rfl
    | 59, _ => rfl
    | 60, _ => rfl
    | 61, _ => rfl
    | 62, _ => rfl
    | 63, _ => rfl
    | 64, _ => rfl
    | 65, _ => rfl
    | 66, _ => rfl
    | 67, _ => rfl
    | 68, _ => rfl
    | 69, _ => rfl
    | 70, _ => rfl
    | 71, _ => rfl
    | 72, _ => rfl
    | 73, _ => rfl
    | 74, _ => rfl
    | 75, _ => rfl
    | 76, _ => rfl
    | 77, _ => rfl
    | 78, _ => rfl
    | 79, _ => rfl
    | 80, _ => rfl
    | 81, _ => rfl
    | 82, _ => rfl
    | 83, _ => rfl
    | 84, _ => rfl
    | 85, _ => rfl
    | 86, _ => rfl
    | 87, _ => rfl
    | 88, _ => rfl
    | 89, _ => rfl
    | 90, _ => rfl
    | 91, _ => rfl
    | 92, _ => rfl
    | 93, _ => rfl
    | 94, _ => rfl
    | 95, _ => rfl
    | 96, _ => rfl
    | 97, _ => rfl
    | 98, _ => rfl
    | 99, _ => rfl
    | 100, _ => rfl
    | 101, _ => rfl
    | 102, _ => rfl
    | 103, _ => rfl
    | 104, _ => rfl
    | 105, _ => rfl
    | 106, _ => rfl
    | 107, _ => rfl
    | 108, _ => rfl
    | 109, _ => rfl
    | 110, _ => rfl
    | 111, _ => rfl
    | 112, _ => rfl
    | 113, _ => rfl
    | 114, _ => rfl
    | 115, _ => rfl
    | 116, _ => rfl
    | 117, _ => rfl
    | 118, _ => rfl
    | 119, _ => rfl
    | 120, _ => rfl
    | 121, _ => rfl
    | 122, _ => rfl
    | 123, _ => rfl
    | 124, _ => rfl
    | _ + 125, h => exact absurd h (by omega))
  refine lv_iinc (v := 1) (lv' := [(1, .int 1), (0, .ref h0)]) hx hb dn10_170 hl (k := 0) rfl (by decide) (by decide) rfl (fun ls hl => ?_)
  refine lv_goto (tgt := 152) hx hb dn10_173 (by decide) ?_
  refine lv_iload_n hx hb dn10_152 rfl (lv_at hl 0 rfl) ?_
  refine lv_iconst (v := 4) hx hb dn10_153 rfl ?_
  refine lv_icmp_ge (tgt := 176) hx hb dn10_154 (by decide) (fun z => absurd z (by decide)) (fun _ => ?_)
  refine lv_aload_n hx hb dn10_157 rfl (lv_at hl 1 rfl) ?_
  refine zn_get (ci := 10) (k := 12) (j := 0) (fs := [.ref (u11 1), .ref (u11 3), .ref (u11 20), .ref (u11 21), .ref (u11 42), .int 0, .ref (u11 43), .ref (u11 45), .ref (u11 47), .ref (u11 48), .ref (u11 61), .ref (u11 64), .ref (u11 65)]) (v := .ref (u11 65)) C hP (by decide) rfl hu11 (by decide) (by decide) (by decide) rfl dn10_158 ?_
  refine lv_iload_n hx hb dn10_161 rfl (lv_at hl 0 rfl) ?_
  refine zn_new (ci := 6) (fs := zBk6) C hP hD hS hA (by decide) (zKW_in (k := 56) rfl) (zKW_in (k := 63) rfl) (zINI_in (by decide)) zdf6 (Nat.le_of_ble_eq_true rfl) (Nat.le_of_ble_eq_true rfl) dn10_162 (fun q26 H hP hD hS => ?_)
  refine W.widen (k := 125) (n := 2076) (Nat.le_of_ble_eq_true rfl) (Nat.le_of_ble_eq_true rfl) ?_
  refine lv_dup hx hb dn10_165 rfl ?_
  refine zn_callN (n := 125) (q := q26) (e0 := .inr (6, zBk6)) (F := zF6 G.2.1) C (zk6 l G q26) rfl rfl zcd6 zii6 zim6 rfl (C.2.2.2.2.2.2.2 8 (10, 78, yX6_init) rfl) zds6 ⟨(Nat.le_of_ble_eq_true rfl), (Nat.le_of_ble_eq_true rfl)⟩ ⟨(Nat.le_of_ble_eq_true rfl), (Nat.le_of_ble_eq_true rfl)⟩ hl.1 (lv_room (Nat.le_of_ble_eq_true rfl)) dn10_166 hP hD hS hA rfl rfl (by decide +kernel) (fun a27 H locs hw hP hD hS => ?_)
  replace hw : a27 0 = q26 := hw
  subst hw
  refine W.widen (k := 126) (n := 2136) (Nat.le_of_ble_eq_true rfl) (Nat.le_of_ble_eq_true rfl) ?_
  refine zn_astq (t := 8) (j := 65) (k := 125) (ci := 6) (N := 4) C hP hD hS (by decide) rfl rfl rfl (by decide) rfl rfl rfl (zvin rfl) dn10_169 (fun H locs hP hD hS => ?_)
  obtain ⟨u12, hu12, hP, hD⟩ := zn_cmp (K := 127) (h0 := h0) (F := zS10_12 G.2.1) hP hD hu11 (fun j hj => by
    match j, hj with
    | 0, _ => rfl
    | 1, _ => rfl
    | 2, _ => rfl
    | 3, _ => rfl
    | 4, _ => rfl
    | 5, _ => rfl
    | 6, _ => rfl
    | 7, _ => rfl
    | 8, _ => rfl
    | 9, _ => rfl
    | 10, _ => rfl
    | 11, _ => rfl
    | 12, _ => rfl
    | 13, _ => rfl
    | 14, _ => rfl
    | 15, _ => rfl
    | 16, _ => rfl
    | 17, _ => rfl
    | 18, _ => rfl
    | 19, _ => rfl
    | 20, _ => rfl
    | 21, _ => rfl
    | 22, _ => rfl
    | 23, _ => rfl
    | 24, _ => rfl
    | 25, _ => rfl
    | 26, _ => rfl
    | 27, _ => rfl
    | 28, _ => rfl
    | 29, _ => rfl
    | 30, _ => rfl
    | 31, _ => rfl
    | 32, _ => rfl
    | 33, _ => rfl
    | 34, _ => rfl
    | 35, _ => rfl
    | 36, _ => rfl
    | 37, _ => rfl
    | 38, _ => rfl
    | 39, _ => rfl
    | 40, _ => rfl
    | 41, _ => rfl
    | 42, _ => rfl
    | 43, _ => rfl
    | 44, _ => rfl
    | 45, _ => rfl
    | 46, _ => rfl
    | 47, _ => rfl
    | 48, _ => rfl
    | 49, _ => rfl
    | 50, _ => rfl
    | 51, _ => rfl
    | 52, _ => rfl
    | 53, _ => rfl
    | 54, _ => rfl
    | 55, _ => rfl
    | 56, _ => rfl
    | 57, _ => rfl
    | 58, _ => rfl
    | 59, _ => rfl
    | 60, _ => rfl
    | 61, _ => rfl
    | 62, _ => rfl
    | 63, _ => rfl
    | 64, _ => rfl
    | 65, _ => rfl
    | 66, _ => rfl
    | 67, _ => rfl
    | 68, _ => rfl
    | 69, _ => rfl
    | 70, _ => rfl
    | 71, _ => rfl
    | 72, _ => rfl
    | 73, _ => rfl
    | 74, _ => rfl
    | 75, _ => rfl
    | 76, _ => rfl
    | 77, _ => rfl
    | 78, _ => rfl
    | 79, _ => rfl
    | 80, _ => rfl
    | 81, _ => rfl
    | 82, _ => rfl
    | 83, _ => rfl
    | 84, _ => rfl
    | 85, _ => rfl
    | 86, _ => rfl
    | 87, _ => rfl
    | 88, _ => rfl
    | 89, _ => rfl
    | 90, _ => rfl
    | 91, _ => rfl
    | 92, _ => rfl
    | 93, _ => rfl
    | 94, _ => rfl
    | 95, _ => rfl
    | 96, _ => rfl
    | 97, _ => rfl
    | 98, _ => rfl
    | 99, _ => rfl
    | 100, _ => rfl
    | 101, _ => rfl
    | 102, _ => rfl
    | 103, _ => rfl
    | 104, _ => rfl
    | 105, _ => rfl
    | 106, _ => rfl
    | 107, _ => rfl
    | 108, _ => rfl
    | 109, _ => rfl
    | 110, _ => rfl
    | 111, _ => rfl
    | 112, _ => rfl
    | 113, _ => rfl
    | 114, _ => rfl
    | 115, _ => rfl
    | 116, _ => rfl
    | 117, _ => rfl
    | 118, _ => rfl
    | 119, _ => rfl
    | 120, _ => rfl
    | 121, _ => rfl
    | 122, _ => rfl
    | 123, _ => rfl
    | 124, _ => rfl
    | 125, _ => rfl
    | 126, _ => rfl
    | _ + 127, h => exact absurd h (by omega))
  refine lv_iinc (v := 2) (lv' := [(1, .int 2), (0, .ref h0)]) hx hb dn10_170 hl (k := 0) rfl (by decide) (by decide) rfl (fun ls hl => ?_)
  refine lv_goto (tgt := 152) hx hb dn10_173 (by decide) ?_
  refine lv_iload_n hx hb dn10_152 rfl (lv_at hl 0 rfl) ?_
  refine lv_iconst (v := 4) hx hb dn10_153 rfl ?_
  refine lv_icmp_ge (tgt := 176) hx hb dn10_154 (by decide) (fun z => absurd z (by decide)) (fun _ => ?_)
  refine lv_aload_n hx hb dn10_157 rfl (lv_at hl 1 rfl) ?_
  refine zn_get (ci := 10) (k := 12) (j := 0) (fs := [.ref (u12 1), .ref (u12 3), .ref (u12 20), .ref (u12 21), .ref (u12 42), .int 0, .ref (u12 43), .ref (u12 45), .ref (u12 47), .ref (u12 48), .ref (u12 61), .ref (u12 64), .ref (u12 65)]) (v := .ref (u12 65)) C hP (by decide) rfl hu12 (by decide) (by decide) (by decide) rfl dn10_158 ?_
  refine lv_iload_n hx hb dn10_161 rfl (lv_at hl 0 rfl) ?_
  refine zn_new (ci := 6) (fs := zBk6) C hP hD hS hA (by decide) (zKW_in (k := 56) rfl) (zKW_in (k := 63) rfl) (zINI_in (by decide)) zdf6 (Nat.le_of_ble_eq_true rfl) (Nat.le_of_ble_eq_true rfl) dn10_162 (fun q28 H hP hD hS => ?_)
  refine W.widen (k := 127) (n := 2139) (Nat.le_of_ble_eq_true rfl) (Nat.le_of_ble_eq_true rfl) ?_
  refine lv_dup hx hb dn10_165 rfl ?_
  refine zn_callN (n := 127) (q := q28) (e0 := .inr (6, zBk6)) (F := zF6 G.2.1) C (zk6 l G q28) rfl rfl zcd6 zii6 zim6 rfl (C.2.2.2.2.2.2.2 8 (10, 78, yX6_init) rfl) zds6 ⟨(Nat.le_of_ble_eq_true rfl), (Nat.le_of_ble_eq_true rfl)⟩ ⟨(Nat.le_of_ble_eq_true rfl), (Nat.le_of_ble_eq_true rfl)⟩ hl.1 (lv_room (Nat.le_of_ble_eq_true rfl)) dn10_166 hP hD hS hA rfl rfl (by decide +kernel) (fun a29 H locs hw hP hD hS => ?_)
  replace hw : a29 0 = q28 := hw
  subst hw
  refine W.widen (k := 128) (n := 2199) (Nat.le_of_ble_eq_true rfl) (Nat.le_of_ble_eq_true rfl) ?_
  refine zn_astq (t := 8) (j := 65) (k := 127) (ci := 6) (N := 4) C hP hD hS (by decide) rfl rfl rfl (by decide) rfl rfl rfl (zvin rfl) dn10_169 (fun H locs hP hD hS => ?_)
  obtain ⟨u13, hu13, hP, hD⟩ := zn_cmp (K := 129) (h0 := h0) (F := zS10_13 G.2.1) hP hD hu12 (fun j hj => by
    match j, hj with
    | 0, _ => rfl
    | 1, _ => rfl
    | 2, _ => rfl
    | 3, _ => rfl
    | 4, _ => rfl
    | 5, _ => rfl
    | 6, _ => rfl
    | 7, _ => rfl
    | 8, _ => rfl
    | 9, _ => rfl
    | 10, _ => rfl
    | 11, _ => rfl
    | 12, _ => rfl
    | 13, _ => rfl
    | 14, _ => rfl
    | 15, _ => rfl
    | 16, _ => rfl
    | 17, _ => rfl
    | 18, _ => rfl
    | 19, _ => rfl
    | 20, _ => rfl
    | 21, _ => rfl
    | 22, _ => rfl
    | 23, _ => rfl
    | 24, _ => rfl
    | 25, _ => rfl
    | 26, _ => rfl
    | 27, _ => rfl
    | 28, _ => rfl
    | 29, _ => rfl
    | 30, _ => rfl
    | 31, _ => rfl
    | 32, _ => rfl
    | 33, _ => rfl
    | 34, _ => rfl
    | 35, _ => rfl
    | 36, _ => rfl
    | 37, _ => rfl
    | 38, _ => rfl
    | 39, _ => rfl
    | 40, _ => rfl
    | 41, _ => rfl
    | 42, _ => rfl
    | 43, _ => rfl
    | 44, _ => rfl
    | 45, _ => rfl
    | 46, _ => rfl
    | 47, _ => rfl
    | 48, _ => rfl
    | 49, _ => rfl
    | 50, _ => rfl
    | 51, _ => rfl
    | 52, _ => rfl
    | 53, _ => rfl
    | 54, _ => rfl
    | 55, _ => rfl
    | 56, _ => rfl
    | 57, _ => rfl
    | 58, _ => rfl
    | 59, _ => rfl
    | 60, _ => rfl
    | 61, _ => rfl
    | 62, _ => rfl
    | 63, _ => rfl
    | 64, _ => rfl
    | 65, _ => rfl
    | 66, _ => rfl
    | 67, _ => rfl
    | 68, _ => rfl
    | 69, _ => rfl
    | 70, _ => rfl
    | 71, _ => rfl
    | 72, _ => rfl
    | 73, _ => rfl
    | 74, _ => rfl
    | 75, _ => rfl
    | 76, _ => rfl
    | 77, _ => rfl
    | 78, _ => rfl
    | 79, _ => rfl
    | 80, _ => rfl
    | 81, _ => rfl
    | 82, _ => rfl
    | 83, _ => rfl
    | 84, _ => rfl
    | 85, _ => rfl
    | 86, _ => rfl
    | 87, _ => rfl
    | 88, _ => rfl
    | 89, _ => rfl
    | 90, _ => rfl
    | 91, _ => rfl
    | 92, _ => rfl
    | 93, _ => rfl
    | 94, _ => rfl
    | 95, _ => rfl
    | 96, _ => rfl
    | 97, _ => rfl
    | 98, _ => rfl
    | 99, _ => rfl
    | 100, _ => rfl
    | 101, _ => rfl
    | 102, _ => rfl
    | 103, _ => rfl
    | 104, _ => rfl
    | 105, _ => rfl
    | 106, _ => rfl
    | 107, _ => rfl
    | 108, _ => rfl
    | 109, _ => rfl
    | 110, _ => rfl
    | 111, _ => rfl
    | 112, _ => rfl
    | 113, _ => rfl
    | 114, _ => rfl
    | 115, _ => rfl
    | 116, _ => rfl
    | 117, _ => rfl
    | 118, _ => rfl
    | 119, _ => rfl
    | 120, _ => rfl
    | 121, _ => rfl
    | 122, _ => rfl
    | 123, _ => rfl
    | 124, _ => rfl
    | 125, _ => rfl
    | 126, _ => rfl
    | 127, _ => rfl
    | 128, _ => rfl
    | _ + 129, h => exact absurd h (by omega))
  refine lv_iinc (v := 3) (lv' := [(1, .int 3), (0, .ref h0)]) hx hb dn10_170 hl (k := 0) rfl (by decide) (by decide) rfl (fun ls hl => ?_)
  refine lv_goto (tgt := 152) hx hb dn10_173 (by decide) ?_
  refine lv_iload_n hx hb dn10_152 rfl (lv_at hl 0 rfl) ?_
  refine lv_iconst (v := 4) hx hb dn10_153 rfl ?_
  refine lv_icmp_ge (tgt := 176) hx hb dn10_154 (by decide) (fun z => absurd z (by decide)) (fun _ => ?_)
  refine lv_aload_n hx hb dn10_157 rfl (lv_at hl 1 rfl) ?_
  refine zn_get (ci := 10) (k := 12) (j := 0) (fs := [.ref (u13 1), .ref (u13 3), .ref (u13 20), .ref (u13 21), .ref (u13 42), .int 0, .ref (u13 43), .ref (u13 45), .ref (u13 47), .ref (u13 48), .ref (u13 61), .ref (u13 64), .ref (u13 65)]) (v := .ref (u13 65)) C hP (by decide) rfl hu13 (by decide) (by decide) (by decide) rfl dn10_158 ?_
  refine lv_iload_n hx hb dn10_161 rfl (lv_at hl 0 rfl) ?_
  refine zn_new (ci := 6) (fs := zBk6) C hP hD hS hA (by decide) (zKW_in (k := 56) rfl) (zKW_in (k := 63) rfl) (zINI_in (by decide)) zdf6 (Nat.le_of_ble_eq_true rfl) (Nat.le_of_ble_eq_true rfl) dn10_162 (fun q30 H hP hD hS => ?_)
  refine W.widen (k := 129) (n := 2202) (Nat.le_of_ble_eq_true rfl) (Nat.le_of_ble_eq_true rfl) ?_
  refine lv_dup hx hb dn10_165 rfl ?_
  refine zn_callN (n := 129) (q := q30) (e0 := .inr (6, zBk6)) (F := zF6 G.2.1) C (zk6 l G q30) rfl rfl zcd6 zii6 zim6 rfl (C.2.2.2.2.2.2.2 8 (10, 78, yX6_init) rfl) zds6 ⟨(Nat.le_of_ble_eq_true rfl), (Nat.le_of_ble_eq_true rfl)⟩ ⟨(Nat.le_of_ble_eq_true rfl), (Nat.le_of_ble_eq_true rfl)⟩ hl.1 (lv_room (Nat.le_of_ble_eq_true rfl)) dn10_166 hP hD hS hA rfl rfl (by decide +kernel) (fun a31 H locs hw hP hD hS => ?_)
  replace hw : a31 0 = q30 := hw
  subst hw
  refine W.widen (k := 130) (n := 2262) (Nat.le_of_ble_eq_true rfl) (Nat.le_of_ble_eq_true rfl) ?_
  refine zn_astq (t := 8) (j := 65) (k := 129) (ci := 6) (N := 4) C hP hD hS (by decide) rfl rfl rfl (by decide) rfl rfl rfl (zvin rfl) dn10_169 (fun H locs hP hD hS => ?_)
  obtain ⟨u14, hu14, hP, hD⟩ := zn_cmp (K := 131) (h0 := h0) (F := zS10_14 G.2.1) hP hD hu13 (fun j hj => by
    match j, hj with
    | 0, _ => rfl
    | 1, _ => rfl
    | 2, _ => rfl
    | 3, _ => rfl
    | 4, _ => rfl
    | 5, _ => rfl
    | 6, _ => rfl
    | 7, _ => rfl
    | 8, _ => rfl
    | 9, _ => rfl
    | 10, _ => rfl
    | 11, _ => rfl
    | 12, _ => rfl
    | 13, _ => rfl
    | 14, _ => rfl
    | 15, _ => rfl
    | 16, _ => rfl
    | 17, _ => rfl
    | 18, _ => rfl
    | 19, _ => rfl
    | 20, _ => rfl
    | 21, _ => rfl
    | 22, _ => rfl
    | 23, _ => rfl
    | 24, _ => rfl
    | 25, _ => rfl
    | 26, _ => rfl
    | 27, _ => rfl
    | 28, _ => rfl
    | 29, _ => rfl
    | 30, _ => rfl
    | 31, _ => rfl
    | 32, _ => rfl
    | 33, _ => rfl
    | 34, _ => rfl
    | 35, _ => rfl
    | 36, _ => rfl
    | 37, _ => rfl
    | 38, _ => rfl
    | 39, _ => rfl
    | 40, _ => rfl
    | 41, _ => rfl
    | 42, _ => rfl
    | 43, _ => rfl
    | 44, _ => rfl
    | 45, _ => rfl
    | 46, _ => rfl
    | 47, _ => rfl
    | 48, _ => rfl
    | 49, _ => rfl
    | 50, _ => rfl
    | 51, _ => rfl
    | 52, _ => rfl
    | 53, _ => rfl
    | 54, _ => rfl
    | 55, _ => rfl
    | 56, _ => rfl
    | 57, _ => rfl
    | 58, _ => rfl
    | 59, _ => rfl
    | 60, _ => rfl
    | 61, _ => rfl
    | 62, _ => rfl
    | 63, _ => rfl
    | 64, _ => rfl
    | 65, _ => rfl
    | 66, _ => rfl
    | 67, _ => rfl
    | 68, _ => rfl
    | 69, _ => rfl
    | 70, _ => rfl
    | 71, _ => rfl
    | 72, _ => rfl
    | 73, _ => rfl
    | 74, _ => rfl
    | 75, _ => rfl
    | 76, _ => rfl
    | 77, _ => rfl
    | 78, _ => rfl
    | 79, _ => rfl
    | 80, _ => rfl
    | 81, _ => rfl
    | 82, _ => rfl
    | 83, _ => rfl
    | 84, _ => rfl
    | 85, _ => rfl
    | 86, _ => rfl
    | 87, _ => rfl
    | 88, _ => rfl
    | 89, _ => rfl
    | 90, _ => rfl
    | 91, _ => rfl
    | 92, _ => rfl
    | 93, _ => rfl
    | 94, _ => rfl
    | 95, _ => rfl
    | 96, _ => rfl
    | 97, _ => rfl
    | 98, _ => rfl
    | 99, _ => rfl
    | 100, _ => rfl
    | 101, _ => rfl
    | 102, _ => rfl
    | 103, _ => rfl
    | 104, _ => rfl
    | 105, _ => rfl
    | 106, _ => rfl
    | 107, _ => rfl
    | 108, _ => rfl
    | 109, _ => rfl
    | 110, _ => rfl
    | 111, _ => rfl
    | 112, _ => rfl
    | 113, _ => rfl
    | 114, _ => rfl
    | 115, _ => rfl
    | 116, _ => rfl
    | 117, _ => rfl
    | 118, _ => rfl
    | 119, _ => rfl
    | 120, _ => rfl
    | 121, _ => rfl
    | 122, _ => rfl
    | 123, _ => rfl
    | 124, _ => rfl
    | 125, _ => rfl
    | 126, _ => rfl
    | 127, _ => rfl
    | 128, _ => rfl
    | 129, _ => rfl
    | 130, _ => rfl
    | _ + 131, h => exact absurd h (by omega))
  refine lv_iinc (v := 4) (lv' := [(1, .int 4), (0, .ref h0)]) hx hb dn10_170 hl (k := 0) rfl (by decide) (by decide) rfl (fun ls hl => ?_)
  refine lv_goto (tgt := 152) hx hb dn10_173 (by decide) ?_
  refine lv_iload_n hx hb dn10_152 rfl (lv_at hl 0 rfl) ?_
  refine lv_iconst (v := 4) hx hb dn10_153 rfl ?_
  refine lv_icmp_ge (tgt := 176) hx hb dn10_154 (by decide) (fun _ => ?_) (fun z => absurd (by decide) z)
  obtain ⟨u, hu0, hP9, hD9⟩ := zn_end (K := 131) (F := zF10 G.2.1) hP hD hu14 (fun j hj => by
    match j, hj with
    | 0, _ => rfl
    | 1, _ => rfl
    | 2, _ => rfl
    | 3, _ => rfl
    | 4, _ => rfl
    | 5, _ => rfl
    | 6, _ => rfl
    | 7, _ => rfl
    | 8, _ => rfl
    | 9, _ => rfl
    | 10, _ => rfl
    | 11, _ => rfl
    | 12, _ => rfl
    | 13, _ => rfl
    | 14, _ => rfl
    | 15, _ => rfl
    | 16, _ => rfl
    | 17, _ => rfl
    | 18, _ => rfl
    | 19, _ => rfl
    | 20, _ => rfl
    | 21, _ => rfl
    | 22, _ => rfl
    | 23, _ => rfl
    | 24, _ => rfl
    | 25, _ => rfl
    | 26, _ => rfl
    | 27, _ => rfl
    | 28, _ => rfl
    | 29, _ => rfl
    | 30, _ => rfl
    | 31, _ => rfl
    | 32, _ => rfl
    | 33, _ => rfl
    | 34, _ => rfl
    | 35, _ => rfl
    | 36, _ => rfl
    | 37, _ => rfl
    | 38, _ => rfl
    | 39, _ => rfl
    | 40, _ => rfl
    | 41, _ => rfl
    | 42, _ => rfl
    | 43, _ => rfl
    | 44, _ => rfl
    | 45, _ => rfl
    | 46, _ => rfl
    | 47, _ => rfl
    | 48, _ => rfl
    | 49, _ => rfl
    | 50, _ => rfl
    | 51, _ => rfl
    | 52, _ => rfl
    | 53, _ => rfl
    | 54, _ => rfl
    | 55, _ => rfl
    | 56, _ => rfl
    | 57, _ => rfl
    | 58, _ => rfl
    | 59, _ => rfl
    | 60, _ => rfl
    | 61, _ => rfl
    | 62, _ => rfl
    | 63, _ => rfl
    | 64, _ => rfl
    | 65, _ => rfl
    | 66, _ => rfl
    | 67, _ => rfl
    | 68, _ => rfl
    | 69, _ => rfl
    | 70, _ => rfl
    | 71, _ => rfl
    | 72, _ => rfl
    | 73, _ => rfl
    | 74, _ => rfl
    | 75, _ => rfl
    | 76, _ => rfl
    | 77, _ => rfl
    | 78, _ => rfl
    | 79, _ => rfl
    | 80, _ => rfl
    | 81, _ => rfl
    | 82, _ => rfl
    | 83, _ => rfl
    | 84, _ => rfl
    | 85, _ => rfl
    | 86, _ => rfl
    | 87, _ => rfl
    | 88, _ => rfl
    | 89, _ => rfl
    | 90, _ => rfl
    | 91, _ => rfl
    | 92, _ => rfl
    | 93, _ => rfl
    | 94, _ => rfl
    | 95, _ => rfl
    | 96, _ => rfl
    | 97, _ => rfl
    | 98, _ => rfl
    | 99, _ => rfl
    | 100, _ => rfl
    | 101, _ => rfl
    | 102, _ => rfl
    | 103, _ => rfl
    | 104, _ => rfl
    | 105, _ => rfl
    | 106, _ => rfl
    | 107, _ => rfl
    | 108, _ => rfl
    | 109, _ => rfl
    | 110, _ => rfl
    | 111, _ => rfl
    | 112, _ => rfl
    | 113, _ => rfl
    | 114, _ => rfl
    | 115, _ => rfl
    | 116, _ => rfl
    | 117, _ => rfl
    | 118, _ => rfl
    | 119, _ => rfl
    | 120, _ => rfl
    | 121, _ => rfl
    | 122, _ => rfl
    | 123, _ => rfl
    | 124, _ => rfl
    | 125, _ => rfl
    | 126, _ => rfl
    | 127, _ => rfl
    | 128, _ => rfl
    | 129, _ => rfl
    | 130, _ => rfl
    | _ + 131, h => exact absurd h (by omega))
  refine W.widen (k := 130) (n := 2262) (Nat.le_of_ble_eq_true rfl) (Nat.le_of_ble_eq_true rfl) ?_
  exact W.vret hx hb hr (fun t ht hW => ⟨⟨u, rfl, hu0, by rw [ht]; exact hP9, by rw [hAe]; exact hD9⟩, by rw [hAe]; exact hS.F ht⟩) hS.2.2 dn10_176
